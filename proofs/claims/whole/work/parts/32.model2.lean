theorem mw0 {h : HF} {s : Sv} (c : mw h 0 s) {k : Nat} (hk : k < 45) : h 39 0 k = s k := by
  have := c k hk
  rwa [Nat.zero_add] at this
theorem msum_z {s : Sv} {n : Nat} : ∀ k, (∀ c, n ≤ c → c < n + k → s (5 + c) = nI 0) → msum s (n + k) = msum s n
  | 0, _ => rfl
  | k + 1, hz => by
    rw [show n + (k + 1) = (n + k) + 1 from rfl, msum, msum_z k (fun c h1 h2 => hz c h1 (by omega)), hz (n + k) (by omega) (by omega)]
    exact Int32.add_zero _
set_option maxRecDepth 100000 in
set_option maxHeartbeats 4000000 in
theorem m_told {E : Ev} {a b : Nat} {h : HF} {g : Gs} {w : Int32} (hz : msum (gSv g) (gNn g 0) = msum (gSv g) 5) (hc : MP h g) : Ct E 1 yX11_told cX11_told 2 (some .int) [aR 11 0, aI w] 243 (Rs a b) h 243 (qst a b h (toldF g w)) := by
  refine Ct.of 0 (L0 := [some (aR 11 0), some (aI w)]) (by decide) ⟨Nat.le_refl _, Nat.le_refl _⟩ rfl rfl ?_
  intro G C hg hrt hnm
  have hN : gn G ≤ 243 ∧ 243 ≤ 243 ∧ 243 ≤ 243 := ⟨by omega, by decide, by decide⟩
  obtain ⟨⟨p1, p1b⟩, p2, p3, p4, p5, p6, p7⟩ := id hc
  have b4 := p2.2.2.2.2.2.2.2.2.2.2.2.2.2
  refine r_iload_n C dX11_told_0 rfl ?_
  cases hx : ixO w 15 with
  | none =>
    have hn := ixO_none hx
    refine r_tabOut (tgt := 170) C ⟨dX11_told_1, rfl, by decide⟩ (by omega) ?_
    refine r_ldc C dX11_told_170 kX11_99 ?_
    refine r_iret C hrt dX11_told_172 ?_
    rw [toldF, hx]
    exact ⟨rfl, rfl, rfl⟩
  | some i =>
    obtain ⟨hi, rfl⟩ := ixO_some hx
    rw [toldF, hx]
    rcases (show i = 0 ∨ i = 1 ∨ i = 2 ∨ i = 3 ∨ i = 4 ∨ i = 5 ∨ i = 6 ∨ i = 7 ∨ i = 8 ∨ i = 9 ∨ i = 10 ∨ i = 11 ∨ i = 12 ∨ i = 13 ∨ i = 14 by omega) with rfl | rfl | rfl | rfl | rfl | rfl | rfl | rfl | rfl | rfl | rfl | rfl | rfl | rfl | rfl
    · refine r_tabIn (off := 75) (tgt := 76) C ⟨dX11_told_1, rfl, by decide⟩ (by decide) (by decide) (by decide) ?_
      refine r_aload_n C dX11_told_76 rfl ?_
      refine r_getR C flX11_7 dX11_told_77 ok11 rfl rfl ?_
      refine r_iconst (v := (nI 0)) C dX11_told_80 (by decide) ?_
      refine q_ialdV (m := 1080) C dX11_told_81 ok39 rfl rfl (by omega) (mw0 p3 (by decide)) ?_
      refine r_iret C hrt dX11_told_82 ?_
      exact ⟨rfl, rfl, rfl⟩
    · refine r_tabIn (off := 82) (tgt := 83) C ⟨dX11_told_1, rfl, by decide⟩ (by decide) (by decide) (by decide) ?_
      refine r_aload_n C dX11_told_83 rfl ?_
      refine r_getR C flX11_7 dX11_told_84 ok11 rfl rfl ?_
      refine r_iconst (v := (nI 1)) C dX11_told_87 (by decide) ?_
      refine q_ialdV (m := 1080) C dX11_told_88 ok39 rfl rfl (by omega) (mw0 p3 (by decide)) ?_
      refine r_iret C hrt dX11_told_89 ?_
      exact ⟨rfl, rfl, rfl⟩
    · refine r_tabIn (off := 89) (tgt := 90) C ⟨dX11_told_1, rfl, by decide⟩ (by decide) (by decide) (by decide) ?_
      refine r_aload_n C dX11_told_90 rfl ?_
      refine q_getV C flX11_82 dX11_told_91 ok11 rfl p2.1 ?_
      refine r_iret C hrt dX11_told_94 ?_
      exact ⟨rfl, rfl, rfl⟩
    · refine r_tabIn (off := 94) (tgt := 95) C ⟨dX11_told_1, rfl, by decide⟩ (by decide) (by decide) (by decide) ?_
      refine r_aload_n C dX11_told_95 rfl ?_
      refine q_getV C flX11_89 dX11_told_96 ok11 rfl p2.2.1 ?_
      refine r_iret C hrt dX11_told_99 ?_
      exact ⟨rfl, rfl, rfl⟩
    · refine r_tabIn (off := 99) (tgt := 100) C ⟨dX11_told_1, rfl, by decide⟩ (by decide) (by decide) (by decide) ?_
      refine r_aload_n C dX11_told_100 rfl ?_
      refine q_getV C flX11_92 dX11_told_101 ok11 rfl p2.2.2.1 ?_
      refine r_iret C hrt dX11_told_104 ?_
      exact ⟨rfl, rfl, rfl⟩
    · refine r_tabIn (off := 104) (tgt := 105) C ⟨dX11_told_1, rfl, by decide⟩ (by decide) (by decide) (by decide) ?_
      refine r_aload_n C dX11_told_105 rfl ?_
      refine q_getV C flX11_176 dX11_told_106 ok11 rfl p2.2.2.2.1 ?_
      refine r_iret C hrt dX11_told_109 ?_
      exact ⟨rfl, rfl, rfl⟩
    · refine r_tabIn (off := 109) (tgt := 110) C ⟨dX11_told_1, rfl, by decide⟩ (by decide) (by decide) (by decide) ?_
      refine r_aload_n C dX11_told_110 rfl ?_
      refine q_getV C flX11_100 dX11_told_111 ok11 rfl p1.1 ?_
      refine r_iret C hrt dX11_told_114 ?_
      exact ⟨rfl, rfl, rfl⟩
    · refine r_tabIn (off := 114) (tgt := 115) C ⟨dX11_told_1, rfl, by decide⟩ (by decide) (by decide) (by decide) ?_
      refine r_aload_n C dX11_told_115 rfl ?_
      refine r_getR C flX11_7 dX11_told_116 ok11 rfl rfl ?_
      refine r_iconst (v := (nI 2)) C dX11_told_119 (by decide) ?_
      refine q_ialdV (m := 1080) C dX11_told_120 ok39 rfl rfl (by omega) (mw0 p3 (by decide)) ?_
      refine r_iret C hrt dX11_told_121 ?_
      exact ⟨rfl, rfl, rfl⟩
    · refine r_tabIn (off := 121) (tgt := 122) C ⟨dX11_told_1, rfl, by decide⟩ (by decide) (by decide) (by decide) ?_
      refine r_aload_n C dX11_told_122 rfl ?_
      refine r_getR C flX11_7 dX11_told_123 ok11 rfl rfl ?_
      refine r_iconst (v := (nI 3)) C dX11_told_126 (by decide) ?_
      refine q_ialdV (m := 1080) C dX11_told_127 ok39 rfl rfl (by omega) (mw0 p3 (by decide)) ?_
      refine r_iret C hrt dX11_told_128 ?_
      exact ⟨rfl, rfl, rfl⟩
    · refine r_tabIn (off := 128) (tgt := 129) C ⟨dX11_told_1, rfl, by decide⟩ (by decide) (by decide) (by decide) ?_
      refine r_aload_n C dX11_told_129 rfl ?_
      refine r_iconst (v := (nI 0)) C dX11_told_130 (by decide) ?_
      refine r_callV C (m_menIn (by decide) p2 p3) dX11_told_131 cw_X11_menIn cvX11_188 (by omega) ok11 rfl hN rfl (Nat.le_of_ble_eq_true rfl) ?_
      rintro v R' h1 ⟨rfl, rfl, rfl⟩
      refine r_iret C hrt dX11_told_134 ?_
      rw [hz]
      exact ⟨rfl, rfl, rfl⟩
    · refine r_tabIn (off := 134) (tgt := 135) C ⟨dX11_told_1, rfl, by decide⟩ (by decide) (by decide) (by decide) ?_
      refine r_aload_n C dX11_told_135 rfl ?_
      refine r_getR C flX11_7 dX11_told_136 ok11 rfl rfl ?_
      refine r_iconst (v := (nI 4)) C dX11_told_139 (by decide) ?_
      refine q_ialdV (m := 1080) C dX11_told_140 ok39 rfl rfl (by omega) (mw0 p3 (by decide)) ?_
      refine r_iret C hrt dX11_told_141 ?_
      exact ⟨rfl, rfl, rfl⟩
    · refine r_tabIn (off := 141) (tgt := 142) C ⟨dX11_told_1, rfl, by decide⟩ (by decide) (by decide) (by decide) ?_
      refine r_aload_n C dX11_told_142 rfl ?_
      refine q_getV C flX11_179 dX11_told_143 ok11 rfl p6.1 ?_
      refine r_iret C hrt dX11_told_146 ?_
      exact ⟨rfl, rfl, rfl⟩
    · refine r_tabIn (off := 146) (tgt := 147) C ⟨dX11_told_1, rfl, by decide⟩ (by decide) (by decide) (by decide) ?_
      refine r_aload_n C dX11_told_147 rfl ?_
      refine q_getV C flX11_182 dX11_told_148 ok11 rfl p7.1 ?_
      refine r_iret C hrt dX11_told_151 ?_
      exact ⟨rfl, rfl, rfl⟩
    · refine r_tabIn (off := 151) (tgt := 152) C ⟨dX11_told_1, rfl, by decide⟩ (by decide) (by decide) (by decide) ?_
      refine r_aload_n C dX11_told_152 rfl ?_
      refine q_getV C flX11_185 dX11_told_153 ok11 rfl p4.1 ?_
      refine r_iret C hrt dX11_told_156 ?_
      exact ⟨rfl, rfl, rfl⟩
    · refine r_tabIn (off := 156) (tgt := 157) C ⟨dX11_told_1, rfl, by decide⟩ (by decide) (by decide) (by decide) ?_
      refine r_aload_n C dX11_told_157 rfl ?_
      refine q_getV C flX11_78 dX11_told_158 ok11 rfl p2.2.2.2.2.1 ?_
      show Wa E G 243 (Rs a b) h (QQ E G 243 (qst a b h (nI (gNn g 4)))) _ _ _
      rcases (show gNn g 4 = 0 ∨ gNn g 4 = 1 by omega) with z | z
      · rw [z]
        refine r_if_eq C dX11_told_161 (fun _ => ?_) (fun cc => absurd cc (by exact fun z => z rfl))
        refine r_iconst (v := (nI 0)) C dX11_told_168 (by decide) ?_
        refine r_iret C hrt dX11_told_169 ?_
        exact ⟨rfl, rfl, rfl⟩
      · rw [z]
        refine r_if_eq C dX11_told_161 (fun cc => absurd cc (by decide)) (fun _ => ?_)
        refine r_iconst (v := (nI 1)) C dX11_told_164 (by decide) ?_
        refine r_goto C dX11_told_165 ?_
        refine r_iret C hrt dX11_told_169 ?_
        exact ⟨rfl, rfl, rfl⟩
set_option maxRecDepth 100000 in
set_option maxHeartbeats 4000000 in
theorem m_fault {E : Ev} {a b : Nat} {h : HF} {g : Gs} (hc : MP h g) : Ct E 0 yX11_fault cX11_fault 1 (some .int) [aR 11 0] 243 (Rs a b) h 243 (qst a b h (gFp g)) := by
  refine Ct.of 0 (L0 := [some (aR 11 0)]) (by decide) ⟨Nat.le_refl _, Nat.le_refl _⟩ rfl rfl ?_
  intro G C hg hrt hnm
  have hN : gn G ≤ 243 ∧ 243 ≤ 243 ∧ 243 ≤ 243 := ⟨by omega, by decide, by decide⟩
  refine r_aload_n C dX11_fault_0 rfl ?_
  refine q_getV C flX11_41 dX11_fault_1 ok11 rfl hc.1.2 ?_
  refine r_iret C hrt dX11_fault_4 ?_
  exact ⟨rfl, rfl, rfl⟩
set_option maxRecDepth 100000 in
set_option maxHeartbeats 4000000 in
theorem m_company {E : Ev} {a b : Nat} {h : HF} {g : Gs} {c w : Int32} (hc : MP h g) : Ct E 2 yX11_company cX11_company 3 (some .int) [aR 11 0, aI c, aI w] 243 (Rs a b) h 243 (qst a b h (compF g c w)) := by
  refine Ct.of 0 (L0 := [some (aR 11 0), some (aI c), some (aI w)]) (by decide) ⟨Nat.le_refl _, Nat.le_refl _⟩ rfl rfl ?_
  intro G C hg hrt hnm
  have hN : gn G ≤ 243 ∧ 243 ≤ 243 ∧ 243 ≤ 243 := ⟨by omega, by decide, by decide⟩
  obtain ⟨⟨p1, p1b⟩, p2, p3, p4, p5, p6, p7⟩ := id hc
  have b0 := p2.2.2.2.2.2.2.2.2.2.1
  refine r_aload_n C dX11_company_0 rfl ?_
  refine r_iload_n C dX11_company_1 rfl ?_
  refine r_callV C (m_isCompany p2) dX11_company_2 cw_X11_isCompany cvX11_191 (by omega) ok11 rfl hN rfl (Nat.le_of_ble_eq_true rfl) ?_
  rintro v R' h1 ⟨rfl, rfl, rfl⟩
  cases hx : ixO c (gNn g 0) with
  | none =>
    rw [compF, hx, ixB_n hx]
    refine r_if_ne C dX11_company_5 (fun cc => absurd cc (by exact fun z => z rfl)) (fun _ => ?_)
    refine r_ldc C dX11_company_8 kX11_194 ?_
    refine r_iret C hrt dX11_company_10 ?_
    exact ⟨rfl, rfl, rfl⟩
  | some i =>
    obtain ⟨hi, rfl⟩ := ixO_some hx
    rw [compF, hx, ixB_s hx]
    refine r_if_ne C dX11_company_5 (fun _ => ?_) (fun cc => absurd cc (by decide))
    refine r_iload_n C dX11_company_11 rfl ?_
    cases hw : ixO w 5 with
    | none =>
      have hn := ixO_none hw
      refine r_tabOut (tgt := 91) C ⟨dX11_company_12, rfl, by decide⟩ (by omega) ?_
      refine r_ldc C dX11_company_91 kX11_99 ?_
      refine r_iret C hrt dX11_company_93 ?_
      exact ⟨rfl, rfl, rfl⟩
    | some k =>
      obtain ⟨hk, rfl⟩ := ixO_some hw
      rcases (show k = 0 ∨ k = 1 ∨ k = 2 ∨ k = 3 ∨ k = 4 by omega) with rfl | rfl | rfl | rfl | rfl
      · refine r_tabIn (off := 36) (tgt := 48) C ⟨dX11_company_12, rfl, by decide⟩ (by decide) (by decide) (by decide) ?_
        refine r_aload_n C dX11_company_48 rfl ?_
        refine r_getR C flX11_7 dX11_company_49 ok11 rfl rfl ?_
        refine r_iconst (v := (nI 5)) C dX11_company_52 (by decide) ?_
        refine r_iload_n C dX11_company_53 rfl ?_
        first | refine r_iaddN C dX11_company_54 ?_ | refine r_iadd C dX11_company_54 ?_
        refine q_ialdV (m := 1080) C dX11_company_55 ok39 rfl rfl (by omega) (mw0 p3 (by omega)) ?_
        refine r_iret C hrt dX11_company_56 ?_
        exact ⟨rfl, rfl, rfl⟩
      · refine r_tabIn (off := 45) (tgt := 57) C ⟨dX11_company_12, rfl, by decide⟩ (by decide) (by decide) (by decide) ?_
        refine r_aload_n C dX11_company_57 rfl ?_
        refine r_getR C flX11_17 dX11_company_58 ok11 rfl rfl ?_
        refine r_iload_n C dX11_company_61 rfl ?_
        refine q_ialdV (m := 5) C dX11_company_62 ok41 rfl rfl (by omega) ((p2.2.2.2.2.2.1 i hi).1) ?_
        refine r_iret C hrt dX11_company_63 ?_
        exact ⟨rfl, rfl, rfl⟩
      · refine r_tabIn (off := 52) (tgt := 64) C ⟨dX11_company_12, rfl, by decide⟩ (by decide) (by decide) (by decide) ?_
        refine r_aload_n C dX11_company_64 rfl ?_
        refine r_getR C flX11_20 dX11_company_65 ok11 rfl rfl ?_
        refine r_iload_n C dX11_company_68 rfl ?_
        refine q_ialdV (m := 5) C dX11_company_69 ok42 rfl rfl (by omega) ((p2.2.2.2.2.2.1 i hi).2) ?_
        refine r_iret C hrt dX11_company_70 ?_
        exact ⟨rfl, rfl, rfl⟩
      · refine r_tabIn (off := 59) (tgt := 71) C ⟨dX11_company_12, rfl, by decide⟩ (by decide) (by decide) (by decide) ?_
        refine r_aload_n C dX11_company_71 rfl ?_
        refine r_getR C flX11_7 dX11_company_72 ok11 rfl rfl ?_
        refine r_bipush (v := (nI 10)) C dX11_company_75 (by decide) ?_
        refine r_iload_n C dX11_company_77 rfl ?_
        first | refine r_iaddN C dX11_company_78 ?_ | refine r_iadd C dX11_company_78 ?_
        refine q_ialdV (m := 1080) C dX11_company_79 ok39 rfl rfl (by omega) (mw0 p3 (by omega)) ?_
        refine r_iret C hrt dX11_company_80 ?_
        exact ⟨rfl, rfl, rfl⟩
      · refine r_tabIn (off := 69) (tgt := 81) C ⟨dX11_company_12, rfl, by decide⟩ (by decide) (by decide) (by decide) ?_
        refine r_aload_n C dX11_company_81 rfl ?_
        refine r_getR C flX11_7 dX11_company_82 ok11 rfl rfl ?_
        refine r_bipush (v := (nI 15)) C dX11_company_85 (by decide) ?_
        refine r_iload_n C dX11_company_87 rfl ?_
        first | refine r_iaddN C dX11_company_88 ?_ | refine r_iadd C dX11_company_88 ?_
        refine q_ialdV (m := 1080) C dX11_company_89 ok39 rfl rfl (by omega) (mw0 p3 (by omega)) ?_
        refine r_iret C hrt dX11_company_90 ?_
        exact ⟨rfl, rfl, rfl⟩
set_option maxRecDepth 100000 in
set_option maxHeartbeats 4000000 in
theorem m_money {E : Ev} {a b : Nat} {h : HF} {g : Gs} {c w : Int32} (hc : MP h g) : Ct E 2 yX11_money cX11_money 3 (some .int) [aR 11 0, aI c, aI w] 243 (Rs a b) h 243 (qst a b h (monF g c w)) := by
  refine Ct.of 0 (L0 := [some (aR 11 0), some (aI c), some (aI w)]) (by decide) ⟨Nat.le_refl _, Nat.le_refl _⟩ rfl rfl ?_
  intro G C hg hrt hnm
  have hN : gn G ≤ 243 ∧ 243 ≤ 243 ∧ 243 ≤ 243 := ⟨by omega, by decide, by decide⟩
  obtain ⟨⟨p1, p1b⟩, p2, p3, p4, p5, p6, p7⟩ := id hc
  have b1 := p2.2.2.2.2.2.2.2.2.2.2.1
  refine r_aload_n C dX11_money_0 rfl ?_
  refine r_iload_n C dX11_money_1 rfl ?_
  refine r_callV C (m_isMoney p2) dX11_money_2 cw_X11_isMoney cvX11_195 (by omega) ok11 rfl hN rfl (Nat.le_of_ble_eq_true rfl) ?_
  rintro v R' h1 ⟨rfl, rfl, rfl⟩
  cases hx : ixO c (gNn g 1) with
  | none =>
    rw [monF, hx, ixB_n hx]
    refine r_if_ne C dX11_money_5 (fun cc => absurd cc (by exact fun z => z rfl)) (fun _ => ?_)
    refine r_ldc C dX11_money_8 kX11_194 ?_
    refine r_iret C hrt dX11_money_10 ?_
    exact ⟨rfl, rfl, rfl⟩
  | some i =>
    obtain ⟨hi, rfl⟩ := ixO_some hx
    rw [monF, hx, ixB_s hx]
    refine r_if_ne C dX11_money_5 (fun _ => ?_) (fun cc => absurd cc (by decide))
    refine r_iload_n C dX11_money_11 rfl ?_
    cases hw : ixO w 3 with
    | none =>
      have hn : ∀ k, k < 3 → w ≠ nI k := fun k hk z => by
        rw [z, ixO_nI hk (by decide)] at hw
        cases hw
      refine r_if_ne C dX11_money_12 (fun _ => ?_) (fun cc => absurd cc (by exact hn 0 (by decide)))
      refine r_iload_n C dX11_money_27 rfl ?_
      refine r_iconst (v := (nI 1)) C dX11_money_28 (by decide) ?_
      refine r_icmp_ne C dX11_money_29 (fun _ => ?_) (fun cc => absurd cc (by exact hn 1 (by decide)))
      refine r_iload_n C dX11_money_41 rfl ?_
      refine r_iconst (v := (nI 2)) C dX11_money_42 (by decide) ?_
      refine r_icmp_ne C dX11_money_43 (fun _ => ?_) (fun cc => absurd cc (by exact hn 2 (by decide)))
      refine r_ldc C dX11_money_55 kX11_99 ?_
      refine r_iret C hrt dX11_money_57 ?_
      exact ⟨rfl, rfl, rfl⟩
    | some k =>
      obtain ⟨hk, rfl⟩ := ixO_some hw
      rcases (show k = 0 ∨ k = 1 ∨ k = 2 by omega) with rfl | rfl | rfl
      · refine r_if_ne C dX11_money_12 (fun cc => absurd cc (by exact fun z => z rfl)) (fun _ => ?_)
        refine r_aload_n C dX11_money_15 rfl ?_
        refine r_getR C flX11_7 dX11_money_16 ok11 rfl rfl ?_
        refine r_bipush (v := (nI 20)) C dX11_money_19 (by decide) ?_
        refine r_iload_n C dX11_money_21 rfl ?_
        first | refine r_iaddN C dX11_money_22 ?_ | refine r_iadd C dX11_money_22 ?_
        refine q_ialdV (m := 1080) C dX11_money_23 ok39 rfl rfl (by omega) (mw0 p3 (by omega)) ?_
        refine r_goto C dX11_money_24 ?_
        refine r_iret C hrt dX11_money_57 ?_
        exact ⟨rfl, rfl, rfl⟩
      · refine r_if_ne C dX11_money_12 (fun _ => ?_) (fun cc => absurd cc (by decide))
        refine r_iload_n C dX11_money_27 rfl ?_
        refine r_iconst (v := (nI 1)) C dX11_money_28 (by decide) ?_
        refine r_icmp_ne C dX11_money_29 (fun cc => absurd cc (by exact fun z => z rfl)) (fun _ => ?_)
        refine r_aload_n C dX11_money_32 rfl ?_
        refine r_getR C flX11_23 dX11_money_33 ok11 rfl rfl ?_
        refine r_iload_n C dX11_money_36 rfl ?_
        refine q_ialdV (m := 4) C dX11_money_37 ok43 rfl rfl (by omega) ((p2.2.2.2.2.2.2.1 i hi).1) ?_
        refine r_goto C dX11_money_38 ?_
        refine r_iret C hrt dX11_money_57 ?_
        exact ⟨rfl, rfl, rfl⟩
      · refine r_if_ne C dX11_money_12 (fun _ => ?_) (fun cc => absurd cc (by decide))
        refine r_iload_n C dX11_money_27 rfl ?_
        refine r_iconst (v := (nI 1)) C dX11_money_28 (by decide) ?_
        refine r_icmp_ne C dX11_money_29 (fun _ => ?_) (fun cc => absurd cc (by decide))
        refine r_iload_n C dX11_money_41 rfl ?_
        refine r_iconst (v := (nI 2)) C dX11_money_42 (by decide) ?_
        refine r_icmp_ne C dX11_money_43 (fun cc => absurd cc (by exact fun z => z rfl)) (fun _ => ?_)
        refine r_aload_n C dX11_money_46 rfl ?_
        refine r_getR C flX11_26 dX11_money_47 ok11 rfl rfl ?_
        refine r_iload_n C dX11_money_50 rfl ?_
        refine q_ialdV (m := 4) C dX11_money_51 ok44 rfl rfl (by omega) ((p2.2.2.2.2.2.2.1 i hi).2) ?_
        refine r_goto C dX11_money_52 ?_
        refine r_iret C hrt dX11_money_57 ?_
        exact ⟨rfl, rfl, rfl⟩
set_option maxRecDepth 100000 in
set_option maxHeartbeats 4000000 in
theorem m_feed {E : Ev} {a b : Nat} {h : HF} {g : Gs} {x : Int32} (hc : MP h g) : Ct E 1 yX11_feed cX11_feed 2 (some .int) [aR 11 0, aI x] 243 (Rs a b) h 243 (mqr a b (feedF g x).2 h (feedF g x).1) := by
  refine Ct.of 0 (L0 := [some (aR 11 0), some (aI x)]) (by decide) ⟨Nat.le_refl _, Nat.le_refl _⟩ rfl rfl ?_
  intro G C hg hrt hnm
  have hN : gn G ≤ 243 ∧ 243 ≤ 243 ∧ 243 ≤ 243 := ⟨by omega, by decide, by decide⟩
  obtain ⟨⟨p1, p1b⟩, p2, p3, p4, p5, p6, p7⟩ := id hc
  have hle := p1.2.1
  refine r_iload_n C dX11_feed_0 rfl ?_
  refine r_i2l C dX11_feed_1 ?_
  refine r_lconst (v := 0) C dX11_feed_2 (by decide) ?_
  refine r_ldc2 C dX11_feed_3 klX11_97 ?_
  refine r_callS C m_in dX11_feed_6 cw_X11_in csX11_85 (by omega) rfl hN rfl (Nat.le_of_ble_eq_true rfl) ?_
  rintro v R' h1 ⟨rfl, rfl, rfl⟩
  rw [in64 (lo := nI 0) (hi := nI 255) (by decide) (by decide)]
  unfold feedF
  by_cases hx : nI 0 ≤ x ∧ x ≤ nI 255
  · rw [if_pos hx, if_pos hx]
    refine r_if_ne C dX11_feed_9 (fun _ => ?_) (fun cc => absurd cc (by decide))
    refine r_aload_n C dX11_feed_15 rfl ?_
    refine q_getV C flX11_100 dX11_feed_16 ok11 rfl p1.1 ?_
    refine r_sipush (v := (nI 240)) C dX11_feed_19 (by decide) ?_
    by_cases hl : gLn g < 240
    · rw [if_pos hl]
      refine r_icmpN_ne C dX11_feed_22 (by omega) (by omega) (fun _ => ?_) (fun cc => absurd cc (by omega))
      refine r_aload_n C dX11_feed_28 rfl ?_
      refine r_getR C flX11_38 dX11_feed_29 ok11 rfl rfl ?_
      refine r_aload_n C dX11_feed_32 rfl ?_
      refine q_getV C flX11_100 dX11_feed_33 ok11 rfl p1.1 ?_
      refine r_iload_n C dX11_feed_36 rfl ?_
      refine q_iast (m := 240) C dX11_feed_37 ok48 rfl rfl (by omega) ?_
      refine r_aload_n C dX11_feed_38 rfl ?_
      refine r_dup C dX11_feed_39 rfl ?_
      refine q_getV C flX11_100 dX11_feed_40 ok11 rfl (show _ = nI (gLn g) by rw [put_k (by decide)]; exact p1.1) ?_
      refine r_iconst (v := (nI 1)) C dX11_feed_43 (by decide) ?_
      first | refine r_iaddN C dX11_feed_44 ?_ | refine r_iadd C dX11_feed_44 ?_
      refine r_putI C flX11_100 dX11_feed_45 ok11 rfl ⟨rfl, rfl⟩ ?_
      refine r_aload_n C dX11_feed_48 rfl ?_
      refine q_getV C flX11_100 dX11_feed_49 ok11 rfl put_same ?_
      refine r_iret C hrt dX11_feed_52 ?_
      have f : Fs (fun k i => k == 48 || (k == 11 && i == 16)) h1 (put (put h1 48 0 (gLn g) x) 11 0 16 (nI (gLn g + 1))) := Fs.put (Fs.put Fs.rf rfl) rfl
      refine ⟨rfl, rfl, ⟨⟨⟨put_same, hl, fun i hi => ?_⟩, ?_⟩, p2.fs f (fun i hi => by simp; omega) (fun k i _ _ => by simp; omega), p3.fs f (fun k _ => rfl), p4.fs f rfl (fun i _ => rfl), p5.fs f (fun _ => rfl) (fun _ _ _ => rfl), p6.fs f rfl (fun k i _ _ => by simp; omega), p7.fs f rfl (fun k i _ _ => by simp; omega)⟩, f.wk (fun k i z => ?_)⟩
      · rw [put_k (by decide)]
        show _ = va_up (gX g) (gLn g) x i
        by_cases e : i = gLn g
        · subst e
          rw [put_same, va_up_self]
        · rw [put_i e, va_up_ne _ _ e]
          have hi2 : i < gLn g + 1 := hi
          exact p1.2.2 i (by omega)
      · rw [put_i (by decide), put_k (by decide)]
        exact p1b
      · simp only [sXm, Bool.or_eq_true, Bool.and_eq_true, beq_iff_eq, decide_eq_true_eq] at z ⊢
        omega
    · rw [if_neg hl]
      refine r_icmpN_ne C dX11_feed_22 (by omega) (by omega) (fun cc => absurd cc (by omega)) (fun _ => ?_)
      refine r_ldc C dX11_feed_25 kX11_103 ?_
      refine r_iret C hrt dX11_feed_27 ?_
      exact ⟨rfl, rfl, hc, Fs.rf⟩
  · rw [if_neg hx, if_neg hx]
    refine r_if_ne C dX11_feed_9 (fun cc => absurd cc (by exact fun z => z rfl)) (fun _ => ?_)
    refine r_ldc C dX11_feed_12 kX11_99 ?_
    refine r_iret C hrt dX11_feed_14 ?_
    exact ⟨rfl, rfl, hc, Fs.rf⟩
