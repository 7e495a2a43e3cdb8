theorem within_nat {x : Int32} {a b : Nat} (ha : a < 2 ^ 31) (hb : b < 2 ^ 31) (h : nI a ≤ x ∧ x ≤ nI b) : ∃ k, a ≤ k ∧ k ≤ b ∧ x = nI k := by
  obtain ⟨h1, h2⟩ := h
  rw [Int32.le_iff_toInt_le, nI_toInt ha] at h1
  rw [Int32.le_iff_toInt_le, nI_toInt hb] at h2
  refine ⟨x.toInt.toNat, by omega, by omega, ?_⟩
  apply Int32.toInt_inj.mp
  rw [nI_toInt (by omega)]
  omega
theorem ixB_s {x : Int32} {n c : Nat} (h : ixO x n = some c) : ixB x n = nI 1 := by rw [ixB, h]; rfl
theorem ixB_n {x : Int32} {n : Nat} (h : ixO x n = none) : ixB x n = nI 0 := by rw [ixB, h]; rfl
def toldV (g : Gs) (i : Nat) : Int32 := match i with
  | 0 => gSv g 0
  | 1 => gSv g 1
  | 2 => nI (gNn g 0)
  | 3 => nI (gNn g 1)
  | 4 => nI (gNn g 2)
  | 5 => nI (gNn g 3)
  | 6 => nI (gLn g)
  | 7 => gSv g 2
  | 8 => gSv g 3
  | 9 => msum (gSv g) 5
  | 10 => gSv g 4
  | 11 => nI (gSh g).1
  | 12 => nI (gBk g).1
  | 13 => nI (gU g).1
  | _ => nI (gNn g 4)
def toldF (g : Gs) (w : Int32) : Int32 := match ixO w 15 with
  | none => cO
  | some i => toldV g i
/-- a question's end: the answer, and all is as it was -/
def qry (a b : Nat) (g : Gs) (h : HF) (x : Int32) : Option AV → RF → HF → Prop := fun v R' h' => v = some (aI x) ∧ R' = Rs a b ∧ CP h' a g ∧ Fr sXc h h'
set_option maxRecDepth 100000 in
set_option maxHeartbeats 4000000 in
theorem c_told {E : Ev} {a b : Nat} {h : HF} {g : Gs} {w : Int32} (hT : a < 2) (hc : CP h a g) : Ct E 1 yX10_told cX10_told 2 (some .int) [aR 10 0, aI w] 243 (Rs a b) h 243 (qry a b g h (toldF g w)) := by
  refine Ct.of 0 (L0 := [some (aR 10 0), some (aI w)]) (by decide) ⟨Nat.le_refl _, Nat.le_refl _⟩ rfl rfl ?_
  intro G C hg hrt hnm
  have hN : gn G ≤ 243 ∧ 243 ≤ 243 ∧ 243 ≤ 243 := ⟨by omega, by decide, by decide⟩
  obtain ⟨⟨p1, p1b⟩, p2, ⟨p3, p3b⟩, ⟨nx, p4⟩, p5, ⟨p6, p6b⟩, ⟨p7, p7b⟩⟩ := id hc
  have hS : 0 < 23 := by decide
  have hC : 0 < 29 := by decide
  have b4 := p2.2.2.2.2.2.2.2.2.2.2.2.2.2
  refine r_iload_n C dX10_told_0 rfl ?_
  cases hx : ixO w 15 with
  | none =>
    have hn := ixO_none hx
    refine r_tabOut (tgt := 213) C ⟨dX10_told_1, rfl, by decide⟩ (by omega) ?_
    refine r_ldc C dX10_told_213 kX10_86 ?_
    refine r_iret C hrt dX10_told_215 ?_
    rw [toldF, hx]
    exact ⟨rfl, rfl, hc, Fr.rf⟩
  | some i =>
    obtain ⟨hi, rfl⟩ := ixO_some hx
    rw [toldF, hx]
    rcases (show i = 0 ∨ i = 1 ∨ i = 2 ∨ i = 3 ∨ i = 4 ∨ i = 5 ∨ i = 6 ∨ i = 7 ∨ i = 8 ∨ i = 9 ∨ i = 10 ∨ i = 11 ∨ i = 12 ∨ i = 13 ∨ i = 14 by omega) with rfl | rfl | rfl | rfl | rfl | rfl | rfl | rfl | rfl | rfl | rfl | rfl | rfl | rfl | rfl
    · refine r_tabIn (off := 75) (tgt := 76) C ⟨dX10_told_1, rfl, by decide⟩ (by decide) (by decide) (by decide) ?_
      refine r_aload_n C dX10_told_76 rfl ?_
      refine r_getR C flX10_36 dX10_told_77 ok10 rfl rfl ?_
      refine r_getR C flX10_126 dX10_told_80 (Ok.full (by decide) hS) rfl rfl ?_
      refine q_getV C flX10_130 dX10_told_83 (Ok.full (by decide) hC) rfl p3.1.1 ?_
      refine r_iret C hrt dX10_told_86 ?_
      exact ⟨rfl, rfl, hc, Fr.rf⟩
    · refine r_tabIn (off := 86) (tgt := 87) C ⟨dX10_told_1, rfl, by decide⟩ (by decide) (by decide) (by decide) ?_
      refine r_aload_n C dX10_told_87 rfl ?_
      refine r_getR C flX10_36 dX10_told_88 ok10 rfl rfl ?_
      refine q_getV C flX10_135 dX10_told_91 (Ok.full (by decide) hS) rfl p3.2.1 ?_
      refine r_iret C hrt dX10_told_94 ?_
      exact ⟨rfl, rfl, hc, Fr.rf⟩
    · refine r_tabIn (off := 94) (tgt := 95) C ⟨dX10_told_1, rfl, by decide⟩ (by decide) (by decide) (by decide) ?_
      refine r_aload_n C dX10_told_95 rfl ?_
      refine r_getR C flX10_26 dX10_told_96 ok10 rfl rfl ?_
      refine q_getV C flX10_108 dX10_told_99 (Ok.full (by decide) hT) rfl p2.1 ?_
      refine r_iret C hrt dX10_told_102 ?_
      exact ⟨rfl, rfl, hc, Fr.rf⟩
    · refine r_tabIn (off := 102) (tgt := 103) C ⟨dX10_told_1, rfl, by decide⟩ (by decide) (by decide) (by decide) ?_
      refine r_aload_n C dX10_told_103 rfl ?_
      refine r_getR C flX10_26 dX10_told_104 ok10 rfl rfl ?_
      refine q_getV C flX10_138 dX10_told_107 (Ok.full (by decide) hT) rfl p2.2.1 ?_
      refine r_iret C hrt dX10_told_110 ?_
      exact ⟨rfl, rfl, hc, Fr.rf⟩
    · refine r_tabIn (off := 110) (tgt := 111) C ⟨dX10_told_1, rfl, by decide⟩ (by decide) (by decide) (by decide) ?_
      refine r_aload_n C dX10_told_111 rfl ?_
      refine r_getR C flX10_26 dX10_told_112 ok10 rfl rfl ?_
      refine q_getV C flX10_141 dX10_told_115 (Ok.full (by decide) hT) rfl p2.2.2.1 ?_
      refine r_iret C hrt dX10_told_118 ?_
      exact ⟨rfl, rfl, hc, Fr.rf⟩
    · refine r_tabIn (off := 118) (tgt := 119) C ⟨dX10_told_1, rfl, by decide⟩ (by decide) (by decide) (by decide) ?_
      refine r_aload_n C dX10_told_119 rfl ?_
      refine r_getR C flX10_26 dX10_told_120 ok10 rfl rfl ?_
      refine q_getV C flX10_144 dX10_told_123 (Ok.full (by decide) hT) rfl p2.2.2.2.1 ?_
      refine r_iret C hrt dX10_told_126 ?_
      exact ⟨rfl, rfl, hc, Fr.rf⟩
    · refine r_tabIn (off := 126) (tgt := 127) C ⟨dX10_told_1, rfl, by decide⟩ (by decide) (by decide) (by decide) ?_
      refine r_aload_n C dX10_told_127 rfl ?_
      refine r_getR C flX10_10 dX10_told_128 ok10 rfl rfl ?_
      refine q_getV C flX10_87 dX10_told_131 ok7 rfl p1.1 ?_
      refine r_iret C hrt dX10_told_134 ?_
      exact ⟨rfl, rfl, hc, Fr.rf⟩
    · refine r_tabIn (off := 134) (tgt := 135) C ⟨dX10_told_1, rfl, by decide⟩ (by decide) (by decide) (by decide) ?_
      refine r_aload_n C dX10_told_135 rfl ?_
      refine r_getR C flX10_36 dX10_told_136 ok10 rfl rfl ?_
      refine r_getR C flX10_126 dX10_told_139 (Ok.full (by decide) hS) rfl rfl ?_
      refine q_getV C flX10_147 dX10_told_142 (Ok.full (by decide) hC) rfl p3.1.2.1 ?_
      refine r_iret C hrt dX10_told_145 ?_
      exact ⟨rfl, rfl, hc, Fr.rf⟩
    · refine r_tabIn (off := 145) (tgt := 146) C ⟨dX10_told_1, rfl, by decide⟩ (by decide) (by decide) (by decide) ?_
      refine r_aload_n C dX10_told_146 rfl ?_
      refine r_getR C flX10_36 dX10_told_147 ok10 rfl rfl ?_
      refine q_getV C flX10_150 dX10_told_150 (Ok.full (by decide) hS) rfl p3.2.2.1 ?_
      refine r_iret C hrt dX10_told_153 ?_
      exact ⟨rfl, rfl, hc, Fr.rf⟩
    · refine r_tabIn (off := 153) (tgt := 154) C ⟨dX10_told_1, rfl, by decide⟩ (by decide) (by decide) (by decide) ?_
      refine r_aload_n C dX10_told_154 rfl ?_
      refine r_getR C flX10_36 dX10_told_155 ok10 rfl rfl ?_
      refine r_getR C flX10_126 dX10_told_158 (Ok.full (by decide) hS) rfl rfl ?_
      refine r_callV C (c_menOfAll hC p3.1) dX10_told_161 cw_X1_menOfAll cvX10_153 (by omega) (Ok.full (by decide) hC) rfl hN rfl (Nat.le_of_ble_eq_true rfl) ?_
      rintro v R' h1 ⟨rfl, rfl, rfl⟩
      refine r_iret C hrt dX10_told_164 ?_
      exact ⟨rfl, rfl, hc, Fr.rf⟩
    · refine r_tabIn (off := 164) (tgt := 165) C ⟨dX10_told_1, rfl, by decide⟩ (by decide) (by decide) (by decide) ?_
      refine r_aload_n C dX10_told_165 rfl ?_
      refine r_getR C flX10_36 dX10_told_166 ok10 rfl rfl ?_
      refine q_getV C flX10_157 dX10_told_169 (Ok.full (by decide) hS) rfl p3.2.2.2.1 ?_
      refine r_iret C hrt dX10_told_172 ?_
      exact ⟨rfl, rfl, hc, Fr.rf⟩
    · refine r_tabIn (off := 172) (tgt := 173) C ⟨dX10_told_1, rfl, by decide⟩ (by decide) (by decide) (by decide) ?_
      refine r_aload_n C dX10_told_173 rfl ?_
      refine r_getR C flX10_63 dX10_told_174 ok10 rfl rfl ?_
      refine q_getV C flX10_118 dX10_told_177 ok5 rfl p6.1 ?_
      refine r_iret C hrt dX10_told_180 ?_
      exact ⟨rfl, rfl, hc, Fr.rf⟩
    · refine r_tabIn (off := 180) (tgt := 181) C ⟨dX10_told_1, rfl, by decide⟩ (by decide) (by decide) (by decide) ?_
      refine r_aload_n C dX10_told_181 rfl ?_
      refine r_getR C flX10_70 dX10_told_182 ok10 rfl rfl ?_
      refine q_getV C flX10_121 dX10_told_185 ok0 rfl p7.1 ?_
      refine r_iret C hrt dX10_told_188 ?_
      exact ⟨rfl, rfl, hc, Fr.rf⟩
    · refine r_tabIn (off := 188) (tgt := 189) C ⟨dX10_told_1, rfl, by decide⟩ (by decide) (by decide) (by decide) ?_
      refine r_aload_n C dX10_told_189 rfl ?_
      refine r_getR C flX10_43 dX10_told_190 ok10 rfl rfl ?_
      refine q_getV C flX10_160 dX10_told_193 ok3 rfl p4.2.1 ?_
      refine r_iret C hrt dX10_told_196 ?_
      exact ⟨rfl, rfl, hc, Fr.rf⟩
    · refine r_tabIn (off := 196) (tgt := 197) C ⟨dX10_told_1, rfl, by decide⟩ (by decide) (by decide) (by decide) ?_
      refine r_aload_n C dX10_told_197 rfl ?_
      refine r_getR C flX10_26 dX10_told_198 ok10 rfl rfl ?_
      refine q_getV C flX10_161 dX10_told_201 (Ok.full (by decide) hT) rfl p2.2.2.2.2.1 ?_
      show Wa E G 243 (Rs a b) h (QQ E G 243 (qry a b g h (nI (gNn g 4)))) _ _ _
      rcases (show gNn g 4 = 0 ∨ gNn g 4 = 1 by omega) with z | z
      · rw [z]
        refine r_if_eq C dX10_told_204 (fun _ => ?_) (fun cc => absurd cc (by exact fun z => z rfl))
        refine r_iconst (v := (nI 0)) C dX10_told_211 (by decide) ?_
        refine r_iret C hrt dX10_told_212 ?_
        exact ⟨rfl, rfl, hc, Fr.rf⟩
      · rw [z]
        refine r_if_eq C dX10_told_204 (fun cc => absurd cc (by decide)) (fun _ => ?_)
        refine r_iconst (v := (nI 1)) C dX10_told_207 (by decide) ?_
        refine r_goto C dX10_told_208 ?_
        refine r_iret C hrt dX10_told_212 ?_
        exact ⟨rfl, rfl, hc, Fr.rf⟩
set_option maxRecDepth 100000 in
set_option maxHeartbeats 4000000 in
theorem c_fault {E : Ev} {a b : Nat} {h : HF} {g : Gs} (hc : CP h a g) : Ct E 0 yX10_fault cX10_fault 1 (some .int) [aR 10 0] 243 (Rs a b) h 243 (qry a b g h (gFp g)) := by
  refine Ct.of 0 (L0 := [some (aR 10 0)]) (by decide) ⟨Nat.le_refl _, Nat.le_refl _⟩ rfl rfl ?_
  intro G C hg hrt hnm
  have hN : gn G ≤ 243 ∧ 243 ≤ 243 ∧ 243 ≤ 243 := ⟨by omega, by decide, by decide⟩
  refine r_aload_n C dX10_fault_0 rfl ?_
  refine q_getV C flX10_78 dX10_fault_1 ok10 rfl hc.1.2 ?_
  refine r_iret C hrt dX10_fault_4 ?_
  exact ⟨rfl, rfl, hc, Fr.rf⟩
def compV (g : Gs) (c i : Nat) : Int32 := match i with
  | 0 => gSv g (5 + c)
  | 1 => gT g 0 c
  | 2 => gT g 1 c
  | 3 => gSv g (10 + c)
  | _ => gSv g (15 + c)
def compF (g : Gs) (c w : Int32) : Int32 := match ixO c (gNn g 0) with
  | none => cU
  | some i => (match ixO w 5 with | none => cO | some k => compV g i k)
def monV (g : Gs) (m i : Nat) : Int32 := match i with
  | 0 => gSv g (20 + m)
  | 1 => gT g 2 m
  | _ => gT g 3 m
def monF (g : Gs) (m w : Int32) : Int32 := match ixO m (gNn g 1) with
  | none => cU
  | some i => (match ixO w 3 with | none => cO | some k => monV g i k)
set_option maxRecDepth 100000 in
set_option maxHeartbeats 4000000 in
theorem c_company {E : Ev} {a b : Nat} {h : HF} {g : Gs} {c w : Int32} (ha : a < 2) (hc : CP h a g) : Ct E 2 yX10_company cX10_company 3 (some .int) [aR 10 0, aI c, aI w] 243 (Rs a b) h 243 (qry a b g h (compF g c w)) := by
  refine Ct.of 0 (L0 := [some (aR 10 0), some (aI c), some (aI w)]) (by decide) ⟨Nat.le_refl _, Nat.le_refl _⟩ rfl rfl ?_
  intro G C hg hrt hnm
  have hN : gn G ≤ 243 ∧ 243 ≤ 243 ∧ 243 ≤ 243 := ⟨by omega, by decide, by decide⟩
  obtain ⟨⟨p1, p1b⟩, p2, ⟨p3, p3b⟩, ⟨nx, p4⟩, p5, ⟨p6, p6b⟩, ⟨p7, p7b⟩⟩ := id hc
  have hT : a < 2 := ha
  have hS : 0 < 23 := by decide
  have hC : 0 < 29 := by decide
  have b0 := p2.2.2.2.2.2.2.2.2.2.1
  have b1 := p2.2.2.2.2.2.2.2.2.2.2.1
  have b2 := p2.2.2.2.2.2.2.2.2.2.2.2.1
  have b4 := p2.2.2.2.2.2.2.2.2.2.2.2.2.2
  refine r_aload_n C dX10_company_0 rfl ?_
  refine r_iload_n C dX10_company_1 rfl ?_
  refine r_callV C (c_isCompany hT p2) dX10_company_2 cw_X10_isCompany cvX10_164 (by omega) ok10 rfl hN rfl (Nat.le_of_ble_eq_true rfl) ?_
  rintro v R' h1 ⟨rfl, rfl, rfl⟩
  cases hx : ixO c (gNn g 0) with
  | none =>
    rw [compF, hx, ixB_n hx]
    refine r_if_ne C dX10_company_5 (fun cc => absurd cc (by exact fun z => z rfl)) (fun _ => ?_)
    refine r_ldc C dX10_company_8 kX10_168 ?_
    refine r_iret C hrt dX10_company_10 ?_
    exact ⟨rfl, rfl, hc, Fr.rf⟩
  | some i =>
    obtain ⟨hi, rfl⟩ := ixO_some hx
    rw [compF, hx, ixB_s hx]
    refine r_if_ne C dX10_company_5 (fun _ => ?_) (fun cc => absurd cc (by decide))
    refine r_iload_n C dX10_company_11 rfl ?_
    cases hw : ixO w 5 with
    | none =>
      have hn := ixO_none hw
      refine r_tabOut (tgt := 104) C ⟨dX10_company_12, rfl, by decide⟩ (by omega) ?_
      refine r_ldc C dX10_company_104 kX10_86 ?_
      refine r_iret C hrt dX10_company_106 ?_
      exact ⟨rfl, rfl, hc, Fr.rf⟩
    | some k =>
      obtain ⟨hk, rfl⟩ := ixO_some hw
      rcases (show k = 0 ∨ k = 1 ∨ k = 2 ∨ k = 3 ∨ k = 4 by omega) with rfl | rfl | rfl | rfl | rfl
      · refine r_tabIn (off := 36) (tgt := 48) C ⟨dX10_company_12, rfl, by decide⟩ (by decide) (by decide) (by decide) ?_
        refine r_aload_n C dX10_company_48 rfl ?_
        refine r_getR C flX10_36 dX10_company_49 ok10 rfl rfl ?_
        refine r_getR C flX10_126 dX10_company_52 (Ok.full (by decide) hS) rfl rfl ?_
        refine r_getR C flX10_169 dX10_company_55 (Ok.full (by decide) hC) rfl rfl ?_
        refine r_iload_n C dX10_company_58 rfl ?_
        refine q_ialdV (m := 5) C dX10_company_59 (Ok.full (by decide) hC) rfl rfl (by omega) (p3.1.2.2.1 i (by omega)) ?_
        refine r_iret C hrt dX10_company_60 ?_
        exact ⟨rfl, rfl, hc, Fr.rf⟩
      · refine r_tabIn (off := 49) (tgt := 61) C ⟨dX10_company_12, rfl, by decide⟩ (by decide) (by decide) (by decide) ?_
        refine r_aload_n C dX10_company_61 rfl ?_
        refine r_getR C flX10_26 dX10_company_62 ok10 rfl rfl ?_
        refine r_getR C flX10_173 dX10_company_65 (Ok.full (by decide) hT) rfl rfl ?_
        refine r_iload_n C dX10_company_68 rfl ?_
        refine q_ialdV (m := 5) C dX10_company_69 (Ok.full (by decide) hT) rfl rfl (by omega) ((p2.2.2.2.2.2.1 i hi).1) ?_
        refine r_iret C hrt dX10_company_70 ?_
        exact ⟨rfl, rfl, hc, Fr.rf⟩
      · refine r_tabIn (off := 59) (tgt := 71) C ⟨dX10_company_12, rfl, by decide⟩ (by decide) (by decide) (by decide) ?_
        refine r_aload_n C dX10_company_71 rfl ?_
        refine r_getR C flX10_26 dX10_company_72 ok10 rfl rfl ?_
        refine r_getR C flX10_176 dX10_company_75 (Ok.full (by decide) hT) rfl rfl ?_
        refine r_iload_n C dX10_company_78 rfl ?_
        refine q_ialdV (m := 5) C dX10_company_79 (Ok.full (by decide) hT) rfl rfl (by omega) ((p2.2.2.2.2.2.1 i hi).2) ?_
        refine r_iret C hrt dX10_company_80 ?_
        exact ⟨rfl, rfl, hc, Fr.rf⟩
      · refine r_tabIn (off := 69) (tgt := 81) C ⟨dX10_company_12, rfl, by decide⟩ (by decide) (by decide) (by decide) ?_
        refine r_aload_n C dX10_company_81 rfl ?_
        refine r_getR C flX10_36 dX10_company_82 ok10 rfl rfl ?_
        refine r_getR C flX10_126 dX10_company_85 (Ok.full (by decide) hS) rfl rfl ?_
        refine r_getR C flX10_179 dX10_company_88 (Ok.full (by decide) hC) rfl rfl ?_
        refine r_iload_n C dX10_company_91 rfl ?_
        refine q_ialdV (m := 5) C dX10_company_92 (Ok.full (by decide) hC) rfl rfl (by omega) (p3.1.2.2.2 i (by omega)) ?_
        refine r_iret C hrt dX10_company_93 ?_
        exact ⟨rfl, rfl, hc, Fr.rf⟩
      · refine r_tabIn (off := 82) (tgt := 94) C ⟨dX10_company_12, rfl, by decide⟩ (by decide) (by decide) (by decide) ?_
        refine r_aload_n C dX10_company_94 rfl ?_
        refine r_getR C flX10_36 dX10_company_95 ok10 rfl rfl ?_
        refine r_getR C flX10_182 dX10_company_98 (Ok.full (by decide) hS) rfl rfl ?_
        refine r_iload_n C dX10_company_101 rfl ?_
        refine q_ialdV (m := 5) C dX10_company_102 (Ok.full (by decide) hS) rfl rfl (by omega) (p3.2.2.2.2.2.1 i (by omega)) ?_
        refine r_iret C hrt dX10_company_103 ?_
        exact ⟨rfl, rfl, hc, Fr.rf⟩
set_option maxRecDepth 100000 in
set_option maxHeartbeats 4000000 in
theorem c_money {E : Ev} {a b : Nat} {h : HF} {g : Gs} {c w : Int32} (ha : a < 2) (hc : CP h a g) : Ct E 2 yX10_money cX10_money 3 (some .int) [aR 10 0, aI c, aI w] 243 (Rs a b) h 243 (qry a b g h (monF g c w)) := by
  refine Ct.of 0 (L0 := [some (aR 10 0), some (aI c), some (aI w)]) (by decide) ⟨Nat.le_refl _, Nat.le_refl _⟩ rfl rfl ?_
  intro G C hg hrt hnm
  have hN : gn G ≤ 243 ∧ 243 ≤ 243 ∧ 243 ≤ 243 := ⟨by omega, by decide, by decide⟩
  obtain ⟨⟨p1, p1b⟩, p2, ⟨p3, p3b⟩, ⟨nx, p4⟩, p5, ⟨p6, p6b⟩, ⟨p7, p7b⟩⟩ := id hc
  have hT : a < 2 := ha
  have hS : 0 < 23 := by decide
  have hC : 0 < 29 := by decide
  have b0 := p2.2.2.2.2.2.2.2.2.2.1
  have b1 := p2.2.2.2.2.2.2.2.2.2.2.1
  have b2 := p2.2.2.2.2.2.2.2.2.2.2.2.1
  have b4 := p2.2.2.2.2.2.2.2.2.2.2.2.2.2
  refine r_aload_n C dX10_money_0 rfl ?_
  refine r_iload_n C dX10_money_1 rfl ?_
  refine r_callV C (c_isMoney hT p2) dX10_money_2 cw_X10_isMoney cvX10_185 (by omega) ok10 rfl hN rfl (Nat.le_of_ble_eq_true rfl) ?_
  rintro v R' h1 ⟨rfl, rfl, rfl⟩
  cases hx : ixO c (gNn g 1) with
  | none =>
    rw [monF, hx, ixB_n hx]
    refine r_if_ne C dX10_money_5 (fun cc => absurd cc (by exact fun z => z rfl)) (fun _ => ?_)
    refine r_ldc C dX10_money_8 kX10_168 ?_
    refine r_iret C hrt dX10_money_10 ?_
    exact ⟨rfl, rfl, hc, Fr.rf⟩
  | some i =>
    obtain ⟨hi, rfl⟩ := ixO_some hx
    rw [monF, hx, ixB_s hx]
    refine r_if_ne C dX10_money_5 (fun _ => ?_) (fun cc => absurd cc (by decide))
    refine r_iload_n C dX10_money_11 rfl ?_
    cases hw : ixO w 3 with
    | none =>
      have hn := ixO_none hw
      refine r_tabOut (tgt := 70) C ⟨dX10_money_12, rfl, by decide⟩ (by omega) ?_
      refine r_ldc C dX10_money_70 kX10_86 ?_
      refine r_iret C hrt dX10_money_72 ?_
      exact ⟨rfl, rfl, hc, Fr.rf⟩
    | some k =>
      obtain ⟨hk, rfl⟩ := ixO_some hw
      rcases (show k = 0 ∨ k = 1 ∨ k = 2 by omega) with rfl | rfl | rfl
      · refine r_tabIn (off := 28) (tgt := 40) C ⟨dX10_money_12, rfl, by decide⟩ (by decide) (by decide) (by decide) ?_
        refine r_aload_n C dX10_money_40 rfl ?_
        refine r_getR C flX10_36 dX10_money_41 ok10 rfl rfl ?_
        refine r_getR C flX10_188 dX10_money_44 (Ok.full (by decide) hS) rfl rfl ?_
        refine r_iload_n C dX10_money_47 rfl ?_
        refine q_ialdV (m := 4) C dX10_money_48 (Ok.full (by decide) hS) rfl rfl (by omega) (p3.2.2.2.2.1 i (by omega)) ?_
        refine r_iret C hrt dX10_money_49 ?_
        exact ⟨rfl, rfl, hc, Fr.rf⟩
      · refine r_tabIn (off := 38) (tgt := 50) C ⟨dX10_money_12, rfl, by decide⟩ (by decide) (by decide) (by decide) ?_
        refine r_aload_n C dX10_money_50 rfl ?_
        refine r_getR C flX10_26 dX10_money_51 ok10 rfl rfl ?_
        refine r_getR C flX10_191 dX10_money_54 (Ok.full (by decide) hT) rfl rfl ?_
        refine r_iload_n C dX10_money_57 rfl ?_
        refine q_ialdV (m := 4) C dX10_money_58 (Ok.full (by decide) hT) rfl rfl (by omega) ((p2.2.2.2.2.2.2.1 i hi).1) ?_
        refine r_iret C hrt dX10_money_59 ?_
        exact ⟨rfl, rfl, hc, Fr.rf⟩
      · refine r_tabIn (off := 48) (tgt := 60) C ⟨dX10_money_12, rfl, by decide⟩ (by decide) (by decide) (by decide) ?_
        refine r_aload_n C dX10_money_60 rfl ?_
        refine r_getR C flX10_26 dX10_money_61 ok10 rfl rfl ?_
        refine r_getR C flX10_194 dX10_money_64 (Ok.full (by decide) hT) rfl rfl ?_
        refine r_iload_n C dX10_money_67 rfl ?_
        refine q_ialdV (m := 4) C dX10_money_68 (Ok.full (by decide) hT) rfl rfl (by omega) ((p2.2.2.2.2.2.2.1 i hi).2) ?_
        refine r_iret C hrt dX10_money_69 ?_
        exact ⟨rfl, rfl, hc, Fr.rf⟩
def pcF (c x : Int32) : Int32 := c * (nI 10 + nI 3 * x) / nI 10
def costF (g : Gs) (q : Int32) : Int32 := match ixO q (gNn g 2) with
  | none => cU
  | some i => pcF (gT g 4 i) (gSv g 3)
set_option maxRecDepth 100000 in
set_option maxHeartbeats 4000000 in
theorem c_priceAt {E : Ev} {a b : Nat} {h : HF} {c x : Int32} : Ct E 0 yX10_priceAt cX10_priceAt 2 (some .int) [aI c, aI x] 243 (Rs a b) h 243 (qst a b h (pcF c x)) := by
  refine Ct.of 0 (L0 := [some (aI c), some (aI x)]) (by decide) ⟨Nat.le_refl _, Nat.le_refl _⟩ rfl rfl ?_
  intro G C hg hrt hnm
  have hN : gn G ≤ 243 ∧ 243 ≤ 243 ∧ 243 ≤ 243 := ⟨by omega, by decide, by decide⟩
  refine r_iload_n C dX10_priceAt_0 rfl ?_
  refine r_bipush (v := (nI 10)) C dX10_priceAt_1 (by decide) ?_
  refine r_iconst (v := (nI 3)) C dX10_priceAt_3 (by decide) ?_
  refine r_iload_n C dX10_priceAt_4 rfl ?_
  refine r_imul C dX10_priceAt_5 ?_
  refine r_iadd C dX10_priceAt_6 ?_
  refine r_imul C dX10_priceAt_7 ?_
  refine r_bipush (v := (nI 10)) C dX10_priceAt_8 (by decide) ?_
  refine r_idiv C dX10_priceAt_10 (by decide) ?_
  refine r_iret C hrt dX10_priceAt_11 ?_
  exact ⟨rfl, rfl, rfl⟩
set_option maxRecDepth 100000 in
set_option maxHeartbeats 4000000 in
theorem c_costs {E : Ev} {a b : Nat} {h : HF} {g : Gs} {q : Int32} (ha : a < 2) (hc : CP h a g) : Ct E 2 yX10_costs cX10_costs 2 (some .int) [aR 10 0, aI q] 243 (Rs a b) h 243 (qry a b g h (costF g q)) := by
  refine Ct.of 0 (L0 := [some (aR 10 0), some (aI q)]) (by decide) ⟨Nat.le_refl _, Nat.le_refl _⟩ rfl rfl ?_
  intro G C hg hrt hnm
  have hN : gn G ≤ 243 ∧ 243 ≤ 243 ∧ 243 ≤ 243 := ⟨by omega, by decide, by decide⟩
  obtain ⟨⟨p1, p1b⟩, p2, ⟨p3, p3b⟩, ⟨nx, p4⟩, p5, ⟨p6, p6b⟩, ⟨p7, p7b⟩⟩ := id hc
  have hT : a < 2 := ha
  have hS : 0 < 23 := by decide
  have hC : 0 < 29 := by decide
  have b0 := p2.2.2.2.2.2.2.2.2.2.1
  have b1 := p2.2.2.2.2.2.2.2.2.2.2.1
  have b2 := p2.2.2.2.2.2.2.2.2.2.2.2.1
  have b4 := p2.2.2.2.2.2.2.2.2.2.2.2.2.2
  refine r_aload_n C dX10_costs_0 rfl ?_
  refine r_iload_n C dX10_costs_1 rfl ?_
  refine r_callV C (c_isGood hT p2) dX10_costs_2 cw_X10_isGood cvX10_235 (by omega) ok10 rfl hN rfl (Nat.le_of_ble_eq_true rfl) ?_
  rintro v R' h1 ⟨rfl, rfl, rfl⟩
  cases hx : ixO q (gNn g 2) with
  | none =>
    rw [costF, hx, ixB_n hx]
    refine r_if_eq C dX10_costs_5 (fun _ => ?_) (fun cc => absurd cc (by exact fun z => z rfl))
    refine r_ldc C dX10_costs_30 kX10_168 ?_
    refine r_iret C hrt dX10_costs_32 ?_
    exact ⟨rfl, rfl, hc, Fr.rf⟩
  | some i =>
    obtain ⟨hi, rfl⟩ := ixO_some hx
    rw [costF, hx, ixB_s hx]
    refine r_if_eq C dX10_costs_5 (fun cc => absurd cc (by decide)) (fun _ => ?_)
    refine r_aload_n C dX10_costs_8 rfl ?_
    refine r_getR C flX10_26 dX10_costs_9 ok10 rfl rfl ?_
    refine r_getR C flX10_238 dX10_costs_12 (Ok.full (by decide) hT) rfl rfl ?_
    refine r_iload_n C dX10_costs_15 rfl ?_
    refine q_ialdV (m := 6) C dX10_costs_16 (Ok.full (by decide) hT) rfl rfl (by omega) (p2.2.2.2.2.2.2.2.1 i hi) ?_
    refine r_aload_n C dX10_costs_17 rfl ?_
    refine r_getR C flX10_36 dX10_costs_18 ok10 rfl rfl ?_
    refine q_getV C flX10_150 dX10_costs_21 (Ok.full (by decide) hS) rfl p3.2.2.1 ?_
    refine r_callS C c_priceAt dX10_costs_24 cw_X10_priceAt csX10_241 (by omega) rfl hN rfl (Nat.le_of_ble_eq_true rfl) ?_
    rintro v R' h2 ⟨rfl, rfl, rfl⟩
    refine r_goto C dX10_costs_27 ?_
    refine r_iret C hrt dX10_costs_32 ?_
    exact ⟨rfl, rfl, hc, Fr.rf⟩
def wwF (o : Int32) : Nat → Int32
  | 0 => 1000000
  | k + 1 => wwF o k * (nI 100 - o) / nI 100
def wwR (g : Gs) (m n : Nat) : Int32 := gT g 2 m * (1000000 - wwF (gSv g 1) n) / nI 1000
set_option maxRecDepth 100000 in
set_option maxHeartbeats 4000000 in
theorem c_worthWithin {E : Ev} {a b m n : Nat} {h : HF} {g : Gs} (ha : a < 2) (hc : CP h a g) (hm : m < gNn g 1) (hn : n < 2 ^ 31) : Ct E 0 yX10_worthWithin cX10_worthWithin 5 (some .int) [aR 10 0, aI (nI m), aI (nI n)] 243 (Rs a b) h 243 (qst a b h (wwR g m n)) := by
  refine Ct.of 2 (L0 := [some (aR 10 0), some (aI (nI m)), some (aI (nI n)), none, none]) (by decide) ⟨Nat.le_refl _, Nat.le_refl _⟩ rfl rfl ?_
  intro G C hg hrt hnm
  have hN : gn G ≤ 243 ∧ 243 ≤ 243 ∧ 243 ≤ 243 := ⟨by omega, by decide, by decide⟩
  obtain ⟨⟨p1, p1b⟩, p2, ⟨p3, p3b⟩, ⟨nx, p4⟩, p5, ⟨p6, p6b⟩, ⟨p7, p7b⟩⟩ := id hc
  have hT : a < 2 := ha
  have hS : 0 < 23 := by decide
  have hC : 0 < 29 := by decide
  have b0 := p2.2.2.2.2.2.2.2.2.2.1
  have b1 := p2.2.2.2.2.2.2.2.2.2.2.1
  have b2 := p2.2.2.2.2.2.2.2.2.2.2.2.1
  have b4 := p2.2.2.2.2.2.2.2.2.2.2.2.2.2
  refine r_ldc C dX10_worthWithin_0 kX10_247 ?_
  refine r_istore_n C dX10_worthWithin_2 st3 ?_
  refine r_iconst (v := (nI 0)) C dX10_worthWithin_3 (by decide) ?_
  refine r_istore C dX10_worthWithin_4 st4 ?_
  have loop : ∀ k i, i + k = n → Wa E G 243 (Rs a b) h (QQ E G 243 (qst a b h (wwR g m n))) 6 [some (aR 10 0), some (aI (nI m)), some (aI (nI n)), some (aI (wwF (gSv g 1) i)), some (aI (nI i))] [] := by
    intro k
    induction k with
    | zero =>
      intro i hi
      have e : i = n := by omega
      subst e
      refine r_iload C dX10_worthWithin_6 rfl ?_
      refine r_iload_n C dX10_worthWithin_8 rfl ?_
      refine r_icmpN_ge C dX10_worthWithin_9 (by omega) (by omega) (fun _ => ?_) (fun cc => absurd cc (by omega))
      refine r_aload_n C dX10_worthWithin_34 rfl ?_
      refine r_getR C flX10_26 dX10_worthWithin_35 ok10 rfl rfl ?_
      refine r_getR C flX10_191 dX10_worthWithin_38 (Ok.full (by decide) hT) rfl rfl ?_
      refine r_iload_n C dX10_worthWithin_41 rfl ?_
      refine q_ialdV (m := 4) C dX10_worthWithin_42 (Ok.full (by decide) hT) rfl rfl (by omega) ((p2.2.2.2.2.2.2.1 m hm).1) ?_
      refine r_ldc C dX10_worthWithin_43 kX10_247 ?_
      refine r_iload_n C dX10_worthWithin_45 rfl ?_
      refine r_isub C dX10_worthWithin_46 ?_
      first | refine r_imulN C dX10_worthWithin_47 ?_ | refine r_imul C dX10_worthWithin_47 ?_
      refine r_sipush (v := (nI 1000)) C dX10_worthWithin_48 (by decide) ?_
      refine r_idiv C dX10_worthWithin_51 (by decide) ?_
      refine r_iret C hrt dX10_worthWithin_52 ?_
      exact ⟨rfl, rfl, rfl⟩
    | succ k ih =>
      intro i hi
      refine r_iload C dX10_worthWithin_6 rfl ?_
      refine r_iload_n C dX10_worthWithin_8 rfl ?_
      refine r_icmpN_ge C dX10_worthWithin_9 (by omega) (by omega) (fun cc => absurd cc (by omega)) (fun _ => ?_)
      refine r_iload_n C dX10_worthWithin_12 rfl ?_
      refine r_bipush (v := (nI 100)) C dX10_worthWithin_13 (by decide) ?_
      refine r_aload_n C dX10_worthWithin_15 rfl ?_
      refine r_getR C flX10_36 dX10_worthWithin_16 ok10 rfl rfl ?_
      refine q_getV C flX10_135 dX10_worthWithin_19 (Ok.full (by decide) hS) rfl p3.2.1 ?_
      refine r_isub C dX10_worthWithin_22 ?_
      first | refine r_imulN C dX10_worthWithin_23 ?_ | refine r_imul C dX10_worthWithin_23 ?_
      refine r_bipush (v := (nI 100)) C dX10_worthWithin_24 (by decide) ?_
      refine r_idiv C dX10_worthWithin_26 (by decide) ?_
      refine r_istore_n C dX10_worthWithin_27 st3 ?_
      first | refine r_iincN C dX10_worthWithin_28 rfl st4 ?_ | refine r_iinc C dX10_worthWithin_28 rfl rfl st4 ?_
      refine r_goto C dX10_worthWithin_31 ?_
      exact ih (i + 1) (by omega)
  exact loop n 0 (by omega)
def promF (g : Gs) (m n : Int32) : Int32 := match ixO m (gNn g 1) with
  | none => cU
  | some i => (match ixO n 61 with | none => cO | some k => wwR g i k)
set_option maxRecDepth 100000 in
set_option maxHeartbeats 4000000 in
theorem c_promise {E : Ev} {a b : Nat} {h : HF} {g : Gs} {m n : Int32} (ha : a < 2) (hc : CP h a g) : Ct E 2 yX10_promise cX10_promise 3 (some .int) [aR 10 0, aI m, aI n] 243 (Rs a b) h 243 (qry a b g h (promF g m n)) := by
  refine Ct.of 0 (L0 := [some (aR 10 0), some (aI m), some (aI n)]) (by decide) ⟨Nat.le_refl _, Nat.le_refl _⟩ rfl rfl ?_
  intro G C hg hrt hnm
  have hN : gn G ≤ 243 ∧ 243 ≤ 243 ∧ 243 ≤ 243 := ⟨by omega, by decide, by decide⟩
  obtain ⟨⟨p1, p1b⟩, p2, ⟨p3, p3b⟩, ⟨nx, p4⟩, p5, ⟨p6, p6b⟩, ⟨p7, p7b⟩⟩ := id hc
  have hT : a < 2 := ha
  have hS : 0 < 23 := by decide
  have hC : 0 < 29 := by decide
  have b0 := p2.2.2.2.2.2.2.2.2.2.1
  have b1 := p2.2.2.2.2.2.2.2.2.2.2.1
  have b2 := p2.2.2.2.2.2.2.2.2.2.2.2.1
  have b4 := p2.2.2.2.2.2.2.2.2.2.2.2.2.2
  refine r_aload_n C dX10_promise_0 rfl ?_
  refine r_iload_n C dX10_promise_1 rfl ?_
  refine r_callV C (c_isMoney hT p2) dX10_promise_2 cw_X10_isMoney cvX10_185 (by omega) ok10 rfl hN rfl (Nat.le_of_ble_eq_true rfl) ?_
  rintro v R' h1 ⟨rfl, rfl, rfl⟩
  cases hx : ixO m (gNn g 1) with
  | none =>
    rw [promF, hx, ixB_n hx]
    refine r_if_ne C dX10_promise_5 (fun cc => absurd cc (by exact fun z => z rfl)) (fun _ => ?_)
    refine r_ldc C dX10_promise_8 kX10_168 ?_
    refine r_iret C hrt dX10_promise_10 ?_
    exact ⟨rfl, rfl, hc, Fr.rf⟩
  | some i =>
    obtain ⟨hi, rfl⟩ := ixO_some hx
    rw [promF, hx, ixB_s hx]
    refine r_if_ne C dX10_promise_5 (fun _ => ?_) (fun cc => absurd cc (by decide))
    refine r_iload_n C dX10_promise_11 rfl ?_
    refine r_iconst (v := (nI 0)) C dX10_promise_12 (by decide) ?_
    refine r_bipush (v := (nI 60)) C dX10_promise_13 (by decide) ?_
    refine r_callS C c_isWithin dX10_promise_15 cw_X10_isWithin csX10_82 (by omega) rfl hN rfl (Nat.le_of_ble_eq_true rfl) ?_
    rintro v R' h2 ⟨rfl, rfl, rfl⟩
    rw [show nI 60 = nI (61 - 1) from rfl, ix_lit (by decide) (by decide)]
    cases hn : ixO n 61 with
    | none =>
      rw [ixB_n hn]
      refine r_if_ne C dX10_promise_18 (fun cc => absurd cc (by exact fun z => z rfl)) (fun _ => ?_)
      refine r_ldc C dX10_promise_21 kX10_86 ?_
      refine r_iret C hrt dX10_promise_23 ?_
      exact ⟨rfl, rfl, hc, Fr.rf⟩
    | some k =>
      obtain ⟨hk, rfl⟩ := ixO_some hn
      rw [ixB_s hn]
      refine r_if_ne C dX10_promise_18 (fun _ => ?_) (fun cc => absurd cc (by decide))
      refine r_aload_n C dX10_promise_24 rfl ?_
      refine r_iload_n C dX10_promise_25 rfl ?_
      refine r_iload_n C dX10_promise_26 rfl ?_
      refine r_callV C (c_worthWithin ha hc hi (by omega)) dX10_promise_27 cw_X10_worthWithin cvX10_244 (by omega) ok10 rfl hN rfl (Nat.le_of_ble_eq_true rfl) ?_
      rintro v R' h3 ⟨rfl, rfl, rfl⟩
      refine r_iret C hrt dX10_promise_30 ?_
      exact ⟨rfl, rfl, hc, Fr.rf⟩
def offF (g : Gs) (v x : Int32) : Int32 := if (nI 1 ≤ v ∧ v ≤ nI 999) ∧ (nI 0 ≤ x ∧ x ≤ 99999999) then (if gNn g 1 = 0 then cN else if x ≤ v * wwR g 0 9 then nI 0 else nI 1) else cO
set_option maxRecDepth 100000 in
set_option maxHeartbeats 4000000 in
theorem c_offer {E : Ev} {a b : Nat} {h : HF} {g : Gs} {v x : Int32} (ha : a < 2) (hc : CP h a g) : Ct E 1 yX10_offer cX10_offer 3 (some .int) [aR 10 0, aI v, aI x] 243 (Rs a b) h 243 (qry a b g h (offF g v x)) := by
  refine Ct.of 0 (L0 := [some (aR 10 0), some (aI v), some (aI x)]) (by decide) ⟨Nat.le_refl _, Nat.le_refl _⟩ rfl rfl ?_
  intro G C hg hrt hnm
  have hN : gn G ≤ 243 ∧ 243 ≤ 243 ∧ 243 ≤ 243 := ⟨by omega, by decide, by decide⟩
  obtain ⟨⟨p1, p1b⟩, p2, ⟨p3, p3b⟩, ⟨nx, p4⟩, p5, ⟨p6, p6b⟩, ⟨p7, p7b⟩⟩ := id hc
  have hT : a < 2 := ha
  have hS : 0 < 23 := by decide
  have hC : 0 < 29 := by decide
  have b0 := p2.2.2.2.2.2.2.2.2.2.1
  have b1 := p2.2.2.2.2.2.2.2.2.2.2.1
  have b2 := p2.2.2.2.2.2.2.2.2.2.2.2.1
  have b4 := p2.2.2.2.2.2.2.2.2.2.2.2.2.2
  refine r_iload_n C dX10_offer_0 rfl ?_
  refine r_iconst (v := (nI 1)) C dX10_offer_1 (by decide) ?_
  refine r_sipush (v := (nI 999)) C dX10_offer_2 (by decide) ?_
  refine r_callS C c_isWithin dX10_offer_5 cw_X10_isWithin csX10_82 (by omega) rfl hN rfl (Nat.le_of_ble_eq_true rfl) ?_
  rintro v2 R' h1 ⟨rfl, rfl, rfl⟩
  by_cases hv : nI 1 ≤ v ∧ v ≤ nI 999
  · rw [if_pos hv]
    refine r_if_eq C dX10_offer_8 (fun cc => absurd cc (by decide)) (fun _ => ?_)
    refine r_iload_n C dX10_offer_11 rfl ?_
    refine r_iconst (v := (nI 0)) C dX10_offer_12 (by decide) ?_
    refine r_ldcw C dX10_offer_13 kX10_283 ?_
    refine r_callS C c_isWithin dX10_offer_16 cw_X10_isWithin csX10_82 (by omega) rfl hN rfl (Nat.le_of_ble_eq_true rfl) ?_
    rintro v2 R' h2 ⟨rfl, rfl, rfl⟩
    by_cases hx : nI 0 ≤ x ∧ x ≤ 99999999
    · rw [if_pos hx, offF, if_pos ⟨hv, hx⟩]
      refine r_if_ne C dX10_offer_19 (fun _ => ?_) (fun cc => absurd cc (by decide))
      refine r_aload_n C dX10_offer_25 rfl ?_
      refine r_getR C flX10_26 dX10_offer_26 ok10 rfl rfl ?_
      refine q_getV C flX10_138 dX10_offer_29 (Ok.full (by decide) hT) rfl p2.2.1 ?_
      by_cases hk : gNn g 1 = 0
      · have hk2 : gNn g 1 = 0 := hk
        rw [hk2, if_pos rfl]
        refine r_if_ne C dX10_offer_32 (fun cc => absurd cc (by exact fun z => z rfl)) (fun _ => ?_)
        refine r_ldc C dX10_offer_35 kX10_213 ?_
        refine r_iret C hrt dX10_offer_37 ?_
        exact ⟨rfl, rfl, hc, Fr.rf⟩
      · rw [if_neg hk]
        refine r_if_ne C dX10_offer_32 (fun _ => ?_) (fun cc => absurd cc (by exact fun z => nI_ne0 (by omega) (by omega) z))
        refine r_iload_n C dX10_offer_38 rfl ?_
        refine r_iload_n C dX10_offer_39 rfl ?_
        refine r_aload_n C dX10_offer_40 rfl ?_
        refine r_iconst (v := (nI 0)) C dX10_offer_41 (by decide) ?_
        refine r_bipush (v := (nI 9)) C dX10_offer_42 (by decide) ?_
        refine r_callV C (c_worthWithin ha hc (by omega) (by decide)) dX10_offer_44 cw_X10_worthWithin cvX10_244 (by omega) ok10 rfl hN rfl (Nat.le_of_ble_eq_true rfl) ?_
        rintro v2 R' h3 ⟨rfl, rfl, rfl⟩
        refine r_imul C dX10_offer_47 ?_
        refine r_icmp_le C dX10_offer_48 (fun c48 => ?_) (fun c48 => ?_)
        · rw [if_pos c48]
          refine r_iconst (v := (nI 0)) C dX10_offer_55 (by decide) ?_
          refine r_iret C hrt dX10_offer_56 ?_
          exact ⟨rfl, rfl, hc, Fr.rf⟩
        · rw [if_neg c48]
          refine r_iconst (v := (nI 1)) C dX10_offer_51 (by decide) ?_
          refine r_goto C dX10_offer_52 ?_
          refine r_iret C hrt dX10_offer_56 ?_
          exact ⟨rfl, rfl, hc, Fr.rf⟩
    · rw [if_neg hx, offF, if_neg (fun z => hx z.2)]
      refine r_if_ne C dX10_offer_19 (fun cc => absurd cc (by exact fun z => z rfl)) (fun _ => ?_)
      refine r_ldc C dX10_offer_22 kX10_86 ?_
      refine r_iret C hrt dX10_offer_24 ?_
      exact ⟨rfl, rfl, hc, Fr.rf⟩
  · rw [if_neg hv, offF, if_neg (fun z => hv z.1)]
    refine r_if_eq C dX10_offer_8 (fun _ => ?_) (fun cc => absurd cc (by exact fun z => z rfl))
    refine r_ldc C dX10_offer_22 kX10_86 ?_
    refine r_iret C hrt dX10_offer_24 ?_
    exact ⟨rfl, rfl, hc, Fr.rf⟩
def owedF (g : Gs) (c r : Int32) : Int32 := match ixO c (gNn g 0) with
  | none => cU
  | some i => (match ixO r 3 with | none => cO | some k => owF (gT g) (gSv g) i k (gNn g 1))
set_option maxRecDepth 100000 in
set_option maxHeartbeats 4000000 in
theorem c_owed {E : Ev} {a b : Nat} {h : HF} {g : Gs} {c r : Int32} (ha : a < 2) (hc : CP h a g) : Ct E 2 yX10_owed cX10_owed 3 (some .int) [aR 10 0, aI c, aI r] 243 (Rs a b) h 243 (qry a b g h (owedF g c r)) := by
  refine Ct.of 0 (L0 := [some (aR 10 0), some (aI c), some (aI r)]) (by decide) ⟨Nat.le_refl _, Nat.le_refl _⟩ rfl rfl ?_
  intro G C hg hrt hnm
  have hN : gn G ≤ 243 ∧ 243 ≤ 243 ∧ 243 ≤ 243 := ⟨by omega, by decide, by decide⟩
  obtain ⟨⟨p1, p1b⟩, p2, ⟨p3, p3b⟩, ⟨nx, p4⟩, p5, ⟨p6, p6b⟩, ⟨p7, p7b⟩⟩ := id hc
  have hT : a < 2 := ha
  have hS : 0 < 23 := by decide
  have hC : 0 < 29 := by decide
  have b0 := p2.2.2.2.2.2.2.2.2.2.1
  have b1 := p2.2.2.2.2.2.2.2.2.2.2.1
  have b2 := p2.2.2.2.2.2.2.2.2.2.2.2.1
  have b4 := p2.2.2.2.2.2.2.2.2.2.2.2.2.2
  refine r_aload_n C dX10_owed_0 rfl ?_
  refine r_iload_n C dX10_owed_1 rfl ?_
  refine r_callV C (c_isCompany hT p2) dX10_owed_2 cw_X10_isCompany cvX10_164 (by omega) ok10 rfl hN rfl (Nat.le_of_ble_eq_true rfl) ?_
  rintro v R' h1 ⟨rfl, rfl, rfl⟩
  cases hx : ixO c (gNn g 0) with
  | none =>
    rw [owedF, hx, ixB_n hx]
    refine r_if_ne C dX10_owed_5 (fun cc => absurd cc (by exact fun z => z rfl)) (fun _ => ?_)
    refine r_ldc C dX10_owed_8 kX10_168 ?_
    refine r_iret C hrt dX10_owed_10 ?_
    exact ⟨rfl, rfl, hc, Fr.rf⟩
  | some i =>
    obtain ⟨hi, rfl⟩ := ixO_some hx
    rw [owedF, hx, ixB_s hx]
    refine r_if_ne C dX10_owed_5 (fun _ => ?_) (fun cc => absurd cc (by decide))
    refine r_iload_n C dX10_owed_11 rfl ?_
    refine r_callS C c_isReading dX10_owed_12 cw_X10_isReading csX10_269 (by omega) rfl hN rfl (Nat.le_of_ble_eq_true rfl) ?_
    rintro v R' h2 ⟨rfl, rfl, rfl⟩
    cases hn : ixO r 3 with
    | none =>
      rw [ixB_n hn]
      refine r_if_eq C dX10_owed_15 (fun _ => ?_) (fun cc => absurd cc (by exact fun z => z rfl))
      refine r_ldc C dX10_owed_34 kX10_86 ?_
      refine r_iret C hrt dX10_owed_36 ?_
      exact ⟨rfl, rfl, hc, Fr.rf⟩
    | some k =>
      obtain ⟨hk, rfl⟩ := ixO_some hn
      rw [ixB_s hn]
      refine r_if_eq C dX10_owed_15 (fun cc => absurd cc (by decide)) (fun _ => ?_)
      refine r_aload_n C dX10_owed_18 rfl ?_
      refine r_getR C flX10_36 dX10_owed_19 ok10 rfl rfl ?_
      refine r_aload_n C dX10_owed_22 rfl ?_
      refine r_getR C flX10_26 dX10_owed_23 ok10 rfl rfl ?_
      refine r_iload_n C dX10_owed_26 rfl ?_
      refine r_iload_n C dX10_owed_27 rfl ?_
      refine r_callV C (c_owedTo hS hT p2 p3 (by omega) hk) dX10_owed_28 cw_X6_owedTo cvX10_272 (by omega) (Ok.full (by decide) hS) rfl hN rfl (Nat.le_of_ble_eq_true rfl) ?_
      rintro v R' h3 ⟨rfl, rfl, rfl⟩
      refine r_goto C dX10_owed_31 ?_
      refine r_iret C hrt dX10_owed_36 ?_
      exact ⟨rfl, rfl, hc, Fr.rf⟩
set_option maxRecDepth 100000 in
set_option maxHeartbeats 4000000 in
theorem c_forged {E : Ev} {a b : Nat} {h : HF} {g : Gs} (ha : a < 2) (hc : CP h a g) : Ct E 2 yX10_forged cX10_forged 1 (some .int) [aR 10 0] 243 (Rs a b) h 243 (qry a b g h (fgF (gT g) (gSh g).2.1 (gSh g).2.2.1 (gSh g).2.2.2.1 (gSh g).2.2.2.2 (gSh g).1)) := by
  refine Ct.of 0 (L0 := [some (aR 10 0)]) (by decide) ⟨Nat.le_refl _, Nat.le_refl _⟩ rfl rfl ?_
  intro G C hg hrt hnm
  have hN : gn G ≤ 243 ∧ 243 ≤ 243 ∧ 243 ≤ 243 := ⟨by omega, by decide, by decide⟩
  obtain ⟨⟨p1, p1b⟩, p2, ⟨p3, p3b⟩, ⟨nx, p4⟩, p5, ⟨p6, p6b⟩, ⟨p7, p7b⟩⟩ := id hc
  have hT : a < 2 := ha
  have hS : 0 < 23 := by decide
  have hC : 0 < 29 := by decide
  have b0 := p2.2.2.2.2.2.2.2.2.2.1
  have b1 := p2.2.2.2.2.2.2.2.2.2.2.1
  have b2 := p2.2.2.2.2.2.2.2.2.2.2.2.1
  have b4 := p2.2.2.2.2.2.2.2.2.2.2.2.2.2
  refine r_aload_n C dX10_forged_0 rfl ?_
  refine r_getR C flX10_63 dX10_forged_1 ok10 rfl rfl ?_
  refine r_aload_n C dX10_forged_4 rfl ?_
  refine r_getR C flX10_26 dX10_forged_5 ok10 rfl rfl ?_
  refine r_callV C (c_forgedOnes hT p2 p6 p6b) dX10_forged_8 cw_X5_forgedOnes cvX10_288 (by omega) ok5 rfl hN rfl (Nat.le_of_ble_eq_true rfl) ?_
  rintro v R' h1 ⟨rfl, rfl, rfl⟩
  refine r_iret C hrt dX10_forged_11 ?_
  exact ⟨rfl, rfl, hc, Fr.rf⟩
set_option maxRecDepth 100000 in
set_option maxHeartbeats 4000000 in
theorem c_weighFirst {E : Ev} {a b : Nat} {h : HF} {g : Gs} (ha : a < 2) (hc : CP h a g) : Ct E 2 yX10_weighFirst cX10_weighFirst 1 (some .int) [aR 10 0] 243 (Rs a b) h 243 (qry a b g h (opI (wbF (fun m => wcF (gSh g).2.1 (gSh g).2.2.1 (gSh g).2.2.2.1 m (gSh g).1) (gNn g 1)))) := by
  refine Ct.of 0 (L0 := [some (aR 10 0)]) (by decide) ⟨Nat.le_refl _, Nat.le_refl _⟩ rfl rfl ?_
  intro G C hg hrt hnm
  have hN : gn G ≤ 243 ∧ 243 ≤ 243 ∧ 243 ≤ 243 := ⟨by omega, by decide, by decide⟩
  obtain ⟨⟨p1, p1b⟩, p2, ⟨p3, p3b⟩, ⟨nx, p4⟩, p5, ⟨p6, p6b⟩, ⟨p7, p7b⟩⟩ := id hc
  have hT : a < 2 := ha
  have hS : 0 < 23 := by decide
  have hC : 0 < 29 := by decide
  have b0 := p2.2.2.2.2.2.2.2.2.2.1
  have b1 := p2.2.2.2.2.2.2.2.2.2.2.1
  have b2 := p2.2.2.2.2.2.2.2.2.2.2.2.1
  have b4 := p2.2.2.2.2.2.2.2.2.2.2.2.2.2
  refine r_aload_n C dX10_weighFirst_0 rfl ?_
  refine r_getR C flX10_63 dX10_weighFirst_1 ok10 rfl rfl ?_
  refine r_aload_n C dX10_weighFirst_4 rfl ?_
  refine r_getR C flX10_26 dX10_weighFirst_5 ok10 rfl rfl ?_
  refine r_callV C (c_kindToWeigh hT p2 p6 p6b) dX10_weighFirst_8 cw_X5_kindToWeigh cvX10_292 (by omega) ok5 rfl hN rfl (Nat.le_of_ble_eq_true rfl) ?_
  rintro v R' h1 ⟨rfl, rfl, hf⟩
  refine r_iret C hrt dX10_weighFirst_11 ?_
  exact ⟨rfl, rfl, hc.q (hf.wk s22_sQ), hf.wk (fun k j z => sQ_sXc k j (s22_sQ k j z))⟩
set_option maxRecDepth 100000 in
set_option maxHeartbeats 4000000 in
theorem c_judge {E : Ev} {a b : Nat} {h : HF} {g : Gs} (ha : a < 2) (hc : CP h a g) : Ct E 1 yX10_judge cX10_judge 1 (some .int) [aR 10 0] 243 (Rs a b) h 243 (qry a b g h (bwF (gSv g) (gBk g).2.1 (gBk g).2.2 (gBk g).1 0)) := by
  refine Ct.of 0 (L0 := [some (aR 10 0)]) (by decide) ⟨Nat.le_refl _, Nat.le_refl _⟩ rfl rfl ?_
  intro G C hg hrt hnm
  have hN : gn G ≤ 243 ∧ 243 ≤ 243 ∧ 243 ≤ 243 := ⟨by omega, by decide, by decide⟩
  obtain ⟨⟨p1, p1b⟩, p2, ⟨p3, p3b⟩, ⟨nx, p4⟩, p5, ⟨p6, p6b⟩, ⟨p7, p7b⟩⟩ := id hc
  have hT : a < 2 := ha
  have hS : 0 < 23 := by decide
  have hC : 0 < 29 := by decide
  have b0 := p2.2.2.2.2.2.2.2.2.2.1
  have b1 := p2.2.2.2.2.2.2.2.2.2.2.1
  have b2 := p2.2.2.2.2.2.2.2.2.2.2.2.1
  have b4 := p2.2.2.2.2.2.2.2.2.2.2.2.2.2
  refine r_aload_n C dX10_judge_0 rfl ?_
  refine r_getR C flX10_70 dX10_judge_1 ok10 rfl rfl ?_
  refine r_aload_n C dX10_judge_4 rfl ?_
  refine r_getR C flX10_36 dX10_judge_5 ok10 rfl rfl ?_
  refine r_getR C flX10_126 dX10_judge_8 (Ok.full (by decide) hS) rfl rfl ?_
  refine r_callV C (c_firstWrong hC p3.1 p7 (fun i hi => by have := p7b i hi; omega)) dX10_judge_11 cw_X0_firstWrong cvX10_298 (by omega) ok0 rfl hN rfl (Nat.le_of_ble_eq_true rfl) ?_
  rintro v R' h1 ⟨rfl, rfl, rfl⟩
  refine r_iret C hrt dX10_judge_14 ?_
  exact ⟨rfl, rfl, hc, Fr.rf⟩
def fdesF (g : Gs) (q : Int32) : Int32 := match ixO q 4 with
  | none => cO
  | some k => if gNn g 4 = 0 then cN else fdsF (gNn g) (gT g) (nI k) 60 (gSv g)
def holdF (g : Gs) (q : Int32) : Int32 := match ixO q 4 with
  | none => cO
  | some k => if gNn g 4 = 0 then cN else nI (hdF (gNn g) (gT g) (nI k) 60 (gSv g))

set_option maxRecDepth 100000 in
set_option maxHeartbeats 4000000 in
theorem c_firstToDesert {E : Ev} {a b : Nat} {h : HF} {g : Gs} {q : Int32} (ha : a < 2) (hc : CP h a g) : Ct E 4 yX10_firstToDesert cX10_firstToDesert 2 (some .int) [aR 10 0, aI q] 243 (Rs a b) h 243 (qry a b g h (fdesF g q)) := by
  refine Ct.of 0 (L0 := [some (aR 10 0), some (aI q)]) (by decide) ⟨Nat.le_refl _, Nat.le_refl _⟩ rfl rfl ?_
  intro G C hg hrt hnm
  have hN : gn G ≤ 243 ∧ 243 ≤ 243 ∧ 243 ≤ 243 := ⟨by omega, by decide, by decide⟩
  obtain ⟨⟨p1, p1b⟩, p2, ⟨p3, p3b⟩, ⟨nx, p4⟩, p5, ⟨p6, p6b⟩, ⟨p7, p7b⟩⟩ := id hc
  have hT : a < 2 := ha
  have hS : 0 < 23 := by decide
  have hC : 0 < 29 := by decide
  have b0 := p2.2.2.2.2.2.2.2.2.2.1
  have b1 := p2.2.2.2.2.2.2.2.2.2.2.1
  have b2 := p2.2.2.2.2.2.2.2.2.2.2.2.1
  have b4 := p2.2.2.2.2.2.2.2.2.2.2.2.2.2
  refine r_iload_n C dX10_firstToDesert_0 rfl ?_
  refine r_callS C c_isRation dX10_firstToDesert_1 cw_X10_isRation csX10_232 (by omega) rfl hN rfl (Nat.le_of_ble_eq_true rfl) ?_
  rintro v R' h1 ⟨rfl, rfl, rfl⟩
  cases hx : ixO q 4 with
  | none =>
    rw [fdesF, hx, ixB_n hx]
    refine r_if_ne C dX10_firstToDesert_4 (fun cc => absurd cc (by exact fun z => z rfl)) (fun _ => ?_)
    refine r_ldc C dX10_firstToDesert_7 kX10_86 ?_
    refine r_iret C hrt dX10_firstToDesert_9 ?_
    exact ⟨rfl, rfl, hc, Fr.rf⟩
  | some i =>
    obtain ⟨hi, rfl⟩ := ixO_some hx
    rw [fdesF, hx, ixB_s hx]
    refine r_if_ne C dX10_firstToDesert_4 (fun _ => ?_) (fun cc => absurd cc (by decide))
    refine r_aload_n C dX10_firstToDesert_10 rfl ?_
    refine r_getR C flX10_26 dX10_firstToDesert_11 ok10 rfl rfl ?_
    refine q_getV C flX10_161 dX10_firstToDesert_14 (Ok.full (by decide) hT) rfl p2.2.2.2.2.1 ?_
    show Wa E G 243 (Rs a b) _ (QQ E G 243 (qry a b g _ (if gNn g 4 = 0 then _ else _))) _ _ _
    by_cases hq4 : gNn g 4 = 0
    · have hN2 : gNn g 4 = 0 := hq4
      rw [if_pos hq4, hN2]
      refine r_if_eq C dX10_firstToDesert_17 (fun _ => ?_) (fun cc => absurd cc (by exact fun z => z rfl))
      refine r_ldc C dX10_firstToDesert_42 kX10_213 ?_
      refine r_iret C hrt dX10_firstToDesert_44 ?_
      exact ⟨rfl, rfl, hc, Fr.rf⟩
    · rw [if_neg hq4]
      refine r_if_eq C dX10_firstToDesert_17 (fun cc => absurd cc (by exact nI_ne0 (by omega) (by omega))) (fun _ => ?_)
      refine r_aload_n C dX10_firstToDesert_20 rfl ?_
      refine r_getR C flX10_56 dX10_firstToDesert_21 ok10 rfl rfl ?_
      refine r_aload_n C dX10_firstToDesert_24 rfl ?_
      refine r_getR C flX10_26 dX10_firstToDesert_25 ok10 rfl rfl ?_
      refine r_aload_n C dX10_firstToDesert_28 rfl ?_
      refine r_getR C flX10_36 dX10_firstToDesert_29 ok10 rfl rfl ?_
      refine r_getR C flX10_126 dX10_firstToDesert_32 (Ok.full (by decide) hS) rfl rfl ?_
      refine r_iload_n C dX10_firstToDesert_35 rfl ?_
      refine r_callV C (c_firstDeserter hT p2 p3.1) dX10_firstToDesert_36 cw_X9_firstDeserter cvX10_262 (by omega) ok9 rfl hN rfl (Nat.le_of_ble_eq_true rfl) ?_
      rintro v R' h2 ⟨rfl, rfl, hf⟩
      refine r_goto C dX10_firstToDesert_39 ?_
      refine r_iret C hrt dX10_firstToDesert_44 ?_
      exact ⟨rfl, rfl, hc.q (hf.wk sTr_sQ), hf.wk (fun k j z => sQ_sXc k j (sTr_sQ k j z))⟩
set_option maxRecDepth 100000 in
set_option maxHeartbeats 4000000 in
theorem c_holds {E : Ev} {a b : Nat} {h : HF} {g : Gs} {q : Int32} (ha : a < 2) (hc : CP h a g) : Ct E 4 yX10_holds cX10_holds 2 (some .int) [aR 10 0, aI q] 243 (Rs a b) h 243 (qry a b g h (holdF g q)) := by
  refine Ct.of 0 (L0 := [some (aR 10 0), some (aI q)]) (by decide) ⟨Nat.le_refl _, Nat.le_refl _⟩ rfl rfl ?_
  intro G C hg hrt hnm
  have hN : gn G ≤ 243 ∧ 243 ≤ 243 ∧ 243 ≤ 243 := ⟨by omega, by decide, by decide⟩
  obtain ⟨⟨p1, p1b⟩, p2, ⟨p3, p3b⟩, ⟨nx, p4⟩, p5, ⟨p6, p6b⟩, ⟨p7, p7b⟩⟩ := id hc
  have hT : a < 2 := ha
  have hS : 0 < 23 := by decide
  have hC : 0 < 29 := by decide
  have b0 := p2.2.2.2.2.2.2.2.2.2.1
  have b1 := p2.2.2.2.2.2.2.2.2.2.2.1
  have b2 := p2.2.2.2.2.2.2.2.2.2.2.2.1
  have b4 := p2.2.2.2.2.2.2.2.2.2.2.2.2.2
  refine r_iload_n C dX10_holds_0 rfl ?_
  refine r_callS C c_isRation dX10_holds_1 cw_X10_isRation csX10_232 (by omega) rfl hN rfl (Nat.le_of_ble_eq_true rfl) ?_
  rintro v R' h1 ⟨rfl, rfl, rfl⟩
  cases hx : ixO q 4 with
  | none =>
    rw [holdF, hx, ixB_n hx]
    refine r_if_ne C dX10_holds_4 (fun cc => absurd cc (by exact fun z => z rfl)) (fun _ => ?_)
    refine r_ldc C dX10_holds_7 kX10_86 ?_
    refine r_iret C hrt dX10_holds_9 ?_
    exact ⟨rfl, rfl, hc, Fr.rf⟩
  | some i =>
    obtain ⟨hi, rfl⟩ := ixO_some hx
    rw [holdF, hx, ixB_s hx]
    refine r_if_ne C dX10_holds_4 (fun _ => ?_) (fun cc => absurd cc (by decide))
    refine r_aload_n C dX10_holds_10 rfl ?_
    refine r_getR C flX10_26 dX10_holds_11 ok10 rfl rfl ?_
    refine q_getV C flX10_161 dX10_holds_14 (Ok.full (by decide) hT) rfl p2.2.2.2.2.1 ?_
    show Wa E G 243 (Rs a b) _ (QQ E G 243 (qry a b g _ (if gNn g 4 = 0 then _ else _))) _ _ _
    by_cases hq4 : gNn g 4 = 0
    · have hN2 : gNn g 4 = 0 := hq4
      rw [if_pos hq4, hN2]
      refine r_if_eq C dX10_holds_17 (fun _ => ?_) (fun cc => absurd cc (by exact fun z => z rfl))
      refine r_ldc C dX10_holds_42 kX10_213 ?_
      refine r_iret C hrt dX10_holds_44 ?_
      exact ⟨rfl, rfl, hc, Fr.rf⟩
    · rw [if_neg hq4]
      refine r_if_eq C dX10_holds_17 (fun cc => absurd cc (by exact nI_ne0 (by omega) (by omega))) (fun _ => ?_)
      refine r_aload_n C dX10_holds_20 rfl ?_
      refine r_getR C flX10_56 dX10_holds_21 ok10 rfl rfl ?_
      refine r_aload_n C dX10_holds_24 rfl ?_
      refine r_getR C flX10_26 dX10_holds_25 ok10 rfl rfl ?_
      refine r_aload_n C dX10_holds_28 rfl ?_
      refine r_getR C flX10_36 dX10_holds_29 ok10 rfl rfl ?_
      refine r_getR C flX10_126 dX10_holds_32 (Ok.full (by decide) hS) rfl rfl ?_
      refine r_iload_n C dX10_holds_35 rfl ?_
      refine r_callV C (c_daysWithMen hT p2 p3.1) dX10_holds_36 cw_X9_daysWithMen cvX10_266 (by omega) ok9 rfl hN rfl (Nat.le_of_ble_eq_true rfl) ?_
      rintro v R' h2 ⟨rfl, rfl, hf⟩
      refine r_goto C dX10_holds_39 ?_
      refine r_iret C hrt dX10_holds_44 ?_
      exact ⟨rfl, rfl, hc.q (hf.wk sTr_sQ), hf.wk (fun k j z => sQ_sXc k j (sTr_sQ k j z))⟩
