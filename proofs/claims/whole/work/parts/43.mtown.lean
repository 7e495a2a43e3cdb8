def caP (a b : Nat) (h : HF) (r : Pr) : Option AV → RF → HF → Prop := fun v R' h' => R' = Rs a b ∧ (r.2.2.2.1 = 0 → v = some (aI (nI 1)) ∧ h' 11 0 17 = nI r.1 ∧ mrd h' r.2.1 r.2.2.1 ∧ Fs sRo h h') ∧ (r.2.2.2.1 ≠ 0 → v = some (aI (nI 0)) ∧ h' 11 0 20 = nI r.2.2.2.1 ∧ h' 11 0 21 = nI r.2.2.2.2 ∧ Fs sRm h h')
theorem ca_ok {a b p pl : Nat} {h h' : HF} {N : Nat → Nat} {T : Tv} (h1 : h' 11 0 17 = nI p) (h2 : mrd h' N T) (h3 : Fs sRo h h') : caP a b h (p, N, T, 0, pl) (some (aI (nI 1))) (Rs a b) h' := ⟨rfl, fun _ => ⟨rfl, h1, h2, h3⟩, fun z => absurd rfl z⟩
theorem ca_no {a b p ft pl : Nat} {h h' : HF} {N : Nat → Nat} {T : Tv} (hft : ft ≠ 0) (h1 : h' 11 0 20 = nI ft) (h2 : h' 11 0 21 = nI pl) (h3 : Fs sRm h h') : caP a b h (p, N, T, ft, pl) (some (aI (nI 0))) (Rs a b) h' := ⟨rfl, fun z => absurd z hft, fun _ => ⟨rfl, h1, h2, h3⟩⟩
set_option maxRecDepth 100000 in
set_option maxHeartbeats 4000000 in
theorem m_takesClause {E : Ev} {a b n p : Nat} {h : HF} {X : Nat → Int32} {N : Nat → Nat} {T : Tv} (hx : mtx h n X) (ha : h 11 0 17 = nI p) (hp : p ≤ n) (hlt : skN X n p < n) (hm : mrd h N T) : Ct E 5 yX11_takesClause cX11_takesClause 4 (some .boolean) [aR 11 0] 243 (Rs a b) h 243 (caP a b h (clsF X n (skN X n p) N T)) := by
  refine Ct.of 3 (L0 := [some (aR 11 0), none, none, none]) (by decide) ⟨Nat.le_refl _, Nat.le_refl _⟩ rfl rfl ?_
  intro G C hg hrt hnm
  have hN : gn G ≤ 243 ∧ 243 ≤ 243 ∧ 243 ≤ 243 := ⟨by omega, by decide, by decide⟩
  have b4 := hm.2.2.2.2.2.2.2.2.2.2.2.2.2.2.2
  have b0 := hm.2.2.2.2.2.2.2.2.2.2.2.1
  have b1 := hm.2.2.2.2.2.2.2.2.2.2.2.2.1
  have b2 := hm.2.2.2.2.2.2.2.2.2.2.2.2.2.1
  have b3 := hm.2.2.2.2.2.2.2.2.2.2.2.2.2.2.1
  refine r_aload_n C dX11_takesClause_0 rfl ?_
  refine r_callV C (m_here hx ha hp) dX11_takesClause_1 cw_X11_here cvX11_117 (by omega) ok11 rfl hN rfl (Nat.le_of_ble_eq_true rfl) ?_
  rintro v R' h1 ⟨rfl, rfl, a1, a2, f1⟩
  generalize hP : skN X n p = P at a1 a2 hlt ⊢
  rw [lt_in hlt]
  have fo : Fs sRo h h1 := (f1.wk sHr_sNo).wk sNo_sRo
  have hm1 : mrd h1 N T := mrd.no (f1.wk sHr_sNo) hm
  have nw : (ccF (X P) = 5 ∨ (N 4 = 0 ∧ ccF (X P) ≠ 0)) → Wa E G 243 (Rs a b) h1 (QQ E G 243 (caP a b h (clsF X n P N T))) 46 [some (aR 11 0), some (aI (X P)), none, none] [] := by
    intro hc
    rw [show clsF X n P N T = (P, N, T, 1, P) by rw [clsF, if_pos hc]]
    refine r_iconst (v := (nI 0)) C dX11_takesClause_46 (by decide) ?_
    refine r_istore_n C dX11_takesClause_47 st2 ?_
    refine r_iload_n C dX11_takesClause_48 rfl ?_
    refine r_if_ne C dX11_takesClause_49 (fun cc => absurd cc (by exact fun z => z rfl)) (fun _ => ?_)
    refine r_aload_n C dX11_takesClause_52 rfl ?_
    refine r_iconst (v := (nI 1)) C dX11_takesClause_53 (by decide) ?_
    refine r_aload_n C dX11_takesClause_54 rfl ?_
    refine q_getV C flX11_111 dX11_takesClause_55 ok11 rfl a2 ?_
    refine r_callV C m_fails dX11_takesClause_58 cw_X11_fails cvX11_121 (by omega) ok11 rfl hN rfl (Nat.le_of_ble_eq_true rfl) ?_
    rintro v R' h2 ⟨rfl, rfl, rfl⟩
    refine r_zret C hrt dX11_takesClause_61 (by decide) ?_
    exact ca_no (by decide) (by rw [put_i (by decide)]; exact put_same) put_same (((fo.wk sRo_sRm).put rfl).put rfl)
  have go : ∀ cl, cl < 5 → ccF (X P) = cl → ¬ (N 4 = 0 ∧ cl ≠ 0) → ∀ f, f = (if fulF N cl = true then nI 1 else nI 0) → Wa E G 243 (Rs a b) h1 (QQ E G 243 (caP a b h (clsF X n P N T))) 155 [some (aR 11 0), some (aI (X P)), some (aI (nI 1)), none] [aI f] := by
    intro cl hcl hcc hnt f hf
    subst hf
    have hnw : ¬ (cl = 5 ∨ (N 4 = 0 ∧ cl ≠ 0)) := fun z => z.elim (by omega) hnt
    by_cases hful : fulF N cl = true
    · rw [if_pos hful, show clsF X n P N T = (P, N, T, 3, P) by rw [clsF, hcc, if_neg hnw, if_pos hful]]
      refine r_istore_n C dX11_takesClause_155 st3 ?_
      refine r_iload_n C dX11_takesClause_156 rfl ?_
      refine r_if_eq C dX11_takesClause_157 (fun cc => absurd cc (by decide)) (fun _ => ?_)
      refine r_aload_n C dX11_takesClause_160 rfl ?_
      refine r_iconst (v := (nI 3)) C dX11_takesClause_161 (by decide) ?_
      refine r_aload_n C dX11_takesClause_162 rfl ?_
      refine q_getV C flX11_111 dX11_takesClause_163 ok11 rfl a2 ?_
      refine r_callV C m_fails dX11_takesClause_166 cw_X11_fails cvX11_121 (by omega) ok11 rfl hN rfl (Nat.le_of_ble_eq_true rfl) ?_
      rintro v R' h2 ⟨rfl, rfl, rfl⟩
      refine r_zret C hrt dX11_takesClause_169 (by decide) ?_
      exact ca_no (by decide) (by rw [put_i (by decide)]; exact put_same) put_same (((fo.wk sRo_sRm).put rfl).put rfl)
    · rw [if_neg hful]
      have f2 : Fs sRo h (put h1 11 0 17 (nI (P + 1))) := fo.put rfl
      have hm2 : mrd (put h1 11 0 17 (nI (P + 1))) N T := mrd.no (Fs.rf.put rfl) hm1
      have rb := (rpF_b (X := X) (cl := cl) (show P + 1 ≤ n by omega) (nosF cl)).2
      refine r_istore_n C dX11_takesClause_155 st3 ?_
      refine r_iload_n C dX11_takesClause_156 rfl ?_
      refine r_if_eq C dX11_takesClause_157 (fun _ => ?_) (fun cc => absurd cc (by exact fun z => z rfl))
      refine r_aload_n C dX11_takesClause_170 rfl ?_
      refine r_dup C dX11_takesClause_171 rfl ?_
      refine q_getV C flX11_104 dX11_takesClause_172 ok11 rfl a1 ?_
      refine r_iconst (v := (nI 1)) C dX11_takesClause_175 (by decide) ?_
      first | refine r_iaddN C dX11_takesClause_176 ?_ | refine r_iadd C dX11_takesClause_176 ?_
      refine r_putI C flX11_104 dX11_takesClause_177 ok11 rfl ⟨rfl, rfl⟩ ?_
      refine r_aload_n C dX11_takesClause_180 rfl ?_
      refine r_iload_n C dX11_takesClause_181 rfl ?_
      refine r_callV C (m_takesWords (cl := cl) (p := P + 1) (hx.rm (f2.wk sRo_sRm)) put_same (by omega) hm2 hcl hcc hful) dX11_takesClause_182 cw_X11_takesWords cvX11_166 (by omega) ok11 rfl hN rfl (Nat.le_of_ble_eq_true rfl) ?_
      rintro v R' h3 ⟨rfl, ok, no⟩
      by_cases hz : (ffF X n cl (P + 1) (nosF cl) 0).1 = 0
      · obtain ⟨rfl, o1, o2, o3⟩ := ok hz
        have f3 := f2.tr o3
        refine r_if_eq C dX11_takesClause_185 (fun cc => absurd cc (by decide)) (fun _ => ?_)
        refine r_aload_n C dX11_takesClause_188 rfl ?_
        refine r_bipush (v := (nI 59)) C dX11_takesClause_189 (by decide) ?_
        refine r_callV C (m_takes (hx.rm (f3.wk sRo_sRm)) o1 rb) dX11_takesClause_191 cw_X11_takes cvX11_170 (by omega) ok11 rfl hN rfl (Nat.le_of_ble_eq_true rfl) ?_
        rintro v R' h4 ⟨rfl, ok2, no2⟩
        by_cases he : skN X n (rpF X n cl (P + 1) (nosF cl)) < n ∧ X (skN X n (rpF X n cl (P + 1) (nosF cl))) = nI 59
        · obtain ⟨rfl, e1, e2⟩ := ok2 he
          rw [show clsF X n P N T = (endF X n cl (P + 1) + 1, addN N cl, addT N T (fun i => (rrF X n cl (P + 1) i).2.1) cl, 0, 0) by rw [clsF, hcc, if_neg hnw, if_neg hful, if_neg (fun z => z hz), if_pos (show endF X n cl (P + 1) < n ∧ X (endF X n cl (P + 1)) = nI 59 from he)]]
          refine r_if_eq C dX11_takesClause_194 (fun cc => absurd cc (by decide)) (fun _ => ?_)
          refine r_iconst (v := (nI 1)) C dX11_takesClause_197 (by decide) ?_
          refine r_goto C dX11_takesClause_198 ?_
          refine r_zret C hrt dX11_takesClause_202 (by decide) ?_
          exact ca_ok e1 (mrd.no e2 o2) (f3.tr (e2.wk sNo_sRo))
        · obtain ⟨rfl, e1, e2, e3⟩ := no2 he
          rw [show clsF X n P N T = (P, N, T, 1, endF X n cl (P + 1)) by rw [clsF, hcc, if_neg hnw, if_neg hful, if_neg (fun z => z hz), if_neg (show ¬ (endF X n cl (P + 1) < n ∧ X (endF X n cl (P + 1)) = nI 59) from he)]]
          refine r_if_eq C dX11_takesClause_194 (fun _ => ?_) (fun cc => absurd cc (by exact fun z => z rfl))
          refine r_iconst (v := (nI 0)) C dX11_takesClause_201 (by decide) ?_
          refine r_zret C hrt dX11_takesClause_202 (by decide) ?_
          exact ca_no (by decide) e1 e2 ((f3.wk sRo_sRm).tr e3)
      · obtain ⟨rfl, o1, o2, o3⟩ := no hz
        rw [show clsF X n P N T = (P, N, T, ffF X n cl (P + 1) (nosF cl) 0) by rw [clsF, hcc, if_neg hnw, if_neg hful, if_pos hz]]
        refine r_if_eq C dX11_takesClause_185 (fun _ => ?_) (fun cc => absurd cc (by exact fun z => z rfl))
        refine r_iconst (v := (nI 0)) C dX11_takesClause_201 (by decide) ?_
        refine r_zret C hrt dX11_takesClause_202 (by decide) ?_
        exact ca_no hz o1 o2 ((f2.wk sRo_sRm).tr o3)
  refine r_istore_n C dX11_takesClause_4 st1 ?_
  refine r_iload_n C dX11_takesClause_5 rfl ?_
  refine r_bipush (v := (nI 116)) C dX11_takesClause_6 (by decide) ?_
  by_cases x0 : X P = nI 116
  · have cc : ccF (X P) = 0 := by rw [ccF, if_pos x0]
    refine r_icmp_eq C dX11_takesClause_8 (fun _ => ?_) (fun cc => absurd cc (by exact fun z => z x0))
    refine r_iconst (v := (nI 1)) C dX11_takesClause_42 (by decide) ?_
    refine r_goto C dX11_takesClause_43 ?_
    refine r_istore_n C dX11_takesClause_47 st2 ?_
    refine r_iload_n C dX11_takesClause_48 rfl ?_
    refine r_if_ne C dX11_takesClause_49 (fun _ => ?_) (fun cc => absurd cc (by decide))
    refine r_iload_n C dX11_takesClause_62 rfl ?_
    refine r_bipush (v := (nI 116)) C dX11_takesClause_63 (by decide) ?_
    refine r_icmp_ne C dX11_takesClause_65 (fun cc => absurd cc (by exact fun z => z x0)) (fun _ => ?_)
    refine r_aload_n C dX11_takesClause_68 rfl ?_
    refine q_getV C flX11_132 dX11_takesClause_69 ok11 rfl hm1.1 ?_
    refine r_goto C dX11_takesClause_72 ?_
    refine go 0 (by decide) cc (fun z => z.2 rfl) _ ?_
    rcases (show N 4 = 0 ∨ N 4 = 1 by omega) with z | z <;> simp [fulF, z]
  · refine r_icmp_eq C dX11_takesClause_8 (fun cc => absurd cc (x0)) (fun _ => ?_)
    refine r_aload_n C dX11_takesClause_11 rfl ?_
    refine q_getV C flX11_132 dX11_takesClause_12 ok11 rfl hm1.1 ?_
    by_cases hz4 : N 4 = 0
    · rw [hz4]
      refine r_if_eq C dX11_takesClause_15 (fun _ => ?_) (fun cc => absurd cc (by exact fun z => z rfl))
      exact nw (Or.inr ⟨hz4, fun z => x0 (cc_inv.1 z)⟩)
    · have hnt : ∀ cl, ¬ (N 4 = 0 ∧ cl ≠ 0) := fun cl z => hz4 z.1
      refine r_if_eq C dX11_takesClause_15 (fun cc => absurd cc (nI_ne0 (by omega) (by omega))) (fun _ => ?_)
      refine r_iload_n C dX11_takesClause_18 rfl ?_
      refine r_bipush (v := (nI 99)) C dX11_takesClause_19 (by decide) ?_
      by_cases x1 : X P = nI 99
      · have cc : ccF (X P) = 1 := by rw [ccF, if_neg x0, if_pos x1]
        refine r_icmp_eq C dX11_takesClause_21 (fun _ => ?_) (fun cc => absurd cc (by exact fun z => z x1))
        refine r_iconst (v := (nI 1)) C dX11_takesClause_42 (by decide) ?_
        refine r_goto C dX11_takesClause_43 ?_
        refine r_istore_n C dX11_takesClause_47 st2 ?_
        refine r_iload_n C dX11_takesClause_48 rfl ?_
        refine r_if_ne C dX11_takesClause_49 (fun _ => ?_) (fun cc => absurd cc (by decide))
        refine r_iload_n C dX11_takesClause_62 rfl ?_
        refine r_bipush (v := (nI 116)) C dX11_takesClause_63 (by decide) ?_
        refine r_icmp_ne C dX11_takesClause_65 (fun _ => ?_) (fun cc => absurd cc (x0))
        refine r_iload_n C dX11_takesClause_75 rfl ?_
        refine r_bipush (v := (nI 99)) C dX11_takesClause_76 (by decide) ?_
        refine r_icmp_ne C dX11_takesClause_78 (fun cc => absurd cc (by exact fun z => z x1)) (fun _ => ?_)
        refine r_aload_n C dX11_takesClause_81 rfl ?_
        refine q_getV C flX11_138 dX11_takesClause_82 ok11 rfl hm1.2.1 ?_
        refine r_iconst (v := (nI 5)) C dX11_takesClause_85 (by decide) ?_
        refine r_icmpN_ne C dX11_takesClause_86 (by omega) (by omega) (fun cz => ?_) (fun cz => ?_)
        · refine r_iconst (v := (nI 0)) C dX11_takesClause_93 (by decide) ?_
          refine r_goto C dX11_takesClause_94 ?_
          exact go 1 (by decide) cc (hnt 1) _ (by rw [if_neg (by simp [fulF]; omega)])
        · refine r_iconst (v := (nI 1)) C dX11_takesClause_89 (by decide) ?_
          refine r_goto C dX11_takesClause_90 ?_
          exact go 1 (by decide) cc (hnt 1) _ (by rw [if_pos (by simp [fulF]; omega)])
      · refine r_icmp_eq C dX11_takesClause_21 (fun cc => absurd cc (x1)) (fun _ => ?_)
        refine r_iload_n C dX11_takesClause_24 rfl ?_
        refine r_bipush (v := (nI 109)) C dX11_takesClause_25 (by decide) ?_
        by_cases x2 : X P = nI 109
        · have cc : ccF (X P) = 2 := by rw [ccF, if_neg x0, if_neg x1, if_pos x2]
          refine r_icmp_eq C dX11_takesClause_27 (fun _ => ?_) (fun cc => absurd cc (by exact fun z => z x2))
          refine r_iconst (v := (nI 1)) C dX11_takesClause_42 (by decide) ?_
          refine r_goto C dX11_takesClause_43 ?_
          refine r_istore_n C dX11_takesClause_47 st2 ?_
          refine r_iload_n C dX11_takesClause_48 rfl ?_
          refine r_if_ne C dX11_takesClause_49 (fun _ => ?_) (fun cc => absurd cc (by decide))
          refine r_iload_n C dX11_takesClause_62 rfl ?_
          refine r_bipush (v := (nI 116)) C dX11_takesClause_63 (by decide) ?_
          refine r_icmp_ne C dX11_takesClause_65 (fun _ => ?_) (fun cc => absurd cc (x0))
          refine r_iload_n C dX11_takesClause_75 rfl ?_
          refine r_bipush (v := (nI 99)) C dX11_takesClause_76 (by decide) ?_
          refine r_icmp_ne C dX11_takesClause_78 (fun _ => ?_) (fun cc => absurd cc (x1))
          refine r_iload_n C dX11_takesClause_97 rfl ?_
          refine r_bipush (v := (nI 109)) C dX11_takesClause_98 (by decide) ?_
          refine r_icmp_ne C dX11_takesClause_100 (fun cc => absurd cc (by exact fun z => z x2)) (fun _ => ?_)
          refine r_aload_n C dX11_takesClause_103 rfl ?_
          refine q_getV C flX11_141 dX11_takesClause_104 ok11 rfl hm1.2.2.1 ?_
          refine r_iconst (v := (nI 4)) C dX11_takesClause_107 (by decide) ?_
          refine r_icmpN_ne C dX11_takesClause_108 (by omega) (by omega) (fun cz => ?_) (fun cz => ?_)
          · refine r_iconst (v := (nI 0)) C dX11_takesClause_115 (by decide) ?_
            refine r_goto C dX11_takesClause_116 ?_
            exact go 2 (by decide) cc (hnt 2) _ (by rw [if_neg (by simp [fulF]; omega)])
          · refine r_iconst (v := (nI 1)) C dX11_takesClause_111 (by decide) ?_
            refine r_goto C dX11_takesClause_112 ?_
            exact go 2 (by decide) cc (hnt 2) _ (by rw [if_pos (by simp [fulF]; omega)])
        · refine r_icmp_eq C dX11_takesClause_27 (fun cc => absurd cc (x2)) (fun _ => ?_)
          refine r_iload_n C dX11_takesClause_30 rfl ?_
          refine r_bipush (v := (nI 103)) C dX11_takesClause_31 (by decide) ?_
          by_cases x3 : X P = nI 103
          · have cc : ccF (X P) = 3 := by rw [ccF, if_neg x0, if_neg x1, if_neg x2, if_pos x3]
            refine r_icmp_eq C dX11_takesClause_33 (fun _ => ?_) (fun cc => absurd cc (by exact fun z => z x3))
            refine r_iconst (v := (nI 1)) C dX11_takesClause_42 (by decide) ?_
            refine r_goto C dX11_takesClause_43 ?_
            refine r_istore_n C dX11_takesClause_47 st2 ?_
            refine r_iload_n C dX11_takesClause_48 rfl ?_
            refine r_if_ne C dX11_takesClause_49 (fun _ => ?_) (fun cc => absurd cc (by decide))
            refine r_iload_n C dX11_takesClause_62 rfl ?_
            refine r_bipush (v := (nI 116)) C dX11_takesClause_63 (by decide) ?_
            refine r_icmp_ne C dX11_takesClause_65 (fun _ => ?_) (fun cc => absurd cc (x0))
            refine r_iload_n C dX11_takesClause_75 rfl ?_
            refine r_bipush (v := (nI 99)) C dX11_takesClause_76 (by decide) ?_
            refine r_icmp_ne C dX11_takesClause_78 (fun _ => ?_) (fun cc => absurd cc (x1))
            refine r_iload_n C dX11_takesClause_97 rfl ?_
            refine r_bipush (v := (nI 109)) C dX11_takesClause_98 (by decide) ?_
            refine r_icmp_ne C dX11_takesClause_100 (fun _ => ?_) (fun cc => absurd cc (x2))
            refine r_iload_n C dX11_takesClause_119 rfl ?_
            refine r_bipush (v := (nI 103)) C dX11_takesClause_120 (by decide) ?_
            refine r_icmp_ne C dX11_takesClause_122 (fun cc => absurd cc (by exact fun z => z x3)) (fun _ => ?_)
            refine r_aload_n C dX11_takesClause_125 rfl ?_
            refine q_getV C flX11_144 dX11_takesClause_126 ok11 rfl hm1.2.2.2.1 ?_
            refine r_bipush (v := (nI 6)) C dX11_takesClause_129 (by decide) ?_
            refine r_icmpN_ne C dX11_takesClause_131 (by omega) (by omega) (fun cz => ?_) (fun cz => ?_)
            · refine r_iconst (v := (nI 0)) C dX11_takesClause_138 (by decide) ?_
              refine r_goto C dX11_takesClause_139 ?_
              exact go 3 (by decide) cc (hnt 3) _ (by rw [if_neg (by simp [fulF]; omega)])
            · refine r_iconst (v := (nI 1)) C dX11_takesClause_134 (by decide) ?_
              refine r_goto C dX11_takesClause_135 ?_
              exact go 3 (by decide) cc (hnt 3) _ (by rw [if_pos (by simp [fulF]; omega)])
          · refine r_icmp_eq C dX11_takesClause_33 (fun cc => absurd cc (x3)) (fun _ => ?_)
            refine r_iload_n C dX11_takesClause_36 rfl ?_
            refine r_bipush (v := (nI 104)) C dX11_takesClause_37 (by decide) ?_
            by_cases x4 : X P = nI 104
            · have cc : ccF (X P) = 4 := by rw [ccF, if_neg x0, if_neg x1, if_neg x2, if_neg x3, if_pos x4]
              refine r_icmp_ne C dX11_takesClause_39 (fun cc => absurd cc (by exact fun z => z x4)) (fun _ => ?_)
              refine r_iconst (v := (nI 1)) C dX11_takesClause_42 (by decide) ?_
              refine r_goto C dX11_takesClause_43 ?_
              refine r_istore_n C dX11_takesClause_47 st2 ?_
              refine r_iload_n C dX11_takesClause_48 rfl ?_
              refine r_if_ne C dX11_takesClause_49 (fun _ => ?_) (fun cc => absurd cc (by decide))
              refine r_iload_n C dX11_takesClause_62 rfl ?_
              refine r_bipush (v := (nI 116)) C dX11_takesClause_63 (by decide) ?_
              refine r_icmp_ne C dX11_takesClause_65 (fun _ => ?_) (fun cc => absurd cc (x0))
              refine r_iload_n C dX11_takesClause_75 rfl ?_
              refine r_bipush (v := (nI 99)) C dX11_takesClause_76 (by decide) ?_
              refine r_icmp_ne C dX11_takesClause_78 (fun _ => ?_) (fun cc => absurd cc (x1))
              refine r_iload_n C dX11_takesClause_97 rfl ?_
              refine r_bipush (v := (nI 109)) C dX11_takesClause_98 (by decide) ?_
              refine r_icmp_ne C dX11_takesClause_100 (fun _ => ?_) (fun cc => absurd cc (x2))
              refine r_iload_n C dX11_takesClause_119 rfl ?_
              refine r_bipush (v := (nI 103)) C dX11_takesClause_120 (by decide) ?_
              refine r_icmp_ne C dX11_takesClause_122 (fun _ => ?_) (fun cc => absurd cc (x3))
              refine r_aload_n C dX11_takesClause_142 rfl ?_
              refine q_getV C flX11_147 dX11_takesClause_143 ok11 rfl hm1.2.2.2.2.1 ?_
              refine r_iconst (v := (nI 4)) C dX11_takesClause_146 (by decide) ?_
              refine r_icmpN_ne C dX11_takesClause_147 (by omega) (by omega) (fun cz => ?_) (fun cz => ?_)
              · refine r_iconst (v := (nI 0)) C dX11_takesClause_154 (by decide) ?_
                exact go 4 (by decide) cc (hnt 4) _ (by rw [if_neg (by simp [fulF]; omega)])
              · refine r_iconst (v := (nI 1)) C dX11_takesClause_150 (by decide) ?_
                refine r_goto C dX11_takesClause_151 ?_
                exact go 4 (by decide) cc (hnt 4) _ (by rw [if_pos (by simp [fulF]; omega)])
            · refine r_icmp_ne C dX11_takesClause_39 (fun _ => ?_) (fun cc => absurd cc (x4))
              exact nw (Or.inl (by rw [ccF, if_neg x0, if_neg x1, if_neg x2, if_neg x3, if_neg x4]))
theorem q_bool {x : Nat} (h : x ≤ 1) : narrow (fty 11 3) (.int (nI x)) = .int (nI x) ∧ fits (fty 11 3) (.int (nI x)) = true := by
  rcases (show x = 0 ∨ x = 1 by omega) with rfl | rfl <;> exact ⟨rfl, rfl⟩
/-! a town out of the model's rows -/
def NN (c m : Nat) : Nat → Nat := fun i => if i = 0 then c else m
theorem bg_c {T : Tv} {c m k : Nat} (hk : k ≠ 5 + c) : bgF (NN (c + 1) m) T k = bgF (NN c m) T k := by
  have e : (5 ≤ k ∧ k < 5 + NN (c + 1) m 0) ↔ (5 ≤ k ∧ k < 5 + NN c m 0) := by
    show (5 ≤ k ∧ k < 5 + (c + 1)) ↔ (5 ≤ k ∧ k < 5 + c)
    omega
  simp only [bgF, e]
  rfl
theorem bg_c2 {T : Tv} {c m : Nat} (hc : c < 5) : bgF (NN (c + 1) m) T (5 + c) = T 7 c := by
  simp only [bgF]
  rw [if_neg (by omega), if_neg (by omega), if_pos (show 5 ≤ 5 + c ∧ 5 + c < 5 + NN (c + 1) m 0 by show 5 ≤ 5 + c ∧ 5 + c < 5 + (c + 1); omega)]
  congr 1
  omega
theorem bg_m {T : Tv} {c m k : Nat} (hk : k ≠ 20 + m) : bgF (NN c (m + 1)) T k = bgF (NN c m) T k := by
  have e : (20 ≤ k ∧ k < 20 + NN c (m + 1) 1) ↔ (20 ≤ k ∧ k < 20 + NN c m 1) := by
    show (20 ≤ k ∧ k < 20 + (m + 1)) ↔ (20 ≤ k ∧ k < 20 + m)
    omega
  simp only [bgF, e]
  rfl
theorem bg_m2 {T : Tv} {c m : Nat} (hc : c ≤ 5) : bgF (NN c (m + 1)) T (20 + m) = T 8 m := by
  simp only [bgF]
  rw [if_neg (by omega), if_neg (by omega), if_neg (show ¬ (5 ≤ 20 + m ∧ 20 + m < 5 + NN c (m + 1) 0) by show ¬ (5 ≤ 20 + m ∧ 20 + m < 5 + c); omega), if_pos (show 20 ≤ 20 + m ∧ 20 + m < 20 + NN c (m + 1) 1 by show 20 ≤ 20 + m ∧ 20 + m < 20 + (m + 1); omega)]
  congr 1
  omega
theorem bgu_c {T : Tv} {c m : Nat} {s : Int32} (hc : c < 5) : va_up (va_up (bgF (NN c m) T) 44 s) (5 + c) (T 7 c) = va_up (bgF (NN (c + 1) m) T) 44 s := by
  funext k
  by_cases e : k = 5 + c
  · subst e; rw [va_up_self, va_up_ne _ _ (by omega), bg_c2 hc]
  · rw [va_up_ne _ _ e]
    by_cases e2 : k = 44
    · subst e2; rw [va_up_self, va_up_self]
    · rw [va_up_ne _ _ e2, va_up_ne _ _ e2, bg_c e]
theorem bgu_m {T : Tv} {c m : Nat} {s : Int32} (hc : c ≤ 5) (hm : m < 4) : va_up (va_up (bgF (NN c m) T) 44 s) (20 + m) (T 8 m) = va_up (bgF (NN c (m + 1)) T) 44 s := by
  funext k
  by_cases e : k = 20 + m
  · subst e; rw [va_up_self, va_up_ne _ _ (by omega), bg_m2 hc]
  · rw [va_up_ne _ _ e]
    by_cases e2 : k = 44
    · subst e2; rw [va_up_self, va_up_self]
    · rw [va_up_ne _ _ e2, va_up_ne _ _ e2, bg_m e]
def tnS (hh : HF) (N : Nat → Nat) (T : Tv) (s : Int32) (c m g e : Nat) : Prop := mrd hh N T ∧ mw hh 0 (va_up (bgF (NN c m) T) 44 s) ∧ (hh 11 0 4 = nI (N 0) ∧ hh 11 0 7 = nI (N 1) ∧ hh 11 0 10 = nI (N 2) ∧ hh 11 0 12 = nI (N 3) ∧ hh 11 0 3 = nI (N 4)) ∧ (∀ i, i < c → hh 41 0 i = T 0 i ∧ hh 42 0 i = T 1 i) ∧ (∀ i, i < m → hh 43 0 i = T 2 i ∧ hh 44 0 i = T 3 i) ∧ (∀ i, i < g → hh 45 0 i = T 4 i) ∧ ∀ i, i < e → hh 46 0 i = T 5 i ∧ hh 47 0 i = T 6 i
def sTm : Nat → Nat → Bool := fun k i => (k == 39 && decide (i < 45)) || (decide (41 ≤ k) && decide (k ≤ 47)) || (k == 11 && (i == 3 || i == 4 || i == 7 || i == 10 || i == 12 || i == 16))
theorem sTm_39 {i : Nat} (h : i < 45) : sTm 39 i = true := by simp [sTm, h]
theorem sTm_sXm : ∀ k i, sTm k i = true → sXm k i = true := by
  intro k i z
  simp only [sTm, sXm, Bool.or_eq_true, Bool.and_eq_true, beq_iff_eq, decide_eq_true_eq] at z ⊢
  omega
theorem mrd.tm {h h' : HF} {N : Nat → Nat} {T : Tv} (f : Fs sTm h h') (c : mrd h N T) : mrd h' N T := c.fs f (fun i hi => by rcases hi with rfl | rfl | rfl | rfl | rfl <;> rfl) (fun k i _ _ => by simp [sTm]; omega)
theorem tn_c {hh : HF} {N : Nat → Nat} {T : Tv} {s : Int32} {c m g e : Nat} (hc : c < 5) (t : tnS hh N T s c m g e) : tnS (put (put (put hh 39 0 (5 + c) (T 7 c)) 41 0 c (T 0 c)) 42 0 c (T 1 c)) N T s (c + 1) m g e := by
  obtain ⟨t1, t2, t3, t4, t5, t6, t7⟩ := t
  refine ⟨t1.tm (((Fs.rf.put (sTm_39 (by omega))).put rfl).put rfl), ?_, t3, fun i hi => ?_, t5, t6, t7⟩
  · rw [← bgu_c hc]
    exact mw_k (by decide) (mw_k (by decide) (mw_put (by omega) t2))
  · by_cases z : i = c
    · subst z; exact ⟨by simp [put], by simp [put]⟩
    · have := t4 i (by omega)
      exact ⟨by simp [put, z, this.1], by simp [put, z, this.2]⟩
theorem tn_m {hh : HF} {N : Nat → Nat} {T : Tv} {s : Int32} {c m g e : Nat} (hc : c ≤ 5) (hm : m < 4) (t : tnS hh N T s c m g e) : tnS (put (put (put hh 39 0 (20 + m) (T 8 m)) 43 0 m (T 2 m)) 44 0 m (T 3 m)) N T s c (m + 1) g e := by
  obtain ⟨t1, t2, t3, t4, t5, t6, t7⟩ := t
  refine ⟨t1.tm (((Fs.rf.put (sTm_39 (by omega))).put rfl).put rfl), ?_, t3, t4, fun i hi => ?_, t6, t7⟩
  · rw [← bgu_m hc hm]
    exact mw_k (by decide) (mw_k (by decide) (mw_put (by omega) t2))
  · by_cases z : i = m
    · subst z; exact ⟨by simp [put], by simp [put]⟩
    · have := t5 i (by omega)
      exact ⟨by simp [put, z, this.1], by simp [put, z, this.2]⟩
theorem tn_g {hh : HF} {N : Nat → Nat} {T : Tv} {s : Int32} {c m g e : Nat} (t : tnS hh N T s c m g e) : tnS (put hh 45 0 g (T 4 g)) N T s c m (g + 1) e := by
  obtain ⟨t1, t2, t3, t4, t5, t6, t7⟩ := t
  refine ⟨t1.tm (Fs.rf.put rfl), mw_k (by decide) t2, t3, t4, t5, fun i hi => ?_, t7⟩
  by_cases z : i = g
  · subst z; simp [put]
  · have := t6 i (by omega)
    simp [put, z, this]
theorem tn_e {hh : HF} {N : Nat → Nat} {T : Tv} {s : Int32} {c m g e : Nat} (t : tnS hh N T s c m g e) : tnS (put (put hh 46 0 e (T 5 e)) 47 0 e (T 6 e)) N T s c m g (e + 1) := by
  obtain ⟨t1, t2, t3, t4, t5, t6, t7⟩ := t
  refine ⟨t1.tm ((Fs.rf.put rfl).put rfl), mw_k (by decide) (mw_k (by decide) t2), t3, t4, t5, t6, fun i hi => ?_⟩
  by_cases z : i = e
  · subst z; exact ⟨by simp [put], by simp [put]⟩
  · have := t7 i (by omega)
    exact ⟨by simp [put, z, this.1], by simp [put, z, this.2]⟩
set_option maxRecDepth 100000 in
set_option maxHeartbeats 8000000 in
theorem m_town {E : Ev} {a b : Nat} {h : HF} {g : Gs} (hc : MP h g) (hX : XV (gX g) (gLn g)) : Ct E 6 yX11_town cX11_town 4 (some .int) [aR 11 0] 243 (Rs a b) h 243 (mqr a b (townF g).2 h (townF g).1) := by
  refine Ct.of 3 (L0 := [some (aR 11 0), none, none, none]) (by decide) ⟨Nat.le_refl _, Nat.le_refl _⟩ rfl rfl ?_
  intro G C hg hrt hnm
  have hN : gn G ≤ 243 ∧ 243 ≤ 243 ∧ 243 ≤ 243 := ⟨by omega, by decide, by decide⟩
  have hx := hc.1.1
  have hn := hx.2.1
  have bad : ∀ hh N T ft pl, hh 11 0 20 = nI ft → hh 11 0 21 = nI pl → ft ≠ 0 → parseF (gX g) (gLn g) = (N, T, ft, pl) → Fs sRm h hh → Wa E G 243 (Rs a b) hh (QQ E G 243 (mqr a b (townF g).2 h (townF g).1)) 76 [some (aR 11 0), some (aI (nI 0)), none, none] [] := by
    intro hh N T ft pl g1 g2 g3 g4 g5
    rw [townF, g4, if_neg g3]
    refine r_aload_n C dX11_town_76 rfl ?_
    refine r_iconst (v := (nI 0)) C dX11_town_77 (by decide) ?_
    refine r_putI C flX11_100 dX11_town_78 ok11 rfl ⟨rfl, rfl⟩ ?_
    refine r_iload_n C dX11_town_81 rfl ?_
    refine r_if_ne C dX11_town_82 (fun cc => absurd cc (by exact fun z => z rfl)) (fun _ => ?_)
    refine r_bipush (v := (-10)) C dX11_town_85 (by decide) ?_
    refine r_aload_n C dX11_town_87 rfl ?_
    refine q_getV C flX11_114 dX11_town_88 ok11 rfl (show _ = nI ft by rw [put_i (by decide)]; exact g1) ?_
    refine r_isub C dX11_town_91 ?_
    refine r_iret C hrt dX11_town_92 ?_
    have f : Fs (fun k i => sRm k i || (k == 11 && i == 16)) h (put hh 11 0 16 (nI 0)) := (g5.wk (fun k i z => by simp [z])).put rfl
    refine ⟨rfl, rfl, ⟨⟨⟨put_same, Nat.zero_le _, fun i hi => absurd hi (Nat.not_lt_zero _)⟩, ?_⟩, hc.2.1.fs f (fun i hi => by rcases hi with rfl | rfl | rfl | rfl | rfl <;> rfl) (fun k i _ _ => by simp [sRm]; omega), hc.2.2.1.fs f (fun k _ => rfl), hc.2.2.2.1.fs f rfl (fun i _ => rfl), hc.2.2.2.2.1.fs f (fun _ => rfl) (fun _ _ _ => rfl), hc.2.2.2.2.2.1.fs f rfl (fun k i _ _ => by simp [sRm]; omega), hc.2.2.2.2.2.2.fs f rfl (fun k i _ _ => by simp [sRm]; omega)⟩, (g5.wk sRm_sXm).put rfl⟩
    rw [put_i (by decide)]
    exact g2
  have good : ∀ hh N T pl, mrd hh N T → hh 11 0 21 = -1 → parseF (gX g) (gLn g) = (N, T, 0, pl) → Fs sRm h hh → Wa E G 243 (Rs a b) hh (QQ E G 243 (mqr a b (townF g).2 h (townF g).1)) 76 [some (aR 11 0), some (aI (nI 1)), none, none] [] := by
    intro hh N T pl g1 g2 g3 g4
    obtain ⟨-, -, -, -, -, -, -, -, -, -, -, b0, b1, b2, b3, b4⟩ := id g1
    rw [townF, g3, if_pos rfl]
    have e44 : put hh 11 0 16 (nI 0) 39 0 44 = gSv g 44 := by
      rw [put_k (by decide), g4 39 0 44 rfl]
      exact mw0 hc.2.2.1 (by decide)
    have hP : ∀ h2, tnS h2 N T (gSv g 44) (N 0) (N 1) (N 2) (N 3) → Fs sTm hh h2 → h2 11 0 16 = nI 0 → ∀ l, Wa E G 243 (Rs a b) h2 (QQ E G 243 (mqr a b (gX g, 0, -1, N, T, va_up (bgF N T) 44 (gSv g 44), (0, (gU g).2), (fun _ => 0, (gI g).2), (0, (gSh g).2), (0, (gBk g).2)) h (nI (N 0)))) 397 [some (aR 11 0), some (aI (nI 1)), some (aI (gSv g 44)), l] [] := by
      intro h2 t f2 h16 l
      obtain ⟨t1, t2, t3, t4, t5, t6, t7⟩ := t
      refine r_aload_n C dX11_town_397 rfl ?_
      refine r_iconst (v := (nI 0)) C dX11_town_398 (by decide) ?_
      refine r_putI C flX11_179 dX11_town_399 ok11 rfl ⟨rfl, rfl⟩ ?_
      refine r_aload_n C dX11_town_402 rfl ?_
      refine r_iconst (v := (nI 0)) C dX11_town_403 (by decide) ?_
      refine r_putI C flX11_182 dX11_town_404 ok11 rfl ⟨rfl, rfl⟩ ?_
      refine r_aload_n C dX11_town_407 rfl ?_
      refine r_iconst (v := (nI 0)) C dX11_town_408 (by decide) ?_
      refine r_putI C flX11_185 dX11_town_409 ok11 rfl ⟨rfl, rfl⟩ ?_
      refine r_aload_n C dX11_town_412 rfl ?_
      refine r_getR C flX11_13 dX11_town_413 ok11 rfl rfl ?_
      refine r_iconst (v := (nI 0)) C dX11_town_416 (by decide) ?_
      refine r_iconst (v := (nI 0)) C dX11_town_417 (by decide) ?_
      refine q_zast (m := 2) C dX11_town_418 ok40 rfl rfl (by omega) (by decide) ?_
      refine r_aload_n C dX11_town_419 rfl ?_
      refine r_getR C flX11_13 dX11_town_420 ok11 rfl rfl ?_
      refine r_iconst (v := (nI 1)) C dX11_town_423 (by decide) ?_
      refine r_iconst (v := (nI 0)) C dX11_town_424 (by decide) ?_
      refine q_zast (m := 2) C dX11_town_425 ok40 rfl rfl (by omega) (by decide) ?_
      refine r_aload_n C dX11_town_426 rfl ?_
      refine q_getV C flX11_82 dX11_town_427 ok11 rfl t3.1 ?_
      refine r_iret C hrt dX11_town_430 ?_
      have ff : Fs (fun k i => k == 40 || (k == 11 && (i == 2 || i == 33 || i == 38))) h2 (put (put (put (put (put h2 11 0 33 (nI 0)) 11 0 38 (nI 0)) 11 0 2 (nI 0)) 40 0 0 (nI 0)) 40 0 1 (nI 0)) := ((((Fs.rf.put rfl).put rfl).put rfl).put rfl).put rfl
      refine ⟨rfl, rfl, ⟨⟨⟨(ff 11 0 16 rfl).trans h16, Nat.zero_le _, fun i hi => absurd hi (Nat.not_lt_zero _)⟩, ?_⟩, mtw.fs ff (fun i hi => by rcases hi with rfl | rfl | rfl | rfl | rfl <;> rfl) (fun k i _ _ => by simp; omega) ⟨t3.1, t3.2.1, t3.2.2.1, t3.2.2.2.1, t3.2.2.2.2, t4, t5, t6, t7, b0, b1, b2, b3, b4⟩, mw.fs ff (fun k _ => rfl) t2, ⟨rfl, Nat.zero_le _, fun i hi => absurd hi (Nat.not_lt_zero _)⟩, fun i hi => ⟨?_, Nat.zero_le _, fun z => absurd z (show ¬ (0 : Nat) = 1 by decide)⟩, ⟨rfl, Nat.zero_le _, fun i hi => absurd hi (Nat.not_lt_zero _)⟩, ⟨rfl, Nat.zero_le _, fun i hi => absurd hi (Nat.not_lt_zero _)⟩⟩, ((g4.wk sRm_sXm).tr (f2.wk sTm_sXm)).tr (ff.wk (fun k i z => ?_))⟩
      · show _ = (-1 : Int32)
        rw [ff 11 0 21 rfl, f2 11 0 21 rfl]
        exact g2
      · rcases (show i = 0 ∨ i = 1 by omega) with rfl | rfl <;> rfl
      · simp only [sXm, Bool.or_eq_true, Bool.and_eq_true, beq_iff_eq, decide_eq_true_eq] at z ⊢
        omega
    have loop4 : ∀ k e h2, e + k = N 3 → tnS h2 N T (gSv g 44) (N 0) (N 1) (N 2) e → Fs sTm hh h2 → h2 11 0 16 = nI 0 → Wa E G 243 (Rs a b) h2 (QQ E G 243 (mqr a b (gX g, 0, -1, N, T, va_up (bgF N T) 44 (gSv g 44), (0, (gU g).2), (fun _ => 0, (gI g).2), (0, (gSh g).2), (0, (gBk g).2)) h (nI (N 0)))) 353 [some (aR 11 0), some (aI (nI 1)), some (aI (gSv g 44)), some (aI (nI e))] [] := by
      intro k
      induction k with
      | zero =>
        intro e h2 hk t f2 h16
        have ee : e = N 3 := by omega
        subst ee
        refine r_iload_n C dX11_town_353 rfl ?_
        refine r_aload_n C dX11_town_354 rfl ?_
        refine q_getV C flX11_176 dX11_town_355 ok11 rfl t.2.2.1.2.2.2.1 ?_
        refine r_icmpN_ge C dX11_town_358 (by omega) (by omega) (fun _ => ?_) (fun cc => absurd cc (by omega))
        exact hP h2 t f2 h16 _
      | succ k ih =>
        intro e h2 hk t f2 h16
        obtain ⟨r1, r2⟩ := t.1.2.2.2.2.2.2.2.2.2.2.1 e (by omega)
        refine r_iload_n C dX11_town_353 rfl ?_
        refine r_aload_n C dX11_town_354 rfl ?_
        refine q_getV C flX11_176 dX11_town_355 ok11 rfl t.2.2.1.2.2.2.1 ?_
        refine r_icmpN_ge C dX11_town_358 (by omega) (by omega) (fun cc => absurd cc (by omega)) (fun _ => ?_)
        refine r_aload_n C dX11_town_361 rfl ?_
        refine r_getR C flX11_32 dX11_town_362 ok11 rfl rfl ?_
        refine r_iload_n C dX11_town_365 rfl ?_
        refine r_aload_n C dX11_town_366 rfl ?_
        refine r_getR C flX11_57 dX11_town_367 ok11 rfl rfl ?_
        refine r_iconst (v := (nI 2)) C dX11_town_370 (by decide) ?_
        refine r_iload_n C dX11_town_371 rfl ?_
        first | refine r_imulN C dX11_town_372 ?_ | refine r_imul C dX11_town_372 ?_
        refine q_ialdV (m := 8) C dX11_town_373 ok53 rfl rfl (by omega) r1 ?_
        refine q_iast (m := 4) C dX11_town_374 ok46 rfl rfl (by omega) ?_
        refine r_aload_n C dX11_town_375 rfl ?_
        refine r_getR C flX11_35 dX11_town_376 ok11 rfl rfl ?_
        refine r_iload_n C dX11_town_379 rfl ?_
        refine r_aload_n C dX11_town_380 rfl ?_
        refine r_getR C flX11_57 dX11_town_381 ok11 rfl rfl ?_
        refine r_iconst (v := (nI 2)) C dX11_town_384 (by decide) ?_
        refine r_iload_n C dX11_town_385 rfl ?_
        first | refine r_imulN C dX11_town_386 ?_ | refine r_imul C dX11_town_386 ?_
        refine r_iconst (v := (nI 1)) C dX11_town_387 (by decide) ?_
        first | refine r_iaddN C dX11_town_388 ?_ | refine r_iadd C dX11_town_388 ?_
        refine q_ialdV (m := 8) C dX11_town_389 ok53 rfl rfl (by omega) r2 ?_
        refine q_iast (m := 4) C dX11_town_390 ok47 rfl rfl (by omega) ?_
        first | refine r_iincN C dX11_town_391 rfl st3 ?_ | refine r_iinc C dX11_town_391 rfl rfl st3 ?_
        refine r_goto C dX11_town_394 ?_
        exact ih (e + 1) _ (by omega) (tn_e t) ((f2.put rfl).put rfl) h16
    have loop3 : ∀ k e h2, e + k = N 2 → tnS h2 N T (gSv g 44) (N 0) (N 1) e 0 → Fs sTm hh h2 → h2 11 0 16 = nI 0 → Wa E G 243 (Rs a b) h2 (QQ E G 243 (mqr a b (gX g, 0, -1, N, T, va_up (bgF N T) 44 (gSv g 44), (0, (gU g).2), (fun _ => 0, (gI g).2), (0, (gSh g).2), (0, (gBk g).2)) h (nI (N 0)))) 325 [some (aR 11 0), some (aI (nI 1)), some (aI (gSv g 44)), some (aI (nI e))] [] := by
      intro k
      induction k with
      | zero =>
        intro e h2 hk t f2 h16
        have ee : e = N 2 := by omega
        subst ee
        refine r_iload_n C dX11_town_325 rfl ?_
        refine r_aload_n C dX11_town_326 rfl ?_
        refine q_getV C flX11_92 dX11_town_327 ok11 rfl t.2.2.1.2.2.1 ?_
        refine r_icmpN_ge C dX11_town_330 (by omega) (by omega) (fun _ => ?_) (fun cc => absurd cc (by omega))
        refine r_iconst (v := (nI 0)) C dX11_town_351 (by decide) ?_
        refine r_istore_n C dX11_town_352 st3 ?_
        exact loop4 (N 3) 0 h2 (by omega) t f2 h16
      | succ k ih =>
        intro e h2 hk t f2 h16
        have r1 := t.1.2.2.2.2.2.2.2.2.2.1 e (by omega)
        refine r_iload_n C dX11_town_325 rfl ?_
        refine r_aload_n C dX11_town_326 rfl ?_
        refine q_getV C flX11_92 dX11_town_327 ok11 rfl t.2.2.1.2.2.1 ?_
        refine r_icmpN_ge C dX11_town_330 (by omega) (by omega) (fun cc => absurd cc (by omega)) (fun _ => ?_)
        refine r_aload_n C dX11_town_333 rfl ?_
        refine r_getR C flX11_29 dX11_town_334 ok11 rfl rfl ?_
        refine r_iload_n C dX11_town_337 rfl ?_
        refine r_aload_n C dX11_town_338 rfl ?_
        refine r_getR C flX11_54 dX11_town_339 ok11 rfl rfl ?_
        refine r_iload_n C dX11_town_342 rfl ?_
        refine q_ialdV (m := 6) C dX11_town_343 ok52 rfl rfl (by omega) r1 ?_
        refine q_iast (m := 6) C dX11_town_344 ok45 rfl rfl (by omega) ?_
        first | refine r_iincN C dX11_town_345 rfl st3 ?_ | refine r_iinc C dX11_town_345 rfl rfl st3 ?_
        refine r_goto C dX11_town_348 ?_
        exact ih (e + 1) _ (by omega) (tn_g t) (f2.put rfl) h16
    have loop2 : ∀ k e h2, e + k = N 1 → tnS h2 N T (gSv g 44) (N 0) e 0 0 → Fs sTm hh h2 → h2 11 0 16 = nI 0 → Wa E G 243 (Rs a b) h2 (QQ E G 243 (mqr a b (gX g, 0, -1, N, T, va_up (bgF N T) 44 (gSv g 44), (0, (gU g).2), (fun _ => 0, (gI g).2), (0, (gSh g).2), (0, (gBk g).2)) h (nI (N 0)))) 260 [some (aR 11 0), some (aI (nI 1)), some (aI (gSv g 44)), some (aI (nI e))] [] := by
      intro k
      induction k with
      | zero =>
        intro e h2 hk t f2 h16
        have ee : e = N 1 := by omega
        subst ee
        refine r_iload_n C dX11_town_260 rfl ?_
        refine r_aload_n C dX11_town_261 rfl ?_
        refine q_getV C flX11_89 dX11_town_262 ok11 rfl t.2.2.1.2.1 ?_
        refine r_icmpN_ge C dX11_town_265 (by omega) (by omega) (fun _ => ?_) (fun cc => absurd cc (by omega))
        refine r_iconst (v := (nI 0)) C dX11_town_323 (by decide) ?_
        refine r_istore_n C dX11_town_324 st3 ?_
        exact loop3 (N 2) 0 h2 (by omega) t f2 h16
      | succ k ih =>
        intro e h2 hk t f2 h16
        obtain ⟨r1, r2, r3⟩ := t.1.2.2.2.2.2.2.2.2.1 e (by omega)
        refine r_iload_n C dX11_town_260 rfl ?_
        refine r_aload_n C dX11_town_261 rfl ?_
        refine q_getV C flX11_89 dX11_town_262 ok11 rfl t.2.2.1.2.1 ?_
        refine r_icmpN_ge C dX11_town_265 (by omega) (by omega) (fun cc => absurd cc (by omega)) (fun _ => ?_)
        refine r_aload_n C dX11_town_268 rfl ?_
        refine r_getR C flX11_7 dX11_town_269 ok11 rfl rfl ?_
        refine r_bipush (v := (nI 20)) C dX11_town_272 (by decide) ?_
        refine r_iload_n C dX11_town_274 rfl ?_
        first | refine r_iaddN C dX11_town_275 ?_ | refine r_iadd C dX11_town_275 ?_
        refine r_aload_n C dX11_town_276 rfl ?_
        refine r_getR C flX11_51 dX11_town_277 ok11 rfl rfl ?_
        refine r_iconst (v := (nI 3)) C dX11_town_280 (by decide) ?_
        refine r_iload_n C dX11_town_281 rfl ?_
        first | refine r_imulN C dX11_town_282 ?_ | refine r_imul C dX11_town_282 ?_
        refine q_ialdV (m := 12) C dX11_town_283 ok51 rfl rfl (by omega) r1 ?_
        refine q_iast (m := 1080) C dX11_town_284 ok39 rfl rfl (by omega) ?_
        refine r_aload_n C dX11_town_285 rfl ?_
        refine r_getR C flX11_23 dX11_town_286 ok11 rfl rfl ?_
        refine r_iload_n C dX11_town_289 rfl ?_
        refine r_aload_n C dX11_town_290 rfl ?_
        refine r_getR C flX11_51 dX11_town_291 ok11 rfl rfl ?_
        refine r_iconst (v := (nI 3)) C dX11_town_294 (by decide) ?_
        refine r_iload_n C dX11_town_295 rfl ?_
        first | refine r_imulN C dX11_town_296 ?_ | refine r_imul C dX11_town_296 ?_
        refine r_iconst (v := (nI 1)) C dX11_town_297 (by decide) ?_
        first | refine r_iaddN C dX11_town_298 ?_ | refine r_iadd C dX11_town_298 ?_
        refine q_ialdV (m := 12) C dX11_town_299 ok51 rfl rfl (by omega) r2 ?_
        refine q_iast (m := 4) C dX11_town_300 ok43 rfl rfl (by omega) ?_
        refine r_aload_n C dX11_town_301 rfl ?_
        refine r_getR C flX11_26 dX11_town_302 ok11 rfl rfl ?_
        refine r_iload_n C dX11_town_305 rfl ?_
        refine r_aload_n C dX11_town_306 rfl ?_
        refine r_getR C flX11_51 dX11_town_307 ok11 rfl rfl ?_
        refine r_iconst (v := (nI 3)) C dX11_town_310 (by decide) ?_
        refine r_iload_n C dX11_town_311 rfl ?_
        first | refine r_imulN C dX11_town_312 ?_ | refine r_imul C dX11_town_312 ?_
        refine r_iconst (v := (nI 2)) C dX11_town_313 (by decide) ?_
        first | refine r_iaddN C dX11_town_314 ?_ | refine r_iadd C dX11_town_314 ?_
        refine q_ialdV (m := 12) C dX11_town_315 ok51 rfl rfl (by omega) r3 ?_
        refine q_iast (m := 4) C dX11_town_316 ok44 rfl rfl (by omega) ?_
        first | refine r_iincN C dX11_town_317 rfl st3 ?_ | refine r_iinc C dX11_town_317 rfl rfl st3 ?_
        refine r_goto C dX11_town_320 ?_
        exact ih (e + 1) _ (by omega) (tn_m b0 (by omega) t) (((f2.put (sTm_39 (by omega))).put rfl).put rfl) h16
    have loop1 : ∀ k e h2, e + k = N 0 → tnS h2 N T (gSv g 44) e 0 0 0 → Fs sTm hh h2 → h2 11 0 16 = nI 0 → Wa E G 243 (Rs a b) h2 (QQ E G 243 (mqr a b (gX g, 0, -1, N, T, va_up (bgF N T) 44 (gSv g 44), (0, (gU g).2), (fun _ => 0, (gI g).2), (0, (gSh g).2), (0, (gBk g).2)) h (nI (N 0)))) 196 [some (aR 11 0), some (aI (nI 1)), some (aI (gSv g 44)), some (aI (nI e))] [] := by
      intro k
      induction k with
      | zero =>
        intro e h2 hk t f2 h16
        have ee : e = N 0 := by omega
        subst ee
        refine r_iload_n C dX11_town_196 rfl ?_
        refine r_aload_n C dX11_town_197 rfl ?_
        refine q_getV C flX11_82 dX11_town_198 ok11 rfl t.2.2.1.1 ?_
        refine r_icmpN_ge C dX11_town_201 (by omega) (by omega) (fun _ => ?_) (fun cc => absurd cc (by omega))
        refine r_iconst (v := (nI 0)) C dX11_town_258 (by decide) ?_
        refine r_istore_n C dX11_town_259 st3 ?_
        exact loop2 (N 1) 0 h2 (by omega) t f2 h16
      | succ k ih =>
        intro e h2 hk t f2 h16
        obtain ⟨r1, r2, r3⟩ := t.1.2.2.2.2.2.2.2.1 e (by omega)
        refine r_iload_n C dX11_town_196 rfl ?_
        refine r_aload_n C dX11_town_197 rfl ?_
        refine q_getV C flX11_82 dX11_town_198 ok11 rfl t.2.2.1.1 ?_
        refine r_icmpN_ge C dX11_town_201 (by omega) (by omega) (fun cc => absurd cc (by omega)) (fun _ => ?_)
        refine r_aload_n C dX11_town_204 rfl ?_
        refine r_getR C flX11_7 dX11_town_205 ok11 rfl rfl ?_
        refine r_iconst (v := (nI 5)) C dX11_town_208 (by decide) ?_
        refine r_iload_n C dX11_town_209 rfl ?_
        first | refine r_iaddN C dX11_town_210 ?_ | refine r_iadd C dX11_town_210 ?_
        refine r_aload_n C dX11_town_211 rfl ?_
        refine r_getR C flX11_48 dX11_town_212 ok11 rfl rfl ?_
        refine r_iconst (v := (nI 3)) C dX11_town_215 (by decide) ?_
        refine r_iload_n C dX11_town_216 rfl ?_
        first | refine r_imulN C dX11_town_217 ?_ | refine r_imul C dX11_town_217 ?_
        refine q_ialdV (m := 15) C dX11_town_218 ok50 rfl rfl (by omega) r1 ?_
        refine q_iast (m := 1080) C dX11_town_219 ok39 rfl rfl (by omega) ?_
        refine r_aload_n C dX11_town_220 rfl ?_
        refine r_getR C flX11_17 dX11_town_221 ok11 rfl rfl ?_
        refine r_iload_n C dX11_town_224 rfl ?_
        refine r_aload_n C dX11_town_225 rfl ?_
        refine r_getR C flX11_48 dX11_town_226 ok11 rfl rfl ?_
        refine r_iconst (v := (nI 3)) C dX11_town_229 (by decide) ?_
        refine r_iload_n C dX11_town_230 rfl ?_
        first | refine r_imulN C dX11_town_231 ?_ | refine r_imul C dX11_town_231 ?_
        refine r_iconst (v := (nI 1)) C dX11_town_232 (by decide) ?_
        first | refine r_iaddN C dX11_town_233 ?_ | refine r_iadd C dX11_town_233 ?_
        refine q_ialdV (m := 15) C dX11_town_234 ok50 rfl rfl (by omega) r2 ?_
        refine q_iast (m := 5) C dX11_town_235 ok41 rfl rfl (by omega) ?_
        refine r_aload_n C dX11_town_236 rfl ?_
        refine r_getR C flX11_20 dX11_town_237 ok11 rfl rfl ?_
        refine r_iload_n C dX11_town_240 rfl ?_
        refine r_aload_n C dX11_town_241 rfl ?_
        refine r_getR C flX11_48 dX11_town_242 ok11 rfl rfl ?_
        refine r_iconst (v := (nI 3)) C dX11_town_245 (by decide) ?_
        refine r_iload_n C dX11_town_246 rfl ?_
        first | refine r_imulN C dX11_town_247 ?_ | refine r_imul C dX11_town_247 ?_
        refine r_iconst (v := (nI 2)) C dX11_town_248 (by decide) ?_
        first | refine r_iaddN C dX11_town_249 ?_ | refine r_iadd C dX11_town_249 ?_
        refine q_ialdV (m := 15) C dX11_town_250 ok50 rfl rfl (by omega) r3 ?_
        refine q_iast (m := 5) C dX11_town_251 ok42 rfl rfl (by omega) ?_
        first | refine r_iincN C dX11_town_252 rfl st3 ?_ | refine r_iinc C dX11_town_252 rfl rfl st3 ?_
        refine r_goto C dX11_town_255 ?_
        exact ih (e + 1) _ (by omega) (tn_c (by omega) t) (((f2.put (sTm_39 (by omega))).put rfl).put rfl) h16
    have loop0 : ∀ k c h2, c + k = 45 → (∀ i, i < c → h2 39 0 i = nI 0) → Fs sTm hh h2 → h2 11 0 16 = nI 0 → Wa E G 243 (Rs a b) h2 (QQ E G 243 (mqr a b (gX g, 0, -1, N, T, va_up (bgF N T) 44 (gSv g 44), (0, (gU g).2), (fun _ => 0, (gI g).2), (0, (gSh g).2), (0, (gBk g).2)) h (nI (N 0)))) 103 [some (aR 11 0), some (aI (nI 1)), some (aI (gSv g 44)), some (aI (nI c))] [] := by
      intro k
      induction k with
      | zero =>
        intro c h2 hk hz f2 h16
        obtain ⟨q1, q2, q3, q4, q5, q6, q7, -⟩ := g1.tm f2
        refine r_iload_n C dX11_town_103 rfl ?_
        refine r_bipush (v := (nI 45)) C dX11_town_104 (by decide) ?_
        refine r_icmpN_ge C dX11_town_106 (by omega) (by omega) (fun _ => ?_) (fun cc => absurd cc (by omega))
        refine r_aload_n C dX11_town_122 rfl ?_
        refine r_getR C flX11_7 dX11_town_123 ok11 rfl rfl ?_
        refine r_bipush (v := (nI 44)) C dX11_town_126 (by decide) ?_
        refine r_iload_n C dX11_town_128 rfl ?_
        refine q_iast (m := 1080) C dX11_town_129 ok39 rfl rfl (by omega) ?_
        refine r_aload_n C dX11_town_130 rfl ?_
        refine r_aload_n C dX11_town_131 rfl ?_
        refine q_getV C flX11_132 dX11_town_132 ok11 rfl q1 ?_
        refine r_putI C flX11_78 dX11_town_135 ok11 rfl (q_bool b4) ?_
        refine r_aload_n C dX11_town_138 rfl ?_
        refine r_aload_n C dX11_town_139 rfl ?_
        refine q_getV C flX11_138 dX11_town_140 ok11 rfl q2 ?_
        refine r_putI C flX11_82 dX11_town_143 ok11 rfl ⟨rfl, rfl⟩ ?_
        refine r_aload_n C dX11_town_146 rfl ?_
        refine r_aload_n C dX11_town_147 rfl ?_
        refine q_getV C flX11_141 dX11_town_148 ok11 rfl q3 ?_
        refine r_putI C flX11_89 dX11_town_151 ok11 rfl ⟨rfl, rfl⟩ ?_
        refine r_aload_n C dX11_town_154 rfl ?_
        refine r_aload_n C dX11_town_155 rfl ?_
        refine q_getV C flX11_144 dX11_town_156 ok11 rfl q4 ?_
        refine r_putI C flX11_92 dX11_town_159 ok11 rfl ⟨rfl, rfl⟩ ?_
        refine r_aload_n C dX11_town_162 rfl ?_
        refine r_aload_n C dX11_town_163 rfl ?_
        refine q_getV C flX11_147 dX11_town_164 ok11 rfl q5 ?_
        refine r_putI C flX11_176 dX11_town_167 ok11 rfl ⟨rfl, rfl⟩ ?_
        refine r_aload_n C dX11_town_170 rfl ?_
        refine r_getR C flX11_7 dX11_town_171 ok11 rfl rfl ?_
        refine r_iconst (v := (nI 0)) C dX11_town_174 (by decide) ?_
        refine r_aload_n C dX11_town_175 rfl ?_
        refine r_getR C flX11_45 dX11_town_176 ok11 rfl rfl ?_
        refine r_iconst (v := (nI 0)) C dX11_town_179 (by decide) ?_
        refine q_ialdV (m := 2) C dX11_town_180 ok49 rfl rfl (by omega) q6 ?_
        refine q_iast (m := 1080) C dX11_town_181 ok39 rfl rfl (by omega) ?_
        refine r_aload_n C dX11_town_182 rfl ?_
        refine r_getR C flX11_7 dX11_town_183 ok11 rfl rfl ?_
        refine r_iconst (v := (nI 1)) C dX11_town_186 (by decide) ?_
        refine r_aload_n C dX11_town_187 rfl ?_
        refine r_getR C flX11_45 dX11_town_188 ok11 rfl rfl ?_
        refine r_iconst (v := (nI 1)) C dX11_town_191 (by decide) ?_
        refine q_ialdV (m := 2) C dX11_town_192 ok49 rfl rfl (by omega) q7 ?_
        refine q_iast (m := 1080) C dX11_town_193 ok39 rfl rfl (by omega) ?_
        refine r_iconst (v := (nI 0)) C dX11_town_194 (by decide) ?_
        refine r_istore_n C dX11_town_195 st3 ?_
        have ff : Fs sTm hh (put (put (put (put (put (put (put (put h2 39 0 44 (gSv g 44)) 11 0 3 (nI (N 4))) 11 0 4 (nI (N 0))) 11 0 7 (nI (N 1))) 11 0 10 (nI (N 2))) 11 0 12 (nI (N 3))) 39 0 0 (T 9 0)) 39 0 1 (T 9 1)) := (((((((f2.put rfl).put rfl).put rfl).put rfl).put rfl).put rfl).put rfl).put rfl
        refine loop1 (N 0) 0 _ (by omega) ⟨g1.tm ff, fun i hi => ?_, ⟨rfl, rfl, rfl, rfl, rfl⟩, fun i hi => absurd hi (Nat.not_lt_zero _), fun i hi => absurd hi (Nat.not_lt_zero _), fun i hi => absurd hi (Nat.not_lt_zero _), fun i hi => absurd hi (Nat.not_lt_zero _)⟩ ff h16
        rw [Nat.zero_add]
        have hz2 := hz i (by omega)
        by_cases i1 : i = 1
        · subst i1; rfl
        · rw [put_i i1]
          by_cases i0 : i = 0
          · subst i0; rfl
          · rw [put_i i0, put_k (by decide), put_k (by decide), put_k (by decide), put_k (by decide), put_k (by decide)]
            by_cases i44 : i = 44
            · subst i44; rfl
            · rw [put_i i44, hz2, va_up_ne _ _ i44]
              simp only [bgF]
              rw [if_neg i0, if_neg i1, if_neg (show ¬ (5 ≤ i ∧ i < 5 + NN 0 0 0) by show ¬ (5 ≤ i ∧ i < 5 + 0); omega), if_neg (show ¬ (20 ≤ i ∧ i < 20 + NN 0 0 1) by show ¬ (20 ≤ i ∧ i < 20 + 0); omega)]
      | succ k ih =>
        intro c h2 hk hz f2 h16
        refine r_iload_n C dX11_town_103 rfl ?_
        refine r_bipush (v := (nI 45)) C dX11_town_104 (by decide) ?_
        refine r_icmpN_ge C dX11_town_106 (by omega) (by omega) (fun cc => absurd cc (by omega)) (fun _ => ?_)
        refine r_aload_n C dX11_town_109 rfl ?_
        refine r_getR C flX11_7 dX11_town_110 ok11 rfl rfl ?_
        refine r_iload_n C dX11_town_113 rfl ?_
        refine r_iconst (v := (nI 0)) C dX11_town_114 (by decide) ?_
        refine q_iast (m := 1080) C dX11_town_115 ok39 rfl rfl (by omega) ?_
        first | refine r_iincN C dX11_town_116 rfl st3 ?_ | refine r_iinc C dX11_town_116 rfl rfl st3 ?_
        refine r_goto C dX11_town_119 ?_
        refine ih (c + 1) _ (by omega) (fun i hi => ?_) (f2.put (sTm_39 (by omega))) h16
        by_cases z : i = c
        · subst z; exact put_same
        · rw [put_i z]; exact hz i (by omega)
    refine r_aload_n C dX11_town_76 rfl ?_
    refine r_iconst (v := (nI 0)) C dX11_town_77 (by decide) ?_
    refine r_putI C flX11_100 dX11_town_78 ok11 rfl ⟨rfl, rfl⟩ ?_
    refine r_iload_n C dX11_town_81 rfl ?_
    refine r_if_ne C dX11_town_82 (fun _ => ?_) (fun cc => absurd cc (by decide))
    refine r_aload_n C dX11_town_93 rfl ?_
    refine r_getR C flX11_7 dX11_town_94 ok11 rfl rfl ?_
    refine r_bipush (v := (nI 44)) C dX11_town_97 (by decide) ?_
    refine q_ialdV (m := 1080) C dX11_town_99 ok39 rfl rfl (by omega) e44 ?_
    refine r_istore_n C dX11_town_100 st2 ?_
    refine r_iconst (v := (nI 0)) C dX11_town_101 (by decide) ?_
    refine r_istore_n C dX11_town_102 st3 ?_
    exact loop0 45 0 _ rfl (fun i hi => by omega) (Fs.rf.put rfl) put_same
  have loop : ∀ f p N T hh, p ≤ gLn g → gLn g ≤ skN (gX g) (gLn g) p + f → hh 11 0 17 = nI p → mrd hh N T → hh 11 0 21 = -1 → Fs sRm h hh → prF (gX g) (gLn g) f (skN (gX g) (gLn g) p) N T = parseF (gX g) (gLn g) → Wa E G 243 (Rs a b) hh (QQ E G 243 (mqr a b (townF g).2 h (townF g).1)) 56 [some (aR 11 0), some (aI (nI 1)), none, none] [] := by
    intro f
    induction f with
    | zero =>
      intro p N T hh hp hfu g1 g2 g3 g4 g5
      have hb := skN_b (X := gX g) hp
      refine r_iload_n C dX11_town_56 rfl ?_
      refine r_if_eq C dX11_town_57 (fun cc => absurd cc (by decide)) (fun _ => ?_)
      refine r_aload_n C dX11_town_60 rfl ?_
      refine r_callV C (m_here (hx.rm g4) g1 hp) dX11_town_61 cw_X11_here cvX11_117 (by omega) ok11 rfl hN rfl (Nat.le_of_ble_eq_true rfl) ?_
      rintro v R' h1 ⟨rfl, rfl, a1, a2, f1⟩
      rw [show ltF (gX g) (gLn g) (skN (gX g) (gLn g) p) = -1 from if_neg (by omega)]
      refine r_iconst (v := (-1)) C dX11_town_64 (by decide) ?_
      refine r_icmp_eq C dX11_town_65 (fun _ => ?_) (fun cc => absurd cc (by exact fun z => z rfl))
      rw [prF] at g5
      exact good h1 N T 0 (mrd.no (f1.wk sHr_sNo) g2) ((f1 11 0 21 rfl).trans g3) g5.symm (g4.tr (f1.wk (fun k i z => sNo_sRm k i (sHr_sNo k i z))))
    | succ f ih =>
      intro p N T hh hp hfu g1 g2 g3 g4 g5
      have hb := skN_b (X := gX g) hp
      rw [prF] at g5
      refine r_iload_n C dX11_town_56 rfl ?_
      refine r_if_eq C dX11_town_57 (fun cc => absurd cc (by decide)) (fun _ => ?_)
      refine r_aload_n C dX11_town_60 rfl ?_
      refine r_callV C (m_here (hx.rm g4) g1 hp) dX11_town_61 cw_X11_here cvX11_117 (by omega) ok11 rfl hN rfl (Nat.le_of_ble_eq_true rfl) ?_
      rintro v R' h1 ⟨rfl, rfl, a1, a2, f1⟩
      have g21 : h1 11 0 21 = -1 := (f1 11 0 21 rfl).trans g3
      have gm1 : mrd h1 N T := mrd.no (f1.wk sHr_sNo) g2
      have ff1 : Fs sRm h h1 := g4.tr (f1.wk (fun k i z => sNo_sRm k i (sHr_sNo k i z)))
      by_cases hlt : skN (gX g) (gLn g) p < gLn g
      · rw [if_pos hlt] at g5
        have hid := skN_idem (X := gX g) hp
        have hne : ¬ ltF (gX g) (gLn g) (skN (gX g) (gLn g) p) = -1 := fun z => (lt_m1 hX).mp z hlt
        generalize ltF (gX g) (gLn g) (skN (gX g) (gLn g) p) = lt at hne
        refine r_iconst (v := (-1)) C dX11_town_64 (by decide) ?_
        refine r_icmp_eq C dX11_town_65 (fun cc => absurd cc (hne)) (fun _ => ?_)
        refine r_aload_n C dX11_town_68 rfl ?_
        refine r_callV C (m_takesClause (hx.rm ff1) a1 hb.2 (by rw [hid]; exact hlt) gm1) dX11_town_69 cw_X11_takesClause cvX11_173 (by omega) ok11 rfl hN rfl (Nat.le_of_ble_eq_true rfl) ?_
        rintro v R' h3 ⟨rfl, ok, no⟩
        rw [hid] at ok no
        by_cases hz : (clsF (gX g) (gLn g) (skN (gX g) (gLn g) p) N T).2.2.2.1 = 0
        · obtain ⟨rfl, o1, o2, o3⟩ := ok hz
          rw [if_pos hz] at g5
          have hcb := clsF_b hlt hz
          have hcs := skN_b (X := gX g) hcb.2
          refine r_istore_n C dX11_town_72 st1 ?_
          refine r_goto C dX11_town_73 ?_
          exact ih _ _ _ h3 hcb.2 (by omega) o1 o2 ((o3 11 0 21 rfl).trans g21) (ff1.tr (o3.wk sRo_sRm)) g5
        · obtain ⟨rfl, o1, o2, o3⟩ := no hz
          rw [if_neg hz] at g5
          refine r_istore_n C dX11_town_72 st1 ?_
          refine r_goto C dX11_town_73 ?_
          refine r_iload_n C dX11_town_56 rfl ?_
          refine r_if_eq C dX11_town_57 (fun _ => ?_) (fun cc => absurd cc (by exact fun z => z rfl))
          exact bad h3 N T _ _ o1 o2 hz g5.symm (ff1.tr o3)
      · rw [if_neg hlt] at g5
        rw [show ltF (gX g) (gLn g) (skN (gX g) (gLn g) p) = -1 from if_neg hlt]
        refine r_iconst (v := (-1)) C dX11_town_64 (by decide) ?_
        refine r_icmp_eq C dX11_town_65 (fun _ => ?_) (fun cc => absurd cc (by exact fun z => z rfl))
        exact good h1 N T 0 gm1 g21 g5.symm ff1
  refine r_aload_n C dX11_town_0 rfl ?_
  refine r_iconst (v := (nI 0)) C dX11_town_1 (by decide) ?_
  refine r_putI C flX11_104 dX11_town_2 ok11 rfl ⟨rfl, rfl⟩ ?_
  refine r_aload_n C dX11_town_5 rfl ?_
  refine r_iconst (v := (nI 0)) C dX11_town_6 (by decide) ?_
  refine r_putI C flX11_114 dX11_town_7 ok11 rfl ⟨rfl, rfl⟩ ?_
  refine r_aload_n C dX11_town_10 rfl ?_
  refine r_iconst (v := (-1)) C dX11_town_11 (by decide) ?_
  refine r_putI C flX11_41 dX11_town_12 ok11 rfl ⟨rfl, rfl⟩ ?_
  refine r_aload_n C dX11_town_15 rfl ?_
  refine r_iconst (v := (nI 0)) C dX11_town_16 (by decide) ?_
  refine r_putI C flX11_132 dX11_town_17 ok11 rfl ⟨rfl, rfl⟩ ?_
  refine r_aload_n C dX11_town_20 rfl ?_
  refine r_getR C flX11_45 dX11_town_21 ok11 rfl rfl ?_
  refine r_iconst (v := (nI 0)) C dX11_town_24 (by decide) ?_
  refine r_iconst (v := (nI 0)) C dX11_town_25 (by decide) ?_
  refine q_iast (m := 2) C dX11_town_26 ok49 rfl rfl (by omega) ?_
  refine r_aload_n C dX11_town_27 rfl ?_
  refine r_getR C flX11_45 dX11_town_28 ok11 rfl rfl ?_
  refine r_iconst (v := (nI 1)) C dX11_town_31 (by decide) ?_
  refine r_iconst (v := (nI 0)) C dX11_town_32 (by decide) ?_
  refine q_iast (m := 2) C dX11_town_33 ok49 rfl rfl (by omega) ?_
  refine r_aload_n C dX11_town_34 rfl ?_
  refine r_iconst (v := (nI 0)) C dX11_town_35 (by decide) ?_
  refine r_putI C flX11_138 dX11_town_36 ok11 rfl ⟨rfl, rfl⟩ ?_
  refine r_aload_n C dX11_town_39 rfl ?_
  refine r_iconst (v := (nI 0)) C dX11_town_40 (by decide) ?_
  refine r_putI C flX11_141 dX11_town_41 ok11 rfl ⟨rfl, rfl⟩ ?_
  refine r_aload_n C dX11_town_44 rfl ?_
  refine r_iconst (v := (nI 0)) C dX11_town_45 (by decide) ?_
  refine r_putI C flX11_144 dX11_town_46 ok11 rfl ⟨rfl, rfl⟩ ?_
  refine r_aload_n C dX11_town_49 rfl ?_
  refine r_iconst (v := (nI 0)) C dX11_town_50 (by decide) ?_
  refine r_putI C flX11_147 dX11_town_51 ok11 rfl ⟨rfl, rfl⟩ ?_
  refine r_iconst (v := (nI 1)) C dX11_town_54 (by decide) ?_
  refine r_istore_n C dX11_town_55 st1 ?_
  refine loop 240 0 (fun _ => 0) (fun _ _ => nI 0) _ (Nat.zero_le _) (by omega) rfl ⟨rfl, rfl, rfl, rfl, rfl, rfl, rfl, fun i hi => absurd hi (Nat.not_lt_zero _), fun i hi => absurd hi (Nat.not_lt_zero _), fun i hi => absurd hi (Nat.not_lt_zero _), fun i hi => absurd hi (Nat.not_lt_zero _), by decide, by decide, by decide, by decide, by decide⟩ rfl ?_ rfl
  exact (((((((((Fs.rf.put rfl).put rfl).put rfl).put rfl).put rfl).put rfl).put rfl).put rfl).put rfl).put rfl
