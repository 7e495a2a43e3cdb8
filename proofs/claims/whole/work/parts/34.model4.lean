def psP (a b o : Nat) (h : HF) (s : Sv) (d : Int32) : Option AV → RF → HF → Prop := fun v R' h' => v = none ∧ R' = Rs a b ∧ mw h' o s ∧ h' 11 0 32 = d ∧ Fs (sE o) h h'
set_option maxRecDepth 100000 in
set_option maxHeartbeats 4000000 in
theorem m_passes {E : Ev} {a b o : Nat} {h : HF} {s : Sv} {N : Nat → Nat} {T : Tv} {q : Int32} (ho : o ≤ 1035) (ht : mtw h N T) (hs : mw h o s) (hb : ∀ c, c < N 0 → nI 0 ≤ T 1 c) (hm : ∀ c, c < N 0 → 0 ≤ s (5 + c)) (h3 : 0 ≤ s 3) : Ct E 1 yX11_passes cX11_passes 5 none [aR 11 0, aI (nI o), aI q] 243 (Rs a b) h 243 (psP a b o h (passF N T q s) (edayF N T q s).2.2) := by
  refine Ct.of 2 (L0 := [some (aR 11 0), some (aI (nI o)), some (aI q), none, none]) (by decide) ⟨Nat.le_refl _, Nat.le_refl _⟩ rfl rfl ?_
  intro G C hg hrt hnm
  have hN : gn G ≤ 243 ∧ 243 ≤ 243 ∧ 243 ≤ 243 := ⟨by omega, by decide, by decide⟩
  have b0 := ht.2.2.2.2.2.2.2.2.2.1
  have b1 := ht.2.2.2.2.2.2.2.2.2.2.1
  have b3 := ht.2.2.2.2.2.2.2.2.2.2.2.2.1
  have u3 : payN N T (eatN (T 1) q (u0F N T s) (N 0)).1 (N 0) 3 = s 3 := by
    rw [payN_off b1 (by omega) _ b0, eatN_off (by omega) (by omega) _ b0]
    show va_up s 0 (s 0 + hfd T (s 2) (N 3)) 3 = s 3
    exact va_up_ne _ _ (by decide)
  have fin : ∀ hh y w l4, mw hh o (payN N T (eatN (T 1) q (u0F N T s) (N 0)).1 (N 0)) → s 3 + y = hunF (edayF N T q s).2.1 (s 3) → hh 11 0 32 = (edayF N T q s).2.2 → Fs (sE o) h hh → Wa E G 243 (Rs a b) hh (QQ E G 243 (psP a b o h (passF N T q s) (edayF N T q s).2.2)) 158 [some (aR 11 0), some (aI (nI o)), some (aI q), some (aI w), l4] [aI y, aI (s 3), aI (nI (o + 3)), aR 39 0] := by
    intro hh y w l4 g1 hy g2 g3
    have g4 := mw_put (p := o + 3) (k := 3) (x := s 3 + y) rfl g1
    have e2 : put hh 39 0 (o + 3) (s 3 + y) 39 0 (o + 2) = (eatN (T 1) q (u0F N T s) (N 0)).1 2 := by
      rw [put_i (by omega), g1 2 (by decide), payN_off b1 (by omega) _ b0]
    refine r_iadd C dX11_passes_158 ?_
    refine q_iast (m := 1080) C dX11_passes_159 ok39 rfl rfl (by omega) ?_
    refine r_aload_n C dX11_passes_160 rfl ?_
    refine r_getR C flX11_7 dX11_passes_161 ok11 rfl rfl ?_
    refine r_iload_n C dX11_passes_164 rfl ?_
    refine r_iconst (v := (nI 2)) C dX11_passes_165 (by decide) ?_
    first | refine r_iaddN C dX11_passes_166 ?_ | refine r_iadd C dX11_passes_166 ?_
    refine r_dup2 C dX11_passes_167 rfl rfl ?_
    refine q_ialdV (m := 1080) C dX11_passes_168 ok39 rfl rfl (by omega) e2 ?_
    refine r_iconst (v := (nI 1)) C dX11_passes_169 (by decide) ?_
    refine r_iadd C dX11_passes_170 ?_
    refine q_iast (m := 1080) C dX11_passes_171 ok39 rfl rfl (by omega) ?_
    refine r_vret C hrt dX11_passes_172 ?_
    refine ⟨rfl, rfl, ?_, ?_, (g3.put (sE_in (by omega))).put (sE_in (by omega))⟩
    · rw [← pass_eq b0 b1 y hy]
      exact mw_put rfl g4
    · rw [put_k (by decide), put_k (by decide)]
      exact g2
  have loop3 : ∀ k c hh, c + k = N 0 → mw hh o (payN N T (eatN (T 1) q (u0F N T s) (N 0)).1 c) → hh 11 0 32 = (edayF N T q s).2.2 → Fs (sE o) h hh → Wa E G 243 (Rs a b) hh (QQ E G 243 (psP a b o h (passF N T q s) (edayF N T q s).2.2)) 103 [some (aR 11 0), some (aI (nI o)), some (aI q), some (aI (eatN (T 1) q (u0F N T s) (N 0)).2.1), some (aI (nI c))] [] := by
    intro k
    induction k with
    | zero =>
      intro c hh hk g1 g2 g3
      have e : c = N 0 := by omega
      subst e
      have e3 : hh 39 0 (o + 3) = s 3 := by rw [g1 3 (by decide), u3]
      refine r_iload C dX11_passes_103 rfl ?_
      refine r_aload_n C dX11_passes_105 rfl ?_
      refine q_getV C flX11_82 dX11_passes_106 ok11 rfl (mtw.sE g3 ht).1 ?_
      refine r_icmpN_ge C dX11_passes_109 (by omega) (by omega) (fun _ => ?_) (fun cc => absurd cc (by omega))
      refine r_aload_n C dX11_passes_125 rfl ?_
      refine r_getR C flX11_7 dX11_passes_126 ok11 rfl rfl ?_
      refine r_iload_n C dX11_passes_129 rfl ?_
      refine r_iconst (v := (nI 3)) C dX11_passes_130 (by decide) ?_
      first | refine r_iaddN C dX11_passes_131 ?_ | refine r_iadd C dX11_passes_131 ?_
      refine r_dup2 C dX11_passes_132 rfl rfl ?_
      refine q_ialdV (m := 1080) C dX11_passes_133 ok39 rfl rfl (by omega) e3 ?_
      refine r_iload_n C dX11_passes_134 rfl ?_
      refine r_if_eq C dX11_passes_135 (fun c135 => ?_) (fun c135 => ?_)
      · refine r_aload_n C dX11_passes_142 rfl ?_
        refine r_getR C flX11_7 dX11_passes_143 ok11 rfl rfl ?_
        refine r_iload_n C dX11_passes_146 rfl ?_
        refine r_iconst (v := (nI 3)) C dX11_passes_147 (by decide) ?_
        first | refine r_iaddN C dX11_passes_148 ?_ | refine r_iadd C dX11_passes_148 ?_
        refine q_ialdV (m := 1080) C dX11_passes_149 ok39 rfl rfl (by omega) e3 ?_
        refine r_if_le C dX11_passes_150 (fun c150 => ?_) (fun c150 => ?_)
        · refine r_iconst (v := (nI 0)) C dX11_passes_157 (by decide) ?_
          exact fin hh (nI 0) _ _ g1 (hun_0 c135 c150 h3) g2 g3
        · refine r_iconst (v := (-1)) C dX11_passes_153 (by decide) ?_
          refine r_goto C dX11_passes_154 ?_
          exact fin hh (-1) _ _ g1 (hun_m c135 c150) g2 g3
      · refine r_iconst (v := (nI 1)) C dX11_passes_138 (by decide) ?_
        refine r_goto C dX11_passes_139 ?_
        exact fin hh (nI 1) _ _ g1 (hun_1 c135) g2 g3
    | succ k ih =>
      intro c hh hk g1 g2 g3
      have htn := mtw.sE g3 ht
      refine r_iload C dX11_passes_103 rfl ?_
      refine r_aload_n C dX11_passes_105 rfl ?_
      refine q_getV C flX11_82 dX11_passes_106 ok11 rfl htn.1 ?_
      refine r_icmpN_ge C dX11_passes_109 (by omega) (by omega) (fun cc => absurd cc (by omega)) (fun _ => ?_)
      refine r_aload_n C dX11_passes_112 rfl ?_
      refine r_iload_n C dX11_passes_113 rfl ?_
      refine r_iload C dX11_passes_114 rfl ?_
      refine r_callV C (m_isPaid ho htn g1 (by omega)) dX11_passes_116 cw_X11_isPaid cvX11_205 (by omega) ok11 rfl hN rfl (Nat.le_of_ble_eq_true rfl) ?_
      rintro v R' h2 ⟨rfl, rfl, hs2, hf2⟩
      first | refine r_iincN C dX11_passes_119 rfl st4 ?_ | refine r_iinc C dX11_passes_119 rfl rfl st4 ?_
      refine r_goto C dX11_passes_122 ?_
      exact ih (c + 1) h2 (by omega) hs2 ((hf2 11 0 32 (sW_ne (by decide))).trans g2) (g3.tr (hf2.wk sW_sE))
  have loop2 : ∀ k c hh, c + k = N 0 → mw hh o (eatN (T 1) q (u0F N T s) c).1 → hh 11 0 32 = (eatN (T 1) q (u0F N T s) c).2.2 → ((eatN (T 1) q (u0F N T s) c).2.1 = nI 0 ∨ (eatN (T 1) q (u0F N T s) c).2.1 = nI 1) → Fs (sE o) h hh → Wa E G 243 (Rs a b) hh (QQ E G 243 (psP a b o h (passF N T q s) (edayF N T q s).2.2)) 64 [some (aR 11 0), some (aI (nI o)), some (aI q), some (aI (eatN (T 1) q (u0F N T s) c).2.1), some (aI (nI c))] [] := by
    intro k
    induction k with
    | zero =>
      intro c hh hk g1 g2 hw g3
      have e : c = N 0 := by omega
      subst e
      refine r_iload C dX11_passes_64 rfl ?_
      refine r_aload_n C dX11_passes_66 rfl ?_
      refine q_getV C flX11_82 dX11_passes_67 ok11 rfl (mtw.sE g3 ht).1 ?_
      refine r_icmpN_ge C dX11_passes_70 (by omega) (by omega) (fun _ => ?_) (fun cc => absurd cc (by omega))
      refine r_iconst (v := (nI 0)) C dX11_passes_100 (by decide) ?_
      refine r_istore C dX11_passes_101 st4 ?_
      exact loop3 (N 0) 0 hh (by omega) g1 g2 g3
    | succ k ih =>
      intro c hh hk g1 g2 hw g3
      have htn := mtw.sE g3 ht
      have hmen : 0 ≤ (eatN (T 1) q (u0F N T s) c).1 (5 + c) := by
        rw [eatN_men (by omega) c (Nat.le_refl _)]
        show 0 ≤ va_up s 0 _ (5 + c)
        rw [va_up_ne _ _ (by omega)]
        exact hm c (by omega)
      have ew : eatN (T 1) q (u0F N T s) (c + 1) = _ := eat1_w (b := T 1) (q := q) (c := c) (s := (eatN (T 1) q (u0F N T s) c).1) (w := (eatN (T 1) q (u0F N T s) c).2.1) (d := (eatN (T 1) q (u0F N T s) c).2.2)
      refine r_iload C dX11_passes_64 rfl ?_
      refine r_aload_n C dX11_passes_66 rfl ?_
      refine q_getV C flX11_82 dX11_passes_67 ok11 rfl htn.1 ?_
      refine r_icmpN_ge C dX11_passes_70 (by omega) (by omega) (fun cc => absurd cc (by omega)) (fun _ => ?_)
      refine r_aload_n C dX11_passes_73 rfl ?_
      refine r_iload_n C dX11_passes_74 rfl ?_
      refine r_iload C dX11_passes_75 rfl ?_
      refine r_iload_n C dX11_passes_77 rfl ?_
      refine r_callV C (m_eats ho htn g1 (by omega) g2 (hb c (by omega)) hmen) dX11_passes_78 cw_X11_eats cvX11_201 (by omega) ok11 rfl hN rfl (Nat.le_of_ble_eq_true rfl) ?_
      rintro v R' h2 ⟨rfl, rfl, e1, e2, e3⟩
      have ih2 := ih (c + 1) h2 (by omega) (by rw [ew]; exact e1) (by rw [ew]; exact e2)
      have ew1 : (eatN (T 1) q (u0F N T s) (c + 1)).2.1 = if (eat1 (T 1) q c ((eatN (T 1) q (u0F N T s) c).1, nI 0, (eatN (T 1) q (u0F N T s) c).2.2)).2.1 = 0 then (eatN (T 1) q (u0F N T s) c).2.1 else nI 1 := by rw [ew]
      by_cases hz : (eat1 (T 1) q c ((eatN (T 1) q (u0F N T s) c).1, nI 0, (eatN (T 1) q (u0F N T s) c).2.2)).2.1 = 0
      · rw [if_pos hz] at ew1
        refine r_if_ne C dX11_passes_81 (fun cc => absurd cc (by exact fun z => z hz)) (fun _ => ?_)
        refine r_iload_n C dX11_passes_84 rfl ?_
        rcases hw with hw | hw
        · rw [hw] at ew1
          rw [hw]
          refine r_if_eq C dX11_passes_85 (fun _ => ?_) (fun cc => absurd cc (by exact fun z => z rfl))
          refine r_iconst (v := (nI 0)) C dX11_passes_92 (by decide) ?_
          refine r_istore_n C dX11_passes_93 st3 ?_
          first | refine r_iincN C dX11_passes_94 rfl st4 ?_ | refine r_iinc C dX11_passes_94 rfl rfl st4 ?_
          refine r_goto C dX11_passes_97 ?_
          rw [ew1] at ih2
          exact ih2 (Or.inl rfl) (g3.tr e3)
        · rw [hw] at ew1
          rw [hw]
          refine r_if_eq C dX11_passes_85 (fun cc => absurd cc (by decide)) (fun _ => ?_)
          refine r_iconst (v := (nI 1)) C dX11_passes_88 (by decide) ?_
          refine r_goto C dX11_passes_89 ?_
          refine r_istore_n C dX11_passes_93 st3 ?_
          first | refine r_iincN C dX11_passes_94 rfl st4 ?_ | refine r_iinc C dX11_passes_94 rfl rfl st4 ?_
          refine r_goto C dX11_passes_97 ?_
          rw [ew1] at ih2
          exact ih2 (Or.inr rfl) (g3.tr e3)
      · rw [if_neg hz] at ew1
        refine r_if_ne C dX11_passes_81 (fun _ => ?_) (fun cc => absurd cc (hz))
        refine r_iconst (v := (nI 1)) C dX11_passes_88 (by decide) ?_
        refine r_goto C dX11_passes_89 ?_
        refine r_istore_n C dX11_passes_93 st3 ?_
        first | refine r_iincN C dX11_passes_94 rfl st4 ?_ | refine r_iinc C dX11_passes_94 rfl rfl st4 ?_
        refine r_goto C dX11_passes_97 ?_
        rw [ew1] at ih2
        exact ih2 (Or.inr rfl) (g3.tr e3)
  have loop1 : ∀ k i hh, i + k = N 3 → mw hh o (va_up s 0 (s 0 + hfd T (s 2) i)) → Fs (sE o) h hh → Wa E G 243 (Rs a b) hh (QQ E G 243 (psP a b o h (passF N T q s) (edayF N T q s).2.2)) 2 [some (aR 11 0), some (aI (nI o)), some (aI q), some (aI (nI i)), none] [] := by
    intro k
    induction k with
    | zero =>
      intro i hh hk g1 g3
      have e : i = N 3 := by omega
      subst e
      refine r_iload_n C dX11_passes_2 rfl ?_
      refine r_aload_n C dX11_passes_3 rfl ?_
      refine q_getV C flX11_176 dX11_passes_4 ok11 rfl (mtw.sE g3 ht).2.2.2.1 ?_
      refine r_icmpN_ge C dX11_passes_7 (by omega) (by omega) (fun _ => ?_) (fun cc => absurd cc (by omega))
      refine r_aload_n C dX11_passes_54 rfl ?_
      refine r_iconst (v := (-1)) C dX11_passes_55 (by decide) ?_
      refine r_putI C flX11_198 dX11_passes_56 ok11 rfl ⟨rfl, rfl⟩ ?_
      refine r_iconst (v := (nI 0)) C dX11_passes_59 (by decide) ?_
      refine r_istore_n C dX11_passes_60 st3 ?_
      refine r_iconst (v := (nI 0)) C dX11_passes_61 (by decide) ?_
      refine r_istore C dX11_passes_62 st4 ?_
      exact loop2 (N 0) 0 _ (by omega) (mw_k (by decide) g1) put_same (Or.inl rfl) (g3.put (by simp [sE]))
    | succ k ih =>
      intro i hh hk g1 g3
      have htn := mtw.sE g3 ht
      have hrow := htn.2.2.2.2.2.2.2.2.1 i (by omega)
      have e0 : hh 39 0 (o + 0) = s 0 + hfd T (s 2) i := (g1 0 (by decide)).trans (va_up_self _ _ _)
      have e2 : hh 39 0 (o + 2) = s 2 := (g1 2 (by decide)).trans (va_up_ne _ _ (by decide))
      have fin2 : ∀ y, s 0 + hfd T (s 2) i + y = s 0 + hfd T (s 2) (i + 1) → Wa E G 243 (Rs a b) hh (QQ E G 243 (psP a b o h (passF N T q s) (edayF N T q s).2.2)) 46 [some (aR 11 0), some (aI (nI o)), some (aI q), some (aI (nI i)), none] [aI y, aI (s 0 + hfd T (s 2) i), aI (nI (o + 0)), aR 39 0] := by
        intro y hy
        refine r_iadd C dX11_passes_46 ?_
        refine q_iast (m := 1080) C dX11_passes_47 ok39 rfl rfl (by omega) ?_
        first | refine r_iincN C dX11_passes_48 rfl st3 ?_ | refine r_iinc C dX11_passes_48 rfl rfl st3 ?_
        refine r_goto C dX11_passes_51 ?_
        have g4 := mw_put (p := o + 0) (k := 0) (x := s 0 + hfd T (s 2) i + y) rfl g1
        rw [up_twice, hy] at g4
        rw [hy]
        exact ih (i + 1) _ (by omega) g4 (g3.put (sE_in (by omega)))
      refine r_iload_n C dX11_passes_2 rfl ?_
      refine r_aload_n C dX11_passes_3 rfl ?_
      refine q_getV C flX11_176 dX11_passes_4 ok11 rfl htn.2.2.2.1 ?_
      refine r_icmpN_ge C dX11_passes_7 (by omega) (by omega) (fun cc => absurd cc (by omega)) (fun _ => ?_)
      refine r_aload_n C dX11_passes_10 rfl ?_
      refine r_getR C flX11_7 dX11_passes_11 ok11 rfl rfl ?_
      refine r_iload_n C dX11_passes_14 rfl ?_
      refine r_iconst (v := (nI 0)) C dX11_passes_15 (by decide) ?_
      first | refine r_iaddN C dX11_passes_16 ?_ | refine r_iadd C dX11_passes_16 ?_
      refine r_dup2 C dX11_passes_17 rfl rfl ?_
      refine q_ialdV (m := 1080) C dX11_passes_18 ok39 rfl rfl (by omega) e0 ?_
      refine r_aload_n C dX11_passes_19 rfl ?_
      refine r_getR C flX11_32 dX11_passes_20 ok11 rfl rfl ?_
      refine r_iload_n C dX11_passes_23 rfl ?_
      refine q_ialdV (m := 4) C dX11_passes_24 ok46 rfl rfl (by omega) hrow.1 ?_
      refine r_aload_n C dX11_passes_25 rfl ?_
      refine r_getR C flX11_7 dX11_passes_26 ok11 rfl rfl ?_
      refine r_iload_n C dX11_passes_29 rfl ?_
      refine r_iconst (v := (nI 2)) C dX11_passes_30 (by decide) ?_
      first | refine r_iaddN C dX11_passes_31 ?_ | refine r_iadd C dX11_passes_31 ?_
      refine q_ialdV (m := 1080) C dX11_passes_32 ok39 rfl rfl (by omega) e2 ?_
      refine r_icmp_ne C dX11_passes_33 (fun c33 => ?_) (fun c33 => ?_)
      · refine r_iconst (v := (nI 0)) C dX11_passes_45 (by decide) ?_
        exact fin2 _ (by rw [hfd, if_neg c33]; exact Int32.add_zero _)
      · refine r_aload_n C dX11_passes_36 rfl ?_
        refine r_getR C flX11_35 dX11_passes_37 ok11 rfl rfl ?_
        refine r_iload_n C dX11_passes_40 rfl ?_
        refine q_ialdV (m := 4) C dX11_passes_41 ok47 rfl rfl (by omega) hrow.2 ?_
        refine r_goto C dX11_passes_42 ?_
        exact fin2 _ (by rw [hfd, if_pos c33, Int32.add_assoc])
  refine r_iconst (v := (nI 0)) C dX11_passes_0 (by decide) ?_
  refine r_istore_n C dX11_passes_1 st3 ?_
  refine loop1 (N 3) 0 h (by omega) ?_ Fs.rf
  rw [up_same (show s 0 + hfd T (s 2) 0 = s 0 from Int32.add_zero _)]
  exact hs
/-! what can be undone -/
def sMn : Nat → Nat → Bool := fun k i => (k == 39 && decide (180 ≤ i)) || (k == 11 && i == 2)
theorem sMn_in {i : Nat} (h : 180 ≤ i) : sMn 39 i = true := by simp [sMn, h]
theorem sMn_low {i : Nat} (h : i < 180) : sMn 39 i = false := by simp [sMn]; omega
theorem sMn_rows {k i : Nat} (h39 : k ≠ 39) (h11 : k ≠ 11) : sMn k i = false := by simp [sMn, h39, h11]
theorem sMn_11 {i : Nat} (h : i ≠ 2) : sMn 11 i = false := by simp [sMn, h]
theorem sMn_sXm : ∀ k i, sMn k i = true → sXm k i = true := by
  intro k i z
  simp only [sMn, sXm, Bool.or_eq_true, Bool.and_eq_true, beq_iff_eq, decide_eq_true_eq] at z ⊢
  omega
theorem sE_sXm {o : Nat} : ∀ k i, sE o k i = true → sXm k i = true := by
  intro k i z
  simp only [sE, sW, sXm, Bool.or_eq_true, Bool.and_eq_true, beq_iff_eq, decide_eq_true_eq] at z ⊢
  omega
theorem MP.minds {h h' : HF} {g : Gs} {u : Nat × (Nat → Sv)} (f : Fs sMn h h') (hu : M4 h' u) (c : MP h g) : MP h' (setS g (gSv g) u) :=
  ⟨⟨c.1.1.fs f (sMn_11 (by decide)) (fun i => sMn_rows (by decide) (by decide)), (f 11 0 21 (sMn_11 (by decide))).trans c.1.2⟩, c.2.1.fs f (fun i hi => sMn_11 (by omega)) (fun k i _ _ => sMn_rows (by omega) (by omega)), c.2.2.1.fs f (fun k hk => sMn_low (by omega)), hu, c.2.2.2.2.1.fs f (fun i => sMn_rows (by decide) (by decide)) (fun i _ _ => sMn_low (by omega)), c.2.2.2.2.2.1.fs f (sMn_11 (by decide)) (fun k i _ _ => sMn_rows (by omega) (by omega)), c.2.2.2.2.2.2.fs f (sMn_11 (by decide)) (fun k i _ _ => sMn_rows (by omega) (by omega))⟩
theorem MP.now {h h' : HF} {g : Gs} {s : Sv} (f : Fs (sE 0) h h') (hs : mw h' 0 s) (c : MP h g) : MP h' (setS g s (gU g)) :=
  ⟨⟨c.1.1.fs f (sE_11 (by decide)) (fun i => sE_rows (by decide) (by decide)), (f 11 0 21 (sE_11 (by decide))).trans c.1.2⟩, c.2.1.sE f, hs, c.2.2.2.1.fs f (sE_11 (by decide)) (fun i hi => sE_out (by omega)), c.2.2.2.2.1.fs f (fun i => sE_rows (by decide) (by decide)) (fun i _ _ => sE_out (by omega)), c.2.2.2.2.2.1.fs f (sE_11 (by decide)) (fun k i _ _ => sE_rows (by omega) (by omega)), c.2.2.2.2.2.2.fs f (sE_11 (by decide)) (fun k i _ _ => sE_rows (by omega) (by omega))⟩
def mindP (a b : Nat) (h : HF) (u : Nat × (Nat → Sv)) : Option AV → RF → HF → Prop := fun v R' h' => v = none ∧ R' = Rs a b ∧ M4 h' u ∧ Fs sMn h h'
set_option maxRecDepth 100000 in
set_option maxHeartbeats 4000000 in
theorem m_minds {E : Ev} {a b : Nat} {h : HF} {s : Sv} {u : Nat × (Nat → Sv)} (hs : mw h 0 s) (hu : M4 h u) : Ct E 1 yX11_minds cX11_minds 2 none [aR 11 0] 243 (Rs a b) h 243 (mindP a b h (pushN u.1, pushU u.1 u.2 s)) := by
  refine Ct.of 1 (L0 := [some (aR 11 0), none]) (by decide) ⟨Nat.le_refl _, Nat.le_refl _⟩ rfl rfl ?_
  intro G C hg hrt hnm
  have hN : gn G ≤ 243 ∧ 243 ≤ 243 ∧ 243 ≤ 243 := ⟨by omega, by decide, by decide⟩
  obtain ⟨hu1, hu2, hu3⟩ := hu
  have cf : ∀ hh n U l1, hh 11 0 2 = nI n → n < 20 → (∀ i, i < n → mw hh (180 + 45 * i) (U i)) → Fs sMn h hh → pushN u.1 = n + 1 → (∀ i, i < n + 1 → pushU u.1 u.2 s i = va_up U n s i) → Wa E G 243 (Rs a b) hh (QQ E G 243 (mindP a b h (pushN u.1, pushU u.1 u.2 s))) 57 [some (aR 11 0), l1] [] := by
    intro hh n U l1 g1 g2 g3 g4 g5 g6
    have hs0 : mw hh 0 s := hs.fs g4 (fun k hk => sMn_low (by omega))
    refine r_aload_n C dX11_minds_57 rfl ?_
    refine r_iconst (v := (nI 0)) C dX11_minds_58 (by decide) ?_
    refine r_sipush (v := (nI 180)) C dX11_minds_59 (by decide) ?_
    refine r_bipush (v := (nI 45)) C dX11_minds_62 (by decide) ?_
    refine r_aload_n C dX11_minds_64 rfl ?_
    refine q_getV C flX11_185 dX11_minds_65 ok11 rfl g1 ?_
    first | refine r_imulN C dX11_minds_68 ?_ | refine r_imul C dX11_minds_68 ?_
    first | refine r_iaddN C dX11_minds_69 ?_ | refine r_iadd C dX11_minds_69 ?_
    refine r_callV C (m_copy (by omega) (by omega) (by omega) hs0) dX11_minds_70 cw_X11_copy cvX11_209 (by omega) ok11 rfl hN rfl (Nat.le_of_ble_eq_true rfl) ?_
    rintro v R' h2 ⟨rfl, rfl, c1, c2⟩
    have k1 : h2 11 0 2 = nI n := (c2 11 0 2 (sW_ne (by decide))).trans g1
    refine r_aload_n C dX11_minds_73 rfl ?_
    refine r_dup C dX11_minds_74 rfl ?_
    refine q_getV C flX11_185 dX11_minds_75 ok11 rfl k1 ?_
    refine r_iconst (v := (nI 1)) C dX11_minds_78 (by decide) ?_
    first | refine r_iaddN C dX11_minds_79 ?_ | refine r_iadd C dX11_minds_79 ?_
    refine r_putI C flX11_185 dX11_minds_80 ok11 rfl ⟨rfl, rfl⟩ ?_
    refine r_vret C hrt dX11_minds_83 ?_
    refine ⟨rfl, rfl, ⟨by rw [put_same]; show _ = nI (pushN u.1); rw [g5], by show pushN u.1 ≤ 20; omega, fun i hi => ?_⟩, (g4.tr (c2.wk (fun k i z => ?_))).put rfl⟩
    · have hi2 : i < n + 1 := by rw [← g5]; exact hi
      show mw _ _ (pushU u.1 u.2 s i)
      rw [g6 i hi2]
      refine mw_k (by decide) ?_
      by_cases e : i = n
      · subst e
        rw [va_up_self]
        exact c1
      · rw [va_up_ne _ _ e]
        exact (g3 i (by omega)).fs c2 (fun k hk => sW_out (by omega))
    · simp only [sW, Bool.and_eq_true, beq_iff_eq, decide_eq_true_eq] at z
      obtain ⟨rfl, z1, z2⟩ := z
      exact sMn_in (by omega)
  by_cases hc : u.1 < 20
  · refine r_aload_n C dX11_minds_0 rfl ?_
    refine q_getV C flX11_185 dX11_minds_1 ok11 rfl hu1 ?_
    refine r_bipush (v := (nI 20)) C dX11_minds_4 (by decide) ?_
    refine r_icmpN_ne C dX11_minds_6 (by omega) (by omega) (fun _ => ?_) (fun cc => absurd cc (by omega))
    exact cf h u.1 u.2 _ hu1 hc hu3 Fs.rf (by rw [pushN, if_pos hc]) (fun i hi => by rw [pushU, if_pos hc])
  · have e : u.1 = 20 := by omega
    rw [e] at hu1 hu3
    refine r_aload_n C dX11_minds_0 rfl ?_
    refine q_getV C flX11_185 dX11_minds_1 ok11 rfl hu1 ?_
    refine r_bipush (v := (nI 20)) C dX11_minds_4 (by decide) ?_
    refine r_icmpN_ne C dX11_minds_6 (by omega) (by omega) (fun cc => absurd cc (by omega)) (fun _ => ?_)
    refine r_iconst (v := (nI 0)) C dX11_minds_9 (by decide) ?_
    refine r_istore_n C dX11_minds_10 st1 ?_
    have loop : ∀ k c hh, c + k = 855 → (∀ i, i < c → hh 39 0 (180 + i) = h 39 0 (180 + i + 45)) → (∀ i, c ≤ i → hh 39 0 (180 + i) = h 39 0 (180 + i)) → hh 11 0 2 = nI 20 → Fs sMn h hh → Wa E G 243 (Rs a b) hh (QQ E G 243 (mindP a b h (pushN u.1, pushU u.1 u.2 s))) 11 [some (aR 11 0), some (aI (nI c))] [] := by
      intro k
      induction k with
      | zero =>
        intro c hh hk g1 g2 g3 g4
        refine r_iload_n C dX11_minds_11 rfl ?_
        refine r_sipush (v := (nI 855)) C dX11_minds_12 (by decide) ?_
        refine r_icmpN_ge C dX11_minds_15 (by omega) (by omega) (fun _ => ?_) (fun cc => absurd cc (by omega))
        refine r_aload_n C dX11_minds_47 rfl ?_
        refine r_dup C dX11_minds_48 rfl ?_
        refine q_getV C flX11_185 dX11_minds_49 ok11 rfl g3 ?_
        refine r_iconst (v := (nI 1)) C dX11_minds_52 (by decide) ?_
        refine r_isubN C dX11_minds_53 (by decide) ?_
        refine r_putI C flX11_185 dX11_minds_54 ok11 rfl ⟨rfl, rfl⟩ ?_
        refine cf _ 19 (fun i => u.2 (i + 1)) _ put_same (by decide) (fun i hi => mw_k (by decide) (fun k hk => ?_)) (g4.put rfl) (by rw [pushN, if_neg hc]) (fun i hi => ?_)
        · rw [show 180 + 45 * i + k = 180 + (45 * i + k) by omega, g1 _ (by omega), show 180 + (45 * i + k) + 45 = 180 + 45 * (i + 1) + k by omega]
          exact hu3 (i + 1) (by omega) k hk
        · rw [pushU, if_neg hc]
          show (if i < 19 then u.2 (i + 1) else s) = _
          by_cases z : i = 19
          · subst z; rw [va_up_self]; rfl
          · rw [va_up_ne _ _ z, if_pos (by omega)]
      | succ k ih =>
        intro c hh hk g1 g2 g3 g4
        have e2 : hh 39 0 (180 + c + 45) = h 39 0 (180 + c + 45) := by
          have := g2 (c + 45) (by omega)
          rw [show 180 + (c + 45) = 180 + c + 45 by omega] at this
          exact this
        refine r_iload_n C dX11_minds_11 rfl ?_
        refine r_sipush (v := (nI 855)) C dX11_minds_12 (by decide) ?_
        refine r_icmpN_ge C dX11_minds_15 (by omega) (by omega) (fun cc => absurd cc (by omega)) (fun _ => ?_)
        refine r_aload_n C dX11_minds_18 rfl ?_
        refine r_getR C flX11_7 dX11_minds_19 ok11 rfl rfl ?_
        refine r_sipush (v := (nI 180)) C dX11_minds_22 (by decide) ?_
        refine r_iload_n C dX11_minds_25 rfl ?_
        first | refine r_iaddN C dX11_minds_26 ?_ | refine r_iadd C dX11_minds_26 ?_
        refine r_aload_n C dX11_minds_27 rfl ?_
        refine r_getR C flX11_7 dX11_minds_28 ok11 rfl rfl ?_
        refine r_sipush (v := (nI 180)) C dX11_minds_31 (by decide) ?_
        refine r_iload_n C dX11_minds_34 rfl ?_
        first | refine r_iaddN C dX11_minds_35 ?_ | refine r_iadd C dX11_minds_35 ?_
        refine r_bipush (v := (nI 45)) C dX11_minds_36 (by decide) ?_
        first | refine r_iaddN C dX11_minds_38 ?_ | refine r_iadd C dX11_minds_38 ?_
        refine q_ialdV (m := 1080) C dX11_minds_39 ok39 rfl rfl (by omega) e2 ?_
        refine q_iast (m := 1080) C dX11_minds_40 ok39 rfl rfl (by omega) ?_
        first | refine r_iincN C dX11_minds_41 rfl st1 ?_ | refine r_iinc C dX11_minds_41 rfl rfl st1 ?_
        refine r_goto C dX11_minds_44 ?_
        refine ih (c + 1) _ (by omega) (fun i hi => ?_) (fun i hi => ?_) (by rw [put_k (by decide)]; exact g3) (g4.put (sMn_in (by omega)))
        · by_cases z : i = c
          · subst z; exact put_same
          · rw [put_i (by omega)]; exact g1 i (by omega)
        · rw [put_i (by omega)]; exact g2 i (by omega)
    exact loop 855 0 h rfl (fun i hi => by omega) (fun i hi => rfl) hu1 Fs.rf
theorem rod_le {x : Int32} (h : x ≤ nI 99) : x = (if x < nI 99 then x else nI 99) := by
  by_cases z : x < nI 99
  · rw [if_pos z]
  · rw [if_neg z]
    exact Int32.le_antisymm h (Int32.not_lt.mp z)
theorem rod_gt {x : Int32} (h : ¬ x ≤ nI 99) : nI 99 = (if x < nI 99 then x else nI 99) := by
  rw [if_neg (fun z => h (Int32.le_of_lt z))]
set_option maxRecDepth 100000 in
set_option maxHeartbeats 4000000 in
theorem m_hears {E : Ev} {a b : Nat} {h : HF} {s : Sv} {more : Int32} (hs : mw h 0 s) : Ct E 0 yX11_hears cX11_hears 2 none [aR 11 0, aI more] 243 (Rs a b) h 243 (fun v R' h' => v = none ∧ R' = Rs a b ∧ mw h' 0 (rodF more s) ∧ Fs (sE 0) h h') := by
  refine Ct.of 0 (L0 := [some (aR 11 0), some (aI more)]) (by decide) ⟨Nat.le_refl _, Nat.le_refl _⟩ rfl rfl ?_
  intro G C hg hrt hnm
  have hN : gn G ≤ 243 ∧ 243 ≤ 243 ∧ 243 ≤ 243 := ⟨by omega, by decide, by decide⟩
  have fin : ∀ y, y = (if s 1 + more < nI 99 then s 1 + more else nI 99) → Wa E G 243 (Rs a b) h (QQ E G 243 (fun v R' h' => v = none ∧ R' = Rs a b ∧ mw h' 0 (rodF more s) ∧ Fs (sE 0) h h')) 31 [some (aR 11 0), some (aI more)] [aI y, aI (nI 1), aR 39 0] := by
    intro y hy
    refine q_iast (m := 1080) C dX11_hears_31 ok39 rfl rfl (by omega) ?_
    refine r_vret C hrt dX11_hears_32 ?_
    rw [rodF, ← hy]
    exact ⟨rfl, rfl, mw_put rfl hs, Fs.rf.put (sE_in (by decide))⟩
  refine r_aload_n C dX11_hears_0 rfl ?_
  refine r_getR C flX11_7 dX11_hears_1 ok11 rfl rfl ?_
  refine r_iconst (v := (nI 1)) C dX11_hears_4 (by decide) ?_
  refine r_aload_n C dX11_hears_5 rfl ?_
  refine r_getR C flX11_7 dX11_hears_6 ok11 rfl rfl ?_
  refine r_iconst (v := (nI 1)) C dX11_hears_9 (by decide) ?_
  refine q_ialdV (m := 1080) C dX11_hears_10 ok39 rfl rfl (by omega) (mw0 hs (by decide)) ?_
  refine r_iload_n C dX11_hears_11 rfl ?_
  refine r_iadd C dX11_hears_12 ?_
  refine r_bipush (v := (nI 99)) C dX11_hears_13 (by decide) ?_
  refine r_icmp_le C dX11_hears_15 (fun c15 => ?_) (fun c15 => ?_)
  · refine r_aload_n C dX11_hears_23 rfl ?_
    refine r_getR C flX11_7 dX11_hears_24 ok11 rfl rfl ?_
    refine r_iconst (v := (nI 1)) C dX11_hears_27 (by decide) ?_
    refine q_ialdV (m := 1080) C dX11_hears_28 ok39 rfl rfl (by omega) (mw0 hs (by decide)) ?_
    refine r_iload_n C dX11_hears_29 rfl ?_
    refine r_iadd C dX11_hears_30 ?_
    exact fin _ (rod_le c15)
  · refine r_bipush (v := (nI 99)) C dX11_hears_18 (by decide) ?_
    refine r_goto C dX11_hears_20 ?_
    exact fin _ (rod_gt c15)
set_option maxRecDepth 100000 in
set_option maxHeartbeats 4000000 in
theorem m_isOver {E : Ev} {a b : Nat} {h : HF} {N : Nat → Nat} {T : Tv} {s : Sv} (ht : mtw h N T) (hs : mw h 0 s) : Ct E 0 yX11_isOver cX11_isOver 1 (some .boolean) [aR 11 0] 243 (Rs a b) h 243 (qst a b h (if bsB N s = true then nI 0 else nI 1)) := by
  refine Ct.of 0 (L0 := [some (aR 11 0)]) (by decide) ⟨Nat.le_refl _, Nat.le_refl _⟩ rfl rfl ?_
  intro G C hg hrt hnm
  have hN : gn G ≤ 243 ∧ 243 ≤ 243 ∧ 243 ≤ 243 := ⟨by omega, by decide, by decide⟩
  have b4 := ht.2.2.2.2.2.2.2.2.2.2.2.2.2
  refine r_aload_n C dX11_isOver_0 rfl ?_
  refine q_getV C flX11_78 dX11_isOver_1 ok11 rfl ht.2.2.2.2.1 ?_
  by_cases hN : N 4 = 0
  · rw [hN]
    refine r_if_eq C dX11_isOver_4 (fun _ => ?_) (fun cc => absurd cc (by exact fun z => z rfl))
    refine r_iconst (v := (nI 1)) C dX11_isOver_16 (by decide) ?_
    refine r_goto C dX11_isOver_17 ?_
    refine r_zret C hrt dX11_isOver_21 (by decide) ?_
    have e : bsB N s = false := by simp [bsB, hN]
    rw [e]
    exact ⟨rfl, rfl, rfl⟩
  · refine r_if_eq C dX11_isOver_4 (fun cc => absurd cc (by exact nI_ne0 (by omega) (by omega))) (fun _ => ?_)
    refine r_aload_n C dX11_isOver_7 rfl ?_
    refine r_getR C flX11_7 dX11_isOver_8 ok11 rfl rfl ?_
    refine r_iconst (v := (nI 4)) C dX11_isOver_11 (by decide) ?_
    refine q_ialdV (m := 1080) C dX11_isOver_12 ok39 rfl rfl (by omega) (mw0 hs (by decide)) ?_
    refine r_if_eq C dX11_isOver_13 (fun c13 => ?_) (fun c13 => ?_)
    · refine r_iconst (v := (nI 0)) C dX11_isOver_20 (by decide) ?_
      refine r_zret C hrt dX11_isOver_21 (by decide) ?_
      have e : bsB N s = true := by simp [bsB, c13, hN]
      rw [e]
      exact ⟨rfl, rfl, rfl⟩
    · refine r_iconst (v := (nI 1)) C dX11_isOver_16 (by decide) ?_
      refine r_goto C dX11_isOver_17 ?_
      refine r_zret C hrt dX11_isOver_21 (by decide) ?_
      have e : bsB N s = false := by simp [bsB, c13]
      rw [e]
      exact ⟨rfl, rfl, rfl⟩
set_option maxRecDepth 100000 in
set_option maxHeartbeats 4000000 in
theorem m_gun {E : Ev} {a b : Nat} {h : HF} {g : Gs} (hc : MP h g) : Ct E 2 yX11_gun cX11_gun 1 (some .int) [aR 11 0] 243 (Rs a b) h 243 (mqr a b (gunF g).2 h (gunF g).1) := by
  refine Ct.of 0 (L0 := [some (aR 11 0)]) (by decide) ⟨Nat.le_refl _, Nat.le_refl _⟩ rfl rfl ?_
  intro G C hg hrt hnm
  have hN : gn G ≤ 243 ∧ 243 ≤ 243 ∧ 243 ≤ 243 := ⟨by omega, by decide, by decide⟩
  refine r_aload_n C dX11_gun_0 rfl ?_
  refine r_callV C (m_isOver hc.2.1 hc.2.2.1) dX11_gun_1 cw_X11_isOver cvX11_218 (by omega) ok11 rfl hN rfl (Nat.le_of_ble_eq_true rfl) ?_
  rintro v R' h1 ⟨rfl, rfl, rfl⟩
  by_cases hb : bsB (gNn g) (gSv g) = true
  · rw [if_pos hb, gunF, if_pos hb]
    refine r_if_eq C dX11_gun_4 (fun _ => ?_) (fun cc => absurd cc (by exact fun z => z rfl))
    refine r_aload_n C dX11_gun_10 rfl ?_
    refine r_callV C (m_minds hc.2.2.1 hc.2.2.2.1) dX11_gun_11 cw_X11_minds cvX11_221 (by omega) ok11 rfl hN rfl (Nat.le_of_ble_eq_true rfl) ?_
    rintro v R' h2 ⟨rfl, rfl, hl2, f2⟩
    have hc2 := hc.minds f2 hl2
    refine r_aload_n C dX11_gun_14 rfl ?_
    refine r_iconst (v := (nI 5)) C dX11_gun_15 (by decide) ?_
    refine r_callV C (m_hears hc2.2.2.1) dX11_gun_16 cw_X11_hears cvX11_227 (by omega) ok11 rfl hN rfl (Nat.le_of_ble_eq_true rfl) ?_
    rintro v R' h3 ⟨rfl, rfl, hs3, f3⟩
    refine r_aload_n C dX11_gun_19 rfl ?_
    refine r_getR C flX11_7 dX11_gun_20 ok11 rfl rfl ?_
    refine r_iconst (v := (nI 1)) C dX11_gun_23 (by decide) ?_
    refine q_ialdV (m := 1080) C dX11_gun_24 ok39 rfl rfl (by omega) (mw0 hs3 (by decide)) ?_
    refine r_iret C hrt dX11_gun_25 ?_
    exact ⟨rfl, rfl, hc2.now f3 hs3, (f2.wk sMn_sXm).tr (f3.wk sE_sXm)⟩
  · rw [if_neg hb, gunF, if_neg hb]
    refine r_if_eq C dX11_gun_4 (fun cc => absurd cc (by decide)) (fun _ => ?_)
    refine r_ldc C dX11_gun_7 kX11_212 ?_
    refine r_iret C hrt dX11_gun_9 ?_
    exact ⟨rfl, rfl, hc, Fs.rf⟩
set_option maxRecDepth 100000 in
set_option maxHeartbeats 4000000 in
theorem m_relief {E : Ev} {a b : Nat} {h : HF} {g : Gs} {x : Int32} (hc : MP h g) : Ct E 2 yX11_relief cX11_relief 2 (some .int) [aR 11 0, aI x] 243 (Rs a b) h 243 (mqr a b (relF g x).2 h (relF g x).1) := by
  refine Ct.of 0 (L0 := [some (aR 11 0), some (aI x)]) (by decide) ⟨Nat.le_refl _, Nat.le_refl _⟩ rfl rfl ?_
  intro G C hg hrt hnm
  have hN : gn G ≤ 243 ∧ 243 ≤ 243 ∧ 243 ≤ 243 := ⟨by omega, by decide, by decide⟩
  refine r_aload_n C dX11_relief_0 rfl ?_
  refine r_callV C (m_isOver hc.2.1 hc.2.2.1) dX11_relief_1 cw_X11_isOver cvX11_218 (by omega) ok11 rfl hN rfl (Nat.le_of_ble_eq_true rfl) ?_
  rintro v R' h1 ⟨rfl, rfl, rfl⟩
  by_cases hb : bsB (gNn g) (gSv g) = true
  · rw [if_pos hb, relF, if_pos hb]
    refine r_if_eq C dX11_relief_4 (fun _ => ?_) (fun cc => absurd cc (by exact fun z => z rfl))
    refine r_aload_n C dX11_relief_10 rfl ?_
    refine r_callV C (m_minds hc.2.2.1 hc.2.2.2.1) dX11_relief_11 cw_X11_minds cvX11_221 (by omega) ok11 rfl hN rfl (Nat.le_of_ble_eq_true rfl) ?_
    rintro v R' h2 ⟨rfl, rfl, hl2, f2⟩
    have hc2 := hc.minds f2 hl2
    have hs2 : mw h2 0 (gSv g) := hc2.2.2.1
    have fin : ∀ y, y = (if x = 0 then nI 2 else nI 1) → Wa E G 243 (Rs a b) h2 (QQ E G 243 (mqr a b (gSv g 2, pushd g (va_up (gSv g) 4 (if x = 0 then nI 2 else nI 1))).2 h1 (gSv g 2, pushd g (va_up (gSv g) 4 (if x = 0 then nI 2 else nI 1))).1)) 28 [some (aR 11 0), some (aI x)] [aI y, aI (nI 4), aR 39 0] := by
      intro y hy
      refine q_iast (m := 1080) C dX11_relief_28 ok39 rfl rfl (by omega) ?_
      refine r_aload_n C dX11_relief_29 rfl ?_
      refine r_getR C flX11_7 dX11_relief_30 ok11 rfl rfl ?_
      refine r_iconst (v := (nI 2)) C dX11_relief_33 (by decide) ?_
      refine q_ialdV (m := 1080) C dX11_relief_34 ok39 rfl rfl (by omega) (show _ = gSv g 2 by rw [put_i (by decide)]; exact mw0 hs2 (by decide)) ?_
      refine r_iret C hrt dX11_relief_35 ?_
      rw [← hy]
      exact ⟨rfl, rfl, MP.now (Fs.rf.put (sE_in (by decide))) (mw_put rfl hs2) hc2, ((f2.wk sMn_sXm).put rfl)⟩
    refine r_aload_n C dX11_relief_14 rfl ?_
    refine r_getR C flX11_7 dX11_relief_15 ok11 rfl rfl ?_
    refine r_iconst (v := (nI 4)) C dX11_relief_18 (by decide) ?_
    refine r_iload_n C dX11_relief_19 rfl ?_
    refine r_if_eq C dX11_relief_20 (fun c20 => ?_) (fun c20 => ?_)
    · refine r_iconst (v := (nI 2)) C dX11_relief_27 (by decide) ?_
      exact fin _ (by rw [if_pos c20])
    · refine r_iconst (v := (nI 1)) C dX11_relief_23 (by decide) ?_
      refine r_goto C dX11_relief_24 ?_
      exact fin _ (by rw [if_neg c20])
  · rw [if_neg hb, relF, if_neg hb]
    refine r_if_eq C dX11_relief_4 (fun cc => absurd cc (by decide)) (fun _ => ?_)
    refine r_ldc C dX11_relief_7 kX11_212 ?_
    refine r_iret C hrt dX11_relief_9 ?_
    exact ⟨rfl, rfl, hc, Fs.rf⟩
set_option maxRecDepth 100000 in
set_option maxHeartbeats 4000000 in
theorem m_sally {E : Ev} {a b : Nat} {h : HF} {g : Gs} {c k : Int32} (hc : MP h g) : Ct E 2 yX11_sally cX11_sally 3 (some .int) [aR 11 0, aI c, aI k] 243 (Rs a b) h 243 (mqr a b (salF g c k).2 h (salF g c k).1) := by
  refine Ct.of 0 (L0 := [some (aR 11 0), some (aI c), some (aI k)]) (by decide) ⟨Nat.le_refl _, Nat.le_refl _⟩ rfl rfl ?_
  intro G C hg hrt hnm
  have hN : gn G ≤ 243 ∧ 243 ≤ 243 ∧ 243 ≤ 243 := ⟨by omega, by decide, by decide⟩
  have b0 := hc.2.1.2.2.2.2.2.2.2.2.2.1
  refine r_aload_n C dX11_sally_0 rfl ?_
  refine r_iload_n C dX11_sally_1 rfl ?_
  refine r_callV C (m_isCompany hc.2.1) dX11_sally_2 cw_X11_isCompany cvX11_191 (by omega) ok11 rfl hN rfl (Nat.le_of_ble_eq_true rfl) ?_
  rintro v R' h1 ⟨rfl, rfl, rfl⟩
  cases hx : ixO c (gNn g 0) with
  | none =>
    rw [salF, hx, ixB_n hx]
    refine r_if_ne C dX11_sally_5 (fun cc => absurd cc (by exact fun z => z rfl)) (fun _ => ?_)
    refine r_ldc C dX11_sally_8 kX11_194 ?_
    refine r_iret C hrt dX11_sally_10 ?_
    exact ⟨rfl, rfl, hc, Fs.rf⟩
  | some i =>
    obtain ⟨hi, rfl⟩ := ixO_some hx
    rw [salF, hx, ixB_s hx]
    show Wa E G 243 (Rs a b) h1 (QQ E G 243 (mqr a b (if nI 1 ≤ k ∧ k ≤ nI 99 then (if bsB (gNn g) (gSv g) = true ∧ k ≤ gSv g (5 + i) then (salS g i k 1, pushd g (salS g i k)) else (cN, g)) else (cO, g)).2 h1 (if nI 1 ≤ k ∧ k ≤ nI 99 then (if bsB (gNn g) (gSv g) = true ∧ k ≤ gSv g (5 + i) then (salS g i k 1, pushd g (salS g i k)) else (cN, g)) else (cO, g)).1)) _ _ _
    refine r_if_ne C dX11_sally_5 (fun _ => ?_) (fun cc => absurd cc (by decide))
    refine r_iload_n C dX11_sally_11 rfl ?_
    refine r_i2l C dX11_sally_12 ?_
    refine r_lconst (v := 1) C dX11_sally_13 (by decide) ?_
    refine r_ldc2 C dX11_sally_14 klX11_231 ?_
    refine r_callS C m_in dX11_sally_17 cw_X11_in csX11_85 (by omega) rfl hN rfl (Nat.le_of_ble_eq_true rfl) ?_
    rintro v R' h2 ⟨rfl, rfl, rfl⟩
    rw [in64 (lo := nI 1) (hi := nI 99) (by decide) (by decide)]
    by_cases hk : nI 1 ≤ k ∧ k ≤ nI 99
    · rw [if_pos hk, if_pos hk]
      refine r_if_ne C dX11_sally_20 (fun _ => ?_) (fun cc => absurd cc (by decide))
      refine r_aload_n C dX11_sally_26 rfl ?_
      refine r_callV C (m_isOver hc.2.1 hc.2.2.1) dX11_sally_27 cw_X11_isOver cvX11_218 (by omega) ok11 rfl hN rfl (Nat.le_of_ble_eq_true rfl) ?_
      rintro v R' h3 ⟨rfl, rfl, rfl⟩
      have no : ¬ (bsB (gNn g) (gSv g) = true ∧ k ≤ gSv g (5 + i)) → Wa E G 243 (Rs a b) h3 (QQ E G 243 (mqr a b (if bsB (gNn g) (gSv g) = true ∧ k ≤ gSv g (5 + i) then (salS g i k 1, pushd g (salS g i k)) else (cN, g)).2 h3 (if bsB (gNn g) (gSv g) = true ∧ k ≤ gSv g (5 + i) then (salS g i k 1, pushd g (salS g i k)) else (cN, g)).1)) 45 [some (aR 11 0), some (aI (nI i)), some (aI k)] [] := by
        intro hn
        rw [if_neg hn]
        refine r_ldc C dX11_sally_45 kX11_212 ?_
        refine r_iret C hrt dX11_sally_47 ?_
        exact ⟨rfl, rfl, hc, Fs.rf⟩
      by_cases hb : bsB (gNn g) (gSv g) = true
      · rw [if_pos hb]
        refine r_if_ne C dX11_sally_30 (fun cc => absurd cc (by exact fun z => z rfl)) (fun _ => ?_)
        refine r_aload_n C dX11_sally_33 rfl ?_
        refine r_getR C flX11_7 dX11_sally_34 ok11 rfl rfl ?_
        refine r_iconst (v := (nI 5)) C dX11_sally_37 (by decide) ?_
        refine r_iload_n C dX11_sally_38 rfl ?_
        first | refine r_iaddN C dX11_sally_39 ?_ | refine r_iadd C dX11_sally_39 ?_
        refine q_ialdV (m := 1080) C dX11_sally_40 ok39 rfl rfl (by omega) (mw0 hc.2.2.1 (by omega)) ?_
        refine r_iload_n C dX11_sally_41 rfl ?_
        refine r_icmp_ge C dX11_sally_42 (fun c42 => ?_) (fun c42 => ?_)
        · rw [if_pos ⟨hb, c42⟩]
          refine r_aload_n C dX11_sally_48 rfl ?_
          refine r_callV C (m_minds hc.2.2.1 hc.2.2.2.1) dX11_sally_49 cw_X11_minds cvX11_221 (by omega) ok11 rfl hN rfl (Nat.le_of_ble_eq_true rfl) ?_
          rintro v R' h4 ⟨rfl, rfl, hl2, f2⟩
          have hc2 := hc.minds f2 hl2
          have hs2 : mw h4 0 (gSv g) := hc2.2.2.1
          have hs4 : mw (put h4 39 0 (5 + i) (gSv g (5 + i) - k)) 0 (va_up (gSv g) (5 + i) (gSv g (5 + i) - k)) := mw_put (by omega) hs2
          have f4 : Fs (sE 0) h4 (put h4 39 0 (5 + i) (gSv g (5 + i) - k)) := Fs.rf.put (sE_in (by omega))
          refine r_aload_n C dX11_sally_52 rfl ?_
          refine r_getR C flX11_7 dX11_sally_53 ok11 rfl rfl ?_
          refine r_iconst (v := (nI 5)) C dX11_sally_56 (by decide) ?_
          refine r_iload_n C dX11_sally_57 rfl ?_
          first | refine r_iaddN C dX11_sally_58 ?_ | refine r_iadd C dX11_sally_58 ?_
          refine r_dup2 C dX11_sally_59 rfl rfl ?_
          refine q_ialdV (m := 1080) C dX11_sally_60 ok39 rfl rfl (by omega) (mw0 hs2 (by omega)) ?_
          refine r_iload_n C dX11_sally_61 rfl ?_
          refine r_isub C dX11_sally_62 ?_
          refine q_iast (m := 1080) C dX11_sally_63 ok39 rfl rfl (by omega) ?_
          refine r_aload_n C dX11_sally_64 rfl ?_
          refine r_iload_n C dX11_sally_65 rfl ?_
          refine r_iconst (v := (nI 2)) C dX11_sally_66 (by decide) ?_
          refine r_idiv C dX11_sally_67 (by decide) ?_
          refine r_callV C (m_hears hs4) dX11_sally_68 cw_X11_hears cvX11_227 (by omega) ok11 rfl hN rfl (Nat.le_of_ble_eq_true rfl) ?_
          rintro v R' h5 ⟨rfl, rfl, hs5, f5⟩
          refine r_aload_n C dX11_sally_71 rfl ?_
          refine r_getR C flX11_7 dX11_sally_72 ok11 rfl rfl ?_
          refine r_iconst (v := (nI 1)) C dX11_sally_75 (by decide) ?_
          refine q_ialdV (m := 1080) C dX11_sally_76 ok39 rfl rfl (by omega) (mw0 hs5 (by decide)) ?_
          refine r_iret C hrt dX11_sally_77 ?_
          exact ⟨rfl, rfl, MP.now (f4.tr f5) hs5 hc2, (f2.wk sMn_sXm).tr ((f4.tr f5).wk sE_sXm)⟩
        · exact no (fun z => c42 z.2)
      · rw [if_neg hb]
        refine r_if_ne C dX11_sally_30 (fun _ => ?_) (fun cc => absurd cc (by decide))
        exact no (fun z => hb z.1)
    · rw [if_neg hk, if_neg hk]
      refine r_if_ne C dX11_sally_20 (fun cc => absurd cc (by exact fun z => z rfl)) (fun _ => ?_)
      refine r_ldc C dX11_sally_23 kX11_99 ?_
      refine r_iret C hrt dX11_sally_25 ?_
      exact ⟨rfl, rfl, hc, Fs.rf⟩
