def sP (j : Nat) : Nat → Nat → Bool := fun k j' => (k == 23 || k == 24 || k == 25) && j' == j
theorem sP_of {j k : Nat} (hk : k = 23 ∨ k = 24 ∨ k = 25) : sP j k j = true := by
  rcases hk with rfl | rfl | rfl <;> simp [sP]
theorem sP_sS {j : Nat} : ∀ k j', sP j k j' = true → sS j k j' = true := by
  intro k j' hh
  simp only [sP, sS, Bool.and_eq_true, Bool.or_eq_true] at hh ⊢
  refine ⟨?_, hh.2⟩
  rcases hh.1 with (z | z) | z <;> simp [z]
set_option maxRecDepth 100000 in
set_option maxHeartbeats 4000000 in
theorem c_campBegin {E : Ev} {a b j t : Nat} {h : HF} {N : Nat → Nat} {T : Tv} (hC : j < 29) (hT : t < 2) (ht : twn h t N T) (hb : twb h t N T) : Ct E 0 yX1_begin cX1_begin 3 none [aR 1 j, aR 8 t] 243 (Rs a b) h 243 (fun v R' h' => v = none ∧ R' = Rs a b ∧ cmp h' j (bgF N T) ∧ Fr (sC j) h h') := by
  refine Ct.of 1 (L0 := [some (aR 1 j), some (aR 8 t), none]) (by decide) ⟨Nat.le_refl _, Nat.le_refl _⟩ rfl rfl ?_
  intro G C hg hrt hnm
  have hN : gn G ≤ 243 ∧ 243 ≤ 243 ∧ 243 ≤ 243 := ⟨by omega, by decide, by decide⟩
  have hN0 := ht.2.2.2.2.2.2.2.2.2.1
  refine r_aload_n C dX1_begin_0 rfl ?_
  refine r_aload_n C dX1_begin_1 rfl ?_
  refine q_getV C flX1_32 dX1_begin_2 (Ok.full (by decide) hT) rfl hb.2.2.1 ?_
  refine r_putI C flX1_9 dX1_begin_5 (Ok.full (by decide) hC) rfl ⟨rfl, rfl⟩ ?_
  refine r_aload_n C dX1_begin_8 rfl ?_
  refine r_iconst (v := (nI 0)) C dX1_begin_9 (by decide) ?_
  refine r_putI C flX1_15 dX1_begin_10 (Ok.full (by decide) hC) rfl ⟨rfl, rfl⟩ ?_
  refine r_iconst (v := (nI 0)) C dX1_begin_13 (by decide) ?_
  refine r_istore_n C dX1_begin_14 st2 ?_
  have loop : ∀ k c hh, c + k = 5 → hh 1 j 0 = T 9 0 → hh 1 j 1 = nI 0 → (∀ i, i < c → hh 14 j i = bgF N T (5 + i) ∧ hh 15 j i = nI 0) → Fr (sC j) h hh → Wa E G 243 (Rs a b) hh (QQ E G 243 (fun v R' h' => v = none ∧ R' = Rs a b ∧ cmp h' j (bgF N T) ∧ Fr (sC j) h h')) 15 [some (aR 1 j), some (aR 8 t), some (aI (nI c))] [] := by
    intro k
    induction k with
    | zero =>
      intro c hh hk h0 h1 hr hf
      refine r_iload_n C dX1_begin_15 rfl ?_
      refine r_iconst (v := (nI 5)) C dX1_begin_16 (by decide) ?_
      refine r_icmpN_ge C dX1_begin_17 (by omega) (by omega) (fun _ => ?_) (fun cc => absurd cc (by omega))
      refine r_vret C hrt dX1_begin_57 ?_
      refine ⟨rfl, rfl, ⟨h0, h1, fun i hi => (hr i (by omega)).1, fun i hi => ?_⟩, hf⟩
      rw [(hr i (by omega)).2]
      simp only [bgF]
      rw [if_neg (by omega), if_neg (by omega), if_neg (by omega), if_neg (by omega)]
    | succ k ih =>
      intro c hh hk h0 h1 hr hf
      have htn := ht.fr hf sC_twn
      have hbn := hb.fr hf (fun k hk => by
        have : (k == 1) = false ∧ (k == 14) = false ∧ (k == 15) = false := ⟨by simp; omega, by simp; omega, by simp; omega⟩
        simp [sC, this])
      have fin : ∀ x, x = bgF N T (5 + c) → Wa E G 243 (Rs a b) hh (QQ E G 243 (fun v R' h' => v = none ∧ R' = Rs a b ∧ cmp h' j (bgF N T) ∧ Fr (sC j) h h')) 43 [some (aR 1 j), some (aR 8 t), some (aI (nI c))] [aI x, aI (nI c), aR 14 j] := by
        intro x hx
        refine q_iast (m := 5) C dX1_begin_43 (Ok.full (by decide) hC) rfl rfl (by omega) ?_
        refine r_aload_n C dX1_begin_44 rfl ?_
        refine r_getR C flX1_22 dX1_begin_45 (Ok.full (by decide) hC) rfl rfl ?_
        refine r_iload_n C dX1_begin_48 rfl ?_
        refine r_iconst (v := (nI 0)) C dX1_begin_49 (by decide) ?_
        refine q_iast (m := 5) C dX1_begin_50 (Ok.full (by decide) hC) rfl rfl (by omega) ?_
        first | refine r_iincN C dX1_begin_51 rfl st2 ?_ | refine r_iinc C dX1_begin_51 rfl rfl st2 ?_
        refine r_goto C dX1_begin_54 ?_
        refine ih (c + 1) _ (by omega) ?_ ?_ ?_ (Fr.put (Fr.put hf sC14) sC15)
        · exact h0
        · exact h1
        · intro i hi
          by_cases e : i = c
          · subst e
            refine ⟨?_, put_same⟩
            rw [put_k (by decide), put_same]
            exact hx
          · rw [put_k (by decide), put_i e, put_i e, put_k (by decide)]
            exact hr i (by omega)
      refine r_iload_n C dX1_begin_15 rfl ?_
      refine r_iconst (v := (nI 5)) C dX1_begin_16 (by decide) ?_
      refine r_icmpN_ge C dX1_begin_17 (by omega) (by omega) (fun cc => absurd cc (by omega)) (fun _ => ?_)
      refine r_aload_n C dX1_begin_20 rfl ?_
      refine r_getR C flX1_18 dX1_begin_21 (Ok.full (by decide) hC) rfl rfl ?_
      refine r_iload_n C dX1_begin_24 rfl ?_
      refine r_iload_n C dX1_begin_25 rfl ?_
      refine r_aload_n C dX1_begin_26 rfl ?_
      refine q_getV C flX1_35 dX1_begin_27 (Ok.full (by decide) hT) rfl htn.1 ?_
      refine r_icmpN_ge C dX1_begin_30 (by omega) (by omega) (fun c30 => ?_) (fun c30 => ?_)
      · refine r_iconst (v := (nI 0)) C dX1_begin_42 (by decide) ?_
        refine fin _ ?_
        simp only [bgF]
        rw [if_neg (by omega), if_neg (by omega), if_neg (by omega), if_neg (by omega)]
      · refine r_aload_n C dX1_begin_33 rfl ?_
        refine r_getR C flX1_38 dX1_begin_34 (Ok.full (by decide) hT) rfl rfl ?_
        refine r_iload_n C dX1_begin_37 rfl ?_
        refine q_ialdV (m := 5) C dX1_begin_38 (Ok.full (by decide) hT) rfl rfl (by omega) (hbn.1 c (by omega)) ?_
        refine r_goto C dX1_begin_39 ?_
        refine fin _ ?_
        simp only [bgF]
        rw [if_neg (by omega), if_neg (by omega), if_pos (by omega)]
        congr 1
        omega
  exact loop 5 0 _ rfl (by rw [put_i (by decide), put_same]) put_same (fun i hi => by omega) (Fr.put (Fr.put Fr.rf sC1) sC1)
set_option maxRecDepth 100000 in
set_option maxHeartbeats 4000000 in
theorem c_campBecome {E : Ev} {a b j i : Nat} {h : HF} {s : Sv} (hj : j < 29) (hi : i < 29) (hij : i ≠ j) (hs : cmp h i s) : Ct E 0 yX1_become cX1_become 3 none [aR 1 j, aR 1 i] 243 (Rs a b) h 243 (fun v R' h' => v = none ∧ R' = Rs a b ∧ cmp h' j s ∧ Fr (sC j) h h') := by
  refine Ct.of 1 (L0 := [some (aR 1 j), some (aR 1 i), none]) (by decide) ⟨Nat.le_refl _, Nat.le_refl _⟩ rfl rfl ?_
  intro G C hg hrt hnm
  have hN : gn G ≤ 243 ∧ 243 ≤ 243 ∧ 243 ≤ 243 := ⟨by omega, by decide, by decide⟩
  have hC : i < 29 := hi
  refine r_aload_n C dX1_become_0 rfl ?_
  refine r_aload_n C dX1_become_1 rfl ?_
  refine q_getV C flX1_9 dX1_become_2 (Ok.full (by decide) hC) rfl hs.1 ?_
  have hC : j < 29 := hj
  refine r_putI C flX1_9 dX1_become_5 (Ok.full (by decide) hC) rfl ⟨rfl, rfl⟩ ?_
  have hC : i < 29 := hi
  have hs1 : cmp (put h 1 j 0 (s 0)) i s := hs.fr (Fr.put (S := sC j) Fr.rf sC1) (sC_ne hij) (sC_ne hij) (sC_ne hij)
  refine r_aload_n C dX1_become_8 rfl ?_
  refine r_aload_n C dX1_become_9 rfl ?_
  refine q_getV C flX1_15 dX1_become_10 (Ok.full (by decide) hC) rfl hs1.2.1 ?_
  have hC : j < 29 := hj
  refine r_putI C flX1_15 dX1_become_13 (Ok.full (by decide) hC) rfl ⟨rfl, rfl⟩ ?_
  refine r_iconst (v := (nI 0)) C dX1_become_16 (by decide) ?_
  refine r_istore_n C dX1_become_17 st2 ?_
  have loop : ∀ k c hh, c + k = 5 → hh 1 j 0 = s 0 → hh 1 j 1 = s 2 → (∀ i, i < c → hh 14 j i = s (5 + i) ∧ hh 15 j i = s (10 + i)) → Fr (sC j) h hh → Wa E G 243 (Rs a b) hh (QQ E G 243 (fun v R' h' => v = none ∧ R' = Rs a b ∧ cmp h' j s ∧ Fr (sC j) h h')) 18 [some (aR 1 j), some (aR 1 i), some (aI (nI c))] [] := by
    intro k
    induction k with
    | zero =>
      intro c hh hk h0 h1 hr hf
      refine r_iload_n C dX1_become_18 rfl ?_
      refine r_iconst (v := (nI 5)) C dX1_become_19 (by decide) ?_
      refine r_icmpN_ge C dX1_become_20 (by omega) (by omega) (fun _ => ?_) (fun cc => absurd cc (by omega))
      refine r_vret C hrt dX1_become_53 ?_
      exact ⟨rfl, rfl, ⟨h0, h1, fun i hi => (hr i (by omega)).1, fun i hi => (hr i (by omega)).2⟩, hf⟩
    | succ k ih =>
      intro c hh hk h0 h1 hr hf
      have hsn := hs.fr hf (sC_ne hij) (sC_ne hij) (sC_ne hij)
      refine r_iload_n C dX1_become_18 rfl ?_
      refine r_iconst (v := (nI 5)) C dX1_become_19 (by decide) ?_
      refine r_icmpN_ge C dX1_become_20 (by omega) (by omega) (fun cc => absurd cc (by omega)) (fun _ => ?_)
      refine r_aload_n C dX1_become_23 rfl ?_
      refine r_getR C flX1_18 dX1_become_24 (Ok.full (by decide) hC) rfl rfl ?_
      refine r_iload_n C dX1_become_27 rfl ?_
      have hC : i < 29 := hi
      refine r_aload_n C dX1_become_28 rfl ?_
      refine r_getR C flX1_18 dX1_become_29 (Ok.full (by decide) hC) rfl rfl ?_
      refine r_iload_n C dX1_become_32 rfl ?_
      refine q_ialdV (m := 5) C dX1_become_33 (Ok.full (by decide) hC) rfl rfl (by omega) (hsn.2.2.1 c (by omega)) ?_
      have hC : j < 29 := hj
      refine q_iast (m := 5) C dX1_become_34 (Ok.full (by decide) hC) rfl rfl (by omega) ?_
      refine r_aload_n C dX1_become_35 rfl ?_
      refine r_getR C flX1_22 dX1_become_36 (Ok.full (by decide) hC) rfl rfl ?_
      refine r_iload_n C dX1_become_39 rfl ?_
      have hC : i < 29 := hi
      refine r_aload_n C dX1_become_40 rfl ?_
      refine r_getR C flX1_22 dX1_become_41 (Ok.full (by decide) hC) rfl rfl ?_
      refine r_iload_n C dX1_become_44 rfl ?_
      refine q_ialdV (m := 5) C dX1_become_45 (Ok.full (by decide) hC) rfl rfl (by omega) (hsn.2.2.2 c (by omega)) ?_
      have hC : j < 29 := hj
      refine q_iast (m := 5) C dX1_become_46 (Ok.full (by decide) hC) rfl rfl (by omega) ?_
      first | refine r_iincN C dX1_become_47 rfl st2 ?_ | refine r_iinc C dX1_become_47 rfl rfl st2 ?_
      refine r_goto C dX1_become_50 ?_
      refine ih (c + 1) _ (by omega) ?_ ?_ ?_ (Fr.put (Fr.put hf sC14) sC15)
      · exact h0
      · exact h1
      · intro i hi
        by_cases e : i = c
        · subst e
          refine ⟨?_, put_same⟩
          rw [put_k (by decide), put_same]
        · rw [put_k (by decide), put_i e, put_i e, put_k (by decide)]
          exact hr i (by omega)
  exact loop 5 0 _ rfl (by rw [put_i (by decide), put_same]) put_same (fun i hi => by omega) (Fr.put (Fr.put Fr.rf sC1) sC1)
set_option maxRecDepth 100000 in
set_option maxHeartbeats 4000000 in
theorem c_payCompany {E : Ev} {a b j c nk : Nat} {h : HF} {s : Sv} {due : Int32} (hS : j < 23) (hc : c < 5) (hk : nk ≤ 4) (hs : sgp h j s) : Ct E 0 yX6_payCompany cX6_payCompany 5 none [aR 6 j, aI (nI c), aI due, aI (nI nk)] 243 (Rs a b) h 243 (fun v R' h' => v = none ∧ R' = Rs a b ∧ sgp h' j (payR s c due nk 0) ∧ Fr (sP j) h h') := by
  refine Ct.of 1 (L0 := [some (aR 6 j), some (aI (nI c)), some (aI due), some (aI (nI nk)), none]) (by decide) ⟨Nat.le_refl _, Nat.le_refl _⟩ rfl rfl ?_
  intro G C hg hrt hnm
  have hN : gn G ≤ 243 ∧ 243 ≤ 243 ∧ 243 ≤ 243 := ⟨by omega, by decide, by decide⟩
  obtain ⟨a0, a1, a2, a3, a4, a5, a6⟩ := id hs
  refine r_iconst (v := (nI 0)) C dX6_payCompany_0 (by decide) ?_
  refine r_istore C dX6_payCompany_1 st4 ?_
  have loop : ∀ k m, m + k = nk → payR s c due k m = payR s c due nk 0 → Wa E G 243 (Rs a b) h (QQ E G 243 (fun v R' h' => v = none ∧ R' = Rs a b ∧ sgp h' j (payR s c due nk 0) ∧ Fr (sP j) h h')) 3 [some (aR 6 j), some (aI (nI c)), some (aI due), some (aI (nI nk)), some (aI (nI m))] [] := by
    intro k
    induction k with
    | zero =>
      intro m hm hp
      refine r_iload C dX6_payCompany_3 rfl ?_
      refine r_iload_n C dX6_payCompany_5 rfl ?_
      refine r_icmpN_ge C dX6_payCompany_6 (by omega) (by omega) (fun _ => ?_) (fun cc => absurd cc (by omega))
      refine r_aload_n C dX6_payCompany_53 rfl ?_
      refine r_getR C flX6_32 dX6_payCompany_54 (Ok.full (by decide) hS) rfl rfl ?_
      refine r_iload_n C dX6_payCompany_57 rfl ?_
      refine r_dup2 C dX6_payCompany_58 rfl rfl ?_
      refine q_ialdV (m := 5) C dX6_payCompany_59 (Ok.full (by decide) hS) rfl rfl (by omega) (a5 c hc) ?_
      refine r_iload_n C dX6_payCompany_60 rfl ?_
      first | refine r_iaddN C dX6_payCompany_61 ?_ | refine r_iadd C dX6_payCompany_61 ?_
      refine q_iast (m := 5) C dX6_payCompany_62 (Ok.full (by decide) hS) rfl rfl (by omega) ?_
      refine r_vret C hrt dX6_payCompany_63 ?_
      rw [payR] at hp
      rw [← hp]
      exact ⟨rfl, rfl, sgp_words hc hs, Fr.put Fr.rf (sP_of (by omega))⟩
    | succ k ih =>
      intro m hm hp
      rw [payR] at hp
      refine r_iload C dX6_payCompany_3 rfl ?_
      refine r_iload_n C dX6_payCompany_5 rfl ?_
      refine r_icmpN_ge C dX6_payCompany_6 (by omega) (by omega) (fun cc => absurd cc (by omega)) (fun _ => ?_)
      refine r_aload_n C dX6_payCompany_9 rfl ?_
      refine r_getR C flX6_28 dX6_payCompany_10 (Ok.full (by decide) hS) rfl rfl ?_
      refine r_iload C dX6_payCompany_13 rfl ?_
      refine q_ialdV (m := 4) C dX6_payCompany_15 (Ok.full (by decide) hS) rfl rfl (by omega) (a4 m (by omega)) ?_
      refine r_iload_n C dX6_payCompany_16 rfl ?_
      refine r_icmp_lt C dX6_payCompany_17 (fun c17 => ?_) (fun c17 => ?_)
      · rw [if_neg (Int32.not_le.mpr c17)] at hp
        first | refine r_iincN C dX6_payCompany_47 rfl st4 ?_ | refine r_iinc C dX6_payCompany_47 rfl rfl st4 ?_
        refine r_goto C dX6_payCompany_50 ?_
        exact ih (m + 1) (by omega) hp
      · rw [if_pos (Int32.not_lt.mp c17)] at hp
        refine r_aload_n C dX6_payCompany_20 rfl ?_
        refine r_getR C flX6_28 dX6_payCompany_21 (Ok.full (by decide) hS) rfl rfl ?_
        refine r_iload C dX6_payCompany_24 rfl ?_
        refine r_dup2 C dX6_payCompany_26 rfl rfl ?_
        refine q_ialdV (m := 4) C dX6_payCompany_27 (Ok.full (by decide) hS) rfl rfl (by omega) (a4 m (by omega)) ?_
        refine r_iload_n C dX6_payCompany_28 rfl ?_
        refine r_isub C dX6_payCompany_29 ?_
        refine q_iast (m := 4) C dX6_payCompany_30 (Ok.full (by decide) hS) rfl rfl (by omega) ?_
        refine r_aload_n C dX6_payCompany_31 rfl ?_
        refine r_getR C flX6_35 dX6_payCompany_32 (Ok.full (by decide) hS) rfl rfl ?_
        refine r_iload_n C dX6_payCompany_35 rfl ?_
        refine r_iconst (v := (nI 4)) C dX6_payCompany_36 (by decide) ?_
        first | refine r_imulN C dX6_payCompany_37 ?_ | refine r_imul C dX6_payCompany_37 ?_
        refine r_iload C dX6_payCompany_38 rfl ?_
        first | refine r_iaddN C dX6_payCompany_40 ?_ | refine r_iadd C dX6_payCompany_40 ?_
        refine r_dup2 C dX6_payCompany_41 rfl rfl ?_
        refine q_ialdV (m := 20) C dX6_payCompany_42 (Ok.full (by decide) hS) rfl rfl (by omega) (a6 (c * 4 + m) (by omega)) ?_
        refine r_iload_n C dX6_payCompany_43 rfl ?_
        first | refine r_iaddN C dX6_payCompany_44 ?_ | refine r_iadd C dX6_payCompany_44 ?_
        refine q_iast (m := 20) C dX6_payCompany_45 (Ok.full (by decide) hS) rfl rfl (by omega) ?_
        refine r_vret C hrt dX6_payCompany_46 ?_
        rw [← hp]
        exact ⟨rfl, rfl, sgp_paid (by omega) (sgp_left (by omega) hs), Fr.put (Fr.put Fr.rf (sP_of (by omega))) (sP_of (by omega))⟩
  exact loop nk 0 (by omega) rfl
set_option maxRecDepth 100000 in
set_option maxHeartbeats 4000000 in
theorem c_passDay {E : Ev} {a b j t : Nat} {h : HF} {N : Nat → Nat} {T : Tv} {s : Sv} {q : Int32} (hS : j < 23) (hT : t < 2) (ht : twn h t N T) (hs : sgp h j s) : Ct E 3 yX6_passDay cX6_passDay 4 none [aR 6 j, aR 8 t, aI q] 243 (Rs a b) h 243 (fun v R' h' => v = none ∧ R' = Rs a b ∧ sgp h' j (passF N T q s) ∧ Fr (sS j) h h') := by
  refine Ct.of 1 (L0 := [some (aR 6 j), some (aR 8 t), some (aI q), none]) (by decide) ⟨Nat.le_refl _, Nat.le_refl _⟩ rfl rfl ?_
  intro G C hg hrt hnm
  have hN : gn G ≤ 243 ∧ 243 ≤ 243 ∧ 243 ≤ 243 := ⟨by omega, by decide, by decide⟩
  have hC : j < 29 := by omega
  have hN0 := ht.2.2.2.2.2.2.2.2.2.1
  have hN1 := ht.2.2.2.2.2.2.2.2.2.2.1
  refine r_aload_n C dX6_passDay_0 rfl ?_
  refine r_getR C flX6_12 dX6_passDay_1 (Ok.full (by decide) hS) rfl rfl ?_
  refine r_aload_n C dX6_passDay_4 rfl ?_
  refine r_iload_n C dX6_passDay_5 rfl ?_
  refine r_callV C (c_eatADay hC hT ht hs.1) dX6_passDay_6 cw_X1_eatADay cvX6_55 (by omega) (Ok.full (by decide) hC) rfl hN rfl (Nat.le_of_ble_eq_true rfl) ?_
  rintro v R' h1 ⟨rfl, rfl, hc1, hf1⟩
  have ht1 := ht.fr hf1 sC_twn
  have hs1 : sgp h1 j (edayF N T q s).1 := hs.camp hf1 hc1.1 (fun k h0 h2 hk => eday_off hN0 h0 h2 hk)
  have f1 : Fr (sS j) h h1 := hf1.wk sC_sS
  have hw1 : h1 1 j 4 = (edayF N T q s).2.1 := hc1.2.1
  refine r_iconst (v := (nI 0)) C dX6_passDay_9 (by decide) ?_
  refine r_istore_n C dX6_passDay_10 st3 ?_
  have loop : ∀ k c hh, c + k = N 0 → sgp hh j (payN N T (edayF N T q s).1 c) → hh 1 j 4 = (edayF N T q s).2.1 → Fr (sS j) h hh →
      Wa E G 243 (Rs a b) hh (QQ E G 243 (fun v R' h' => v = none ∧ R' = Rs a b ∧ sgp h' j (passF N T q s) ∧ Fr (sS j) h h')) 11 [some (aR 6 j), some (aR 8 t), some (aI q), some (aI (nI c))] [] := by
    intro k
    induction k with
    | zero =>
      intro c hh hk hsg hw hf
      have htn := ht.fr hf sS_twn'
      have e : c = N 0 := by omega
      subst e
      refine r_iload_n C dX6_passDay_11 rfl ?_
      refine r_aload_n C dX6_passDay_12 rfl ?_
      refine q_getV C flX6_59 dX6_passDay_13 (Ok.full (by decide) hT) rfl htn.1 ?_
      refine r_icmpN_ge C dX6_passDay_16 (by omega) (by omega) (fun _ => ?_) (fun cc => absurd cc (by omega))
      refine r_aload_n C dX6_passDay_50 rfl ?_
      refine r_aload_n C dX6_passDay_51 rfl ?_
      refine r_getR C flX6_12 dX6_passDay_52 (Ok.full (by decide) hS) rfl rfl ?_
      refine q_getV C flX6_72 dX6_passDay_55 (Ok.full (by decide) hC) rfl hw ?_
      refine r_if_eq C dX6_passDay_58 (fun c58 => ?_) (fun c58 => ?_)
      · refine r_iconst (v := (nI 0)) C dX6_passDay_70 (by decide) ?_
        refine r_aload_n C dX6_passDay_71 rfl ?_
        refine q_getV C flX6_22 dX6_passDay_72 (Ok.full (by decide) hS) rfl hsg.2.2.1 ?_
        refine r_iconst (v := (nI 1)) C dX6_passDay_75 (by decide) ?_
        refine r_isub C dX6_passDay_76 ?_
        refine r_max C dX6_passDay_77 cmX6_76 (by omega) (Nat.le_of_ble_eq_true rfl) ⟨hN.1, hN.2.2⟩ ?_
        refine r_putI C flX6_22 dX6_passDay_80 (Ok.full (by decide) hS) rfl ⟨rfl, rfl⟩ ?_
        refine r_vret C hrt dX6_passDay_83 ?_
        refine ⟨rfl, rfl, ?_, Fr.put hf (sS_of (by omega))⟩
        rw [passF, hunF, if_pos c58]
        exact sgp_hunger hsg
      · refine r_aload_n C dX6_passDay_61 rfl ?_
        refine q_getV C flX6_22 dX6_passDay_62 (Ok.full (by decide) hS) rfl hsg.2.2.1 ?_
        refine r_iconst (v := (nI 1)) C dX6_passDay_65 (by decide) ?_
        first | refine r_iaddN C dX6_passDay_66 ?_ | refine r_iadd C dX6_passDay_66 ?_
        refine r_goto C dX6_passDay_67 ?_
        refine r_putI C flX6_22 dX6_passDay_80 (Ok.full (by decide) hS) rfl ⟨rfl, rfl⟩ ?_
        refine r_vret C hrt dX6_passDay_83 ?_
        refine ⟨rfl, rfl, ?_, Fr.put hf (sS_of (by omega))⟩
        rw [passF, hunF, if_neg c58]
        exact sgp_hunger hsg
    | succ k ih =>
      intro c hh hk hsg hw hf
      have htn := ht.fr hf sS_twn'
      refine r_iload_n C dX6_passDay_11 rfl ?_
      refine r_aload_n C dX6_passDay_12 rfl ?_
      refine q_getV C flX6_59 dX6_passDay_13 (Ok.full (by decide) hT) rfl htn.1 ?_
      refine r_icmpN_ge C dX6_passDay_16 (by omega) (by omega) (fun cc => absurd cc (by omega)) (fun _ => ?_)
      refine r_aload_n C dX6_passDay_19 rfl ?_
      refine r_iload_n C dX6_passDay_20 rfl ?_
      refine r_aload_n C dX6_passDay_21 rfl ?_
      refine r_getR C flX6_12 dX6_passDay_22 (Ok.full (by decide) hS) rfl rfl ?_
      refine r_getR C flX6_62 dX6_passDay_25 (Ok.full (by decide) hC) rfl rfl ?_
      refine r_iload_n C dX6_passDay_28 rfl ?_
      refine q_ialdV (m := 5) C dX6_passDay_29 (Ok.full (by decide) hC) rfl rfl (by omega) (hsg.1.2.2.1 c (by omega)) ?_
      refine r_aload_n C dX6_passDay_30 rfl ?_
      refine r_getR C flX6_65 dX6_passDay_31 (Ok.full (by decide) hT) rfl rfl ?_
      refine r_iload_n C dX6_passDay_34 rfl ?_
      refine q_ialdV (m := 5) C dX6_passDay_35 (Ok.full (by decide) hT) rfl rfl (by omega) ((htn.2.2.2.2.2.1 c (by omega)).1) ?_
      first | refine r_imulN C dX6_passDay_36 ?_ | refine r_imul C dX6_passDay_36 ?_
      refine r_aload_n C dX6_passDay_37 rfl ?_
      refine q_getV C flX6_45 dX6_passDay_38 (Ok.full (by decide) hT) rfl htn.2.1 ?_
      refine r_callV C (c_payCompany hS (by omega) hN1 hsg) dX6_passDay_41 cw_X6_payCompany cvX6_68 (by omega) (Ok.full (by decide) hS) rfl hN rfl (Nat.le_of_ble_eq_true rfl) ?_
      rintro v R' h2 ⟨rfl, rfl, hs2, hf2⟩
      first | refine r_iincN C dX6_passDay_44 rfl st3 ?_ | refine r_iinc C dX6_passDay_44 rfl rfl st3 ?_
      refine r_goto C dX6_passDay_47 ?_
      exact ih (c + 1) h2 (by omega) hs2 (by rw [hf2 1 j rfl]; exact hw) (hf.tr (hf2.wk sP_sS))
  exact loop (N 0) 0 h1 (by omega) hs1 hw1 f1
set_option maxRecDepth 100000 in
set_option maxHeartbeats 4000000 in
theorem c_siegeBegin {E : Ev} {a b j t : Nat} {h : HF} {N : Nat → Nat} {T : Tv} (hS : j < 23) (hT : t < 2) (ht : twn h t N T) (hb : twb h t N T) : Ct E 1 yX6_begin cX6_begin 3 none [aR 6 j, aR 8 t] 243 (Rs a b) h 243 (fun v R' h' => v = none ∧ R' = Rs a b ∧ sgp h' j (bgF N T) ∧ Fr (sS j) h h') := by
  refine Ct.of 1 (L0 := [some (aR 6 j), some (aR 8 t), none]) (by decide) ⟨Nat.le_refl _, Nat.le_refl _⟩ rfl rfl ?_
  intro G C hg hrt hnm
  have hN : gn G ≤ 243 ∧ 243 ≤ 243 ∧ 243 ≤ 243 := ⟨by omega, by decide, by decide⟩
  have hC : j < 29 := by omega
  have hN0 := ht.2.2.2.2.2.2.2.2.2.1
  have hN1 := ht.2.2.2.2.2.2.2.2.2.2.1
  refine r_aload_n C dX6_begin_0 rfl ?_
  refine r_getR C flX6_12 dX6_begin_1 (Ok.full (by decide) hS) rfl rfl ?_
  refine r_aload_n C dX6_begin_4 rfl ?_
  refine r_callV C (c_campBegin hC hT ht hb) dX6_begin_5 cw_X1_begin cvX6_38 (by omega) (Ok.full (by decide) hC) rfl hN rfl (Nat.le_of_ble_eq_true rfl) ?_
  rintro v R' h1 ⟨rfl, rfl, hc1, hf1⟩
  have f1 : Fr (sS j) h h1 := hf1.wk sC_sS
  have hb1 := hb.fr f1 sS_twn
  refine r_aload_n C dX6_begin_8 rfl ?_
  refine r_aload_n C dX6_begin_9 rfl ?_
  refine q_getV C flX6_42 dX6_begin_10 (Ok.full (by decide) hT) rfl hb1.2.2.2 ?_
  refine r_putI C flX6_18 dX6_begin_13 (Ok.full (by decide) hS) rfl ⟨rfl, rfl⟩ ?_
  refine r_aload_n C dX6_begin_16 rfl ?_
  refine r_iconst (v := (nI 0)) C dX6_begin_17 (by decide) ?_
  refine r_putI C flX6_22 dX6_begin_18 (Ok.full (by decide) hS) rfl ⟨rfl, rfl⟩ ?_
  refine r_aload_n C dX6_begin_21 rfl ?_
  refine r_iconst (v := (nI 0)) C dX6_begin_22 (by decide) ?_
  refine r_putI C flX6_25 dX6_begin_23 (Ok.full (by decide) hS) rfl ⟨rfl, rfl⟩ ?_
  refine r_iconst (v := (nI 0)) C dX6_begin_26 (by decide) ?_
  refine r_istore_n C dX6_begin_27 st2 ?_
  have z0 : ∀ k, (15 ≤ k ∧ k < 20) ∨ 24 ≤ k → bgF N T k = nI 0 := fun k hk => by
    simp only [bgF]
    rw [if_neg (by omega), if_neg (by omega), if_neg (by omega), if_neg (by omega)]
  have loop3 : ∀ k c hh, c + k = 20 → cmp hh j (bgF N T) → hh 6 j 1 = bgF N T 1 → hh 6 j 2 = nI 0 → hh 6 j 3 = nI 0 → (∀ i, i < 4 → hh 23 j i = bgF N T (20 + i)) → (∀ i, i < 5 → hh 24 j i = nI 0) → (∀ i, i < c → hh 25 j i = nI 0) → Fr (sS j) h hh →
      Wa E G 243 (Rs a b) hh (QQ E G 243 (fun v R' h' => v = none ∧ R' = Rs a b ∧ sgp h' j (bgF N T) ∧ Fr (sS j) h h')) 85 [some (aR 6 j), some (aR 8 t), some (aI (nI c))] [] := by
    intro k
    induction k with
    | zero =>
      intro c hh hk hcm g1 g2 g3 g4 g5 g6 hf
      refine r_iload_n C dX6_begin_85 rfl ?_
      refine r_bipush (v := (nI 20)) C dX6_begin_86 (by decide) ?_
      refine r_icmpN_ge C dX6_begin_88 (by omega) (by omega) (fun _ => ?_) (fun cc => absurd cc (by omega))
      refine r_vret C hrt dX6_begin_104 ?_
      refine ⟨rfl, rfl, ⟨hcm, g1, ?_, ?_, g4, fun i hi => ?_, fun i hi => ?_⟩, hf⟩
      · rw [g2]
        simp only [bgF]
        rw [if_neg (by omega), if_neg (by omega), if_neg (by omega), if_neg (by omega)]
      · rw [g3]
        simp only [bgF]
        rw [if_neg (by omega), if_neg (by omega), if_neg (by omega), if_neg (by omega)]
      · rw [g5 i hi, z0 _ (by omega)]
      · rw [g6 i (by omega), z0 _ (by omega)]
    | succ k ih =>
      intro c hh hk hcm g1 g2 g3 g4 g5 g6 hf
      refine r_iload_n C dX6_begin_85 rfl ?_
      refine r_bipush (v := (nI 20)) C dX6_begin_86 (by decide) ?_
      refine r_icmpN_ge C dX6_begin_88 (by omega) (by omega) (fun cc => absurd cc (by omega)) (fun _ => ?_)
      refine r_aload_n C dX6_begin_91 rfl ?_
      refine r_getR C flX6_35 dX6_begin_92 (Ok.full (by decide) hS) rfl rfl ?_
      refine r_iload_n C dX6_begin_95 rfl ?_
      refine r_iconst (v := (nI 0)) C dX6_begin_96 (by decide) ?_
      refine q_iast (m := 20) C dX6_begin_97 (Ok.full (by decide) hS) rfl rfl (by omega) ?_
      first | refine r_iincN C dX6_begin_98 rfl st2 ?_ | refine r_iinc C dX6_begin_98 rfl rfl st2 ?_
      refine r_goto C dX6_begin_101 ?_
      refine ih (c + 1) _ (by omega) (hcm.putk (by omega) (by omega) (by omega)) g1 g2 g3 ?_ ?_ ?_ (Fr.put hf (sS_of (by omega)))
      · rw [put_k (by decide)]; exact g4
      · rw [put_k (by decide)]; exact g5
      · intro i hi
        by_cases e : i = c
        · subst e; exact put_same
        · rw [put_i e]; exact g6 i (by omega)
  have loop2 : ∀ k c hh, c + k = 5 → cmp hh j (bgF N T) → hh 6 j 1 = bgF N T 1 → hh 6 j 2 = nI 0 → hh 6 j 3 = nI 0 → (∀ i, i < 4 → hh 23 j i = bgF N T (20 + i)) → (∀ i, i < c → hh 24 j i = nI 0) → Fr (sS j) h hh →
      Wa E G 243 (Rs a b) hh (QQ E G 243 (fun v R' h' => v = none ∧ R' = Rs a b ∧ sgp h' j (bgF N T) ∧ Fr (sS j) h h')) 65 [some (aR 6 j), some (aR 8 t), some (aI (nI c))] [] := by
    intro k
    induction k with
    | zero =>
      intro c hh hk hcm g1 g2 g3 g4 g5 hf
      refine r_iload_n C dX6_begin_65 rfl ?_
      refine r_iconst (v := (nI 5)) C dX6_begin_66 (by decide) ?_
      refine r_icmpN_ge C dX6_begin_67 (by omega) (by omega) (fun _ => ?_) (fun cc => absurd cc (by omega))
      refine r_iconst (v := (nI 0)) C dX6_begin_83 (by decide) ?_
      refine r_istore_n C dX6_begin_84 st2 ?_
      exact loop3 20 0 hh rfl hcm g1 g2 g3 g4 (fun i hi => g5 i (by omega)) (fun i hi => by omega) hf
    | succ k ih =>
      intro c hh hk hcm g1 g2 g3 g4 g5 hf
      refine r_iload_n C dX6_begin_65 rfl ?_
      refine r_iconst (v := (nI 5)) C dX6_begin_66 (by decide) ?_
      refine r_icmpN_ge C dX6_begin_67 (by omega) (by omega) (fun cc => absurd cc (by omega)) (fun _ => ?_)
      refine r_aload_n C dX6_begin_70 rfl ?_
      refine r_getR C flX6_32 dX6_begin_71 (Ok.full (by decide) hS) rfl rfl ?_
      refine r_iload_n C dX6_begin_74 rfl ?_
      refine r_iconst (v := (nI 0)) C dX6_begin_75 (by decide) ?_
      refine q_iast (m := 5) C dX6_begin_76 (Ok.full (by decide) hS) rfl rfl (by omega) ?_
      first | refine r_iincN C dX6_begin_77 rfl st2 ?_ | refine r_iinc C dX6_begin_77 rfl rfl st2 ?_
      refine r_goto C dX6_begin_80 ?_
      refine ih (c + 1) _ (by omega) (hcm.putk (by omega) (by omega) (by omega)) g1 g2 g3 ?_ ?_ (Fr.put hf (sS_of (by omega)))
      · rw [put_k (by decide)]; exact g4
      · intro i hi
        by_cases e : i = c
        · subst e; exact put_same
        · rw [put_i e]; exact g5 i (by omega)
  have loop1 : ∀ k c hh, c + k = 4 → cmp hh j (bgF N T) → hh 6 j 1 = bgF N T 1 → hh 6 j 2 = nI 0 → hh 6 j 3 = nI 0 → (∀ i, i < c → hh 23 j i = bgF N T (20 + i)) → Fr (sS j) h hh →
      Wa E G 243 (Rs a b) hh (QQ E G 243 (fun v R' h' => v = none ∧ R' = Rs a b ∧ sgp h' j (bgF N T) ∧ Fr (sS j) h h')) 28 [some (aR 6 j), some (aR 8 t), some (aI (nI c))] [] := by
    intro k
    induction k with
    | zero =>
      intro c hh hk hcm g1 g2 g3 g4 hf
      refine r_iload_n C dX6_begin_28 rfl ?_
      refine r_iconst (v := (nI 4)) C dX6_begin_29 (by decide) ?_
      refine r_icmpN_ge C dX6_begin_30 (by omega) (by omega) (fun _ => ?_) (fun cc => absurd cc (by omega))
      refine r_iconst (v := (nI 0)) C dX6_begin_63 (by decide) ?_
      refine r_istore_n C dX6_begin_64 st2 ?_
      exact loop2 5 0 hh rfl hcm g1 g2 g3 (fun i hi => g4 i (by omega)) (fun i hi => by omega) hf
    | succ k ih =>
      intro c hh hk hcm g1 g2 g3 g4 hf
      have htn := ht.fr hf sS_twn'
      have hbn := hb.fr hf sS_twn
      have fin : ∀ x, x = bgF N T (20 + c) → Wa E G 243 (Rs a b) hh (QQ E G 243 (fun v R' h' => v = none ∧ R' = Rs a b ∧ sgp h' j (bgF N T) ∧ Fr (sS j) h h')) 56 [some (aR 6 j), some (aR 8 t), some (aI (nI c))] [aI x, aI (nI c), aR 23 j] := by
        intro x hx
        refine q_iast (m := 4) C dX6_begin_56 (Ok.full (by decide) hS) rfl rfl (by omega) ?_
        first | refine r_iincN C dX6_begin_57 rfl st2 ?_ | refine r_iinc C dX6_begin_57 rfl rfl st2 ?_
        refine r_goto C dX6_begin_60 ?_
        refine ih (c + 1) _ (by omega) (hcm.putk (by omega) (by omega) (by omega)) g1 g2 g3 ?_ (Fr.put hf (sS_of (by omega)))
        intro i hi
        by_cases e : i = c
        · subst e; rw [put_same]; exact hx
        · rw [put_i e]; exact g4 i (by omega)
      refine r_iload_n C dX6_begin_28 rfl ?_
      refine r_iconst (v := (nI 4)) C dX6_begin_29 (by decide) ?_
      refine r_icmpN_ge C dX6_begin_30 (by omega) (by omega) (fun cc => absurd cc (by omega)) (fun _ => ?_)
      refine r_aload_n C dX6_begin_33 rfl ?_
      refine r_getR C flX6_28 dX6_begin_34 (Ok.full (by decide) hS) rfl rfl ?_
      refine r_iload_n C dX6_begin_37 rfl ?_
      refine r_iload_n C dX6_begin_38 rfl ?_
      refine r_aload_n C dX6_begin_39 rfl ?_
      refine q_getV C flX6_45 dX6_begin_40 (Ok.full (by decide) hT) rfl htn.2.1 ?_
      refine r_icmpN_ge C dX6_begin_43 (by omega) (by omega) (fun c43 => ?_) (fun c43 => ?_)
      · refine r_iconst (v := (nI 0)) C dX6_begin_55 (by decide) ?_
        refine fin _ ?_
        simp only [bgF]
        rw [if_neg (by omega), if_neg (by omega), if_neg (by omega), if_neg (by omega)]
      · refine r_aload_n C dX6_begin_46 rfl ?_
        refine r_getR C flX6_48 dX6_begin_47 (Ok.full (by decide) hT) rfl rfl ?_
        refine r_iload_n C dX6_begin_50 rfl ?_
        refine q_ialdV (m := 4) C dX6_begin_51 (Ok.full (by decide) hT) rfl rfl (by omega) (hbn.2.1 c (by omega)) ?_
        refine r_goto C dX6_begin_52 ?_
        refine fin _ ?_
        simp only [bgF]
        rw [if_neg (by omega), if_neg (by omega), if_neg (by omega), if_pos (by omega)]
        congr 1
        omega
  refine loop1 4 0 _ rfl (((hc1.putk (by omega) (by omega) (by omega)).putk (by omega) (by omega) (by omega)).putk (by omega) (by omega) (by omega)) ?_ ?_ put_same (fun i hi => by omega) (Fr.put (Fr.put (Fr.put f1 (sS_of (by omega))) (sS_of (by omega))) (sS_of (by omega)))
  · rw [put_i (by decide), put_i (by decide), put_same]
    simp only [bgF]
    rw [if_neg (by omega)]
    rfl
  · rw [put_i (by decide), put_same]
set_option maxRecDepth 100000 in
set_option maxHeartbeats 4000000 in
theorem c_siegeBecome {E : Ev} {a b j i : Nat} {h : HF} {s : Sv} (hj : j < 23) (hi : i < 23) (hij : i ≠ j) (hs : sgp h i s) : Ct E 1 yX6_become cX6_become 3 none [aR 6 j, aR 6 i] 243 (Rs a b) h 243 (fun v R' h' => v = none ∧ R' = Rs a b ∧ sgp h' j s ∧ Fr (sS j) h h') := by
  refine Ct.of 1 (L0 := [some (aR 6 j), some (aR 6 i), none]) (by decide) ⟨Nat.le_refl _, Nat.le_refl _⟩ rfl rfl ?_
  intro G C hg hrt hnm
  have hN : gn G ≤ 243 ∧ 243 ≤ 243 ∧ 243 ≤ 243 := ⟨by omega, by decide, by decide⟩
  have nb : ∀ hh, Fr (sS j) h hh → sgp hh i s := fun hh f => hs.fr f (fun k _ => sS_ne hij)
  have hS : j < 23 := hj
  refine r_aload_n C dX6_become_0 rfl ?_
  refine r_getR C flX6_12 dX6_become_1 (Ok.full (by decide) hS) rfl rfl ?_
  have hS : i < 23 := hi
  refine r_aload_n C dX6_become_4 rfl ?_
  refine r_getR C flX6_12 dX6_become_5 (Ok.full (by decide) hS) rfl rfl ?_
  have hC : j < 29 := by omega
  refine r_callV C (c_campBecome (by omega) (by omega) hij hs.1) dX6_become_8 cw_X1_become cvX6_51 (by omega) (Ok.full (by decide) hC) rfl hN rfl (Nat.le_of_ble_eq_true rfl) ?_
  rintro v R' h1 ⟨rfl, rfl, hc1, hf1⟩
  have f1 : Fr (sS j) h h1 := hf1.wk sC_sS
  refine r_aload_n C dX6_become_11 rfl ?_
  refine r_aload_n C dX6_become_12 rfl ?_
  refine q_getV C flX6_18 dX6_become_13 (Ok.full (by decide) hS) rfl (nb _ f1).2.1 ?_
  have hS : j < 23 := hj
  refine r_putI C flX6_18 dX6_become_16 (Ok.full (by decide) hS) rfl ⟨rfl, rfl⟩ ?_
  have f2 := Fr.put (i := 1) (v := s 1) f1 (sS_of (j := j) (k := 6) (by omega))
  have hS : i < 23 := hi
  refine r_aload_n C dX6_become_19 rfl ?_
  refine r_aload_n C dX6_become_20 rfl ?_
  refine q_getV C flX6_22 dX6_become_21 (Ok.full (by decide) hS) rfl (nb _ f2).2.2.1 ?_
  have hS : j < 23 := hj
  refine r_putI C flX6_22 dX6_become_24 (Ok.full (by decide) hS) rfl ⟨rfl, rfl⟩ ?_
  have f3 := Fr.put (i := 2) (v := s 3) f2 (sS_of (j := j) (k := 6) (by omega))
  have hS : i < 23 := hi
  refine r_aload_n C dX6_become_27 rfl ?_
  refine r_aload_n C dX6_become_28 rfl ?_
  refine q_getV C flX6_25 dX6_become_29 (Ok.full (by decide) hS) rfl (nb _ f3).2.2.2.1 ?_
  have hS : j < 23 := hj
  refine r_putI C flX6_25 dX6_become_32 (Ok.full (by decide) hS) rfl ⟨rfl, rfl⟩ ?_
  refine r_iconst (v := (nI 0)) C dX6_become_35 (by decide) ?_
  refine r_istore_n C dX6_become_36 st2 ?_
  have f4 := Fr.put (i := 3) (v := s 4) f3 (sS_of (j := j) (k := 6) (by omega))
  have loop3 : ∀ k c hh, c + k = 20 → cmp hh j s → hh 6 j 1 = s 1 → hh 6 j 2 = s 3 → hh 6 j 3 = s 4 → (∀ i, i < 4 → hh 23 j i = s (20 + i)) → (∀ i, i < 5 → hh 24 j i = s (15 + i)) → (∀ i, i < c → hh 25 j i = s (24 + i)) → Fr (sS j) h hh →
      Wa E G 243 (Rs a b) hh (QQ E G 243 (fun v R' h' => v = none ∧ R' = Rs a b ∧ sgp h' j s ∧ Fr (sS j) h h')) 87 [some (aR 6 j), some (aR 6 i), some (aI (nI c))] [] := by
    intro k
    induction k with
    | zero =>
      intro c hh hk hcm g1 g2 g3 g4 g5 g6 hf
      refine r_iload_n C dX6_become_87 rfl ?_
      refine r_bipush (v := (nI 20)) C dX6_become_88 (by decide) ?_
      refine r_icmpN_ge C dX6_become_90 (by omega) (by omega) (fun _ => ?_) (fun cc => absurd cc (by omega))
      refine r_vret C hrt dX6_become_111 ?_
      exact ⟨rfl, rfl, ⟨hcm, g1, g2, g3, g4, g5, fun i hi => g6 i (by omega)⟩, hf⟩
    | succ k ih =>
      intro c hh hk hcm g1 g2 g3 g4 g5 g6 hf
      have hsn := nb hh hf
      refine r_iload_n C dX6_become_87 rfl ?_
      refine r_bipush (v := (nI 20)) C dX6_become_88 (by decide) ?_
      refine r_icmpN_ge C dX6_become_90 (by omega) (by omega) (fun cc => absurd cc (by omega)) (fun _ => ?_)
      refine r_aload_n C dX6_become_93 rfl ?_
      refine r_getR C flX6_35 dX6_become_94 (Ok.full (by decide) hS) rfl rfl ?_
      refine r_iload_n C dX6_become_97 rfl ?_
      have hS : i < 23 := hi
      refine r_aload_n C dX6_become_98 rfl ?_
      refine r_getR C flX6_35 dX6_become_99 (Ok.full (by decide) hS) rfl rfl ?_
      refine r_iload_n C dX6_become_102 rfl ?_
      refine q_ialdV (m := 20) C dX6_become_103 (Ok.full (by decide) hS) rfl rfl (by omega) (hsn.2.2.2.2.2.2 c (by omega)) ?_
      have hS : j < 23 := hj
      refine q_iast (m := 20) C dX6_become_104 (Ok.full (by decide) hS) rfl rfl (by omega) ?_
      first | refine r_iincN C dX6_become_105 rfl st2 ?_ | refine r_iinc C dX6_become_105 rfl rfl st2 ?_
      refine r_goto C dX6_become_108 ?_
      refine ih (c + 1) _ (by omega) (hcm.putk (by omega) (by omega) (by omega)) g1 g2 g3 ?_ ?_ ?_ (Fr.put hf (sS_of (by omega)))
      · rw [put_k (by decide)]; exact g4
      · rw [put_k (by decide)]; exact g5
      · intro i hi
        by_cases e : i = c
        · subst e; exact put_same
        · rw [put_i e]; exact g6 i (by omega)
  have loop2 : ∀ k c hh, c + k = 5 → cmp hh j s → hh 6 j 1 = s 1 → hh 6 j 2 = s 3 → hh 6 j 3 = s 4 → (∀ i, i < 4 → hh 23 j i = s (20 + i)) → (∀ i, i < c → hh 24 j i = s (15 + i)) → Fr (sS j) h hh →
      Wa E G 243 (Rs a b) hh (QQ E G 243 (fun v R' h' => v = none ∧ R' = Rs a b ∧ sgp h' j s ∧ Fr (sS j) h h')) 62 [some (aR 6 j), some (aR 6 i), some (aI (nI c))] [] := by
    intro k
    induction k with
    | zero =>
      intro c hh hk hcm g1 g2 g3 g4 g5 hf
      refine r_iload_n C dX6_become_62 rfl ?_
      refine r_iconst (v := (nI 5)) C dX6_become_63 (by decide) ?_
      refine r_icmpN_ge C dX6_become_64 (by omega) (by omega) (fun _ => ?_) (fun cc => absurd cc (by omega))
      refine r_iconst (v := (nI 0)) C dX6_become_85 (by decide) ?_
      refine r_istore_n C dX6_become_86 st2 ?_
      exact loop3 20 0 hh rfl hcm g1 g2 g3 g4 (fun i hi => g5 i (by omega)) (fun i hi => by omega) hf
    | succ k ih =>
      intro c hh hk hcm g1 g2 g3 g4 g5 hf
      have hsn := nb hh hf
      refine r_iload_n C dX6_become_62 rfl ?_
      refine r_iconst (v := (nI 5)) C dX6_become_63 (by decide) ?_
      refine r_icmpN_ge C dX6_become_64 (by omega) (by omega) (fun cc => absurd cc (by omega)) (fun _ => ?_)
      refine r_aload_n C dX6_become_67 rfl ?_
      refine r_getR C flX6_32 dX6_become_68 (Ok.full (by decide) hS) rfl rfl ?_
      refine r_iload_n C dX6_become_71 rfl ?_
      have hS : i < 23 := hi
      refine r_aload_n C dX6_become_72 rfl ?_
      refine r_getR C flX6_32 dX6_become_73 (Ok.full (by decide) hS) rfl rfl ?_
      refine r_iload_n C dX6_become_76 rfl ?_
      refine q_ialdV (m := 5) C dX6_become_77 (Ok.full (by decide) hS) rfl rfl (by omega) (hsn.2.2.2.2.2.1 c (by omega)) ?_
      have hS : j < 23 := hj
      refine q_iast (m := 5) C dX6_become_78 (Ok.full (by decide) hS) rfl rfl (by omega) ?_
      first | refine r_iincN C dX6_become_79 rfl st2 ?_ | refine r_iinc C dX6_become_79 rfl rfl st2 ?_
      refine r_goto C dX6_become_82 ?_
      refine ih (c + 1) _ (by omega) (hcm.putk (by omega) (by omega) (by omega)) g1 g2 g3 ?_ ?_ (Fr.put hf (sS_of (by omega)))
      · rw [put_k (by decide)]; exact g4
      · intro i hi
        by_cases e : i = c
        · subst e; exact put_same
        · rw [put_i e]; exact g5 i (by omega)
  have loop1 : ∀ k c hh, c + k = 4 → cmp hh j s → hh 6 j 1 = s 1 → hh 6 j 2 = s 3 → hh 6 j 3 = s 4 → (∀ i, i < c → hh 23 j i = s (20 + i)) → Fr (sS j) h hh →
      Wa E G 243 (Rs a b) hh (QQ E G 243 (fun v R' h' => v = none ∧ R' = Rs a b ∧ sgp h' j s ∧ Fr (sS j) h h')) 37 [some (aR 6 j), some (aR 6 i), some (aI (nI c))] [] := by
    intro k
    induction k with
    | zero =>
      intro c hh hk hcm g1 g2 g3 g4 hf
      refine r_iload_n C dX6_become_37 rfl ?_
      refine r_iconst (v := (nI 4)) C dX6_become_38 (by decide) ?_
      refine r_icmpN_ge C dX6_become_39 (by omega) (by omega) (fun _ => ?_) (fun cc => absurd cc (by omega))
      refine r_iconst (v := (nI 0)) C dX6_become_60 (by decide) ?_
      refine r_istore_n C dX6_become_61 st2 ?_
      exact loop2 5 0 hh rfl hcm g1 g2 g3 (fun i hi => g4 i (by omega)) (fun i hi => by omega) hf
    | succ k ih =>
      intro c hh hk hcm g1 g2 g3 g4 hf
      have hsn := nb hh hf
      refine r_iload_n C dX6_become_37 rfl ?_
      refine r_iconst (v := (nI 4)) C dX6_become_38 (by decide) ?_
      refine r_icmpN_ge C dX6_become_39 (by omega) (by omega) (fun cc => absurd cc (by omega)) (fun _ => ?_)
      refine r_aload_n C dX6_become_42 rfl ?_
      refine r_getR C flX6_28 dX6_become_43 (Ok.full (by decide) hS) rfl rfl ?_
      refine r_iload_n C dX6_become_46 rfl ?_
      have hS : i < 23 := hi
      refine r_aload_n C dX6_become_47 rfl ?_
      refine r_getR C flX6_28 dX6_become_48 (Ok.full (by decide) hS) rfl rfl ?_
      refine r_iload_n C dX6_become_51 rfl ?_
      refine q_ialdV (m := 4) C dX6_become_52 (Ok.full (by decide) hS) rfl rfl (by omega) (hsn.2.2.2.2.1 c (by omega)) ?_
      have hS : j < 23 := hj
      refine q_iast (m := 4) C dX6_become_53 (Ok.full (by decide) hS) rfl rfl (by omega) ?_
      first | refine r_iincN C dX6_become_54 rfl st2 ?_ | refine r_iinc C dX6_become_54 rfl rfl st2 ?_
      refine r_goto C dX6_become_57 ?_
      refine ih (c + 1) _ (by omega) (hcm.putk (by omega) (by omega) (by omega)) g1 g2 g3 ?_ (Fr.put hf (sS_of (by omega)))
      intro i hi
      by_cases e : i = c
      · subst e; exact put_same
      · rw [put_i e]; exact g4 i (by omega)
  refine loop1 4 0 _ rfl (((hc1.putk (by omega) (by omega) (by omega)).putk (by omega) (by omega) (by omega)).putk (by omega) (by omega) (by omega)) ?_ ?_ put_same (fun i hi => by omega) f4
  · rw [put_i (by decide), put_i (by decide), put_same]
  · rw [put_i (by decide), put_same]
set_option maxRecDepth 100000 in
set_option maxHeartbeats 4000000 in
theorem c_raiseOdds {E : Ev} {a b j : Nat} {h : HF} {s : Sv} {more : Int32} (hS : j < 23) (hs : sgp h j s) : Ct E 1 yX6_raiseOdds cX6_raiseOdds 2 none [aR 6 j, aI more] 243 (Rs a b) h 243 (fun v R' h' => v = none ∧ R' = Rs a b ∧ sgp h' j (rodF more s) ∧ Fr (sS j) h h') := by
  refine Ct.of 0 (L0 := [some (aR 6 j), some (aI more)]) (by decide) ⟨Nat.le_refl _, Nat.le_refl _⟩ rfl rfl ?_
  intro G C hg hrt hnm
  have hN : gn G ≤ 243 ∧ 243 ≤ 243 ∧ 243 ≤ 243 := ⟨by omega, by decide, by decide⟩
  refine r_aload_n C dX6_raiseOdds_0 rfl ?_
  refine r_bipush (v := (nI 99)) C dX6_raiseOdds_1 (by decide) ?_
  refine r_aload_n C dX6_raiseOdds_3 rfl ?_
  refine q_getV C flX6_18 dX6_raiseOdds_4 (Ok.full (by decide) hS) rfl hs.2.1 ?_
  refine r_iload_n C dX6_raiseOdds_7 rfl ?_
  first | refine r_iaddN C dX6_raiseOdds_8 ?_ | refine r_iadd C dX6_raiseOdds_8 ?_
  refine r_min C dX6_raiseOdds_9 cmX6_96 (by omega) (Nat.le_of_ble_eq_true rfl) ⟨hN.1, hN.2.2⟩ ?_
  refine r_putI C flX6_18 dX6_raiseOdds_12 (Ok.full (by decide) hS) rfl ⟨rfl, rfl⟩ ?_
  refine r_vret C hrt dX6_raiseOdds_15 ?_
  exact ⟨rfl, rfl, sgp_odds hs, Fr.put Fr.rf (sS_of (by omega))⟩
set_option maxRecDepth 100000 in
set_option maxHeartbeats 4000000 in
theorem c_hearGun {E : Ev} {a b j : Nat} {h : HF} {s : Sv} (hS : j < 23) (hs : sgp h j s) : Ct E 2 yX6_hearGun cX6_hearGun 1 none [aR 6 j] 243 (Rs a b) h 243 (fun v R' h' => v = none ∧ R' = Rs a b ∧ sgp h' j (rodF (nI 5) s) ∧ Fr (sS j) h h') := by
  refine Ct.of 0 (L0 := [some (aR 6 j)]) (by decide) ⟨Nat.le_refl _, Nat.le_refl _⟩ rfl rfl ?_
  intro G C hg hrt hnm
  have hN : gn G ≤ 243 ∧ 243 ≤ 243 ∧ 243 ≤ 243 := ⟨by omega, by decide, by decide⟩
  refine r_aload_n C dX6_hearGun_0 rfl ?_
  refine r_iconst (v := (nI 5)) C dX6_hearGun_1 (by decide) ?_
  refine r_callV C (c_raiseOdds hS hs) dX6_hearGun_2 cw_X6_raiseOdds cvX6_92 (by omega) (Ok.full (by decide) hS) rfl hN rfl (Nat.le_of_ble_eq_true rfl) ?_
  rintro v R' h1 ⟨rfl, rfl, hc1, hf1⟩
  refine r_vret C hrt dX6_hearGun_5 ?_
  exact ⟨rfl, rfl, hc1, hf1⟩
set_option maxRecDepth 100000 in
set_option maxHeartbeats 4000000 in
theorem c_worthOfSquare {E : Ev} {a b t m rd : Nat} {h : HF} {N : Nat → Nat} {T : Tv} (hT : t < 2) (ht : twn h t N T) (hm : m < N 1) (hr : rd < 3) : Ct E 0 yX6_worthOfSquare cX6_worthOfSquare 3 (some .int) [aR 8 t, aI (nI m), aI (nI rd)] 243 (Rs a b) h 243 (fun v R' h' => v = some (aI (wosF T m rd)) ∧ R' = Rs a b ∧ h' = h) := by
  refine Ct.of 0 (L0 := [some (aR 8 t), some (aI (nI m)), some (aI (nI rd))]) (by decide) ⟨Nat.le_refl _, Nat.le_refl _⟩ rfl rfl ?_
  intro G C hg hrt hnm
  have hN : gn G ≤ 243 ∧ 243 ≤ 243 ∧ 243 ≤ 243 := ⟨by omega, by decide, by decide⟩
  have hN1 := ht.2.2.2.2.2.2.2.2.2.2.1
  have hrow := ht.2.2.2.2.2.2.1 m hm
  refine r_iload_n C dX6_worthOfSquare_0 rfl ?_
  rcases (show rd = 0 ∨ rd = 1 ∨ rd = 2 by omega) with rfl | rfl | rfl
  · refine r_look (off := 27) (tgt := 28) C ⟨dX6_worthOfSquare_1, rfl, by decide⟩ (by decide) (by decide) ?_
    refine r_aload_n C dX6_worthOfSquare_28 rfl ?_
    refine r_getR C flX6_86 dX6_worthOfSquare_29 (Ok.full (by decide) hT) rfl rfl ?_
    refine r_iload_n C dX6_worthOfSquare_32 rfl ?_
    refine q_ialdV (m := 4) C dX6_worthOfSquare_33 (Ok.full (by decide) hT) rfl rfl (by omega) hrow.1 ?_
    refine r_iret C hrt dX6_worthOfSquare_34 ?_
    exact ⟨rfl, rfl, rfl⟩
  · refine r_look (off := 34) (tgt := 35) C ⟨dX6_worthOfSquare_1, rfl, by decide⟩ (by decide) (by decide) ?_
    refine r_aload_n C dX6_worthOfSquare_35 rfl ?_
    refine r_getR C flX6_89 dX6_worthOfSquare_36 (Ok.full (by decide) hT) rfl rfl ?_
    refine r_iload_n C dX6_worthOfSquare_39 rfl ?_
    refine q_ialdV (m := 4) C dX6_worthOfSquare_40 (Ok.full (by decide) hT) rfl rfl (by omega) hrow.2 ?_
    refine r_iret C hrt dX6_worthOfSquare_41 ?_
    exact ⟨rfl, rfl, rfl⟩
  · refine r_look (off := 41) (tgt := 42) C ⟨dX6_worthOfSquare_1, rfl, by decide⟩ (by decide) (by decide) ?_
    refine r_iconst (v := (nI 1)) C dX6_worthOfSquare_42 (by decide) ?_
    refine r_iret C hrt dX6_worthOfSquare_43 ?_
    exact ⟨rfl, rfl, rfl⟩
set_option maxRecDepth 100000 in
set_option maxHeartbeats 4000000 in
theorem c_owedTo {E : Ev} {a b j t c rd : Nat} {h : HF} {N : Nat → Nat} {T : Tv} {s : Sv} (hS : j < 23) (hT : t < 2) (ht : twn h t N T) (hs : sgp h j s) (hc : c < 5) (hr : rd < 3) : Ct E 1 yX6_owedTo cX6_owedTo 6 (some .int) [aR 6 j, aR 8 t, aI (nI c), aI (nI rd)] 243 (Rs a b) h 243 (fun v R' h' => v = some (aI (owF T s c rd (N 1))) ∧ R' = Rs a b ∧ h' = h) := by
  refine Ct.of 2 (L0 := [some (aR 6 j), some (aR 8 t), some (aI (nI c)), some (aI (nI rd)), none, none]) (by decide) ⟨Nat.le_refl _, Nat.le_refl _⟩ rfl rfl ?_
  intro G C hg hrt hnm
  have hN : gn G ≤ 243 ∧ 243 ≤ 243 ∧ 243 ≤ 243 := ⟨by omega, by decide, by decide⟩
  have hN1 := ht.2.2.2.2.2.2.2.2.2.2.1
  refine r_aload_n C dX6_owedTo_0 rfl ?_
  refine r_getR C flX6_32 dX6_owedTo_1 (Ok.full (by decide) hS) rfl rfl ?_
  refine r_iload_n C dX6_owedTo_4 rfl ?_
  refine q_ialdV (m := 5) C dX6_owedTo_5 (Ok.full (by decide) hS) rfl rfl (by omega) (hs.2.2.2.2.2.1 c hc) ?_
  refine r_istore C dX6_owedTo_6 st4 ?_
  refine r_iconst (v := (nI 0)) C dX6_owedTo_8 (by decide) ?_
  refine r_istore C dX6_owedTo_9 st5 ?_
  have loop : ∀ k m, m + k = N 1 → Wa E G 243 (Rs a b) h (QQ E G 243 (fun v R' h' => v = some (aI (owF T s c rd (N 1))) ∧ R' = Rs a b ∧ h' = h)) 11 [some (aR 6 j), some (aR 8 t), some (aI (nI c)), some (aI (nI rd)), some (aI (owF T s c rd m)), some (aI (nI m))] [] := by
    intro k
    induction k with
    | zero =>
      intro m hm
      have e : m = N 1 := by omega
      subst e
      refine r_iload C dX6_owedTo_11 rfl ?_
      refine r_aload_n C dX6_owedTo_13 rfl ?_
      refine q_getV C flX6_45 dX6_owedTo_14 (Ok.full (by decide) hT) rfl ht.2.1 ?_
      refine r_icmpN_ge C dX6_owedTo_17 (by omega) (by omega) (fun _ => ?_) (fun cc => absurd cc (by omega))
      refine r_iload C dX6_owedTo_50 rfl ?_
      refine r_iret C hrt dX6_owedTo_52 ?_
      exact ⟨rfl, rfl, rfl⟩
    | succ k ih =>
      intro m hm
      refine r_iload C dX6_owedTo_11 rfl ?_
      refine r_aload_n C dX6_owedTo_13 rfl ?_
      refine q_getV C flX6_45 dX6_owedTo_14 (Ok.full (by decide) hT) rfl ht.2.1 ?_
      refine r_icmpN_ge C dX6_owedTo_17 (by omega) (by omega) (fun cc => absurd cc (by omega)) (fun _ => ?_)
      refine r_iload C dX6_owedTo_20 rfl ?_
      refine r_aload_n C dX6_owedTo_22 rfl ?_
      refine r_getR C flX6_35 dX6_owedTo_23 (Ok.full (by decide) hS) rfl rfl ?_
      refine r_iload_n C dX6_owedTo_26 rfl ?_
      refine r_iconst (v := (nI 4)) C dX6_owedTo_27 (by decide) ?_
      first | refine r_imulN C dX6_owedTo_28 ?_ | refine r_imul C dX6_owedTo_28 ?_
      refine r_iload C dX6_owedTo_29 rfl ?_
      first | refine r_iaddN C dX6_owedTo_31 ?_ | refine r_iadd C dX6_owedTo_31 ?_
      refine q_ialdV (m := 20) C dX6_owedTo_32 (Ok.full (by decide) hS) rfl rfl (by omega) (hs.2.2.2.2.2.2 (c * 4 + m) (by omega)) ?_
      refine r_aload_n C dX6_owedTo_33 rfl ?_
      refine r_iload C dX6_owedTo_34 rfl ?_
      refine r_iload_n C dX6_owedTo_36 rfl ?_
      refine r_callS C (c_worthOfSquare hT ht (by omega) hr) dX6_owedTo_37 cw_X6_worthOfSquare csX6_82 (by omega) rfl hN rfl (Nat.le_of_ble_eq_true rfl) ?_
      rintro v R' h1 ⟨rfl, rfl, rfl⟩
      refine r_imul C dX6_owedTo_40 ?_
      refine r_iadd C dX6_owedTo_41 ?_
      refine r_istore C dX6_owedTo_42 st4 ?_
      first | refine r_iincN C dX6_owedTo_44 rfl st5 ?_ | refine r_iinc C dX6_owedTo_44 rfl rfl st5 ?_
      refine r_goto C dX6_owedTo_47 ?_
      exact ih (m + 1) (by omega)
  exact loop (N 1) 0 (by omega)
