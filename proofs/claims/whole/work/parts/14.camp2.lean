set_option maxRecDepth 100000 in
set_option maxHeartbeats 4000000 in
theorem c_isFed {E : Ev} {a b j c : Nat} {h : HF} {s : Sv} {w d q : Int32} (hC : j < 29) (hcc : c < 5) (hc : cmq h j s w d) : Ct E 0 yX1_isFed cX1_isFed 4 (some .boolean) [aR 1 j, aI (nI c), aI q] 243 (Rs a b) h 243 (fun v R' h' => v = some (aI (if fedB q s c = true then nI 1 else nI 0)) ∧ R' = Rs a b ∧ cmq h' j (fedS q s c) w d ∧ Fr (sC j) h h') := by
  refine Ct.of 1 (L0 := [some (aR 1 j), some (aI (nI c)), some (aI q), none]) (by decide) ⟨Nat.le_refl _, Nat.le_refl _⟩ rfl rfl ?_
  intro G C hg hrt hnm
  have hN : gn G ≤ 243 ∧ 243 ≤ 243 ∧ 243 ≤ 243 := ⟨by omega, by decide, by decide⟩
  refine r_iload_n C dX1_isFed_0 rfl ?_
  refine r_aload_n C dX1_isFed_1 rfl ?_
  refine r_getR C flX1_18 dX1_isFed_2 (Ok.full (by decide) hC) rfl rfl ?_
  refine r_iload_n C dX1_isFed_5 rfl ?_
  refine q_ialdV (m := 5) C dX1_isFed_6 (Ok.full (by decide) hC) rfl rfl (by omega) (hc.1.2.2.1 c hcc) ?_
  first | refine r_imulN C dX1_isFed_7 ?_ | refine r_imul C dX1_isFed_7 ?_
  refine r_istore_n C dX1_isFed_8 st3 ?_
  refine r_iload_n C dX1_isFed_9 rfl ?_
  refine r_aload_n C dX1_isFed_10 rfl ?_
  refine q_getV C flX1_9 dX1_isFed_11 (Ok.full (by decide) hC) rfl hc.1.1 ?_
  refine r_icmp_le C dX1_isFed_14 (fun c14 => ?_) (fun c14 => ?_)
  · refine r_aload_n C dX1_isFed_19 rfl ?_
    refine r_dup C dX1_isFed_20 rfl ?_
    refine q_getV C flX1_9 dX1_isFed_21 (Ok.full (by decide) hC) rfl hc.1.1 ?_
    refine r_iload_n C dX1_isFed_24 rfl ?_
    refine r_isub C dX1_isFed_25 ?_
    refine r_putI C flX1_9 dX1_isFed_26 (Ok.full (by decide) hC) rfl ⟨rfl, rfl⟩ ?_
    refine r_iload_n C dX1_isFed_29 rfl ?_
    refine r_iconst (v := (nI 2)) C dX1_isFed_30 (by decide) ?_
    refine r_icmp_lt C dX1_isFed_31 (fun c31 => ?_) (fun c31 => ?_)
    · refine r_iconst (v := (nI 0)) C dX1_isFed_38 (by decide) ?_
      refine r_zret C hrt dX1_isFed_39 (by decide) ?_
      have e : fedB q s c = false := by simp [fedB, c31]
      rw [e, fedS, if_pos c14]
      exact ⟨rfl, rfl, cmq_food hc, Fr.put Fr.rf sC1⟩
    · refine r_iconst (v := (nI 1)) C dX1_isFed_34 (by decide) ?_
      refine r_goto C dX1_isFed_35 ?_
      refine r_zret C hrt dX1_isFed_39 (by decide) ?_
      have e : fedB q s c = true := by simp [fedB, c14, Int32.not_lt.mp c31]
      rw [e, fedS, if_pos c14]
      exact ⟨rfl, rfl, cmq_food hc, Fr.put Fr.rf sC1⟩
  · refine r_iconst (v := (nI 0)) C dX1_isFed_17 (by decide) ?_
    refine r_zret C hrt dX1_isFed_18 (by decide) ?_
    have e : fedB q s c = false := by simp [fedB, c14]
    rw [e, fedS, if_neg c14]
    exact ⟨rfl, rfl, hc, Fr.rf⟩
set_option maxRecDepth 100000 in
set_option maxHeartbeats 4000000 in
theorem c_starve {E : Ev} {a b j c : Nat} {h : HF} {s : Sv} {w d b0 : Int32} (hC : j < 29) (hcc : c < 5) (hc : cmq h j s w d) : Ct E 1 yX1_starve cX1_starve 3 none [aR 1 j, aI (nI c), aI b0] 243 (Rs a b) h 243 (fun v R' h' => v = none ∧ R' = Rs a b ∧ cmq h' j (starveF b0 c (s, w, d)).1 (starveF b0 c (s, w, d)).2.1 (starveF b0 c (s, w, d)).2.2 ∧ Fr (sC j) h h') := by
  refine Ct.of 0 (L0 := [some (aR 1 j), some (aI (nI c)), some (aI b0)]) (by decide) ⟨Nat.le_refl _, Nat.le_refl _⟩ rfl rfl ?_
  intro G C hg hrt hnm
  have hN : gn G ≤ 243 ∧ 243 ≤ 243 ∧ 243 ≤ 243 := ⟨by omega, by decide, by decide⟩
  refine r_aload_n C dX1_starve_0 rfl ?_
  refine r_getR C flX1_22 dX1_starve_1 (Ok.full (by decide) hC) rfl rfl ?_
  refine r_iload_n C dX1_starve_4 rfl ?_
  refine r_dup2 C dX1_starve_5 rfl rfl ?_
  refine q_ialdV (m := 5) C dX1_starve_6 (Ok.full (by decide) hC) rfl rfl (by omega) (hc.1.2.2.2 c hcc) ?_
  refine r_iconst (v := (nI 1)) C dX1_starve_7 (by decide) ?_
  first | refine r_iaddN C dX1_starve_8 ?_ | refine r_iadd C dX1_starve_8 ?_
  refine q_iast (m := 5) C dX1_starve_9 (Ok.full (by decide) hC) rfl rfl (by omega) ?_
  refine r_aload_n C dX1_starve_10 rfl ?_
  refine r_getR C flX1_18 dX1_starve_11 (Ok.full (by decide) hC) rfl rfl ?_
  refine r_iload_n C dX1_starve_14 rfl ?_
  refine q_ialdV (m := 5) C dX1_starve_15 (Ok.full (by decide) hC) rfl rfl (by omega) (hc.1.2.2.1 c hcc) ?_
  refine r_if_ne C dX1_starve_16 (fun c16 => ?_) (fun c16 => ?_)
  · refine r_aload_n C dX1_starve_20 rfl ?_
    refine r_iconst (v := (nI 1)) C dX1_starve_21 (by decide) ?_
    refine r_putI C flX1_25 dX1_starve_22 (Ok.full (by decide) hC) rfl ⟨rfl, rfl⟩ ?_
    refine r_aload_n C dX1_starve_25 rfl ?_
    refine r_getR C flX1_22 dX1_starve_26 (Ok.full (by decide) hC) rfl rfl ?_
    refine r_iload_n C dX1_starve_29 rfl ?_
    refine q_ialdV (m := 5) C dX1_starve_30 (Ok.full (by decide) hC) rfl rfl (by omega) (show _ = s (10 + c) + nI 1 by rw [put_k (by decide), put_same]) ?_
    refine r_iload_n C dX1_starve_31 rfl ?_
    refine r_icmp_le C dX1_starve_32 (fun c32 => ?_) (fun c32 => ?_)
    · refine r_vret C hrt dX1_starve_76 ?_
      rw [starveF, if_neg c16, if_pos c32]
      exact ⟨rfl, rfl, cmq_wh (cmq_hd hcc hc), Fr.put (Fr.put Fr.rf sC15) sC1⟩
    · refine r_aload_n C dX1_starve_35 rfl ?_
      refine r_getR C flX1_18 dX1_starve_36 (Ok.full (by decide) hC) rfl rfl ?_
      refine r_iload_n C dX1_starve_39 rfl ?_
      refine r_dup2 C dX1_starve_40 rfl rfl ?_
      refine q_ialdV (m := 5) C dX1_starve_41 (Ok.full (by decide) hC) rfl rfl (by omega) (hc.1.2.2.1 c hcc) ?_
      refine r_aload_n C dX1_starve_42 rfl ?_
      refine r_getR C flX1_18 dX1_starve_43 (Ok.full (by decide) hC) rfl rfl ?_
      refine r_iload_n C dX1_starve_46 rfl ?_
      refine q_ialdV (m := 5) C dX1_starve_47 (Ok.full (by decide) hC) rfl rfl (by omega) (hc.1.2.2.1 c hcc) ?_
      refine r_aload_n C dX1_starve_48 rfl ?_
      refine r_getR C flX1_18 dX1_starve_49 (Ok.full (by decide) hC) rfl rfl ?_
      refine r_iload_n C dX1_starve_52 rfl ?_
      refine q_ialdV (m := 5) C dX1_starve_53 (Ok.full (by decide) hC) rfl rfl (by omega) (hc.1.2.2.1 c hcc) ?_
      refine r_iconst (v := (nI 5)) C dX1_starve_54 (by decide) ?_
      refine r_idiv C dX1_starve_55 (by decide) ?_
      refine r_iconst (v := (nI 1)) C dX1_starve_56 (by decide) ?_
      first | refine r_iaddN C dX1_starve_57 ?_ | refine r_iadd C dX1_starve_57 ?_
      refine r_min C dX1_starve_58 cmX1_54 (by omega) (Nat.le_of_ble_eq_true rfl) ⟨hN.1, hN.2.2⟩ ?_
      refine r_isub C dX1_starve_61 ?_
      refine q_iast (m := 5) C dX1_starve_62 (Ok.full (by decide) hC) rfl rfl (by omega) ?_
      refine r_aload_n C dX1_starve_63 rfl ?_
      refine q_getV C flX1_29 dX1_starve_64 (Ok.full (by decide) hC) rfl hc.2.2 ?_
      refine r_iconst (v := (-1)) C dX1_starve_67 (by decide) ?_
      have hh := cmq_men (x := s (5 + c) - goneF (s (5 + c))) hcc (cmq_wh (x := nI 1) (cmq_hd (x := s (10 + c) + nI 1) hcc hc))
      have ff : Fr (sC j) h (put (put (put h 15 j c (s (10 + c) + nI 1)) 1 j 4 (nI 1)) 14 j c (s (5 + c) - goneF (s (5 + c)))) := Fr.put (Fr.put (Fr.put Fr.rf sC15) sC1) sC14
      refine r_icmp_ne C dX1_starve_68 (fun c68 => ?_) (fun c68 => ?_)
      · refine r_vret C hrt dX1_starve_76 ?_
        rw [starveF, if_neg c16, if_neg c32, if_neg c68]
        exact ⟨rfl, rfl, hh, ff⟩
      · refine r_aload_n C dX1_starve_71 rfl ?_
        refine r_iload_n C dX1_starve_72 rfl ?_
        refine r_putI C flX1_29 dX1_starve_73 (Ok.full (by decide) hC) rfl ⟨rfl, rfl⟩ ?_
        refine r_vret C hrt dX1_starve_76 ?_
        rw [starveF, if_neg c16, if_neg c32, if_pos c68]
        exact ⟨rfl, rfl, cmq_des hh, Fr.put ff sC1⟩
  · refine r_vret C hrt dX1_starve_19 ?_
    rw [starveF, if_pos c16]
    exact ⟨rfl, rfl, cmq_hd hcc hc, Fr.put Fr.rf sC15⟩
set_option maxRecDepth 100000 in
set_option maxHeartbeats 4000000 in
theorem c_foodOfHorses {E : Ev} {a b t : Nat} {h : HF} {N : Nat → Nat} {T : Tv} {day : Int32} (hT : t < 2) (ht : twn h t N T) : Ct E 0 yX8_foodOfHorses cX8_foodOfHorses 4 (some .int) [aR 8 t, aI day] 243 (Rs a b) h 243 (fun v R' h' => v = some (aI (hfd T day (N 3))) ∧ R' = Rs a b ∧ h' = h) := by
  refine Ct.of 2 (L0 := [some (aR 8 t), some (aI day), none, none]) (by decide) ⟨Nat.le_refl _, Nat.le_refl _⟩ rfl rfl ?_
  intro G C hg hrt hnm
  have hN : gn G ≤ 243 ∧ 243 ≤ 243 ∧ 243 ≤ 243 := ⟨by omega, by decide, by decide⟩
  refine r_iconst (v := (nI 0)) C dX8_foodOfHorses_0 (by decide) ?_
  refine r_istore_n C dX8_foodOfHorses_1 st2 ?_
  refine r_iconst (v := (nI 0)) C dX8_foodOfHorses_2 (by decide) ?_
  refine r_istore_n C dX8_foodOfHorses_3 st3 ?_
  have hN3 := ht.2.2.2.2.2.2.2.2.2.2.2.2.1
  have loop : ∀ k i, i + k = N 3 → Wa E G 243 (Rs a b) h (QQ E G 243 (fun v R' h' => v = some (aI (hfd T day (N 3))) ∧ R' = Rs a b ∧ h' = h)) 4 [some (aR 8 t), some (aI day), some (aI (hfd T day i)), some (aI (nI i))] [] := by
    intro k
    induction k with
    | zero =>
      intro i hi
      refine r_iload_n C dX8_foodOfHorses_4 rfl ?_
      refine r_aload_n C dX8_foodOfHorses_5 rfl ?_
      refine q_getV C flX8_31 dX8_foodOfHorses_6 (Ok.full (by decide) hT) rfl ht.2.2.2.1 ?_
      refine r_icmpN_ge C dX8_foodOfHorses_9 (by omega) (by omega) (fun _ => ?_) (fun cc => absurd cc (by omega))
      refine r_iload_n C dX8_foodOfHorses_37 rfl ?_
      refine r_iret C hrt dX8_foodOfHorses_38 ?_
      have e : i = N 3 := by omega
      subst e
      exact ⟨rfl, rfl, rfl⟩
    | succ k ih =>
      intro i hi
      have hrow := ht.2.2.2.2.2.2.2.2.1 i (by omega)
      have ih2 := ih (i + 1) (by omega)
      refine r_iload_n C dX8_foodOfHorses_4 rfl ?_
      refine r_aload_n C dX8_foodOfHorses_5 rfl ?_
      refine q_getV C flX8_31 dX8_foodOfHorses_6 (Ok.full (by decide) hT) rfl ht.2.2.2.1 ?_
      refine r_icmpN_ge C dX8_foodOfHorses_9 (by omega) (by omega) (fun cc => absurd cc (by omega)) (fun _ => ?_)
      refine r_aload_n C dX8_foodOfHorses_12 rfl ?_
      refine r_getR C flX8_56 dX8_foodOfHorses_13 (Ok.full (by decide) hT) rfl rfl ?_
      refine r_iload_n C dX8_foodOfHorses_16 rfl ?_
      refine q_ialdV (m := 4) C dX8_foodOfHorses_17 (Ok.full (by decide) hT) rfl rfl (by omega) hrow.1 ?_
      refine r_iload_n C dX8_foodOfHorses_18 rfl ?_
      refine r_icmp_ne C dX8_foodOfHorses_19 (fun c19 => ?_) (fun c19 => ?_)
      · first | refine r_iincN C dX8_foodOfHorses_31 rfl st3 ?_ | refine r_iinc C dX8_foodOfHorses_31 rfl rfl st3 ?_
        refine r_goto C dX8_foodOfHorses_34 ?_
        rw [hfd, if_neg c19] at ih2
        exact ih2
      · refine r_iload_n C dX8_foodOfHorses_22 rfl ?_
        refine r_aload_n C dX8_foodOfHorses_23 rfl ?_
        refine r_getR C flX8_59 dX8_foodOfHorses_24 (Ok.full (by decide) hT) rfl rfl ?_
        refine r_iload_n C dX8_foodOfHorses_27 rfl ?_
        refine q_ialdV (m := 4) C dX8_foodOfHorses_28 (Ok.full (by decide) hT) rfl rfl (by omega) hrow.2 ?_
        refine r_iadd C dX8_foodOfHorses_29 ?_
        refine r_istore_n C dX8_foodOfHorses_30 st2 ?_
        first | refine r_iincN C dX8_foodOfHorses_31 rfl st3 ?_ | refine r_iinc C dX8_foodOfHorses_31 rfl rfl st3 ?_
        refine r_goto C dX8_foodOfHorses_34 ?_
        rw [hfd, if_pos c19] at ih2
        exact ih2
  exact loop (N 3) 0 (by omega)
set_option maxRecDepth 100000 in
set_option maxHeartbeats 4000000 in
theorem c_eatADay {E : Ev} {a b j t : Nat} {h : HF} {N : Nat → Nat} {T : Tv} {s : Sv} {q : Int32} (hC : j < 29) (hT : t < 2) (ht : twn h t N T) (hc : cmp h j s) : Ct E 2 yX1_eatADay cX1_eatADay 4 none [aR 1 j, aR 8 t, aI q] 243 (Rs a b) h 243 (fun v R' h' => v = none ∧ R' = Rs a b ∧ cmq h' j (edayF N T q s).1 (edayF N T q s).2.1 (edayF N T q s).2.2 ∧ Fr (sC j) h h') := by
  refine Ct.of 1 (L0 := [some (aR 1 j), some (aR 8 t), some (aI q), none]) (by decide) ⟨Nat.le_refl _, Nat.le_refl _⟩ rfl rfl ?_
  intro G C hg hrt hnm
  have hN : gn G ≤ 243 ∧ 243 ≤ 243 ∧ 243 ≤ 243 := ⟨by omega, by decide, by decide⟩
  have hc0 : cmq h j s (h 1 j 4) (h 1 j 5) := ⟨hc, rfl, rfl⟩
  have hN0 := ht.2.2.2.2.2.2.2.2.2.1
  refine r_aload_n C dX1_eatADay_0 rfl ?_
  refine r_dup C dX1_eatADay_1 rfl ?_
  refine q_getV C flX1_9 dX1_eatADay_2 (Ok.full (by decide) hC) rfl hc.1 ?_
  refine r_aload_n C dX1_eatADay_5 rfl ?_
  refine r_aload_n C dX1_eatADay_6 rfl ?_
  refine q_getV C flX1_15 dX1_eatADay_7 (Ok.full (by decide) hC) rfl hc.2.1 ?_
  refine r_callV C (c_foodOfHorses hT ht) dX1_eatADay_10 cw_X8_foodOfHorses cvX1_39 (by omega) (Ok.full (by decide) hT) rfl hN rfl (Nat.le_of_ble_eq_true rfl) ?_
  rintro v R' h' ⟨rfl, rfl, rfl⟩
  first | refine r_iaddN C dX1_eatADay_13 ?_ | refine r_iadd C dX1_eatADay_13 ?_
  refine r_putI C flX1_9 dX1_eatADay_14 (Ok.full (by decide) hC) rfl ⟨rfl, rfl⟩ ?_
  refine r_aload_n C dX1_eatADay_17 rfl ?_
  refine r_iconst (v := (nI 0)) C dX1_eatADay_18 (by decide) ?_
  refine r_putI C flX1_25 dX1_eatADay_19 (Ok.full (by decide) hC) rfl ⟨rfl, rfl⟩ ?_
  refine r_aload_n C dX1_eatADay_22 rfl ?_
  refine r_iconst (v := (-1)) C dX1_eatADay_23 (by decide) ?_
  refine r_putI C flX1_29 dX1_eatADay_24 (Ok.full (by decide) hC) rfl ⟨rfl, rfl⟩ ?_
  refine r_iconst (v := (nI 0)) C dX1_eatADay_27 (by decide) ?_
  refine r_istore_n C dX1_eatADay_28 st3 ?_
  have hc1 := cmq_des (x := -1) (cmq_wh (x := nI 0) (cmq_food (x := s 0 + hfd T (s 2) (N 3)) hc0))
  have f1 : Fr (sC j) h' (put (put (put h' 1 j 0 (s 0 + hfd T (s 2) (N 3))) 1 j 4 (nI 0)) 1 j 5 (-1)) := Fr.put (Fr.put (Fr.put Fr.rf sC1) sC1) sC1
  have loop : ∀ k c hh, c + k = N 0 → cmq hh j (eatN (T 1) q (va_up s 0 (s 0 + hfd T (s 2) (N 3)), nI 0, -1) c).1 (eatN (T 1) q (va_up s 0 (s 0 + hfd T (s 2) (N 3)), nI 0, -1) c).2.1 (eatN (T 1) q (va_up s 0 (s 0 + hfd T (s 2) (N 3)), nI 0, -1) c).2.2 → Fr (sC j) h' hh →
      Wa E G 243 (Rs a b) hh (QQ E G 243 (fun v R' h2 => v = none ∧ R' = Rs a b ∧ cmq h2 j (edayF N T q s).1 (edayF N T q s).2.1 (edayF N T q s).2.2 ∧ Fr (sC j) h' h2)) 29 [some (aR 1 j), some (aR 8 t), some (aI q), some (aI (nI c))] [] := by
    intro k
    induction k with
    | zero =>
      intro c hh hk hcm hf
      have htn := ht.fr hf sC_twn
      have e : c = N 0 := by omega
      subst e
      refine r_iload_n C dX1_eatADay_29 rfl ?_
      refine r_aload_n C dX1_eatADay_30 rfl ?_
      refine q_getV C flX1_35 dX1_eatADay_31 (Ok.full (by decide) hT) rfl htn.1 ?_
      refine r_icmpN_ge C dX1_eatADay_34 (by omega) (by omega) (fun _ => ?_) (fun cc => absurd cc (by omega))
      refine r_aload_n C dX1_eatADay_73 rfl ?_
      refine r_dup C dX1_eatADay_74 rfl ?_
      refine q_getV C flX1_15 dX1_eatADay_75 (Ok.full (by decide) hC) rfl hcm.1.2.1 ?_
      refine r_iconst (v := (nI 1)) C dX1_eatADay_78 (by decide) ?_
      first | refine r_iaddN C dX1_eatADay_79 ?_ | refine r_iadd C dX1_eatADay_79 ?_
      refine r_putI C flX1_15 dX1_eatADay_80 (Ok.full (by decide) hC) rfl ⟨rfl, rfl⟩ ?_
      refine r_vret C hrt dX1_eatADay_83 ?_
      exact ⟨rfl, rfl, cmq_days hcm, Fr.put hf sC1⟩
    | succ k ih =>
      intro c hh hk hcm hf
      have htn := ht.fr hf sC_twn
      have ih2 := ih (c + 1)
      rw [eatN, eat1] at ih2
      refine r_iload_n C dX1_eatADay_29 rfl ?_
      refine r_aload_n C dX1_eatADay_30 rfl ?_
      refine q_getV C flX1_35 dX1_eatADay_31 (Ok.full (by decide) hT) rfl htn.1 ?_
      refine r_icmpN_ge C dX1_eatADay_34 (by omega) (by omega) (fun cc => absurd cc (by omega)) (fun _ => ?_)
      refine r_aload_n C dX1_eatADay_37 rfl ?_
      refine r_iload_n C dX1_eatADay_38 rfl ?_
      refine r_iload_n C dX1_eatADay_39 rfl ?_
      refine r_callV C (c_isFed hC (by omega) hcm) dX1_eatADay_40 cw_X1_isFed cvX1_43 (by omega) (Ok.full (by decide) hC) rfl hN rfl (Nat.le_of_ble_eq_true rfl) ?_
      rintro v R' h2 ⟨rfl, rfl, hc2, hf2⟩
      by_cases hfd : fedB q (eatN (T 1) q (va_up s 0 (s 0 + hfd T (s 2) (N 3)), nI 0, -1) c).1 c = true
      · rw [if_pos hfd] at ih2
        rw [if_pos hfd]
        refine r_if_eq C dX1_eatADay_43 (fun cc => absurd cc (by decide)) (fun _ => ?_)
        refine r_aload_n C dX1_eatADay_46 rfl ?_
        refine r_getR C flX1_22 dX1_eatADay_47 (Ok.full (by decide) hC) rfl rfl ?_
        refine r_iload_n C dX1_eatADay_50 rfl ?_
        refine r_iconst (v := (nI 0)) C dX1_eatADay_51 (by decide) ?_
        refine q_iast (m := 5) C dX1_eatADay_52 (Ok.full (by decide) hC) rfl rfl (by omega) ?_
        refine r_goto C dX1_eatADay_53 ?_
        first | refine r_iincN C dX1_eatADay_67 rfl st3 ?_ | refine r_iinc C dX1_eatADay_67 rfl rfl st3 ?_
        refine r_goto C dX1_eatADay_70 ?_
        exact ih2 _ (by omega) (cmq_hd (by omega) hc2) (Fr.put (hf.tr hf2) sC15)
      · rw [if_neg hfd] at ih2
        rw [if_neg hfd]
        refine r_if_eq C dX1_eatADay_43 (fun _ => ?_) (fun cc => absurd cc (by decide))
        have htn2 := htn.fr hf2 sC_twn
        refine r_aload_n C dX1_eatADay_56 rfl ?_
        refine r_iload_n C dX1_eatADay_57 rfl ?_
        refine r_aload_n C dX1_eatADay_58 rfl ?_
        refine r_getR C flX1_47 dX1_eatADay_59 (Ok.full (by decide) hT) rfl rfl ?_
        refine r_iload_n C dX1_eatADay_62 rfl ?_
        refine q_ialdV (m := 5) C dX1_eatADay_63 (Ok.full (by decide) hT) rfl rfl (by omega) ((htn2.2.2.2.2.2.1 c (by omega)).2) ?_
        refine r_callV C (c_starve hC (by omega) hc2) dX1_eatADay_64 cw_X1_starve cvX1_50 (by omega) (Ok.full (by decide) hC) rfl hN rfl (Nat.le_of_ble_eq_true rfl) ?_
        rintro v R' h3 ⟨rfl, rfl, hc3, hf3⟩
        first | refine r_iincN C dX1_eatADay_67 rfl st3 ?_ | refine r_iinc C dX1_eatADay_67 rfl rfl st3 ?_
        refine r_goto C dX1_eatADay_70 ?_
        exact ih2 _ (by omega) hc3 ((hf.tr hf2).tr hf3)
  exact loop (N 0) 0 _ (by omega) hc1 f1
