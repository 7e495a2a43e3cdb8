def twf (h : HF) (t : Nat) (N : Nat → Nat) (T : Tv) : Prop := twn h t N T ∧ twb h t N T
def sT (t : Nat) : Nat → Nat → Bool := fun k j => (k == 8 || (decide (27 ≤ k) && decide (k ≤ 35))) && j == t
theorem sT_of {t k : Nat} (hk : k = 8 ∨ (27 ≤ k ∧ k ≤ 35)) : sT t k t = true := by
  rcases hk with rfl | ⟨h1, h2⟩
  · simp [sT]
  · simp [sT, h1, h2]
theorem twf.fr {S : Nat → Nat → Bool} {h h' : HF} {t : Nat} {N : Nat → Nat} {T : Tv} (f : Fr S h h') (hs : ∀ k, (k = 8 ∨ (27 ≤ k ∧ k ≤ 35)) → S k t = false) (c : twf h t N T) : twf h' t N T :=
  ⟨c.1.fr f (fun k hk => hs k (by omega)), c.2.fr f hs⟩
set_option maxRecDepth 100000 in
set_option maxHeartbeats 4000000 in
theorem c_townClear {E : Ev} {a b t : Nat} {h : HF} (hT : t < 2) : Ct E 0 yX8_clear cX8_clear 1 none [aR 8 t] 243 (Rs a b) h 243 (fun v R' h' => v = none ∧ R' = Rs a b ∧ twf h' t (fun _ => 0) (fun _ _ => nI 0) ∧ Fr (sT t) h h') := by
  refine Ct.of 0 (L0 := [some (aR 8 t)]) (by decide) ⟨Nat.le_refl _, Nat.le_refl _⟩ rfl rfl ?_
  intro G C hg hrt hnm
  have hN : gn G ≤ 243 ∧ 243 ≤ 243 ∧ 243 ≤ 243 := ⟨by omega, by decide, by decide⟩
  refine r_aload_n C dX8_clear_0 rfl ?_
  refine r_iconst (v := (nI 0)) C dX8_clear_1 (by decide) ?_
  refine r_putI C flX8_9 dX8_clear_2 (Ok.full (by decide) hT) rfl ⟨rfl, rfl⟩ ?_
  refine r_aload_n C dX8_clear_5 rfl ?_
  refine r_iconst (v := (nI 0)) C dX8_clear_6 (by decide) ?_
  refine r_putI C flX8_15 dX8_clear_7 (Ok.full (by decide) hT) rfl ⟨rfl, rfl⟩ ?_
  refine r_aload_n C dX8_clear_10 rfl ?_
  refine r_iconst (v := (nI 0)) C dX8_clear_11 (by decide) ?_
  refine r_putI C flX8_19 dX8_clear_12 (Ok.full (by decide) hT) rfl ⟨rfl, rfl⟩ ?_
  refine r_aload_n C dX8_clear_15 rfl ?_
  refine r_iconst (v := (nI 0)) C dX8_clear_16 (by decide) ?_
  refine r_putI C flX8_22 dX8_clear_17 (Ok.full (by decide) hT) rfl ⟨rfl, rfl⟩ ?_
  refine r_aload_n C dX8_clear_20 rfl ?_
  refine r_iconst (v := (nI 0)) C dX8_clear_21 (by decide) ?_
  refine r_putI C flX8_25 dX8_clear_22 (Ok.full (by decide) hT) rfl ⟨rfl, rfl⟩ ?_
  refine r_aload_n C dX8_clear_25 rfl ?_
  refine r_iconst (v := (nI 0)) C dX8_clear_26 (by decide) ?_
  refine r_putI C flX8_28 dX8_clear_27 (Ok.full (by decide) hT) rfl ⟨rfl, rfl⟩ ?_
  refine r_aload_n C dX8_clear_30 rfl ?_
  refine r_iconst (v := (nI 0)) C dX8_clear_31 (by decide) ?_
  refine r_putI C flX8_31 dX8_clear_32 (Ok.full (by decide) hT) rfl ⟨rfl, rfl⟩ ?_
  refine r_vret C hrt dX8_clear_35 ?_
  refine ⟨rfl, rfl, ⟨⟨?_, ?_, ?_, put_same, ?_, fun i hi => absurd hi (Nat.not_lt_zero i), fun i hi => absurd hi (Nat.not_lt_zero i), fun i hi => absurd hi (Nat.not_lt_zero i), fun i hi => absurd hi (Nat.not_lt_zero i), by decide, by decide, by decide, by decide, by decide⟩, ⟨fun i hi => absurd hi (Nat.not_lt_zero i), fun i hi => absurd hi (Nat.not_lt_zero i), ?_, ?_⟩⟩, ?_⟩
  · simp [put]
  · simp [put]
  · simp [put]
  · simp [put]
  · simp [put]
  · simp [put]
  · have e : sT t 8 t = true := sT_of (by omega)
    exact Fr.put (Fr.put (Fr.put (Fr.put (Fr.put (Fr.put (Fr.put Fr.rf e) e) e) e) e) e) e
set_option maxRecDepth 100000 in
set_option maxHeartbeats 4000000 in
theorem c_hasRoomFor {E : Ev} {a b t cl : Nat} {h : HF} {N : Nat → Nat} {T : Tv} (hT : t < 2) (ht : twn h t N T) (hcl : cl < 5) : Ct E 0 yX8_hasRoomFor cX8_hasRoomFor 2 (some .boolean) [aR 8 t, aI (nI cl)] 243 (Rs a b) h 243 (fun v R' h' => v = some (aI (if fulF N cl = true then nI 0 else nI 1)) ∧ R' = Rs a b ∧ h' = h) := by
  refine Ct.of 0 (L0 := [some (aR 8 t), some (aI (nI cl))]) (by decide) ⟨Nat.le_refl _, Nat.le_refl _⟩ rfl rfl ?_
  intro G C hg hrt hnm
  have hN : gn G ≤ 243 ∧ 243 ≤ 243 ∧ 243 ≤ 243 := ⟨by omega, by decide, by decide⟩
  obtain ⟨t1, t2, t3, t4, t5, -, -, -, -, b0, b1, b2, b3, b4⟩ := id ht
  refine r_iload_n C dX8_hasRoomFor_0 rfl ?_
  rcases (show cl = 0 ∨ cl = 1 ∨ cl = 2 ∨ cl = 3 ∨ cl = 4 by omega) with rfl | rfl | rfl | rfl | rfl
  · refine r_tabIn (off := 35) (tgt := 36) C ⟨dX8_hasRoomFor_1, rfl, by decide⟩ (by decide) (by decide) (by decide) ?_
    refine r_aload_n C dX8_hasRoomFor_36 rfl ?_
    refine q_getV C flX8_9 dX8_hasRoomFor_37 (Ok.full (by decide) hT) rfl t5 ?_
    by_cases hz : N 4 = 0
    · rw [hz]
      refine r_if_ne C dX8_hasRoomFor_40 (fun cc => absurd cc (by decide)) (fun _ => ?_)
      refine r_iconst (v := (nI 1)) C dX8_hasRoomFor_43 (by decide) ?_
      refine r_goto C dX8_hasRoomFor_44 ?_
      refine r_zret C hrt dX8_hasRoomFor_48 (by decide) ?_
      rw [if_neg (by simp [fulF, hz])]
      exact ⟨rfl, rfl, rfl⟩
    · refine r_if_ne C dX8_hasRoomFor_40 (fun _ => ?_) (fun cc => absurd cc (by exact fun z => nI_ne0 (by omega) (by omega) z))
      refine r_iconst (v := (nI 0)) C dX8_hasRoomFor_47 (by decide) ?_
      refine r_zret C hrt dX8_hasRoomFor_48 (by decide) ?_
      rw [if_pos (by simp [fulF, hz])]
      exact ⟨rfl, rfl, rfl⟩
  · refine r_tabIn (off := 48) (tgt := 49) C ⟨dX8_hasRoomFor_1, rfl, by decide⟩ (by decide) (by decide) (by decide) ?_
    refine r_aload_n C dX8_hasRoomFor_49 rfl ?_
    refine q_getV C flX8_22 dX8_hasRoomFor_50 (Ok.full (by decide) hT) rfl t1 ?_
    refine r_iconst (v := (nI 5)) C dX8_hasRoomFor_53 (by decide) ?_
    refine r_icmpN_ge C dX8_hasRoomFor_54 (by omega) (by omega) (fun c => ?_) (fun c => ?_)
    · refine r_iconst (v := (nI 0)) C dX8_hasRoomFor_61 (by decide) ?_
      refine r_zret C hrt dX8_hasRoomFor_62 (by decide) ?_
      rw [if_pos (by simp [fulF, c])]
      exact ⟨rfl, rfl, rfl⟩
    · refine r_iconst (v := (nI 1)) C dX8_hasRoomFor_57 (by decide) ?_
      refine r_goto C dX8_hasRoomFor_58 ?_
      refine r_zret C hrt dX8_hasRoomFor_62 (by decide) ?_
      rw [if_neg (by simp [fulF]; omega)]
      exact ⟨rfl, rfl, rfl⟩
  · refine r_tabIn (off := 62) (tgt := 63) C ⟨dX8_hasRoomFor_1, rfl, by decide⟩ (by decide) (by decide) (by decide) ?_
    refine r_aload_n C dX8_hasRoomFor_63 rfl ?_
    refine q_getV C flX8_25 dX8_hasRoomFor_64 (Ok.full (by decide) hT) rfl t2 ?_
    refine r_iconst (v := (nI 4)) C dX8_hasRoomFor_67 (by decide) ?_
    refine r_icmpN_ge C dX8_hasRoomFor_68 (by omega) (by omega) (fun c => ?_) (fun c => ?_)
    · refine r_iconst (v := (nI 0)) C dX8_hasRoomFor_75 (by decide) ?_
      refine r_zret C hrt dX8_hasRoomFor_76 (by decide) ?_
      rw [if_pos (by simp [fulF, c])]
      exact ⟨rfl, rfl, rfl⟩
    · refine r_iconst (v := (nI 1)) C dX8_hasRoomFor_71 (by decide) ?_
      refine r_goto C dX8_hasRoomFor_72 ?_
      refine r_zret C hrt dX8_hasRoomFor_76 (by decide) ?_
      rw [if_neg (by simp [fulF]; omega)]
      exact ⟨rfl, rfl, rfl⟩
  · refine r_tabIn (off := 76) (tgt := 77) C ⟨dX8_hasRoomFor_1, rfl, by decide⟩ (by decide) (by decide) (by decide) ?_
    refine r_aload_n C dX8_hasRoomFor_77 rfl ?_
    refine q_getV C flX8_28 dX8_hasRoomFor_78 (Ok.full (by decide) hT) rfl t3 ?_
    refine r_bipush (v := (nI 6)) C dX8_hasRoomFor_81 (by decide) ?_
    refine r_icmpN_ge C dX8_hasRoomFor_83 (by omega) (by omega) (fun c => ?_) (fun c => ?_)
    · refine r_iconst (v := (nI 0)) C dX8_hasRoomFor_90 (by decide) ?_
      refine r_zret C hrt dX8_hasRoomFor_91 (by decide) ?_
      rw [if_pos (by simp [fulF, c])]
      exact ⟨rfl, rfl, rfl⟩
    · refine r_iconst (v := (nI 1)) C dX8_hasRoomFor_86 (by decide) ?_
      refine r_goto C dX8_hasRoomFor_87 ?_
      refine r_zret C hrt dX8_hasRoomFor_91 (by decide) ?_
      rw [if_neg (by simp [fulF]; omega)]
      exact ⟨rfl, rfl, rfl⟩
  · refine r_tabIn (off := 91) (tgt := 92) C ⟨dX8_hasRoomFor_1, rfl, by decide⟩ (by decide) (by decide) (by decide) ?_
    refine r_aload_n C dX8_hasRoomFor_92 rfl ?_
    refine q_getV C flX8_31 dX8_hasRoomFor_93 (Ok.full (by decide) hT) rfl t4 ?_
    refine r_iconst (v := (nI 4)) C dX8_hasRoomFor_96 (by decide) ?_
    refine r_icmpN_ge C dX8_hasRoomFor_97 (by omega) (by omega) (fun c => ?_) (fun c => ?_)
    · refine r_iconst (v := (nI 0)) C dX8_hasRoomFor_104 (by decide) ?_
      refine r_zret C hrt dX8_hasRoomFor_105 (by decide) ?_
      rw [if_pos (by simp [fulF, c])]
      exact ⟨rfl, rfl, rfl⟩
    · refine r_iconst (v := (nI 1)) C dX8_hasRoomFor_100 (by decide) ?_
      refine r_goto C dX8_hasRoomFor_101 ?_
      refine r_zret C hrt dX8_hasRoomFor_105 (by decide) ?_
      rw [if_neg (by simp [fulF]; omega)]
      exact ⟨rfl, rfl, rfl⟩
set_option maxRecDepth 100000 in
set_option maxHeartbeats 4000000 in
theorem c_addStores {E : Ev} {a b t : Nat} {h : HF} {N : Nat → Nat} {T : Tv} {V : Nat → Int32} (hT : t < 2) (ht : twf h t N T) : Ct E 0 yX8_addStores cX8_addStores 3 none [aR 8 t, aI (V 0), aI (V 1)] 243 (Rs a b) h 243 (fun v R' h' => v = none ∧ R' = Rs a b ∧ twf h' t (addN N 0) (addT N T V 0) ∧ Fr (sT t) h h') := by
  refine Ct.of 0 (L0 := [some (aR 8 t), some (aI (V 0)), some (aI (V 1))]) (by decide) ⟨Nat.le_refl _, Nat.le_refl _⟩ rfl rfl ?_
  intro G C hg hrt hnm
  have hN : gn G ≤ 243 ∧ 243 ≤ 243 ∧ 243 ≤ 243 := ⟨by omega, by decide, by decide⟩
  obtain ⟨⟨t1, t2, t3, t4, t5, t6, t7, t8, t9, b0, b1, b2, b3, b4⟩, t10, t11, t12, t13⟩ := ht
  have e : sT t 8 t = true := sT_of (by omega)
  refine r_aload_n C dX8_addStores_0 rfl ?_
  refine r_iload_n C dX8_addStores_1 rfl ?_
  refine r_putI C flX8_15 dX8_addStores_2 (Ok.full (by decide) hT) rfl ⟨rfl, rfl⟩ ?_
  refine r_aload_n C dX8_addStores_5 rfl ?_
  refine r_iload_n C dX8_addStores_6 rfl ?_
  refine r_putI C flX8_19 dX8_addStores_7 (Ok.full (by decide) hT) rfl ⟨rfl, rfl⟩ ?_
  refine r_aload_n C dX8_addStores_10 rfl ?_
  refine r_iconst (v := (nI 1)) C dX8_addStores_11 (by decide) ?_
  refine r_putI C flX8_9 dX8_addStores_12 (Ok.full (by decide) hT) rfl ⟨rfl, rfl⟩ ?_
  refine r_vret C hrt dX8_addStores_15 ?_
  exact ⟨rfl, rfl, ⟨⟨t1, t2, t3, t4, put_same, t6, t7, t8, t9, b0, b1, b2, b3, (show (1 : Nat) ≤ 1 from Nat.le_refl 1)⟩, t10, t11, by simp [put, addT, tup], by simp [put, addT, tup]⟩, Fr.put (Fr.put (Fr.put Fr.rf e) e) e⟩
set_option maxRecDepth 100000 in
set_option maxHeartbeats 4000000 in
theorem c_addCompany {E : Ev} {a b t : Nat} {h : HF} {N : Nat → Nat} {T : Tv} {V : Nat → Int32} (hT : t < 2) (ht : twf h t N T) (hr : N 0 < 5) : Ct E 0 yX8_addCompany cX8_addCompany 4 none [aR 8 t, aI (V 0), aI (V 1), aI (V 2)] 243 (Rs a b) h 243 (fun v R' h' => v = none ∧ R' = Rs a b ∧ twf h' t (addN N 1) (addT N T V 1) ∧ Fr (sT t) h h') := by
  refine Ct.of 0 (L0 := [some (aR 8 t), some (aI (V 0)), some (aI (V 1)), some (aI (V 2))]) (by decide) ⟨Nat.le_refl _, Nat.le_refl _⟩ rfl rfl ?_
  intro G C hg hrt hnm
  have hN : gn G ≤ 243 ∧ 243 ≤ 243 ∧ 243 ≤ 243 := ⟨by omega, by decide, by decide⟩
  obtain ⟨⟨t1, t2, t3, t4, t5, t6, t7, t8, t9, b0, b1, b2, b3, b4⟩, t10, t11, t12, t13⟩ := ht
  refine r_aload_n C dX8_addCompany_0 rfl ?_
  refine r_getR C flX8_34 dX8_addCompany_1 (Ok.full (by decide) hT) rfl rfl ?_
  refine r_aload_n C dX8_addCompany_4 rfl ?_
  refine q_getV C flX8_22 dX8_addCompany_5 (Ok.full (by decide) hT) rfl t1 ?_
  refine r_iload_n C dX8_addCompany_8 rfl ?_
  refine q_iast (m := 5) C dX8_addCompany_9 (Ok.full (by decide) hT) rfl rfl (by omega) ?_
  refine r_aload_n C dX8_addCompany_10 rfl ?_
  refine r_getR C flX8_38 dX8_addCompany_11 (Ok.full (by decide) hT) rfl rfl ?_
  refine r_aload_n C dX8_addCompany_14 rfl ?_
  refine q_getV C flX8_22 dX8_addCompany_15 (Ok.full (by decide) hT) rfl t1 ?_
  refine r_iload_n C dX8_addCompany_18 rfl ?_
  refine q_iast (m := 5) C dX8_addCompany_19 (Ok.full (by decide) hT) rfl rfl (by omega) ?_
  refine r_aload_n C dX8_addCompany_20 rfl ?_
  refine r_getR C flX8_41 dX8_addCompany_21 (Ok.full (by decide) hT) rfl rfl ?_
  refine r_aload_n C dX8_addCompany_24 rfl ?_
  refine q_getV C flX8_22 dX8_addCompany_25 (Ok.full (by decide) hT) rfl t1 ?_
  refine r_iload_n C dX8_addCompany_28 rfl ?_
  refine q_iast (m := 5) C dX8_addCompany_29 (Ok.full (by decide) hT) rfl rfl (by omega) ?_
  refine r_aload_n C dX8_addCompany_30 rfl ?_
  refine r_dup C dX8_addCompany_31 rfl ?_
  refine q_getV C flX8_22 dX8_addCompany_32 (Ok.full (by decide) hT) rfl t1 ?_
  refine r_iconst (v := (nI 1)) C dX8_addCompany_35 (by decide) ?_
  first | refine r_iaddN C dX8_addCompany_36 ?_ | refine r_iadd C dX8_addCompany_36 ?_
  refine r_putI C flX8_22 dX8_addCompany_37 (Ok.full (by decide) hT) rfl ⟨rfl, rfl⟩ ?_
  refine r_vret C hrt dX8_addCompany_40 ?_
  refine ⟨rfl, rfl, ⟨⟨put_same, t2, t3, t4, t5, fun i hi => ?_, t7, t8, t9, (show N 0 + 1 ≤ 5 by omega), b1, b2, b3, b4⟩, fun i hi => ?_, t11, t12, t13⟩, Fr.put (Fr.put (Fr.put (Fr.put Fr.rf (sT_of (by omega))) (sT_of (by omega))) (sT_of (by omega))) (sT_of (by omega))⟩
  · have hi : i < N 0 + 1 := hi
    by_cases e : i = N 0
    · subst e; exact ⟨by simp [put, addT, tup], by simp [put, addT, tup]⟩
    · have h2 := t6 i (by omega)
      exact ⟨by simp [put, addT, tup, e]; exact h2.1, by simp [put, addT, tup, e]; exact h2.2⟩
  · have hi : i < N 0 + 1 := hi
    by_cases e : i = N 0
    · subst e; simp [put, addT, tup]
    · have h2 := t10 i (by omega)
      simp [put, addT, tup, e]; exact h2
set_option maxRecDepth 100000 in
set_option maxHeartbeats 4000000 in
theorem c_addMoney {E : Ev} {a b t : Nat} {h : HF} {N : Nat → Nat} {T : Tv} {V : Nat → Int32} (hT : t < 2) (ht : twf h t N T) (hr : N 1 < 4) : Ct E 0 yX8_addMoney cX8_addMoney 4 none [aR 8 t, aI (V 0), aI (V 1), aI (V 2)] 243 (Rs a b) h 243 (fun v R' h' => v = none ∧ R' = Rs a b ∧ twf h' t (addN N 2) (addT N T V 2) ∧ Fr (sT t) h h') := by
  refine Ct.of 0 (L0 := [some (aR 8 t), some (aI (V 0)), some (aI (V 1)), some (aI (V 2))]) (by decide) ⟨Nat.le_refl _, Nat.le_refl _⟩ rfl rfl ?_
  intro G C hg hrt hnm
  have hN : gn G ≤ 243 ∧ 243 ≤ 243 ∧ 243 ≤ 243 := ⟨by omega, by decide, by decide⟩
  obtain ⟨⟨t1, t2, t3, t4, t5, t6, t7, t8, t9, b0, b1, b2, b3, b4⟩, t10, t11, t12, t13⟩ := ht
  refine r_aload_n C dX8_addMoney_0 rfl ?_
  refine r_getR C flX8_44 dX8_addMoney_1 (Ok.full (by decide) hT) rfl rfl ?_
  refine r_aload_n C dX8_addMoney_4 rfl ?_
  refine q_getV C flX8_25 dX8_addMoney_5 (Ok.full (by decide) hT) rfl t2 ?_
  refine r_iload_n C dX8_addMoney_8 rfl ?_
  refine q_iast (m := 4) C dX8_addMoney_9 (Ok.full (by decide) hT) rfl rfl (by omega) ?_
  refine r_aload_n C dX8_addMoney_10 rfl ?_
  refine r_getR C flX8_47 dX8_addMoney_11 (Ok.full (by decide) hT) rfl rfl ?_
  refine r_aload_n C dX8_addMoney_14 rfl ?_
  refine q_getV C flX8_25 dX8_addMoney_15 (Ok.full (by decide) hT) rfl t2 ?_
  refine r_iload_n C dX8_addMoney_18 rfl ?_
  refine q_iast (m := 4) C dX8_addMoney_19 (Ok.full (by decide) hT) rfl rfl (by omega) ?_
  refine r_aload_n C dX8_addMoney_20 rfl ?_
  refine r_getR C flX8_50 dX8_addMoney_21 (Ok.full (by decide) hT) rfl rfl ?_
  refine r_aload_n C dX8_addMoney_24 rfl ?_
  refine q_getV C flX8_25 dX8_addMoney_25 (Ok.full (by decide) hT) rfl t2 ?_
  refine r_iload_n C dX8_addMoney_28 rfl ?_
  refine q_iast (m := 4) C dX8_addMoney_29 (Ok.full (by decide) hT) rfl rfl (by omega) ?_
  refine r_aload_n C dX8_addMoney_30 rfl ?_
  refine r_dup C dX8_addMoney_31 rfl ?_
  refine q_getV C flX8_25 dX8_addMoney_32 (Ok.full (by decide) hT) rfl t2 ?_
  refine r_iconst (v := (nI 1)) C dX8_addMoney_35 (by decide) ?_
  first | refine r_iaddN C dX8_addMoney_36 ?_ | refine r_iadd C dX8_addMoney_36 ?_
  refine r_putI C flX8_25 dX8_addMoney_37 (Ok.full (by decide) hT) rfl ⟨rfl, rfl⟩ ?_
  refine r_vret C hrt dX8_addMoney_40 ?_
  refine ⟨rfl, rfl, ⟨⟨t1, put_same, t3, t4, t5, t6, fun i hi => ?_, t8, t9, b0, (show N 1 + 1 ≤ 4 by omega), b2, b3, b4⟩, t10, fun i hi => ?_, t12, t13⟩, Fr.put (Fr.put (Fr.put (Fr.put Fr.rf (sT_of (by omega))) (sT_of (by omega))) (sT_of (by omega))) (sT_of (by omega))⟩
  · have hi : i < N 1 + 1 := hi
    by_cases e : i = N 1
    · subst e; exact ⟨by simp [put, addT, tup], by simp [put, addT, tup]⟩
    · have h2 := t7 i (by omega)
      exact ⟨by simp [put, addT, tup, e]; exact h2.1, by simp [put, addT, tup, e]; exact h2.2⟩
  · have hi : i < N 1 + 1 := hi
    by_cases e : i = N 1
    · subst e; simp [put, addT, tup]
    · have h2 := t11 i (by omega)
      simp [put, addT, tup, e]; exact h2
set_option maxRecDepth 100000 in
set_option maxHeartbeats 4000000 in
theorem c_addGood {E : Ev} {a b t : Nat} {h : HF} {N : Nat → Nat} {T : Tv} {V : Nat → Int32} (hT : t < 2) (ht : twf h t N T) (hr : N 2 < 6) : Ct E 0 yX8_addGood cX8_addGood 2 none [aR 8 t, aI (V 0)] 243 (Rs a b) h 243 (fun v R' h' => v = none ∧ R' = Rs a b ∧ twf h' t (addN N 3) (addT N T V 3) ∧ Fr (sT t) h h') := by
  refine Ct.of 0 (L0 := [some (aR 8 t), some (aI (V 0))]) (by decide) ⟨Nat.le_refl _, Nat.le_refl _⟩ rfl rfl ?_
  intro G C hg hrt hnm
  have hN : gn G ≤ 243 ∧ 243 ≤ 243 ∧ 243 ≤ 243 := ⟨by omega, by decide, by decide⟩
  obtain ⟨⟨t1, t2, t3, t4, t5, t6, t7, t8, t9, b0, b1, b2, b3, b4⟩, t10, t11, t12, t13⟩ := ht
  refine r_aload_n C dX8_addGood_0 rfl ?_
  refine r_getR C flX8_53 dX8_addGood_1 (Ok.full (by decide) hT) rfl rfl ?_
  refine r_aload_n C dX8_addGood_4 rfl ?_
  refine q_getV C flX8_28 dX8_addGood_5 (Ok.full (by decide) hT) rfl t3 ?_
  refine r_iload_n C dX8_addGood_8 rfl ?_
  refine q_iast (m := 6) C dX8_addGood_9 (Ok.full (by decide) hT) rfl rfl (by omega) ?_
  refine r_aload_n C dX8_addGood_10 rfl ?_
  refine r_dup C dX8_addGood_11 rfl ?_
  refine q_getV C flX8_28 dX8_addGood_12 (Ok.full (by decide) hT) rfl t3 ?_
  refine r_iconst (v := (nI 1)) C dX8_addGood_15 (by decide) ?_
  first | refine r_iaddN C dX8_addGood_16 ?_ | refine r_iadd C dX8_addGood_16 ?_
  refine r_putI C flX8_28 dX8_addGood_17 (Ok.full (by decide) hT) rfl ⟨rfl, rfl⟩ ?_
  refine r_vret C hrt dX8_addGood_20 ?_
  refine ⟨rfl, rfl, ⟨⟨t1, t2, put_same, t4, t5, t6, t7, fun i hi => ?_, t9, b0, b1, (show N 2 + 1 ≤ 6 by omega), b3, b4⟩, t10, t11, t12, t13⟩, Fr.put (Fr.put Fr.rf (sT_of (by omega))) (sT_of (by omega))⟩
  have hi : i < N 2 + 1 := hi
  by_cases e : i = N 2
  · subst e; simp [put, addT, tup]
  · have h2 := t8 i (by omega)
    simp [put, addT, tup, e]; exact h2
set_option maxRecDepth 100000 in
set_option maxHeartbeats 4000000 in
theorem c_addHorse {E : Ev} {a b t : Nat} {h : HF} {N : Nat → Nat} {T : Tv} {V : Nat → Int32} (hT : t < 2) (ht : twf h t N T) (hr : N 3 < 4) : Ct E 0 yX8_addHorse cX8_addHorse 3 none [aR 8 t, aI (V 0), aI (V 1)] 243 (Rs a b) h 243 (fun v R' h' => v = none ∧ R' = Rs a b ∧ twf h' t (addN N 4) (addT N T V 4) ∧ Fr (sT t) h h') := by
  refine Ct.of 0 (L0 := [some (aR 8 t), some (aI (V 0)), some (aI (V 1))]) (by decide) ⟨Nat.le_refl _, Nat.le_refl _⟩ rfl rfl ?_
  intro G C hg hrt hnm
  have hN : gn G ≤ 243 ∧ 243 ≤ 243 ∧ 243 ≤ 243 := ⟨by omega, by decide, by decide⟩
  obtain ⟨⟨t1, t2, t3, t4, t5, t6, t7, t8, t9, b0, b1, b2, b3, b4⟩, t10, t11, t12, t13⟩ := ht
  refine r_aload_n C dX8_addHorse_0 rfl ?_
  refine r_getR C flX8_56 dX8_addHorse_1 (Ok.full (by decide) hT) rfl rfl ?_
  refine r_aload_n C dX8_addHorse_4 rfl ?_
  refine q_getV C flX8_31 dX8_addHorse_5 (Ok.full (by decide) hT) rfl t4 ?_
  refine r_iload_n C dX8_addHorse_8 rfl ?_
  refine q_iast (m := 4) C dX8_addHorse_9 (Ok.full (by decide) hT) rfl rfl (by omega) ?_
  refine r_aload_n C dX8_addHorse_10 rfl ?_
  refine r_getR C flX8_59 dX8_addHorse_11 (Ok.full (by decide) hT) rfl rfl ?_
  refine r_aload_n C dX8_addHorse_14 rfl ?_
  refine q_getV C flX8_31 dX8_addHorse_15 (Ok.full (by decide) hT) rfl t4 ?_
  refine r_iload_n C dX8_addHorse_18 rfl ?_
  refine q_iast (m := 4) C dX8_addHorse_19 (Ok.full (by decide) hT) rfl rfl (by omega) ?_
  refine r_aload_n C dX8_addHorse_20 rfl ?_
  refine r_dup C dX8_addHorse_21 rfl ?_
  refine q_getV C flX8_31 dX8_addHorse_22 (Ok.full (by decide) hT) rfl t4 ?_
  refine r_iconst (v := (nI 1)) C dX8_addHorse_25 (by decide) ?_
  first | refine r_iaddN C dX8_addHorse_26 ?_ | refine r_iadd C dX8_addHorse_26 ?_
  refine r_putI C flX8_31 dX8_addHorse_27 (Ok.full (by decide) hT) rfl ⟨rfl, rfl⟩ ?_
  refine r_vret C hrt dX8_addHorse_30 ?_
  refine ⟨rfl, rfl, ⟨⟨t1, t2, t3, put_same, t5, t6, t7, t8, fun i hi => ?_, b0, b1, b2, (show N 3 + 1 ≤ 4 by omega), b4⟩, t10, t11, t12, t13⟩, Fr.put (Fr.put (Fr.put Fr.rf (sT_of (by omega))) (sT_of (by omega))) (sT_of (by omega))⟩
  have hi : i < N 3 + 1 := hi
  by_cases e : i = N 3
  · subst e; exact ⟨by simp [put, addT, tup], by simp [put, addT, tup]⟩
  · have h2 := t9 i (by omega)
    exact ⟨by simp [put, addT, tup, e]; exact h2.1, by simp [put, addT, tup, e]; exact h2.2⟩
set_option maxRecDepth 100000 in
set_option maxHeartbeats 4000000 in
theorem c_townAdd {E : Ev} {a b t cl : Nat} {h : HF} {N : Nat → Nat} {T : Tv} {V : Nat → Int32} (hT : t < 2) (ht : twf h t N T) (hcl : cl < 5) (hr : ¬ fulF N cl = true) : Ct E 1 yX8_add cX8_add 5 none [aR 8 t, aI (nI cl), aI (V 0), aI (V 1), aI (V 2)] 243 (Rs a b) h 243 (fun v R' h' => v = none ∧ R' = Rs a b ∧ twf h' t (addN N cl) (addT N T V cl) ∧ Fr (sT t) h h') := by
  refine Ct.of 0 (L0 := [some (aR 8 t), some (aI (nI cl)), some (aI (V 0)), some (aI (V 1)), some (aI (V 2))]) (by decide) ⟨Nat.le_refl _, Nat.le_refl _⟩ rfl rfl ?_
  intro G C hg hrt hnm
  have hN : gn G ≤ 243 ∧ 243 ≤ 243 ∧ 243 ≤ 243 := ⟨by omega, by decide, by decide⟩
  refine r_aload_n C dX8_add_0 rfl ?_
  refine r_iload_n C dX8_add_1 rfl ?_
  refine r_callV C (c_hasRoomFor hT ht.1 hcl) dX8_add_2 cw_X8_hasRoomFor cvX8_62 (by omega) (Ok.full (by decide) hT) rfl hN rfl (Nat.le_of_ble_eq_true rfl) ?_
  rintro v R' h1 ⟨rfl, rfl, rfl⟩
  rw [if_neg hr]
  refine r_if_ne C dX8_add_5 (fun _ => ?_) (fun cc => absurd cc (by decide))
  refine r_iload_n C dX8_add_9 rfl ?_
  rcases (show cl = 0 ∨ cl = 1 ∨ cl = 2 ∨ cl = 3 ∨ cl = 4 by omega) with rfl | rfl | rfl | rfl | rfl
  · refine r_tabIn (off := 30) (tgt := 40) C ⟨dX8_add_10, rfl, by decide⟩ (by decide) (by decide) (by decide) ?_
    refine r_aload_n C dX8_add_40 rfl ?_
    refine r_iload_n C dX8_add_41 rfl ?_
    refine r_iload_n C dX8_add_42 rfl ?_
    refine r_callV C (c_addStores hT ht) dX8_add_43 cw_X8_addStores cvX8_66 (by omega) (Ok.full (by decide) hT) rfl hN rfl (Nat.le_of_ble_eq_true rfl) ?_
    rintro v R' h2 ⟨rfl, rfl, ht2, hf2⟩
    refine r_goto C dX8_add_46 ?_
    refine r_vret C hrt dX8_add_85 ?_
    exact ⟨rfl, rfl, ht2, hf2⟩
  · refine r_tabIn (off := 39) (tgt := 49) C ⟨dX8_add_10, rfl, by decide⟩ (by decide) (by decide) (by decide) ?_
    refine r_aload_n C dX8_add_49 rfl ?_
    refine r_iload_n C dX8_add_50 rfl ?_
    refine r_iload_n C dX8_add_51 rfl ?_
    refine r_iload C dX8_add_52 rfl ?_
    refine r_callV C (c_addCompany hT ht (by simp [fulF] at hr; omega)) dX8_add_54 cw_X8_addCompany cvX8_70 (by omega) (Ok.full (by decide) hT) rfl hN rfl (Nat.le_of_ble_eq_true rfl) ?_
    rintro v R' h2 ⟨rfl, rfl, ht2, hf2⟩
    refine r_goto C dX8_add_57 ?_
    refine r_vret C hrt dX8_add_85 ?_
    exact ⟨rfl, rfl, ht2, hf2⟩
  · refine r_tabIn (off := 50) (tgt := 60) C ⟨dX8_add_10, rfl, by decide⟩ (by decide) (by decide) (by decide) ?_
    refine r_aload_n C dX8_add_60 rfl ?_
    refine r_iload_n C dX8_add_61 rfl ?_
    refine r_iload_n C dX8_add_62 rfl ?_
    refine r_iload C dX8_add_63 rfl ?_
    refine r_callV C (c_addMoney hT ht (by simp [fulF] at hr; omega)) dX8_add_65 cw_X8_addMoney cvX8_74 (by omega) (Ok.full (by decide) hT) rfl hN rfl (Nat.le_of_ble_eq_true rfl) ?_
    rintro v R' h2 ⟨rfl, rfl, ht2, hf2⟩
    refine r_goto C dX8_add_68 ?_
    refine r_vret C hrt dX8_add_85 ?_
    exact ⟨rfl, rfl, ht2, hf2⟩
  · refine r_tabIn (off := 61) (tgt := 71) C ⟨dX8_add_10, rfl, by decide⟩ (by decide) (by decide) (by decide) ?_
    refine r_aload_n C dX8_add_71 rfl ?_
    refine r_iload_n C dX8_add_72 rfl ?_
    refine r_callV C (c_addGood hT ht (by simp [fulF] at hr; omega)) dX8_add_73 cw_X8_addGood cvX8_77 (by omega) (Ok.full (by decide) hT) rfl hN rfl (Nat.le_of_ble_eq_true rfl) ?_
    rintro v R' h2 ⟨rfl, rfl, ht2, hf2⟩
    refine r_goto C dX8_add_76 ?_
    refine r_vret C hrt dX8_add_85 ?_
    exact ⟨rfl, rfl, ht2, hf2⟩
  · refine r_tabOut (tgt := 79) C ⟨dX8_add_10, rfl, by decide⟩ (by decide) ?_
    refine r_aload_n C dX8_add_79 rfl ?_
    refine r_iload_n C dX8_add_80 rfl ?_
    refine r_iload_n C dX8_add_81 rfl ?_
    refine r_callV C (c_addHorse hT ht (by simp [fulF] at hr; omega)) dX8_add_82 cw_X8_addHorse cvX8_81 (by omega) (Ok.full (by decide) hT) rfl hN rfl (Nat.le_of_ble_eq_true rfl) ?_
    rintro v R' h2 ⟨rfl, rfl, ht2, hf2⟩
    refine r_vret C hrt dX8_add_85 ?_
    exact ⟨rfl, rfl, ht2, hf2⟩
set_option maxRecDepth 100000 in
set_option maxHeartbeats 4000000 in
theorem c_readEnd {E : Ev} {a b n p ft : Nat} {h : HF} {X : Nat → Int32} {pl : Int32} (hx : txp h n X) (hr : rdp h p ft pl) (hp : p ≤ n) (hft : ft < 4) : Ct E 1 yX4_readEnd cX4_readEnd 2 none [aR 4 0, aR 7 0] 243 (Rs a b) h 243 (fun v R' h' => v = none ∧ R' = Rs a b ∧ ((skN X n p < n ∧ X (skN X n p) = nI 59) → rdp h' (skN X n p + 1) ft pl) ∧ (¬ (skN X n p < n ∧ X (skN X n p) = nI 59) → rdp h' (skN X n p) (if ft = 0 then 1 else ft) (if ft = 0 then nI (skN X n p) else pl)) ∧ Fr s4 h h') := by
  refine Ct.of 0 (L0 := [some (aR 4 0), some (aR 7 0)]) (by decide) ⟨Nat.le_refl _, Nat.le_refl _⟩ rfl rfl ?_
  intro G C hg hrt hnm
  have hN : gn G ≤ 243 ∧ 243 ≤ 243 ∧ 243 ≤ 243 := ⟨by omega, by decide, by decide⟩
  have hn := hx.2.1
  have hsb := skN_b (X := X) hp
  refine r_aload_n C dX4_readEnd_0 rfl ?_
  refine r_aload_n C dX4_readEnd_1 rfl ?_
  refine r_callV C (c_skipBlanks hx hr hp) dX4_readEnd_2 cw_X4_skipBlanks cvX4_30 (by omega) ok4 rfl hN rfl (Nat.le_of_ble_eq_true rfl) ?_
  rintro v R' h1 ⟨rfl, rfl, hr1, hf1⟩
  have hx1 := hx.fr hf1 rfl rfl
  have bad : ¬ (skN X n p < n ∧ X (skN X n p) = nI 59) → Wa E G 243 (Rs a b) h1 (QQ E G 243 (fun v R' h' => v = none ∧ R' = Rs a b ∧ ((skN X n p < n ∧ X (skN X n p) = nI 59) → rdp h' (skN X n p + 1) ft pl) ∧ (¬ (skN X n p < n ∧ X (skN X n p) = nI 59) → rdp h' (skN X n p) (if ft = 0 then 1 else ft) (if ft = 0 then nI (skN X n p) else pl)) ∧ Fr s4 h h')) 43 [some (aR 4 0), some (aR 7 0)] [] := by
    intro hb
    refine r_aload_n C dX4_readEnd_43 rfl ?_
    refine r_iconst (v := (nI 1)) C dX4_readEnd_44 (by decide) ?_
    refine r_aload_n C dX4_readEnd_45 rfl ?_
    refine q_getV C flX4_15 dX4_readEnd_46 ok4 rfl hr1.1 ?_
    refine r_callV C (c_setFault hr1 hft) dX4_readEnd_49 cw_X4_setFault cvX4_54 (by omega) ok4 rfl hN rfl (Nat.le_of_ble_eq_true rfl) ?_
    rintro v R' h2 ⟨rfl, rfl, hr2, hf2⟩
    refine r_vret C hrt dX4_readEnd_52 ?_
    exact ⟨rfl, rfl, fun z => absurd z hb, fun _ => hr2, hf1.tr hf2⟩
  refine r_aload_n C dX4_readEnd_5 rfl ?_
  refine q_getV C flX4_15 dX4_readEnd_6 ok4 rfl hr1.1 ?_
  refine r_aload_n C dX4_readEnd_9 rfl ?_
  refine q_getV C flX4_34 dX4_readEnd_10 ok7 rfl hx1.1 ?_
  refine r_icmpN_ge C dX4_readEnd_13 (by omega) (by omega) (fun c13 => ?_) (fun c13 => ?_)
  · exact bad (fun z => by omega)
  · refine r_aload_n C dX4_readEnd_16 rfl ?_
    refine r_getR C flX4_43 dX4_readEnd_17 ok7 rfl rfl ?_
    refine r_aload_n C dX4_readEnd_20 rfl ?_
    refine q_getV C flX4_15 dX4_readEnd_21 ok4 rfl hr1.1 ?_
    refine q_ialdV (m := 240) C dX4_readEnd_24 ok26 rfl rfl (by omega) (hx1.2.2 (skN X n p) c13) ?_
    refine r_bipush (v := (nI 59)) C dX4_readEnd_25 (by decide) ?_
    refine r_icmp_ne C dX4_readEnd_27 (fun c27 => ?_) (fun c27 => ?_)
    · exact bad (fun z => c27 z.2)
    · refine r_aload_n C dX4_readEnd_30 rfl ?_
      refine r_dup C dX4_readEnd_31 rfl ?_
      refine q_getV C flX4_15 dX4_readEnd_32 ok4 rfl hr1.1 ?_
      refine r_iconst (v := (nI 1)) C dX4_readEnd_35 (by decide) ?_
      first | refine r_iaddN C dX4_readEnd_36 ?_ | refine r_iadd C dX4_readEnd_36 ?_
      refine r_putI C flX4_15 dX4_readEnd_37 ok4 rfl ⟨rfl, rfl⟩ ?_
      refine r_goto C dX4_readEnd_40 ?_
      refine r_vret C hrt dX4_readEnd_52 ?_
      exact ⟨rfl, rfl, fun _ => ⟨put_same, hr1.2.1, hr1.2.2⟩, fun z => absurd ⟨c13, c27⟩ z, Fr.put hf1 rfl⟩
def sRd (t : Nat) : Nat → Nat → Bool := fun k j => k == 4 || k == 17 || sT t k j
theorem s4_sRd {t : Nat} : ∀ k j, s4 k j = true → sRd t k j = true := by
  intro k j hh
  simp only [s4, beq_iff_eq] at hh
  simp [sRd, hh]
theorem s417_sRd {t : Nat} : ∀ k j, s417 k j = true → sRd t k j = true := by
  intro k j hh
  simp only [s417, Bool.or_eq_true, beq_iff_eq] at hh
  rcases hh with z | z <;> simp [sRd, z]
theorem sT_sRd {t : Nat} : ∀ k j, sT t k j = true → sRd t k j = true := by
  intro k j hh
  simp [sRd, hh]
theorem s417_twf {t : Nat} : ∀ k, (k = 8 ∨ (27 ≤ k ∧ k ≤ 35)) → s417 k t = false := by
  intro k hk
  simp [s417]
  omega
theorem s4_twf {t : Nat} : ∀ k, (k = 8 ∨ (27 ≤ k ∧ k ≤ 35)) → s4 k t = false := by
  intro k hk
  simp [s4]
  omega
theorem ccF_lt (x : Int32) : ccF x ≤ 5 := by
  unfold ccF
  repeat' split
  all_goals omega
theorem ffF_b {X : Nat → Int32} {n cl p : Nat} (h : p ≤ n) : ∀ k i, (ffF X n cl p k i).1 ≤ 2 ∧ (ffF X n cl p k i).2 ≤ n
  | 0, _ => ⟨Nat.zero_le _, Nat.zero_le _⟩
  | k + 1, i => by
    rw [ffF]
    split
    · exact ffF_b h k (i + 1)
    · exact ⟨(rdn_b (rpF_b h i).2).2.2.1, (rdn_b (rpF_b h i).2).2.2.2⟩
set_option maxRecDepth 100000 in
set_option maxHeartbeats 8000000 in
theorem c_readClause {E : Ev} {a b n p t : Nat} {h : HF} {X : Nat → Int32} {N : Nat → Nat} {T : Tv} {pl : Int32} (hT : t < 2) (hx : txp h n X) (hr : rdp h p 0 pl) (hp : p < n) (ht : twf h t N T) : Ct E 4 yX4_readClause cX4_readClause 4 none [aR 4 0, aR 7 0, aR 8 t] 243 (Rs a b) h 243 (fun v R' h' => v = none ∧ R' = Rs a b ∧ ((clsF X n p N T).2.2.2.1 = 0 → rdp h' (clsF X n p N T).1 0 pl ∧ twf h' t (clsF X n p N T).2.1 (clsF X n p N T).2.2.1) ∧ ((clsF X n p N T).2.2.2.1 ≠ 0 → ∃ p', p' ≤ n ∧ rdp h' p' (clsF X n p N T).2.2.2.1 (nI (clsF X n p N T).2.2.2.2)) ∧ Fr (sRd t) h h') := by
  refine Ct.of 1 (L0 := [some (aR 4 0), some (aR 7 0), some (aR 8 t), none]) (by decide) ⟨Nat.le_refl _, Nat.le_refl _⟩ rfl rfl ?_
  intro G C hg hrt hnm
  have hN : gn G ≤ 243 ∧ 243 ≤ 243 ∧ 243 ≤ 243 := ⟨by omega, by decide, by decide⟩
  have hn := hx.2.1
  have hN4 := ht.1.2.2.2.2.2.2.2.2.2.2.2.2.2
  refine r_aload_n C dX4_readClause_0 rfl ?_
  refine r_getR C flX4_43 dX4_readClause_1 ok7 rfl rfl ?_
  refine r_aload_n C dX4_readClause_4 rfl ?_
  refine q_getV C flX4_15 dX4_readClause_5 ok4 rfl hr.1 ?_
  refine q_ialdV (m := 240) C dX4_readClause_8 ok26 rfl rfl (by omega) (hx.2.2 p hp) ?_
  refine r_callS C c_clauseOf dX4_readClause_9 cw_X4_clauseOf csX4_46 (by omega) rfl hN rfl (Nat.le_of_ble_eq_true rfl) ?_
  rintro v R' h1 ⟨rfl, rfl, rfl⟩
  have hcc := ccF_lt (X p)
  have bad1 : (ccF (X p) = 5 ∨ (N 4 = 0 ∧ ccF (X p) ≠ 0)) → ∀ L3, Wa E G 243 (Rs a b) h1 (QQ E G 243 (fun v R' h' => v = none ∧ R' = Rs a b ∧ ((clsF X n p N T).2.2.2.1 = 0 → rdp h' (clsF X n p N T).1 0 pl ∧ twf h' t (clsF X n p N T).2.1 (clsF X n p N T).2.2.1) ∧ ((clsF X n p N T).2.2.2.1 ≠ 0 → ∃ p', p' ≤ n ∧ rdp h' p' (clsF X n p N T).2.2.2.1 (nI (clsF X n p N T).2.2.2.2)) ∧ Fr (sRd t) h1 h')) 29 [some (aR 4 0), some (aR 7 0), some (aR 8 t), L3] [] := by
    intro hb L3
    have e : clsF X n p N T = (p, N, T, 1, p) := if_pos hb
    refine r_aload_n C dX4_readClause_29 rfl ?_
    refine r_iconst (v := (nI 1)) C dX4_readClause_30 (by decide) ?_
    refine r_aload_n C dX4_readClause_31 rfl ?_
    refine q_getV C flX4_15 dX4_readClause_32 ok4 rfl hr.1 ?_
    refine r_callV C (c_setFault hr (by decide)) dX4_readClause_35 cw_X4_setFault cvX4_54 (by omega) ok4 rfl hN rfl (Nat.le_of_ble_eq_true rfl) ?_
    rintro v R' h2 ⟨rfl, rfl, hr2, hf2⟩
    refine r_vret C hrt dX4_readClause_38 ?_
    rw [e]
    exact ⟨rfl, rfl, fun z => absurd z (show ¬ (1 : Nat) = 0 by decide), fun _ => ⟨p, by omega, hr2⟩, hf2.wk s4_sRd⟩
  refine r_istore_n C dX4_readClause_12 st3 ?_
  refine r_iload_n C dX4_readClause_13 rfl ?_
  refine r_iconst (v := (-1)) C dX4_readClause_14 (by decide) ?_
  by_cases h5 : ccF (X p) = 5
  · rw [if_pos h5]
    refine r_icmp_eq C dX4_readClause_15 (fun _ => ?_) (fun cc => absurd cc (by exact fun z => z rfl))
    exact bad1 (Or.inl h5) _
  · have hc5 : ccF (X p) < 5 := by omega
    have hcs : ccF (X p) = 0 ∨ ccF (X p) = 1 ∨ ccF (X p) = 2 ∨ ccF (X p) = 3 ∨ ccF (X p) = 4 := by omega
    rw [if_neg h5]
    refine r_icmp_eq C dX4_readClause_15 (fun cc => absurd cc (by exact nI_nem1 (by omega))) (fun _ => ?_)
    have good : ¬ (ccF (X p) = 5 ∨ (N 4 = 0 ∧ ccF (X p) ≠ 0)) → Wa E G 243 (Rs a b) h1 (QQ E G 243 (fun v R' h' => v = none ∧ R' = Rs a b ∧ ((clsF X n p N T).2.2.2.1 = 0 → rdp h' (clsF X n p N T).1 0 pl ∧ twf h' t (clsF X n p N T).2.1 (clsF X n p N T).2.2.1) ∧ ((clsF X n p N T).2.2.2.1 ≠ 0 → ∃ p', p' ≤ n ∧ rdp h' p' (clsF X n p N T).2.2.2.1 (nI (clsF X n p N T).2.2.2.2)) ∧ Fr (sRd t) h1 h')) 39 [some (aR 4 0), some (aR 7 0), some (aR 8 t), some (aI (nI (ccF (X p))))] [] := by
      intro hg
      refine r_aload_n C dX4_readClause_39 rfl ?_
      refine r_iload_n C dX4_readClause_40 rfl ?_
      refine r_callV C (c_hasRoomFor hT ht.1 (by omega)) dX4_readClause_41 cw_X8_hasRoomFor cvX4_58 (by omega) (Ok.full (by decide) hT) rfl hN rfl (Nat.le_of_ble_eq_true rfl) ?_
      rintro v R' h2 ⟨rfl, rfl, rfl⟩
      by_cases hful : fulF N (ccF (X p)) = true
      · have e : clsF X n p N T = (p, N, T, 3, p) := by rw [clsF, if_neg hg, if_pos hful]
        rw [if_pos hful]
        refine r_if_ne C dX4_readClause_44 (fun cc => absurd cc (by decide)) (fun _ => ?_)
        refine r_aload_n C dX4_readClause_47 rfl ?_
        refine r_iconst (v := (nI 3)) C dX4_readClause_48 (by decide) ?_
        refine r_aload_n C dX4_readClause_49 rfl ?_
        refine q_getV C flX4_15 dX4_readClause_50 ok4 rfl hr.1 ?_
        refine r_callV C (c_setFault hr (by decide)) dX4_readClause_53 cw_X4_setFault cvX4_54 (by omega) ok4 rfl hN rfl (Nat.le_of_ble_eq_true rfl) ?_
        rintro v R' h3 ⟨rfl, rfl, hr3, hf3⟩
        refine r_vret C hrt dX4_readClause_56 ?_
        rw [e]
        exact ⟨rfl, rfl, fun z => absurd z (show ¬ (3 : Nat) = 0 by decide), fun _ => ⟨p, by omega, hr3⟩, hf3.wk s4_sRd⟩
      · rw [if_neg hful]
        refine r_if_ne C dX4_readClause_44 (fun _ => ?_) (fun cc => absurd cc (by decide))
        refine r_aload_n C dX4_readClause_57 rfl ?_
        refine r_dup C dX4_readClause_58 rfl ?_
        refine q_getV C flX4_15 dX4_readClause_59 ok4 rfl hr.1 ?_
        refine r_iconst (v := (nI 1)) C dX4_readClause_62 (by decide) ?_
        first | refine r_iaddN C dX4_readClause_63 ?_ | refine r_iadd C dX4_readClause_63 ?_
        refine r_putI C flX4_15 dX4_readClause_64 ok4 rfl ⟨rfl, rfl⟩ ?_
        refine r_aload_n C dX4_readClause_67 rfl ?_
        refine r_aload_n C dX4_readClause_68 rfl ?_
        refine r_iload_n C dX4_readClause_69 rfl ?_
        have f1 : Fr (sRd t) h2 (put h2 4 0 1 (nI (p + 1))) := Fr.put Fr.rf rfl
        have hr1 : rdp (put h2 4 0 1 (nI (p + 1))) (p + 1) 0 pl := ⟨put_same, hr.2.1, hr.2.2⟩
        have hx1 : txp (put h2 4 0 1 (nI (p + 1))) n X := hx
        have ht1 : twf (put h2 4 0 1 (nI (p + 1))) t N T := ht
        refine r_callV C (c_readNumbers hx1 hr1 (by omega) (by omega)) dX4_readClause_70 cw_X4_readNumbers cvX4_62 (by omega) ok4 rfl hN rfl (Nat.le_of_ble_eq_true rfl) ?_
        rintro v R' h3 ⟨rfl, rfl, hgood, hbad, hf3⟩
        have hx3 := hx1.fr hf3 rfl rfl
        have ht3 := ht1.fr hf3 s417_twf
        have f3 := f1.tr (hf3.wk s417_sRd)
        have hfb := ffF_b (X := X) (cl := ccF (X p)) (show p + 1 ≤ n by omega) (nosF (ccF (X p))) 0
        refine r_aload_n C dX4_readClause_73 rfl ?_
        refine r_aload_n C dX4_readClause_74 rfl ?_
        by_cases hz : (ffF X n (ccF (X p)) (p + 1) (nosF (ccF (X p))) 0).1 = 0
        · obtain ⟨hr3, hv3⟩ := hgood hz
          have hpb := rpF_b (X := X) (cl := ccF (X p)) (show p + 1 ≤ n by omega) (nosF (ccF (X p)))
          refine r_callV C (c_readEnd hx3 hr3 hpb.2 (by decide)) dX4_readClause_75 cw_X4_readEnd cvX4_66 (by omega) ok4 rfl hN rfl (Nat.le_of_ble_eq_true rfl) ?_
          rintro v R' h4 ⟨rfl, rfl, hok, hno, hf4⟩
          have f4 := f3.tr (hf4.wk s4_sRd)
          have ht4 := ht3.fr hf4 s4_twf
          by_cases hend : endF X n (ccF (X p)) (p + 1) < n ∧ X (endF X n (ccF (X p)) (p + 1)) = nI 59
          · have e : clsF X n p N T = (endF X n (ccF (X p)) (p + 1) + 1, addN N (ccF (X p)), addT N T (fun i => (rrF X n (ccF (X p)) (p + 1) i).2.1) (ccF (X p)), 0, 0) := by rw [clsF, if_neg hg, if_neg hful, if_neg (fun z => z hz), if_pos hend]
            have hr4 := hok hend
            refine r_aload_n C dX4_readClause_78 rfl ?_
            refine q_getV C flX4_19 dX4_readClause_79 ok4 rfl hr4.2.1 ?_
            refine r_if_ne C dX4_readClause_82 (fun cc => absurd cc (by decide)) (fun _ => ?_)
            have hval : ∀ i, i < nosF (ccF (X p)) → h4 17 0 i = (rrF X n (ccF (X p)) (p + 1) i).2.1 := fun i hi => by rw [hf4 17 0 rfl]; exact hv3 i hi
            refine r_aload_n C dX4_readClause_85 rfl ?_
            refine r_iload_n C dX4_readClause_86 rfl ?_
            refine r_aload_n C dX4_readClause_87 rfl ?_
            refine r_getR C flX4_11 dX4_readClause_88 ok4 rfl rfl ?_
            refine r_iconst (v := (nI 0)) C dX4_readClause_91 (by decide) ?_
            refine q_iald (m := 3) C dX4_readClause_92 ok17 rfl rfl (by omega) ?_
            refine r_aload_n C dX4_readClause_93 rfl ?_
            refine r_getR C flX4_11 dX4_readClause_94 ok4 rfl rfl ?_
            refine r_iconst (v := (nI 1)) C dX4_readClause_97 (by decide) ?_
            refine q_iald (m := 3) C dX4_readClause_98 ok17 rfl rfl (by omega) ?_
            refine r_aload_n C dX4_readClause_99 rfl ?_
            refine r_getR C flX4_11 dX4_readClause_100 ok4 rfl rfl ?_
            refine r_iconst (v := (nI 2)) C dX4_readClause_103 (by decide) ?_
            refine q_iald (m := 3) C dX4_readClause_104 ok17 rfl rfl (by omega) ?_
            have hV : addT N T (fun i => h4 17 0 i) (ccF (X p)) = addT N T (fun i => (rrF X n (ccF (X p)) (p + 1) i).2.1) (ccF (X p)) := by
              rcases hcs with z | z | z | z | z <;> rw [z] at hval ⊢ <;> simp only [addT, nosF] at hval ⊢
              · rw [hval 0 (by decide), hval 1 (by decide)]
              · rw [hval 0 (by decide), hval 1 (by decide), hval 2 (by decide)]
              · rw [hval 0 (by decide), hval 1 (by decide), hval 2 (by decide)]
              · rw [hval 0 (by decide)]
              · rw [hval 0 (by decide), hval 1 (by decide)]
            refine r_callV C (c_townAdd (V := fun i => h4 17 0 i) hT ht4 hc5 hful) dX4_readClause_105 cw_X8_add cvX4_69 (by omega) (Ok.full (by decide) hT) rfl hN rfl (Nat.le_of_ble_eq_true rfl) ?_
            rintro v R' h5 ⟨rfl, rfl, ht5, hf5⟩
            refine r_vret C hrt dX4_readClause_108 ?_
            rw [e]
            rw [hV] at ht5
            exact ⟨rfl, rfl, fun _ => ⟨⟨by rw [hf5 4 0 rfl]; exact hr4.1, by rw [hf5 4 0 rfl]; exact hr4.2.1, by rw [hf5 4 0 rfl]; exact hr4.2.2⟩, ht5⟩, fun z => absurd rfl z, f4.tr (hf5.wk sT_sRd)⟩
          · have e : clsF X n p N T = (p, N, T, 1, endF X n (ccF (X p)) (p + 1)) := by rw [clsF, if_neg hg, if_neg hful, if_neg (fun z => z hz), if_neg hend]
            have hr4 := hno hend
            rw [if_pos rfl, if_pos rfl] at hr4
            have hsb := skN_b (X := X) hpb.2
            refine r_aload_n C dX4_readClause_78 rfl ?_
            refine q_getV C flX4_19 dX4_readClause_79 ok4 rfl hr4.2.1 ?_
            refine r_if_ne C dX4_readClause_82 (fun _ => ?_) (fun cc => absurd cc (by decide))
            refine r_vret C hrt dX4_readClause_108 ?_
            rw [e]
            exact ⟨rfl, rfl, fun z => absurd z (show ¬ (1 : Nat) = 0 by decide), fun _ => ⟨_, hsb.2, hr4⟩, f4⟩
        · obtain ⟨p', hp', hr3⟩ := hbad hz
          have e : clsF X n p N T = (p, N, T, ffF X n (ccF (X p)) (p + 1) (nosF (ccF (X p))) 0) := by rw [clsF, if_neg hg, if_neg hful, if_pos hz]
          refine r_callV C (c_readEnd hx3 hr3 hp' (by omega)) dX4_readClause_75 cw_X4_readEnd cvX4_66 (by omega) ok4 rfl hN rfl (Nat.le_of_ble_eq_true rfl) ?_
          rintro v R' h4 ⟨rfl, rfl, hok, hno, hf4⟩
          have f4 := f3.tr (hf4.wk s4_sRd)
          have hsb := skN_b (X := X) hp'
          have key : ∃ p2, p2 ≤ n ∧ rdp h4 p2 (ffF X n (ccF (X p)) (p + 1) (nosF (ccF (X p))) 0).1 (nI (ffF X n (ccF (X p)) (p + 1) (nosF (ccF (X p))) 0).2) := by
            by_cases hend : skN X n p' < n ∧ X (skN X n p') = nI 59
            · exact ⟨skN X n p' + 1, by omega, hok hend⟩
            · have h2 := hno hend
              rw [if_neg hz, if_neg hz] at h2
              exact ⟨skN X n p', hsb.2, h2⟩
          obtain ⟨p2, hp2, hr4⟩ := key
          refine r_aload_n C dX4_readClause_78 rfl ?_
          refine q_getV C flX4_19 dX4_readClause_79 ok4 rfl hr4.2.1 ?_
          refine r_if_ne C dX4_readClause_82 (fun _ => ?_) (fun cc => absurd cc (by exact fun z => nI_ne0 (by omega) (by omega) z))
          refine r_vret C hrt dX4_readClause_108 ?_
          rw [e]
          exact ⟨rfl, rfl, fun z => absurd z hz, fun _ => ⟨p2, hp2, hr4⟩, f4⟩
    refine r_aload_n C dX4_readClause_18 rfl ?_
    refine q_getV C flX4_50 dX4_readClause_19 (Ok.full (by decide) hT) rfl ht.1.2.2.2.2.1 ?_
    by_cases hN : N 4 = 0
    · rw [hN]
      refine r_if_ne C dX4_readClause_22 (fun cc => absurd cc (by decide)) (fun _ => ?_)
      refine r_iload_n C dX4_readClause_25 rfl ?_
      by_cases hc0 : ccF (X p) = 0
      · have hg := good (fun z => z.elim h5 (fun z => z.2 hc0))
        rw [hc0] at hg ⊢
        refine r_if_eq C dX4_readClause_26 (fun _ => ?_) (fun cc => absurd cc (by exact fun z => z rfl))
        exact hg
      · refine r_if_eq C dX4_readClause_26 (fun cc => absurd cc (by exact nI_ne0 (by omega) (by omega))) (fun _ => ?_)
        exact bad1 (Or.inr ⟨hN, hc0⟩) _
    · refine r_if_ne C dX4_readClause_22 (fun _ => ?_) (fun cc => absurd cc (by exact fun z => nI_ne0 (by omega) (by omega) z))
      exact good (fun z => z.elim h5 (fun z => hN z.1))
set_option maxRecDepth 100000 in
set_option maxHeartbeats 8000000 in
theorem c_readTown {E : Ev} {a b n t : Nat} {h : HF} {X : Nat → Int32} (hT : t < 2) (hx : txp h n X) : Ct E 5 yX4_readTown cX4_readTown 4 none [aR 4 0, aR 7 0, aR 8 t] 243 (Rs a b) h 243 (fun v R' h' => v = none ∧ R' = Rs a b ∧ h' 4 0 2 = nI (parseF X n).2.2.1 ∧ h' 4 0 3 = (if (parseF X n).2.2.1 = 0 then -1 else nI (parseF X n).2.2.2) ∧ ((parseF X n).2.2.1 = 0 → twf h' t (parseF X n).1 (parseF X n).2.1) ∧ Fr (sRd t) h h') := by
  refine Ct.of 1 (L0 := [some (aR 4 0), some (aR 7 0), some (aR 8 t), none]) (by decide) ⟨Nat.le_refl _, Nat.le_refl _⟩ rfl rfl ?_
  intro G C hg hrt hnm
  have hN : gn G ≤ 243 ∧ 243 ≤ 243 ∧ 243 ≤ 243 := ⟨by omega, by decide, by decide⟩
  have hn := hx.2.1
  refine r_aload_n C dX4_readTown_0 rfl ?_
  refine r_iconst (v := (nI 0)) C dX4_readTown_1 (by decide) ?_
  refine r_putI C flX4_15 dX4_readTown_2 ok4 rfl ⟨rfl, rfl⟩ ?_
  refine r_aload_n C dX4_readTown_5 rfl ?_
  refine r_iconst (v := (nI 0)) C dX4_readTown_6 (by decide) ?_
  refine r_putI C flX4_19 dX4_readTown_7 ok4 rfl ⟨rfl, rfl⟩ ?_
  refine r_aload_n C dX4_readTown_10 rfl ?_
  refine r_iconst (v := (-1)) C dX4_readTown_11 (by decide) ?_
  refine r_putI C flX4_22 dX4_readTown_12 ok4 rfl ⟨rfl, rfl⟩ ?_
  refine r_aload_n C dX4_readTown_15 rfl ?_
  refine r_callV C (c_townClear hT) dX4_readTown_16 cw_X8_clear cvX4_25 (by omega) (Ok.full (by decide) hT) rfl hN rfl (Nat.le_of_ble_eq_true rfl) ?_
  rintro v R' h1 ⟨rfl, rfl, ht1, hf1⟩
  have f0 : Fr (sRd t) h (put (put (put h 4 0 1 (nI 0)) 4 0 2 (nI 0)) 4 0 3 (-1)) := Fr.put (Fr.put (Fr.put Fr.rf rfl) rfl) rfl
  have f1 := f0.tr (hf1.wk sT_sRd)
  have hr1 : rdp h1 0 0 (-1) := by
    refine ⟨?_, ?_, ?_⟩ <;> rw [hf1 4 0 rfl] <;> simp [put]
  have hx1 : txp h1 n X := hx.fr f1 rfl rfl
  refine r_aload_n C dX4_readTown_19 rfl ?_
  refine r_aload_n C dX4_readTown_20 rfl ?_
  refine r_callV C (c_skipBlanks hx1 hr1 (by omega)) dX4_readTown_21 cw_X4_skipBlanks cvX4_30 (by omega) ok4 rfl hN rfl (Nat.le_of_ble_eq_true rfl) ?_
  rintro v R' h2 ⟨rfl, rfl, hr2, hf2⟩
  have f2 := f1.tr (hf2.wk s4_sRd)
  have ht2 := ht1.fr hf2 s4_twf
  have hsb := skN_b (X := X) (show 0 ≤ n by omega)
  refine r_iconst (v := (nI 0)) C dX4_readTown_24 (by decide) ?_
  refine r_istore_n C dX4_readTown_25 st3 ?_
  have loop : ∀ k i p N T hh, i + k = 240 → i ≤ p → p ≤ n → rdp hh p 0 (-1) → twf hh t N T → prF X n k p N T = parseF X n → Fr (sRd t) h hh →
      Wa E G 243 (Rs a b) hh (QQ E G 243 (fun v R' h' => v = none ∧ R' = Rs a b ∧ h' 4 0 2 = nI (parseF X n).2.2.1 ∧ h' 4 0 3 = (if (parseF X n).2.2.1 = 0 then -1 else nI (parseF X n).2.2.2) ∧ ((parseF X n).2.2.1 = 0 → twf h' t (parseF X n).1 (parseF X n).2.1) ∧ Fr (sRd t) h h')) 26 [some (aR 4 0), some (aR 7 0), some (aR 8 t), some (aI (nI i))] [] := by
    have done : ∀ p N T hh L3, rdp hh p 0 (-1) → twf hh t N T → (N, T, 0, 0) = parseF X n → Fr (sRd t) h hh → Wa E G 243 (Rs a b) hh (QQ E G 243 (fun v R' h' => v = none ∧ R' = Rs a b ∧ h' 4 0 2 = nI (parseF X n).2.2.1 ∧ h' 4 0 3 = (if (parseF X n).2.2.1 = 0 then -1 else nI (parseF X n).2.2.2) ∧ ((parseF X n).2.2.1 = 0 → twf h' t (parseF X n).1 (parseF X n).2.1) ∧ Fr (sRd t) h h')) 68 [some (aR 4 0), some (aR 7 0), some (aR 8 t), L3] [] := by
      intro p N T hh L3 hr htt he hf
      refine r_vret C hrt dX4_readTown_68 ?_
      rw [← he]
      exact ⟨rfl, rfl, hr.2.1, hr.2.2, fun _ => htt, hf⟩
    intro k
    induction k with
    | zero =>
      intro i p N T hh hi hip hpn hr htt he hf
      refine r_iload_n C dX4_readTown_26 rfl ?_
      refine r_sipush (v := (nI 240)) C dX4_readTown_27 (by decide) ?_
      refine r_icmpN_ge C dX4_readTown_30 (by omega) (by omega) (fun _ => ?_) (fun cc => absurd cc (by omega))
      exact done p N T hh _ hr htt he hf
    | succ k ih =>
      intro i p N T hh hi hip hpn hr htt he hf
      have hx2 := hx.fr hf rfl rfl
      rw [prF] at he
      refine r_iload_n C dX4_readTown_26 rfl ?_
      refine r_sipush (v := (nI 240)) C dX4_readTown_27 (by decide) ?_
      refine r_icmpN_ge C dX4_readTown_30 (by omega) (by omega) (fun cc => absurd cc (by omega)) (fun _ => ?_)
      refine r_aload_n C dX4_readTown_33 rfl ?_
      refine q_getV C flX4_15 dX4_readTown_34 ok4 rfl hr.1 ?_
      refine r_aload_n C dX4_readTown_37 rfl ?_
      refine q_getV C flX4_34 dX4_readTown_38 ok7 rfl hx2.1 ?_
      refine r_icmpN_ge C dX4_readTown_41 (by omega) (by omega) (fun c41 => ?_) (fun c41 => ?_)
      · rw [if_neg (by omega)] at he
        exact done p N T hh _ hr htt he hf
      · rw [if_pos c41] at he
        refine r_aload_n C dX4_readTown_44 rfl ?_
        refine q_getV C flX4_19 dX4_readTown_45 ok4 rfl hr.2.1 ?_
        refine r_if_ne C dX4_readTown_48 (fun cc => absurd cc (by decide)) (fun _ => ?_)
        refine r_aload_n C dX4_readTown_51 rfl ?_
        refine r_aload_n C dX4_readTown_52 rfl ?_
        refine r_aload_n C dX4_readTown_53 rfl ?_
        refine r_callV C (c_readClause hT hx2 hr c41 htt) dX4_readTown_54 cw_X4_readClause cvX4_39 (by omega) ok4 rfl hN rfl (Nat.le_of_ble_eq_true rfl) ?_
        rintro v R' h3 ⟨rfl, rfl, hgood, hbad, hf3⟩
        have hx3 := hx2.fr hf3 rfl rfl
        have f3 := hf.tr hf3
        refine r_aload_n C dX4_readTown_57 rfl ?_
        refine r_aload_n C dX4_readTown_58 rfl ?_
        by_cases hz : (clsF X n p N T).2.2.2.1 = 0
        · rw [if_pos hz] at he
          obtain ⟨hr3, ht3⟩ := hgood hz
          have hb := clsF_b c41 hz
          have hs3 := skN_b (X := X) hb.2
          refine r_callV C (c_skipBlanks hx3 hr3 hb.2) dX4_readTown_59 cw_X4_skipBlanks cvX4_30 (by omega) ok4 rfl hN rfl (Nat.le_of_ble_eq_true rfl) ?_
          rintro v R' h4 ⟨rfl, rfl, hr4, hf4⟩
          first | refine r_iincN C dX4_readTown_62 rfl st3 ?_ | refine r_iinc C dX4_readTown_62 rfl rfl st3 ?_
          refine r_goto C dX4_readTown_65 ?_
          exact ih (i + 1) _ _ _ h4 (by omega) (by omega) hs3.2 hr4 (ht3.fr hf4 s4_twf) he (f3.tr (hf4.wk s4_sRd))
        · rw [if_neg hz] at he
          obtain ⟨p', hp', hr3⟩ := hbad hz
          refine r_callV C (c_skipBlanks hx3 hr3 hp') dX4_readTown_59 cw_X4_skipBlanks cvX4_30 (by omega) ok4 rfl hN rfl (Nat.le_of_ble_eq_true rfl) ?_
          rintro v R' h4 ⟨rfl, rfl, hr4, hf4⟩
          have f4 := f3.tr (hf4.wk s4_sRd)
          have hx4 := hx.fr f4 rfl rfl
          have endd : ∀ L3, Wa E G 243 (Rs a b) h4 (QQ E G 243 (fun v R' h' => v = none ∧ R' = Rs a b ∧ h' 4 0 2 = nI (parseF X n).2.2.1 ∧ h' 4 0 3 = (if (parseF X n).2.2.1 = 0 then -1 else nI (parseF X n).2.2.2) ∧ ((parseF X n).2.2.1 = 0 → twf h' t (parseF X n).1 (parseF X n).2.1) ∧ Fr (sRd t) h h')) 68 [some (aR 4 0), some (aR 7 0), some (aR 8 t), L3] [] := by
            intro L3
            refine r_vret C hrt dX4_readTown_68 ?_
            rw [← he]
            refine ⟨rfl, rfl, hr4.2.1, ?_, fun z => absurd z hz, f4⟩
            rw [if_neg hz]
            exact hr4.2.2
          have hft : (clsF X n p N T).2.2.2.1 < 4 := by
            have hfb := ffF_b (X := X) (cl := ccF (X p)) (show p + 1 ≤ n by omega) (nosF (ccF (X p))) 0
            unfold clsF
            split
            · exact (show (1 : Nat) < 4 by decide)
            · split
              · exact (show (3 : Nat) < 4 by decide)
              · split
                · show (ffF X n (ccF (X p)) (p + 1) (nosF (ccF (X p))) 0).1 < 4
                  omega
                · split
                  · exact (show (0 : Nat) < 4 by decide)
                  · exact (show (1 : Nat) < 4 by decide)
          first | refine r_iincN C dX4_readTown_62 rfl st3 ?_ | refine r_iinc C dX4_readTown_62 rfl rfl st3 ?_
          refine r_goto C dX4_readTown_65 ?_
          refine r_iload_n C dX4_readTown_26 rfl ?_
          refine r_sipush (v := (nI 240)) C dX4_readTown_27 (by decide) ?_
          refine r_icmpN_ge C dX4_readTown_30 (by omega) (by omega) (fun c30 => ?_) (fun c30 => ?_)
          · exact endd _
          · have hs4 := skN_b (X := X) hp'
            refine r_aload_n C dX4_readTown_33 rfl ?_
            refine q_getV C flX4_15 dX4_readTown_34 ok4 rfl hr4.1 ?_
            refine r_aload_n C dX4_readTown_37 rfl ?_
            refine q_getV C flX4_34 dX4_readTown_38 ok7 rfl hx4.1 ?_
            refine r_icmpN_ge C dX4_readTown_41 (by omega) (by omega) (fun d41 => ?_) (fun d41 => ?_)
            · exact endd _
            · refine r_aload_n C dX4_readTown_44 rfl ?_
              refine q_getV C flX4_19 dX4_readTown_45 ok4 rfl hr4.2.1 ?_
              refine r_if_ne C dX4_readTown_48 (fun _ => ?_) (fun cc => absurd cc (by exact fun z => nI_ne0 (by omega) (by omega) z))
              exact endd _
  exact loop 240 0 _ _ _ h2 rfl (Nat.zero_le _) hsb.2 hr2 ht2 rfl f2
