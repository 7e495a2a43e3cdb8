def drF (N : Nat → Nat) (T : Tv) (q : Int32) : Nat → Sv → Sv
  | 0, s => s
  | k + 1, s => if s 4 = 0 then drF N T q k (pbdF N T q s) else s
def driF (g : Gs) (q n : Int32) : Int32 × Gs := if rfdF g q n = 0 then (drF (gNn g) (gT g) q n.toInt.toNat (gSv g) 4, pushd g (drF (gNn g) (gT g) q n.toInt.toNat (gSv g))) else (rfdF g q n, g)
set_option maxRecDepth 100000 in
set_option maxHeartbeats 4000000 in
theorem c_drift {E : Ev} {a b : Nat} {h : HF} {g : Gs} {q n : Int32} (ha : a < 2) (hc : CP h a g) : Ct E 5 yX10_drift cX10_drift 5 (some .int) [aR 10 0, aI q, aI n] 243 (Rs a b) h 243 (qry a b (driF g q n).2 h (driF g q n).1) := by
  refine Ct.of 2 (L0 := [some (aR 10 0), some (aI q), some (aI n), none, none]) (by decide) ⟨Nat.le_refl _, Nat.le_refl _⟩ rfl rfl ?_
  intro G C hg hrt hnm
  have hN : gn G ≤ 243 ∧ 243 ≤ 243 ∧ 243 ≤ 243 := ⟨by omega, by decide, by decide⟩
  obtain ⟨nx, hl⟩ := hc.2.2.2.1
  have hT : a < 2 := ha
  have hS : 0 < 23 := by decide
  refine r_aload_n C dX10_drift_0 rfl ?_
  refine r_iload_n C dX10_drift_1 rfl ?_
  refine r_iload_n C dX10_drift_2 rfl ?_
  refine r_callV C (c_refusalOfDays ha hc) dX10_drift_3 cw_X10_refusalOfDays cvX10_197 (by omega) ok10 rfl hN rfl (Nat.le_of_ble_eq_true rfl) ?_
  rintro v R' h1 ⟨rfl, rfl, rfl⟩
  refine r_istore_n C dX10_drift_6 st3 ?_
  refine r_iload_n C dX10_drift_7 rfl ?_
  refine r_if_eq C dX10_drift_8 (fun c8 => ?_) (fun c8 => ?_)
  · rw [driF, if_pos c8]
    obtain ⟨⟨i, hi, rfl⟩, ⟨k, hk1, hk2, rfl⟩, hb, hd⟩ := rfd_ok c8
    have ek : (nI k).toInt.toNat = k := by rw [nI_toInt (by omega)]; rfl
    rw [ek]
    generalize rfdF g (nI i) (nI k) = rr
    refine r_aload_n C dX10_drift_13 rfl ?_
    refine r_getR C flX10_43 dX10_drift_14 ok10 rfl rfl ?_
    refine r_aload_n C dX10_drift_17 rfl ?_
    refine r_getR C flX10_36 dX10_drift_18 ok10 rfl rfl ?_
    refine r_callV C (c_push hl hc.2.2.1.1) dX10_drift_21 cw_X3_push cvX10_201 (by omega) ok3 rfl hN rfl (Nat.le_of_ble_eq_true rfl) ?_
    rintro v R' h2 ⟨rfl, rfl, hl2, f2⟩
    have hc2 := hc.push f2 hl2
    refine r_iconst (v := (nI 0)) C dX10_drift_24 (by decide) ?_
    refine r_istore C dX10_drift_25 st4 ?_
    have loop : ∀ m j s' hh, j + m = k → P3 hh s' → hh 10 0 11 = h2 10 0 11 → drF (gNn g) (gT g) (nI i) m s' = drF (gNn g) (gT g) (nI i) k (gSv g) → Fr sND h2 hh →
        Wa E G 243 (Rs a b) hh (QQ E G 243 (qry a b (pushd g (drF (gNn g) (gT g) (nI i) k (gSv g))) h1 (drF (gNn g) (gT g) (nI i) k (gSv g) 4))) 27 [some (aR 10 0), some (aI (nI i)), some (aI (nI k)), some (aI rr), some (aI (nI j))] [] := by
      have done : ∀ s' hh L4, P3 hh s' → hh 10 0 11 = h2 10 0 11 → s' = drF (gNn g) (gT g) (nI i) k (gSv g) → Fr sND h2 hh → Wa E G 243 (Rs a b) hh (QQ E G 243 (qry a b (pushd g (drF (gNn g) (gT g) (nI i) k (gSv g))) h1 (drF (gNn g) (gT g) (nI i) k (gSv g) 4))) 54 [some (aR 10 0), some (aI (nI i)), some (aI (nI k)), some (aI rr), L4] [] := by
        intro s' hh L4 hs hfp he hf
        subst he
        refine r_aload_n C dX10_drift_54 rfl ?_
        refine r_getR C flX10_36 dX10_drift_55 ok10 rfl rfl ?_
        refine q_getV C flX10_157 dX10_drift_58 (Ok.full (by decide) hS) rfl hs.1.2.2.2.1 ?_
        refine r_iret C hrt dX10_drift_61 ?_
        exact ⟨rfl, rfl, CP.nl (g := setS g (gSv g) (pushN (gU g).1, pushU (gU g).1 (gU g).2 (gSv g))) (hf.wk sND_sNL) hfp hc2 hs (hc2.2.2.2.1.fr hf rfl (fun k j hk h1 _ => by
          have e : (k == 10) = false := by rcases sgk_cases hk with rfl | rfl | rfl | rfl | rfl | rfl | rfl <;> rfl
          rw [sND, e, sS_ne (by omega)]
          rfl)), (f2.wk sLg_sXc).tr (hf.wk (fun k j z => sNL_sXc k j (sND_sNL k j z)))⟩
      intro m
      induction m with
      | zero =>
        intro j s' hh hj hs hfp he hf
        refine r_iload C dX10_drift_27 rfl ?_
        refine r_iload_n C dX10_drift_29 rfl ?_
        refine r_icmpN_ge C dX10_drift_30 (by omega) (by omega) (fun _ => ?_) (fun cc => absurd cc (by omega))
        exact done s' hh _ hs hfp he hf
      | succ m ih =>
        intro j s' hh hj hs hfp he hf
        rw [drF] at he
        refine r_iload C dX10_drift_27 rfl ?_
        refine r_iload_n C dX10_drift_29 rfl ?_
        refine r_icmpN_ge C dX10_drift_30 (by omega) (by omega) (fun cc => absurd cc (by omega)) (fun _ => ?_)
        refine r_aload_n C dX10_drift_33 rfl ?_
        refine r_getR C flX10_36 dX10_drift_34 ok10 rfl rfl ?_
        refine q_getV C flX10_157 dX10_drift_37 (Ok.full (by decide) hS) rfl hs.1.2.2.2.1 ?_
        refine r_if_ne C dX10_drift_40 (fun c40 => ?_) (fun c40 => ?_)
        · rw [if_neg c40] at he
          exact done s' hh _ hs hfp he hf
        · rw [if_pos c40] at he
          refine r_aload_n C dX10_drift_43 rfl ?_
          refine r_iload_n C dX10_drift_44 rfl ?_
          refine r_callV C (c_passDayByDraws ha (hc2.2.1.fr hf sND_twn) hs) dX10_drift_45 cw_X10_passDayByDraws cvX10_220 (by omega) ok10 rfl hN rfl (Nat.le_of_ble_eq_true rfl) ?_
          rintro v R' h4 ⟨rfl, rfl, hs4, hfp4, f4⟩
          first | refine r_iincN C dX10_drift_48 rfl st4 ?_ | refine r_iinc C dX10_drift_48 rfl rfl st4 ?_
          refine r_goto C dX10_drift_51 ?_
          exact ih (j + 1) _ h4 (by omega) hs4 (hfp4.trans hfp) he (hf.tr f4)
    exact loop k 0 (gSv g) h2 (by omega) hc2.2.2.1 rfl rfl Fr.rf
  · rw [driF, if_neg c8]
    generalize rfdF g q n = rr
    refine r_iload_n C dX10_drift_11 rfl ?_
    refine r_iret C hrt dX10_drift_12 ?_
    exact ⟨rfl, rfl, hc, Fr.rf⟩
def keepG (g : Gs) (i : Nat) : Gs := (gX g, gLn g, gFp g, gNn g, gT g, gSv g, (0, (gU g).2), (va_up (gI g).1 i 1, va_up (gI g).2 i (gSv g)), gSh g, gBk g)
def keepF (g : Gs) (i : Int32) : Int32 × Gs := match ixO i 2 with
  | none => (cU, g)
  | some k => (nI 1, keepG g k)
def backG (g : Gs) (i : Nat) : Gs := (gX g, gLn g, gFp g, gNn g, gT g, (gI g).2 i, (0, (gU g).2), gI g, gSh g, gBk g)
def backF (g : Gs) (i : Int32) : Int32 × Gs := match ixO i 2 with
  | none => (cU, g)
  | some k => if (gI g).1 k = 0 then (cN, g) else (nI 1, backG g k)
def sKp (i : Nat) : Nat → Nat → Bool := fun k j => k == 3 || (k == 2 && j == i) || sS (21 + i) k j
theorem sKp_sXc {i : Nat} : ∀ k j, sKp i k j = true → sXc k j = true := by
  intro k j hh
  simp only [sKp, Bool.or_eq_true, Bool.and_eq_true, beq_iff_eq] at hh
  rcases hh with (rfl | ⟨rfl, -⟩) | z
  · rfl
  · rfl
  · simp only [sS, Bool.and_eq_true] at z
    rcases sgk_cases z.1 with rfl | rfl | rfl | rfl | rfl | rfl | rfl <;> rfl
theorem sKp_sg {i k j : Nat} (hk : sgK k = true) (hj : j ≠ 21 + i) : sKp i k j = false := by
  have e : (k == 3) = false ∧ (k == 2) = false := by rcases sgk_cases hk with rfl | rfl | rfl | rfl | rfl | rfl | rfl <;> exact ⟨rfl, rfl⟩
  rw [sKp, e.1, e.2, sS_ne hj]
  rfl
theorem P4.clear {h h' : HF} {u : Nat × (Nat → Sv)} (c : P4 h u) (h1 : h' 3 0 1 = h 3 0 1) (h2 : h' 3 0 2 = nI 0) : P4 h' (0, u.2) := by
  obtain ⟨nx, l1, l2, l3, l4, l5⟩ := c
  exact ⟨nx, h1.trans l1, h2, l3, Nat.zero_le _, fun i hi => absurd hi (Nat.not_lt_zero i)⟩
set_option maxRecDepth 100000 in
set_option maxHeartbeats 4000000 in
theorem c_keep {E : Ev} {a b : Nat} {h : HF} {g : Gs} {i : Int32} (hc : CP h a g) : Ct E 2 yX10_keep cX10_keep 2 (some .int) [aR 10 0, aI i] 243 (Rs a b) h 243 (qry a b (keepF g i).2 h (keepF g i).1) := by
  refine Ct.of 0 (L0 := [some (aR 10 0), some (aI i)]) (by decide) ⟨Nat.le_refl _, Nat.le_refl _⟩ rfl rfl ?_
  intro G C hg hrt hnm
  have hN : gn G ≤ 243 ∧ 243 ≤ 243 ∧ 243 ≤ 243 := ⟨by omega, by decide, by decide⟩
  refine r_iload_n C dX10_keep_0 rfl ?_
  refine r_iconst (v := (nI 0)) C dX10_keep_1 (by decide) ?_
  refine r_iconst (v := (nI 1)) C dX10_keep_2 (by decide) ?_
  refine r_callS C c_isWithin dX10_keep_3 cw_X10_isWithin csX10_82 (by omega) rfl hN rfl (Nat.le_of_ble_eq_true rfl) ?_
  rintro v R' h1 ⟨rfl, rfl, rfl⟩
  rw [show (if nI 0 ≤ i ∧ i ≤ nI 1 then nI 1 else nI 0) = ixB i 2 from ix_lit (n := 2) (by decide) (by decide)]
  cases hx : ixO i 2 with
  | none =>
    rw [keepF, hx, ixB_n hx]
    refine r_if_ne C dX10_keep_6 (fun cc => absurd cc (by exact fun z => z rfl)) (fun _ => ?_)
    refine r_ldc C dX10_keep_9 kX10_168 ?_
    refine r_iret C hrt dX10_keep_11 ?_
    exact ⟨rfl, rfl, hc, Fr.rf⟩
  | some k =>
    obtain ⟨hk, rfl⟩ := ixO_some hx
    rw [keepF, hx, ixB_s hx]
    refine r_if_ne C dX10_keep_6 (fun _ => ?_) (fun cc => absurd cc (by decide))
    have hI : k < 2 := hk
    have hS : 21 + k < 23 := by omega
    refine r_aload_n C dX10_keep_12 rfl ?_
    refine r_getR C flX10_49 dX10_keep_13 ok10 rfl rfl ?_
    refine r_iload_n C dX10_keep_16 rfl ?_
    refine q_aald (m := 2) (t := 2) C dX10_keep_17 ok38 rfl (by decide) rfl (by omega) rfl ?_
    refine r_getR C flX10_302 dX10_keep_18 (Ok.full (by decide) hI) rfl rfl ?_
    refine r_aload_n C dX10_keep_21 rfl ?_
    refine r_getR C flX10_36 dX10_keep_22 ok10 rfl rfl ?_
    refine r_callV C (c_siegeBecome (by omega) (by decide) (by omega) hc.2.2.1.1) dX10_keep_25 cw_X6_become cvX10_305 (by omega) (Ok.full (by decide) hS) rfl hN rfl (Nat.le_of_ble_eq_true rfl) ?_
    rintro v R' h2 ⟨rfl, rfl, hs2, f2⟩
    have hsd : h2 10 0 10 = gSv g 44 := by rw [f2 10 0 rfl]; exact hc.2.2.1.2
    refine r_aload_n C dX10_keep_28 rfl ?_
    refine r_getR C flX10_49 dX10_keep_29 ok10 rfl rfl ?_
    refine r_iload_n C dX10_keep_32 rfl ?_
    refine q_aald (m := 2) (t := 2) C dX10_keep_33 ok38 rfl (by decide) rfl (by omega) rfl ?_
    refine r_aload_n C dX10_keep_34 rfl ?_
    refine q_getV C flX10_74 dX10_keep_35 ok10 rfl hsd ?_
    refine r_putI C flX10_308 dX10_keep_38 (Ok.full (by decide) hI) rfl ⟨rfl, rfl⟩ ?_
    refine r_aload_n C dX10_keep_41 rfl ?_
    refine r_getR C flX10_49 dX10_keep_42 ok10 rfl rfl ?_
    refine r_iload_n C dX10_keep_45 rfl ?_
    refine q_aald (m := 2) (t := 2) C dX10_keep_46 ok38 rfl (by decide) rfl (by omega) rfl ?_
    refine r_iconst (v := (nI 1)) C dX10_keep_47 (by decide) ?_
    refine r_putI C flX10_122 dX10_keep_48 (Ok.full (by decide) hI) rfl ⟨rfl, rfl⟩ ?_
    refine r_aload_n C dX10_keep_51 rfl ?_
    refine r_getR C flX10_43 dX10_keep_52 ok10 rfl rfl ?_
    refine r_callV C c_logClear dX10_keep_55 cw_X3_clear cvX10_115 (by omega) ok3 rfl hN rfl (Nat.le_of_ble_eq_true rfl) ?_
    rintro v R' h3 ⟨rfl, rfl, rfl⟩
    refine r_iconst (v := (nI 1)) C dX10_keep_58 (by decide) ?_
    refine r_iret C hrt dX10_keep_59 ?_
    have f : Fr (sKp k) h1 (put (put (put h2 2 k 1 (gSv g 44)) 2 k 2 (nI 1)) 3 0 2 (nI 0)) := by
      refine Fr.put (Fr.put (Fr.put (f2.wk (fun k' j' z => by simp [sKp, z])) ?_) ?_) ?_ <;> simp [sKp]
    have hs3 : sgp (put (put (put h2 2 k 1 (gSv g 44)) 2 k 2 (nI 1)) 3 0 2 (nI 0)) (21 + k) (gSv g) := hs2.fr (S := fun k _ => k == 2 || k == 3) (Fr.put (Fr.put (Fr.put Fr.rf rfl) rfl) rfl) (fun k hk => by
      rcases hk with rfl | rfl | rfl | rfl | rfl | rfl | rfl <;> rfl)
    refine ⟨rfl, rfl, ⟨hc.1.fr f rfl rfl rfl, hc.2.1.fr f (fun k' hk' => ?_), hc.2.2.1.fr f (fun k' hk' => sKp_sg hk' (by omega)) rfl, hc.2.2.2.1.clear ?_ put_same, fun j hj => ?_, hc.2.2.2.2.2.1.fr f rfl rfl rfl rfl rfl, hc.2.2.2.2.2.2.fr f rfl rfl rfl⟩, f.wk sKp_sXc⟩
    · have e : (k' == 3) = false ∧ (k' == 2) = false := ⟨by simp; omega, by simp; omega⟩
      rw [sKp, e.1, e.2, sS_twn' k' hk']
      rfl
    · rw [put_i (by decide), put_k (by decide), put_k (by decide), f2 3 0 rfl]
    · by_cases e : j = k
      · subst e
        refine ⟨?_, ?_, fun _ => ⟨?_, ?_⟩⟩
        · show _ = nI (va_up (gI g).1 j 1 j)
          rw [put_k (by decide), put_same, va_up_self]
        · show va_up (gI g).1 j 1 j ≤ 1
          rw [va_up_self]
          exact Nat.le_refl 1
        · show sgp _ _ (va_up (gI g).2 j (gSv g) j)
          rw [va_up_self]
          exact hs3
        · show _ = va_up (gI g).2 j (gSv g) j 44
          rw [put_k (by decide), put_i (by decide), put_same, va_up_self]
      · obtain ⟨c1, c2, c3⟩ := hc.2.2.2.2.1 j hj
        have fj : sKp k 2 j = false := by simp [sKp, e, sS]
        refine ⟨?_, ?_, fun z => ?_⟩
        · show _ = nI (va_up (gI g).1 k 1 j)
          rw [va_up_ne _ _ e, f 2 j fj]
          exact c1
        · show va_up (gI g).1 k 1 j ≤ 1
          rw [va_up_ne _ _ e]
          exact c2
        · have z2 : va_up (gI g).1 k 1 j = 1 := z
          rw [va_up_ne _ _ e] at z2
          show sgp _ _ (va_up (gI g).2 k (gSv g) j) ∧ _ = va_up (gI g).2 k (gSv g) j 44
          rw [va_up_ne _ _ e]
          exact ⟨(c3 z2).1.fr f (fun k' hk' => sKp_sg (sgk_of hk') (by omega)), by rw [f 2 j fj]; exact (c3 z2).2⟩
set_option maxRecDepth 100000 in
set_option maxHeartbeats 4000000 in
theorem c_goBack {E : Ev} {a b : Nat} {h : HF} {g : Gs} {i : Int32} (hc : CP h a g) : Ct E 2 yX10_goBack cX10_goBack 2 (some .int) [aR 10 0, aI i] 243 (Rs a b) h 243 (qry a b (backF g i).2 h (backF g i).1) := by
  refine Ct.of 0 (L0 := [some (aR 10 0), some (aI i)]) (by decide) ⟨Nat.le_refl _, Nat.le_refl _⟩ rfl rfl ?_
  intro G C hg hrt hnm
  have hN : gn G ≤ 243 ∧ 243 ≤ 243 ∧ 243 ≤ 243 := ⟨by omega, by decide, by decide⟩
  refine r_iload_n C dX10_goBack_0 rfl ?_
  refine r_iconst (v := (nI 0)) C dX10_goBack_1 (by decide) ?_
  refine r_iconst (v := (nI 1)) C dX10_goBack_2 (by decide) ?_
  refine r_callS C c_isWithin dX10_goBack_3 cw_X10_isWithin csX10_82 (by omega) rfl hN rfl (Nat.le_of_ble_eq_true rfl) ?_
  rintro v R' h1 ⟨rfl, rfl, rfl⟩
  rw [show (if nI 0 ≤ i ∧ i ≤ nI 1 then nI 1 else nI 0) = ixB i 2 from ix_lit (n := 2) (by decide) (by decide)]
  cases hx : ixO i 2 with
  | none =>
    rw [backF, hx, ixB_n hx]
    refine r_if_ne C dX10_goBack_6 (fun cc => absurd cc (by exact fun z => z rfl)) (fun _ => ?_)
    refine r_ldc C dX10_goBack_9 kX10_168 ?_
    refine r_iret C hrt dX10_goBack_11 ?_
    exact ⟨rfl, rfl, hc, Fr.rf⟩
  | some k =>
    obtain ⟨hk, rfl⟩ := ixO_some hx
    rw [backF, hx, ixB_s hx]
    show Wa E G 243 (Rs a b) h1 (QQ E G 243 (qry a b (if _ then _ else _ : Int32 × Gs).2 h1 (if _ then _ else _ : Int32 × Gs).1)) _ _ _
    refine r_if_ne C dX10_goBack_6 (fun _ => ?_) (fun cc => absurd cc (by decide))
    have hI : k < 2 := hk
    obtain ⟨c1, c2, c3⟩ := hc.2.2.2.2.1 k hk
    refine r_aload_n C dX10_goBack_12 rfl ?_
    refine r_getR C flX10_49 dX10_goBack_13 ok10 rfl rfl ?_
    refine r_iload_n C dX10_goBack_16 rfl ?_
    refine q_aald (m := 2) (t := 2) C dX10_goBack_17 ok38 rfl (by decide) rfl (by omega) rfl ?_
    refine q_getV C flX10_122 dX10_goBack_18 (Ok.full (by decide) hI) rfl c1 ?_
    by_cases hz : (gI g).1 k = 0
    · rw [if_pos hz, hz]
      refine r_if_ne C dX10_goBack_21 (fun cc => absurd cc (by exact fun z => z rfl)) (fun _ => ?_)
      refine r_ldc C dX10_goBack_24 kX10_213 ?_
      refine r_iret C hrt dX10_goBack_26 ?_
      exact ⟨rfl, rfl, hc, Fr.rf⟩
    · rw [if_neg hz]
      refine r_if_ne C dX10_goBack_21 (fun _ => ?_) (fun cc => absurd cc (by exact fun z => nI_ne0 (by omega) (by omega) z))
      obtain ⟨hs, hsd⟩ := c3 (by omega)
      have hS : 0 < 23 := by decide
      refine r_aload_n C dX10_goBack_27 rfl ?_
      refine r_getR C flX10_36 dX10_goBack_28 ok10 rfl rfl ?_
      refine r_aload_n C dX10_goBack_31 rfl ?_
      refine r_getR C flX10_49 dX10_goBack_32 ok10 rfl rfl ?_
      refine r_iload_n C dX10_goBack_35 rfl ?_
      refine q_aald (m := 2) (t := 2) C dX10_goBack_36 ok38 rfl (by decide) rfl (by omega) rfl ?_
      refine r_getR C flX10_302 dX10_goBack_37 (Ok.full (by decide) hI) rfl rfl ?_
      refine r_callV C (c_siegeBecome (by decide) (by omega) (by omega) hs) dX10_goBack_40 cw_X6_become cvX10_305 (by omega) (Ok.full (by decide) hS) rfl hN rfl (Nat.le_of_ble_eq_true rfl) ?_
      rintro v R' h2 ⟨rfl, rfl, hs2, f2⟩
      refine r_aload_n C dX10_goBack_43 rfl ?_
      refine r_aload_n C dX10_goBack_44 rfl ?_
      refine r_getR C flX10_49 dX10_goBack_45 ok10 rfl rfl ?_
      refine r_iload_n C dX10_goBack_48 rfl ?_
      refine q_aald (m := 2) (t := 2) C dX10_goBack_49 ok38 rfl (by decide) rfl (by omega) rfl ?_
      refine q_getV C flX10_308 dX10_goBack_50 (Ok.full (by decide) hI) rfl (show _ = (gI g).2 k 44 by rw [f2 2 k rfl]; exact hsd) ?_
      refine r_putI C flX10_74 dX10_goBack_53 ok10 rfl ⟨rfl, rfl⟩ ?_
      refine r_aload_n C dX10_goBack_56 rfl ?_
      refine r_getR C flX10_43 dX10_goBack_57 ok10 rfl rfl ?_
      refine r_callV C c_logClear dX10_goBack_60 cw_X3_clear cvX10_115 (by omega) ok3 rfl hN rfl (Nat.le_of_ble_eq_true rfl) ?_
      rintro v R' h3 ⟨rfl, rfl, rfl⟩
      refine r_iconst (v := (nI 1)) C dX10_goBack_63 (by decide) ?_
      refine r_iret C hrt dX10_goBack_64 ?_
      have f : Fr sNL h1 (put (put h2 10 0 10 ((gI g).2 k 44)) 3 0 2 (nI 0)) := Fr.put (Fr.put (f2.wk sS0_sNL) rfl) rfl
      refine ⟨rfl, rfl, CP.nl (s := (gI g).2 k) (u := (0, (gU g).2)) f ?_ hc ⟨sg3 hs2.put10, ?_⟩ (hc.2.2.2.1.clear ?_ put_same), f.wk sNL_sXc⟩
      · rw [put_k (by decide), put_i (by decide), f2 10 0 rfl]
      · rw [put_k (by decide), put_same]
      · rw [put_i (by decide), put_k (by decide), f2 3 0 rfl]
