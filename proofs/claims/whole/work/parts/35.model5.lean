/-! undo, seed, images -/
def sUd : Nat → Nat → Bool := fun k i => (k == 39 && decide (i < 45)) || (k == 11 && (i == 2 || i == 32))
theorem sUd_in {i : Nat} (h : i < 45) : sUd 39 i = true := by simp [sUd, h]
theorem sUd_out {i : Nat} (h : 45 ≤ i) : sUd 39 i = false := by simp [sUd]; omega
theorem sUd_rows {k i : Nat} (h39 : k ≠ 39) (h11 : k ≠ 11) : sUd k i = false := by simp [sUd, h39, h11]
theorem sUd_11 {i : Nat} (h : i ≠ 2) (h2 : i ≠ 32) : sUd 11 i = false := by simp [sUd, h, h2]
theorem sUd_sXm : ∀ k i, sUd k i = true → sXm k i = true := by
  intro k i z
  simp only [sUd, sXm, Bool.or_eq_true, Bool.and_eq_true, beq_iff_eq, decide_eq_true_eq] at z ⊢
  omega
theorem sW0_sUd : ∀ k i, sW 0 k i = true → sUd k i = true := by
  intro k i z
  simp only [sUd, sW, Bool.or_eq_true, Bool.and_eq_true, beq_iff_eq, decide_eq_true_eq] at z ⊢
  omega
theorem MP.set {h h' : HF} {g : Gs} {s : Sv} {u : Nat × (Nat → Sv)} (f : Fs sUd h h') (hs : mw h' 0 s) (hu : M4 h' u) (c : MP h g) : MP h' (setS g s u) :=
  ⟨⟨c.1.1.fs f (sUd_11 (by decide) (by decide)) (fun i => sUd_rows (by decide) (by decide)), (f 11 0 21 (sUd_11 (by decide) (by decide))).trans c.1.2⟩, c.2.1.fs f (fun i hi => sUd_11 (by omega) (by omega)) (fun k i _ _ => sUd_rows (by omega) (by omega)), hs, hu, c.2.2.2.2.1.fs f (fun i => sUd_rows (by decide) (by decide)) (fun i _ _ => sUd_out (by omega)), c.2.2.2.2.2.1.fs f (sUd_11 (by decide) (by decide)) (fun k i _ _ => sUd_rows (by omega) (by omega)), c.2.2.2.2.2.2.fs f (sUd_11 (by decide) (by decide)) (fun k i _ _ => sUd_rows (by omega) (by omega))⟩
set_option maxRecDepth 100000 in
set_option maxHeartbeats 4000000 in
theorem m_undo {E : Ev} {a b : Nat} {h : HF} {g : Gs} (hc : MP h g) : Ct E 1 yX11_undo cX11_undo 2 (some .int) [aR 11 0] 243 (Rs a b) h 243 (mqr a b (undoF g).2 h (undoF g).1) := by
  refine Ct.of 1 (L0 := [some (aR 11 0), none]) (by decide) ⟨Nat.le_refl _, Nat.le_refl _⟩ rfl rfl ?_
  intro G C hg hrt hnm
  have hN : gn G ≤ 243 ∧ 243 ≤ 243 ∧ 243 ≤ 243 := ⟨by omega, by decide, by decide⟩
  have p3 := hc.2.2.1
  have p4 := hc.2.2.2.1
  have hle := p4.2.1
  rw [undoF]
  by_cases hz : (gU g).1 = 0
  · rw [if_pos hz]
    refine r_aload_n C dX11_undo_0 rfl ?_
    refine q_getV C flX11_185 dX11_undo_1 ok11 rfl (show h 11 0 2 = nI 0 by rw [p4.1, hz]) ?_
    refine r_if_ne C dX11_undo_4 (fun cc => absurd cc (by exact fun z => z rfl)) (fun _ => ?_)
    refine r_ldc C dX11_undo_7 kX11_212 ?_
    refine r_iret C hrt dX11_undo_9 ?_
    exact ⟨rfl, rfl, hc, Fs.rf⟩
  · rw [if_neg hz]
    refine r_aload_n C dX11_undo_0 rfl ?_
    refine q_getV C flX11_185 dX11_undo_1 ok11 rfl p4.1 ?_
    refine r_if_ne C dX11_undo_4 (fun _ => ?_) (fun cc => absurd cc (nI_ne0 (by omega) (by omega)))
    refine r_aload_n C dX11_undo_10 rfl ?_
    refine r_getR C flX11_7 dX11_undo_11 ok11 rfl rfl ?_
    refine r_bipush (v := (nI 44)) C dX11_undo_14 (by decide) ?_
    refine q_ialdV (m := 1080) C dX11_undo_16 ok39 rfl rfl (by omega) (mw0 p3 (by decide)) ?_
    refine r_istore_n C dX11_undo_17 st1 ?_
    refine r_aload_n C dX11_undo_18 rfl ?_
    refine r_dup C dX11_undo_19 rfl ?_
    refine q_getV C flX11_185 dX11_undo_20 ok11 rfl p4.1 ?_
    refine r_iconst (v := (nI 1)) C dX11_undo_23 (by decide) ?_
    refine r_isubN C dX11_undo_24 (by omega) ?_
    refine r_putI C flX11_185 dX11_undo_25 ok11 rfl ⟨rfl, rfl⟩ ?_
    refine r_aload_n C dX11_undo_28 rfl ?_
    refine r_sipush (v := (nI 180)) C dX11_undo_29 (by decide) ?_
    refine r_bipush (v := (nI 45)) C dX11_undo_32 (by decide) ?_
    refine r_aload_n C dX11_undo_34 rfl ?_
    refine q_getV C flX11_185 dX11_undo_35 ok11 rfl put_same ?_
    first | refine r_imulN C dX11_undo_38 ?_ | refine r_imul C dX11_undo_38 ?_
    first | refine r_iaddN C dX11_undo_39 ?_ | refine r_iadd C dX11_undo_39 ?_
    refine r_iconst (v := (nI 0)) C dX11_undo_40 (by decide) ?_
    refine r_callV C (m_copy (by omega) (by decide) (by omega) (mw_k (by decide) (p4.2.2 ((gU g).1 - 1) (by omega)))) dX11_undo_41 cw_X11_copy cvX11_209 (by omega) ok11 rfl hN rfl (Nat.le_of_ble_eq_true rfl) ?_
    rintro v R' h2 ⟨rfl, rfl, c1, c2⟩
    have k1 : h2 11 0 2 = nI ((gU g).1 - 1) := by rw [c2 11 0 2 (sW_ne (by decide)), put_same]
    have f0 : Fs sUd h (put h 11 0 2 (nI ((gU g).1 - 1))) := Fs.rf.put rfl
    have f : Fs sUd h (put h2 39 0 44 (gSv g 44)) := (f0.tr (c2.wk sW0_sUd)).put rfl
    refine r_aload_n C dX11_undo_44 rfl ?_
    refine r_getR C flX11_7 dX11_undo_45 ok11 rfl rfl ?_
    refine r_bipush (v := (nI 44)) C dX11_undo_48 (by decide) ?_
    refine r_iload_n C dX11_undo_50 rfl ?_
    refine q_iast (m := 1080) C dX11_undo_51 ok39 rfl rfl (by omega) ?_
    refine r_aload_n C dX11_undo_52 rfl ?_
    refine q_getV C flX11_185 dX11_undo_53 ok11 rfl (show _ = nI ((gU g).1 - 1) by rw [put_k (by decide)]; exact k1) ?_
    refine r_iret C hrt dX11_undo_56 ?_
    refine ⟨rfl, rfl, MP.set f (mw_put rfl c1) ⟨?_, by show (gU g).1 - 1 ≤ 20; omega, fun i hi => ?_⟩ hc, f.wk sUd_sXm⟩
    · rw [put_k (by decide)]; exact k1
    · have hi2 : i < (gU g).1 - 1 := hi
      exact (p4.2.2 i (by omega)).fs f (fun k hk => sUd_out (by omega))
set_option maxRecDepth 100000 in
set_option maxHeartbeats 4000000 in
theorem m_seed {E : Ev} {a b : Nat} {h : HF} {g : Gs} {v : Int32} (hc : MP h g) : Ct E 0 yX11_seed cX11_seed 3 (some .int) [aR 11 0, aI v] 243 (Rs a b) h 243 (mqr a b (seedF g v).2 h (seedF g v).1) := by
  refine Ct.of 1 (L0 := [some (aR 11 0), some (aI v), none]) (by decide) ⟨Nat.le_refl _, Nat.le_refl _⟩ rfl rfl ?_
  intro G C hg hrt hnm
  have hN : gn G ≤ 243 ∧ 243 ≤ 243 ∧ 243 ≤ 243 := ⟨by omega, by decide, by decide⟩
  have p3 := hc.2.2.1
  rw [seedF]
  refine r_iload_n C dX11_seed_0 rfl ?_
  refine r_if_ge C dX11_seed_1 (fun c1 => ?_) (fun c1 => ?_)
  · rw [if_pos c1]
    refine r_aload_n C dX11_seed_7 rfl ?_
    refine r_getR C flX11_7 dX11_seed_8 ok11 rfl rfl ?_
    refine r_bipush (v := (nI 44)) C dX11_seed_11 (by decide) ?_
    refine q_ialdV (m := 1080) C dX11_seed_13 ok39 rfl rfl (by omega) (mw0 p3 (by decide)) ?_
    refine r_istore_n C dX11_seed_14 st2 ?_
    refine r_aload_n C dX11_seed_15 rfl ?_
    refine r_getR C flX11_7 dX11_seed_16 ok11 rfl rfl ?_
    refine r_bipush (v := (nI 44)) C dX11_seed_19 (by decide) ?_
    refine r_iload_n C dX11_seed_21 rfl ?_
    refine q_iast (m := 1080) C dX11_seed_22 ok39 rfl rfl (by omega) ?_
    refine r_iload_n C dX11_seed_23 rfl ?_
    refine r_iret C hrt dX11_seed_24 ?_
    have f : Fs sUd h (put h 39 0 44 v) := Fs.rf.put rfl
    exact ⟨rfl, rfl, MP.set f (mw_put rfl p3) (hc.2.2.2.1.fs (S := sE 0) (Fs.rf.put rfl) (sE_11 (by decide)) (fun i hi => sE_out (by omega))) hc, f.wk sUd_sXm⟩
  · rw [if_neg c1]
    refine r_ldc C dX11_seed_4 kX11_99 ?_
    refine r_iret C hrt dX11_seed_6 ?_
    exact ⟨rfl, rfl, hc, Fs.rf⟩
def sKm : Nat → Nat → Bool := fun k i => (k == 39 && (decide (90 ≤ i) && decide (i < 180))) || k == 40 || (k == 11 && i == 2)
theorem sKm_rows {k i : Nat} (h39 : k ≠ 39) (h40 : k ≠ 40) (h11 : k ≠ 11) : sKm k i = false := by simp [sKm, h39, h40, h11]
theorem sKm_11 {i : Nat} (h : i ≠ 2) : sKm 11 i = false := by simp [sKm, h]
theorem sKm_out {i : Nat} (h : i < 90 ∨ 180 ≤ i) : sKm 39 i = false := by
  have : ¬ (90 ≤ i ∧ i < 180) := by omega
  simp [sKm]
  omega
theorem ix2 {i : Int32} : (if nI 0 ≤ i ∧ i ≤ nI 1 then nI 1 else nI 0) = ixB i 2 := ix_lit (n := 2) (by decide) (by decide)
set_option maxRecDepth 100000 in
set_option maxHeartbeats 4000000 in
theorem m_keep {E : Ev} {a b : Nat} {h : HF} {g : Gs} {i : Int32} (hc : MP h g) : Ct E 1 yX11_keep cX11_keep 2 (some .int) [aR 11 0, aI i] 243 (Rs a b) h 243 (mqr a b (keepF g i).2 h (keepF g i).1) := by
  refine Ct.of 0 (L0 := [some (aR 11 0), some (aI i)]) (by decide) ⟨Nat.le_refl _, Nat.le_refl _⟩ rfl rfl ?_
  intro G C hg hrt hnm
  have hN : gn G ≤ 243 ∧ 243 ≤ 243 ∧ 243 ≤ 243 := ⟨by omega, by decide, by decide⟩
  refine r_iload_n C dX11_keep_0 rfl ?_
  refine r_i2l C dX11_keep_1 ?_
  refine r_lconst (v := 0) C dX11_keep_2 (by decide) ?_
  refine r_lconst (v := 1) C dX11_keep_3 (by decide) ?_
  refine r_callS C m_in dX11_keep_4 cw_X11_in csX11_85 (by omega) rfl hN rfl (Nat.le_of_ble_eq_true rfl) ?_
  rintro v R' h1 ⟨rfl, rfl, rfl⟩
  rw [in64 (lo := nI 0) (hi := nI 1) (by decide) (by decide), ix2, keepF]
  cases hx : ixO i 2 with
  | none =>
    rw [ixB_n hx]
    refine r_if_ne C dX11_keep_7 (fun cc => absurd cc (by exact fun z => z rfl)) (fun _ => ?_)
    refine r_ldc C dX11_keep_10 kX11_194 ?_
    refine r_iret C hrt dX11_keep_12 ?_
    exact ⟨rfl, rfl, hc, Fs.rf⟩
  | some k =>
    obtain ⟨hi, rfl⟩ := ixO_some hx
    rw [ixB_s hx]
    refine r_if_ne C dX11_keep_7 (fun _ => ?_) (fun cc => absurd cc (by decide))
    refine r_aload_n C dX11_keep_13 rfl ?_
    refine r_iconst (v := (nI 0)) C dX11_keep_14 (by decide) ?_
    refine r_bipush (v := (nI 90)) C dX11_keep_15 (by decide) ?_
    refine r_bipush (v := (nI 45)) C dX11_keep_17 (by decide) ?_
    refine r_iload_n C dX11_keep_19 rfl ?_
    first | refine r_imulN C dX11_keep_20 ?_ | refine r_imul C dX11_keep_20 ?_
    first | refine r_iaddN C dX11_keep_21 ?_ | refine r_iadd C dX11_keep_21 ?_
    refine r_callV C (m_copy (by decide) (by omega) (by omega) hc.2.2.1) dX11_keep_22 cw_X11_copy cvX11_209 (by omega) ok11 rfl hN rfl (Nat.le_of_ble_eq_true rfl) ?_
    rintro v R' h2 ⟨rfl, rfl, c1, c2⟩
    refine r_aload_n C dX11_keep_25 rfl ?_
    refine r_getR C flX11_13 dX11_keep_26 ok11 rfl rfl ?_
    refine r_iload_n C dX11_keep_29 rfl ?_
    refine r_iconst (v := (nI 1)) C dX11_keep_30 (by decide) ?_
    refine q_zast (m := 2) C dX11_keep_31 ok40 rfl rfl (by omega) (by decide) ?_
    refine r_aload_n C dX11_keep_32 rfl ?_
    refine r_iconst (v := (nI 0)) C dX11_keep_33 (by decide) ?_
    refine r_putI C flX11_185 dX11_keep_34 ok11 rfl ⟨rfl, rfl⟩ ?_
    refine r_iconst (v := (nI 1)) C dX11_keep_37 (by decide) ?_
    refine r_iret C hrt dX11_keep_38 ?_
    have f : Fs sKm h1 (put (put h2 40 0 k (nI 1)) 11 0 2 (nI 0)) := (Fs.put (Fs.put (c2.wk (fun k' i z => by
      simp only [sKm, sW, Bool.or_eq_true, Bool.and_eq_true, beq_iff_eq, decide_eq_true_eq] at z ⊢
      omega)) rfl) rfl)
    refine ⟨rfl, rfl, ⟨⟨hc.1.1.fs f (sKm_11 (by decide)) (fun i => sKm_rows (by decide) (by decide) (by decide)), (f 11 0 21 (sKm_11 (by decide))).trans hc.1.2⟩, hc.2.1.fs f (fun i hi => sKm_11 (by omega)) (fun k i _ _ => sKm_rows (by omega) (by omega) (by omega)), hc.2.2.1.fs f (fun k hk => sKm_out (by omega)), ⟨put_same, Nat.zero_le _, fun i hi => absurd hi (Nat.not_lt_zero _)⟩, fun j hj => ?_, hc.2.2.2.2.2.1.fs f (sKm_11 (by decide)) (fun k i _ _ => sKm_rows (by omega) (by omega) (by omega)), hc.2.2.2.2.2.2.fs f (sKm_11 (by decide)) (fun k i _ _ => sKm_rows (by omega) (by omega) (by omega))⟩, f.wk (fun k' i z => ?_)⟩
    · show _ = nI (va_up (gI g).1 k 1 j) ∧ va_up (gI g).1 k 1 j ≤ 1 ∧ (va_up (gI g).1 k 1 j = 1 → mw _ _ (va_up (gI g).2 k (gSv g) j))
      by_cases e : j = k
      · subst e
        rw [va_up_self, va_up_self]
        refine ⟨by rw [put_k (by decide), put_same], by decide, fun _ => mw_k (by decide) (mw_k (by decide) c1)⟩
      · rw [va_up_ne _ _ e, va_up_ne _ _ e]
        obtain ⟨d1, d2, d3⟩ := hc.2.2.2.2.1 j hj
        refine ⟨?_, d2, fun z => mw_k (by decide) (mw_k (by decide) ((d3 z).fs c2 (fun k hk => sW_out (by omega))))⟩
        rw [put_k (by decide), put_i e, c2 40 0 j (sW_ne (by decide))]
        exact d1
    · simp only [sKm, sXm, Bool.or_eq_true, Bool.and_eq_true, beq_iff_eq, decide_eq_true_eq] at z ⊢
      omega
set_option maxRecDepth 100000 in
set_option maxHeartbeats 4000000 in
theorem m_goBack {E : Ev} {a b : Nat} {h : HF} {g : Gs} {i : Int32} (hc : MP h g) : Ct E 1 yX11_goBack cX11_goBack 2 (some .int) [aR 11 0, aI i] 243 (Rs a b) h 243 (mqr a b (backF g i).2 h (backF g i).1) := by
  refine Ct.of 0 (L0 := [some (aR 11 0), some (aI i)]) (by decide) ⟨Nat.le_refl _, Nat.le_refl _⟩ rfl rfl ?_
  intro G C hg hrt hnm
  have hN : gn G ≤ 243 ∧ 243 ≤ 243 ∧ 243 ≤ 243 := ⟨by omega, by decide, by decide⟩
  refine r_iload_n C dX11_goBack_0 rfl ?_
  refine r_i2l C dX11_goBack_1 ?_
  refine r_lconst (v := 0) C dX11_goBack_2 (by decide) ?_
  refine r_lconst (v := 1) C dX11_goBack_3 (by decide) ?_
  refine r_callS C m_in dX11_goBack_4 cw_X11_in csX11_85 (by omega) rfl hN rfl (Nat.le_of_ble_eq_true rfl) ?_
  rintro v R' h1 ⟨rfl, rfl, rfl⟩
  rw [in64 (lo := nI 0) (hi := nI 1) (by decide) (by decide), ix2, backF]
  cases hx : ixO i 2 with
  | none =>
    rw [ixB_n hx]
    refine r_if_ne C dX11_goBack_7 (fun cc => absurd cc (by exact fun z => z rfl)) (fun _ => ?_)
    refine r_ldc C dX11_goBack_10 kX11_194 ?_
    refine r_iret C hrt dX11_goBack_12 ?_
    exact ⟨rfl, rfl, hc, Fs.rf⟩
  | some k =>
    obtain ⟨hi, rfl⟩ := ixO_some hx
    rw [ixB_s hx]
    obtain ⟨d1, d2, d3⟩ := hc.2.2.2.2.1 k hi
    show Wa E G 243 (Rs a b) h1 (QQ E G 243 (mqr a b (if (gI g).1 k = 0 then (cN, g) else (nI 1, backG g k)).2 h1 (if (gI g).1 k = 0 then (cN, g) else (nI 1, backG g k)).1)) _ _ _
    refine r_if_ne C dX11_goBack_7 (fun _ => ?_) (fun cc => absurd cc (by decide))
    refine r_aload_n C dX11_goBack_13 rfl ?_
    refine r_getR C flX11_13 dX11_goBack_14 ok11 rfl rfl ?_
    refine r_iload_n C dX11_goBack_17 rfl ?_
    refine q_zald (m := 2) C dX11_goBack_18 ok40 rfl rfl (by omega) ?_
    rw [d1]
    by_cases hz : (gI g).1 k = 0
    · rw [if_pos hz, hz]
      refine r_if_ne C dX11_goBack_19 (fun cc => absurd cc (by exact fun z => z rfl)) (fun _ => ?_)
      refine r_ldc C dX11_goBack_22 kX11_212 ?_
      refine r_iret C hrt dX11_goBack_24 ?_
      exact ⟨rfl, rfl, hc, Fs.rf⟩
    · rw [if_neg hz]
      refine r_if_ne C dX11_goBack_19 (fun _ => ?_) (fun cc => absurd cc (nI_ne0 (by omega) (by omega)))
      refine r_aload_n C dX11_goBack_25 rfl ?_
      refine r_bipush (v := (nI 90)) C dX11_goBack_26 (by decide) ?_
      refine r_bipush (v := (nI 45)) C dX11_goBack_28 (by decide) ?_
      refine r_iload_n C dX11_goBack_30 rfl ?_
      first | refine r_imulN C dX11_goBack_31 ?_ | refine r_imul C dX11_goBack_31 ?_
      first | refine r_iaddN C dX11_goBack_32 ?_ | refine r_iadd C dX11_goBack_32 ?_
      refine r_iconst (v := (nI 0)) C dX11_goBack_33 (by decide) ?_
      refine r_callV C (m_copy (by omega) (by decide) (by omega) (d3 (by omega))) dX11_goBack_34 cw_X11_copy cvX11_209 (by omega) ok11 rfl hN rfl (Nat.le_of_ble_eq_true rfl) ?_
      rintro v R' h2 ⟨rfl, rfl, c1, c2⟩
      refine r_aload_n C dX11_goBack_37 rfl ?_
      refine r_iconst (v := (nI 0)) C dX11_goBack_38 (by decide) ?_
      refine r_putI C flX11_185 dX11_goBack_39 ok11 rfl ⟨rfl, rfl⟩ ?_
      refine r_iconst (v := (nI 1)) C dX11_goBack_42 (by decide) ?_
      refine r_iret C hrt dX11_goBack_43 ?_
      have f : Fs sUd h1 (put h2 11 0 2 (nI 0)) := (c2.wk sW0_sUd).put rfl
      exact ⟨rfl, rfl, MP.set (u := (0, (gU g).2)) f (mw_k (by decide) c1) ⟨put_same, Nat.zero_le _, fun i hi => absurd hi (Nat.not_lt_zero _)⟩ hc, f.wk sUd_sXm⟩
/-! squares shown, the book -/
set_option maxRecDepth 100000 in
set_option maxHeartbeats 4000000 in
theorem m_show {E : Ev} {a b : Nat} {h : HF} {g : Gs} {m d s w : Int32} (hc : MP h g) : Ct E 2 yX11_show cX11_show 5 (some .int) [aR 11 0, aI m, aI d, aI s, aI w] 243 (Rs a b) h 243 (mqr a b (showF g m d s w).2 h (showF g m d s w).1) := by
  refine Ct.of 0 (L0 := [some (aR 11 0), some (aI m), some (aI d), some (aI s), some (aI w)]) (by decide) ⟨Nat.le_refl _, Nat.le_refl _⟩ rfl rfl ?_
  intro G C hg hrt hnm
  have hN : gn G ≤ 243 ∧ 243 ≤ 243 ∧ 243 ≤ 243 := ⟨by omega, by decide, by decide⟩
  have p6 := hc.2.2.2.2.2.1
  have hle := p6.2.1
  refine r_aload_n C dX11_show_0 rfl ?_
  refine r_iload_n C dX11_show_1 rfl ?_
  refine r_callV C (m_isMoney hc.2.1) dX11_show_2 cw_X11_isMoney cvX11_195 (by omega) ok11 rfl hN rfl (Nat.le_of_ble_eq_true rfl) ?_
  rintro v R' h1 ⟨rfl, rfl, rfl⟩
  cases hx : ixO m (gNn g 1) with
  | none =>
    rw [showF, hx, ixB_n hx]
    refine r_if_ne C dX11_show_5 (fun cc => absurd cc (by exact fun z => z rfl)) (fun _ => ?_)
    refine r_ldc C dX11_show_8 kX11_194 ?_
    refine r_iret C hrt dX11_show_10 ?_
    exact ⟨rfl, rfl, hc, Fs.rf⟩
  | some i =>
    obtain ⟨hi, rfl⟩ := ixO_some hx
    have hsh : showF g (nI i) d s w = if (nI 0 ≤ d ∧ d ≤ nI 99) ∧ (nI 0 ≤ s ∧ s ≤ nI 99) ∧ (nI 0 ≤ w ∧ w ≤ nI 99) then (if (gSh g).1 < 8 then (nI ((gSh g).1 + 1), showG g i d s w) else (cF, g)) else (cO, g) := by rw [showF, hx]
    rw [hsh, ixB_s hx]
    have bad : ¬ ((nI 0 ≤ d ∧ d ≤ nI 99) ∧ (nI 0 ≤ s ∧ s ≤ nI 99) ∧ (nI 0 ≤ w ∧ w ≤ nI 99)) → Wa E G 243 (Rs a b) h1 (QQ E G 243 (mqr a b (if (nI 0 ≤ d ∧ d ≤ nI 99) ∧ (nI 0 ≤ s ∧ s ≤ nI 99) ∧ (nI 0 ≤ w ∧ w ≤ nI 99) then (if (gSh g).1 < 8 then (nI ((gSh g).1 + 1), showG g i d s w) else (cF, g)) else (cO, g)).2 h1 (if (nI 0 ≤ d ∧ d ≤ nI 99) ∧ (nI 0 ≤ s ∧ s ≤ nI 99) ∧ (nI 0 ≤ w ∧ w ≤ nI 99) then (if (gSh g).1 < 8 then (nI ((gSh g).1 + 1), showG g i d s w) else (cF, g)) else (cO, g)).1)) 48 [some (aR 11 0), some (aI (nI i)), some (aI d), some (aI s), some (aI w)] [] := by
      intro hn
      rw [if_neg hn]
      refine r_ldc C dX11_show_48 kX11_99 ?_
      refine r_iret C hrt dX11_show_50 ?_
      exact ⟨rfl, rfl, hc, Fs.rf⟩
    refine r_if_ne C dX11_show_5 (fun _ => ?_) (fun cc => absurd cc (by decide))
    refine r_iload_n C dX11_show_11 rfl ?_
    refine r_i2l C dX11_show_12 ?_
    refine r_lconst (v := 0) C dX11_show_13 (by decide) ?_
    refine r_ldc2 C dX11_show_14 klX11_231 ?_
    refine r_callS C m_in dX11_show_17 cw_X11_in csX11_85 (by omega) rfl hN rfl (Nat.le_of_ble_eq_true rfl) ?_
    rintro v R' h2 ⟨rfl, rfl, rfl⟩
    rw [in64 (lo := nI 0) (hi := nI 99) (by decide) (by decide)]
    by_cases q1 : nI 0 ≤ d ∧ d ≤ nI 99
    · rw [if_pos q1]
      refine r_if_eq C dX11_show_20 (fun cc => absurd cc (by decide)) (fun _ => ?_)
      refine r_iload_n C dX11_show_23 rfl ?_
      refine r_i2l C dX11_show_24 ?_
      refine r_lconst (v := 0) C dX11_show_25 (by decide) ?_
      refine r_ldc2 C dX11_show_26 klX11_231 ?_
      refine r_callS C m_in dX11_show_29 cw_X11_in csX11_85 (by omega) rfl hN rfl (Nat.le_of_ble_eq_true rfl) ?_
      rintro v R' h3 ⟨rfl, rfl, rfl⟩
      rw [in64 (lo := nI 0) (hi := nI 99) (by decide) (by decide)]
      by_cases q2 : nI 0 ≤ s ∧ s ≤ nI 99
      · rw [if_pos q2]
        refine r_if_eq C dX11_show_32 (fun cc => absurd cc (by decide)) (fun _ => ?_)
        refine r_iload C dX11_show_35 rfl ?_
        refine r_i2l C dX11_show_37 ?_
        refine r_lconst (v := 0) C dX11_show_38 (by decide) ?_
        refine r_ldc2 C dX11_show_39 klX11_231 ?_
        refine r_callS C m_in dX11_show_42 cw_X11_in csX11_85 (by omega) rfl hN rfl (Nat.le_of_ble_eq_true rfl) ?_
        rintro v R' h4 ⟨rfl, rfl, rfl⟩
        rw [in64 (lo := nI 0) (hi := nI 99) (by decide) (by decide)]
        by_cases q3 : nI 0 ≤ w ∧ w ≤ nI 99
        · rw [if_pos q3, if_pos ⟨q1, q2, q3⟩]
          refine r_if_ne C dX11_show_45 (fun _ => ?_) (fun cc => absurd cc (by decide))
          refine r_aload_n C dX11_show_51 rfl ?_
          refine q_getV C flX11_179 dX11_show_52 ok11 rfl p6.1 ?_
          refine r_bipush (v := (nI 8)) C dX11_show_55 (by decide) ?_
          by_cases hl : (gSh g).1 < 8
          · rw [if_pos hl]
            refine r_icmpN_ne C dX11_show_57 (by omega) (by omega) (fun _ => ?_) (fun cc => absurd cc (by omega))
            refine r_aload_n C dX11_show_63 rfl ?_
            refine r_getR C flX11_60 dX11_show_64 ok11 rfl rfl ?_
            refine r_aload_n C dX11_show_67 rfl ?_
            refine q_getV C flX11_179 dX11_show_68 ok11 rfl p6.1 ?_
            refine r_iload_n C dX11_show_71 rfl ?_
            refine q_iast (m := 8) C dX11_show_72 ok54 rfl rfl (by omega) ?_
            refine r_aload_n C dX11_show_73 rfl ?_
            refine r_getR C flX11_63 dX11_show_74 ok11 rfl rfl ?_
            refine r_aload_n C dX11_show_77 rfl ?_
            refine q_getV C flX11_179 dX11_show_78 ok11 rfl p6.1 ?_
            refine r_iload_n C dX11_show_81 rfl ?_
            refine q_iast (m := 8) C dX11_show_82 ok55 rfl rfl (by omega) ?_
            refine r_aload_n C dX11_show_83 rfl ?_
            refine r_getR C flX11_66 dX11_show_84 ok11 rfl rfl ?_
            refine r_aload_n C dX11_show_87 rfl ?_
            refine q_getV C flX11_179 dX11_show_88 ok11 rfl p6.1 ?_
            refine r_iload_n C dX11_show_91 rfl ?_
            refine q_iast (m := 8) C dX11_show_92 ok56 rfl rfl (by omega) ?_
            refine r_aload_n C dX11_show_93 rfl ?_
            refine r_getR C flX11_69 dX11_show_94 ok11 rfl rfl ?_
            refine r_aload_n C dX11_show_97 rfl ?_
            refine q_getV C flX11_179 dX11_show_98 ok11 rfl p6.1 ?_
            refine r_iload C dX11_show_101 rfl ?_
            refine q_iast (m := 8) C dX11_show_103 ok57 rfl rfl (by omega) ?_
            refine r_aload_n C dX11_show_104 rfl ?_
            refine r_dup C dX11_show_105 rfl ?_
            refine q_getV C flX11_179 dX11_show_106 ok11 rfl p6.1 ?_
            refine r_iconst (v := (nI 1)) C dX11_show_109 (by decide) ?_
            first | refine r_iaddN C dX11_show_110 ?_ | refine r_iadd C dX11_show_110 ?_
            refine r_putI C flX11_179 dX11_show_111 ok11 rfl ⟨rfl, rfl⟩ ?_
            refine r_aload_n C dX11_show_114 rfl ?_
            refine q_getV C flX11_179 dX11_show_115 ok11 rfl put_same ?_
            refine r_iret C hrt dX11_show_118 ?_
            have f : Fs (fun k i => (k == 54 || k == 55 || k == 56 || k == 57) || (k == 11 && i == 33)) h4 (put (put (put (put (put h4 54 0 (gSh g).1 (nI i)) 55 0 (gSh g).1 d) 56 0 (gSh g).1 s) 57 0 (gSh g).1 w) 11 0 33 (nI ((gSh g).1 + 1))) := Fs.put (Fs.put (Fs.put (Fs.put (Fs.put Fs.rf rfl) rfl) rfl) rfl) rfl
            refine ⟨rfl, rfl, ⟨⟨hc.1.1.fs f rfl (fun _ => rfl), (f 11 0 21 rfl).trans hc.1.2⟩, hc.2.1.fs f (fun i hi => by simp; omega) (fun k i _ _ => by simp; omega), hc.2.2.1.fs f (fun k _ => rfl), hc.2.2.2.1.fs f rfl (fun i _ => rfl), hc.2.2.2.2.1.fs f (fun _ => rfl) (fun _ _ _ => rfl), ⟨put_same, hl, fun j hj => ?_⟩, hc.2.2.2.2.2.2.fs f rfl (fun k i _ _ => by simp; omega)⟩, f.wk (fun k i z => ?_)⟩
            · show _ = nI (va_up (gSh g).2.1 (gSh g).1 i j) ∧ _ = va_up (gSh g).2.2.1 (gSh g).1 d j ∧ _ = va_up (gSh g).2.2.2.1 (gSh g).1 s j ∧ _ = va_up (gSh g).2.2.2.2 (gSh g).1 w j ∧ va_up (gSh g).2.1 (gSh g).1 i j < gNn g 1
              by_cases e : j = (gSh g).1
              · rw [e, va_up_self, va_up_self, va_up_self, va_up_self]
                exact ⟨by simp [put], by simp [put], by simp [put], by simp [put], hi⟩
              · rw [va_up_ne _ _ e, va_up_ne _ _ e, va_up_ne _ _ e, va_up_ne _ _ e]
                have hj2 : j < (gSh g).1 + 1 := hj
                obtain ⟨a1, a2, a3, a4, a5⟩ := p6.2.2 j (by omega)
                exact ⟨by simp [put, e, a1], by simp [put, e, a2], by simp [put, e, a3], by simp [put, e, a4], a5⟩
            · simp only [sXm, Bool.or_eq_true, Bool.and_eq_true, beq_iff_eq, decide_eq_true_eq] at z ⊢
              omega
          · rw [if_neg hl]
            refine r_icmpN_ne C dX11_show_57 (by omega) (by omega) (fun cc => absurd cc (by omega)) (fun _ => ?_)
            refine r_ldc C dX11_show_60 kX11_103 ?_
            refine r_iret C hrt dX11_show_62 ?_
            exact ⟨rfl, rfl, hc, Fs.rf⟩
        · rw [if_neg q3]
          refine r_if_ne C dX11_show_45 (fun cc => absurd cc (by exact fun z => z rfl)) (fun _ => ?_)
          exact bad (fun z => q3 z.2.2)
      · rw [if_neg q2]
        refine r_if_eq C dX11_show_32 (fun _ => ?_) (fun cc => absurd cc (by exact fun z => z rfl))
        exact bad (fun z => q2 z.2.1)
    · rw [if_neg q1]
      refine r_if_eq C dX11_show_20 (fun _ => ?_) (fun cc => absurd cc (by exact fun z => z rfl))
      exact bad (fun z => q1 z.1)
set_option maxRecDepth 100000 in
set_option maxHeartbeats 4000000 in
theorem m_write {E : Ev} {a b : Nat} {h : HF} {g : Gs} {c m : Int32} (hc : MP h g) : Ct E 2 yX11_write cX11_write 3 (some .int) [aR 11 0, aI c, aI m] 243 (Rs a b) h 243 (mqr a b (writF g c m).2 h (writF g c m).1) := by
  refine Ct.of 0 (L0 := [some (aR 11 0), some (aI c), some (aI m)]) (by decide) ⟨Nat.le_refl _, Nat.le_refl _⟩ rfl rfl ?_
  intro G C hg hrt hnm
  have hN : gn G ≤ 243 ∧ 243 ≤ 243 ∧ 243 ≤ 243 := ⟨by omega, by decide, by decide⟩
  have p7 := hc.2.2.2.2.2.2
  have hle := p7.2.1
  refine r_aload_n C dX11_write_0 rfl ?_
  refine r_iload_n C dX11_write_1 rfl ?_
  refine r_callV C (m_isCompany hc.2.1) dX11_write_2 cw_X11_isCompany cvX11_191 (by omega) ok11 rfl hN rfl (Nat.le_of_ble_eq_true rfl) ?_
  rintro v R' h1 ⟨rfl, rfl, rfl⟩
  cases hx : ixO c (gNn g 0) with
  | none =>
    rw [writF, hx, ixB_n hx]
    refine r_if_ne C dX11_write_5 (fun cc => absurd cc (by exact fun z => z rfl)) (fun _ => ?_)
    refine r_ldc C dX11_write_8 kX11_194 ?_
    refine r_iret C hrt dX11_write_10 ?_
    exact ⟨rfl, rfl, hc, Fs.rf⟩
  | some i =>
    obtain ⟨hi, rfl⟩ := ixO_some hx
    have hsh : writF g (nI i) m = if nI 0 ≤ m ∧ m ≤ nI 99 then (if (gBk g).1 < 15 then (nI ((gBk g).1 + 1), writG g i m) else (cF, g)) else (cO, g) := by rw [writF, hx]
    rw [hsh, ixB_s hx]
    refine r_if_ne C dX11_write_5 (fun _ => ?_) (fun cc => absurd cc (by decide))
    refine r_iload_n C dX11_write_11 rfl ?_
    refine r_i2l C dX11_write_12 ?_
    refine r_lconst (v := 0) C dX11_write_13 (by decide) ?_
    refine r_ldc2 C dX11_write_14 klX11_231 ?_
    refine r_callS C m_in dX11_write_17 cw_X11_in csX11_85 (by omega) rfl hN rfl (Nat.le_of_ble_eq_true rfl) ?_
    rintro v R' h2 ⟨rfl, rfl, rfl⟩
    rw [in64 (lo := nI 0) (hi := nI 99) (by decide) (by decide)]
    by_cases q1 : nI 0 ≤ m ∧ m ≤ nI 99
    · rw [if_pos q1, if_pos q1]
      refine r_if_ne C dX11_write_20 (fun _ => ?_) (fun cc => absurd cc (by decide))
      refine r_aload_n C dX11_write_26 rfl ?_
      refine q_getV C flX11_182 dX11_write_27 ok11 rfl p7.1 ?_
      refine r_bipush (v := (nI 15)) C dX11_write_30 (by decide) ?_
      by_cases hl : (gBk g).1 < 15
      · rw [if_pos hl]
        refine r_icmpN_ne C dX11_write_32 (by omega) (by omega) (fun _ => ?_) (fun cc => absurd cc (by omega))
        refine r_aload_n C dX11_write_38 rfl ?_
        refine r_getR C flX11_72 dX11_write_39 ok11 rfl rfl ?_
        refine r_aload_n C dX11_write_42 rfl ?_
        refine q_getV C flX11_182 dX11_write_43 ok11 rfl p7.1 ?_
        refine r_iload_n C dX11_write_46 rfl ?_
        refine q_iast (m := 15) C dX11_write_47 ok58 rfl rfl (by omega) ?_
        refine r_aload_n C dX11_write_48 rfl ?_
        refine r_getR C flX11_75 dX11_write_49 ok11 rfl rfl ?_
        refine r_aload_n C dX11_write_52 rfl ?_
        refine q_getV C flX11_182 dX11_write_53 ok11 rfl p7.1 ?_
        refine r_iload_n C dX11_write_56 rfl ?_
        refine q_iast (m := 15) C dX11_write_57 ok59 rfl rfl (by omega) ?_
        refine r_aload_n C dX11_write_58 rfl ?_
        refine r_dup C dX11_write_59 rfl ?_
        refine q_getV C flX11_182 dX11_write_60 ok11 rfl p7.1 ?_
        refine r_iconst (v := (nI 1)) C dX11_write_63 (by decide) ?_
        first | refine r_iaddN C dX11_write_64 ?_ | refine r_iadd C dX11_write_64 ?_
        refine r_putI C flX11_182 dX11_write_65 ok11 rfl ⟨rfl, rfl⟩ ?_
        refine r_aload_n C dX11_write_68 rfl ?_
        refine q_getV C flX11_182 dX11_write_69 ok11 rfl put_same ?_
        refine r_iret C hrt dX11_write_72 ?_
        have f : Fs (fun k i => (k == 58 || k == 59) || (k == 11 && i == 38)) h2 (put (put (put h2 58 0 (gBk g).1 (nI i)) 59 0 (gBk g).1 m) 11 0 38 (nI ((gBk g).1 + 1))) := Fs.put (Fs.put (Fs.put Fs.rf rfl) rfl) rfl
        refine ⟨rfl, rfl, ⟨⟨hc.1.1.fs f rfl (fun _ => rfl), (f 11 0 21 rfl).trans hc.1.2⟩, hc.2.1.fs f (fun i hi => by simp; omega) (fun k i _ _ => by simp; omega), hc.2.2.1.fs f (fun k _ => rfl), hc.2.2.2.1.fs f rfl (fun i _ => rfl), hc.2.2.2.2.1.fs f (fun _ => rfl) (fun _ _ _ => rfl), hc.2.2.2.2.2.1.fs f rfl (fun k i _ _ => by simp; omega), ⟨put_same, hl, fun j hj => ?_⟩⟩, f.wk (fun k i z => ?_)⟩
        · show _ = nI (va_up (gBk g).2.1 (gBk g).1 i j) ∧ _ = va_up (gBk g).2.2 (gBk g).1 m j ∧ va_up (gBk g).2.1 (gBk g).1 i j < gNn g 0
          by_cases e : j = (gBk g).1
          · rw [e, va_up_self, va_up_self]
            exact ⟨by simp [put], by simp [put], hi⟩
          · rw [va_up_ne _ _ e, va_up_ne _ _ e]
            have hj2 : j < (gBk g).1 + 1 := hj
            obtain ⟨a1, a2, a3⟩ := p7.2.2 j (by omega)
            exact ⟨by simp [put, e, a1], by simp [put, e, a2], a3⟩
        · simp only [sXm, Bool.or_eq_true, Bool.and_eq_true, beq_iff_eq, decide_eq_true_eq] at z ⊢
          omega
      · rw [if_neg hl]
        refine r_icmpN_ne C dX11_write_32 (by omega) (by omega) (fun cc => absurd cc (by omega)) (fun _ => ?_)
        refine r_ldc C dX11_write_35 kX11_103 ?_
        refine r_iret C hrt dX11_write_37 ?_
        exact ⟨rfl, rfl, hc, Fs.rf⟩
    · rw [if_neg q1, if_neg q1]
      refine r_if_ne C dX11_write_20 (fun cc => absurd cc (by exact fun z => z rfl)) (fun _ => ?_)
      refine r_ldc C dX11_write_23 kX11_99 ?_
      refine r_iret C hrt dX11_write_25 ?_
      exact ⟨rfl, rfl, hc, Fs.rf⟩
set_option maxRecDepth 100000 in
set_option maxHeartbeats 4000000 in
theorem m_tear {E : Ev} {a b : Nat} {h : HF} {g : Gs} (hc : MP h g) : Ct E 0 yX11_tear cX11_tear 2 (some .int) [aR 11 0] 243 (Rs a b) h 243 (mqr a b (tearG g) h (nI ((gSh g).1 + (gBk g).1))) := by
  refine Ct.of 1 (L0 := [some (aR 11 0), none]) (by decide) ⟨Nat.le_refl _, Nat.le_refl _⟩ rfl rfl ?_
  intro G C hg hrt hnm
  have hN : gn G ≤ 243 ∧ 243 ≤ 243 ∧ 243 ≤ 243 := ⟨by omega, by decide, by decide⟩
  refine r_aload_n C dX11_tear_0 rfl ?_
  refine q_getV C flX11_179 dX11_tear_1 ok11 rfl hc.2.2.2.2.2.1.1 ?_
  refine r_aload_n C dX11_tear_4 rfl ?_
  refine q_getV C flX11_182 dX11_tear_5 ok11 rfl hc.2.2.2.2.2.2.1 ?_
  first | refine r_iaddN C dX11_tear_8 ?_ | refine r_iadd C dX11_tear_8 ?_
  refine r_istore_n C dX11_tear_9 st1 ?_
  refine r_aload_n C dX11_tear_10 rfl ?_
  refine r_iconst (v := (nI 0)) C dX11_tear_11 (by decide) ?_
  refine r_putI C flX11_179 dX11_tear_12 ok11 rfl ⟨rfl, rfl⟩ ?_
  refine r_aload_n C dX11_tear_15 rfl ?_
  refine r_iconst (v := (nI 0)) C dX11_tear_16 (by decide) ?_
  refine r_putI C flX11_182 dX11_tear_17 ok11 rfl ⟨rfl, rfl⟩ ?_
  refine r_iload_n C dX11_tear_20 rfl ?_
  refine r_iret C hrt dX11_tear_21 ?_
  have f : Fs (fun k i => k == 11 && (i == 33 || i == 38)) h (put (put h 11 0 33 (nI 0)) 11 0 38 (nI 0)) := Fs.put (Fs.put Fs.rf rfl) rfl
  refine ⟨rfl, rfl, ⟨⟨hc.1.1.fs f rfl (fun _ => rfl), (f 11 0 21 rfl).trans hc.1.2⟩, hc.2.1.fs f (fun i hi => by simp; omega) (fun k i _ _ => by simp; omega), hc.2.2.1.fs f (fun k _ => rfl), hc.2.2.2.1.fs f rfl (fun i _ => rfl), hc.2.2.2.2.1.fs f (fun _ => rfl) (fun _ _ _ => rfl), ⟨?_, Nat.zero_le _, fun i hi => absurd hi (Nat.not_lt_zero _)⟩, ⟨put_same, Nat.zero_le _, fun i hi => absurd hi (Nat.not_lt_zero _)⟩⟩, f.wk (fun k i z => ?_)⟩
  · rw [put_i (by decide)]; exact put_same
  · simp only [sXm, Bool.or_eq_true, Bool.and_eq_true, beq_iff_eq, decide_eq_true_eq] at z ⊢
    omega
set_option maxRecDepth 100000 in
set_option maxHeartbeats 4000000 in
theorem m_judge {E : Ev} {a b : Nat} {h : HF} {g : Gs} (hc : MP h g) : Ct E 0 yX11_judge cX11_judge 2 (some .int) [aR 11 0] 243 (Rs a b) h 243 (qst a b h (bwF (gSv g) (gBk g).2.1 (gBk g).2.2 (gBk g).1 0)) := by
  refine Ct.of 1 (L0 := [some (aR 11 0), none]) (by decide) ⟨Nat.le_refl _, Nat.le_refl _⟩ rfl rfl ?_
  intro G C hg hrt hnm
  have hN : gn G ≤ 243 ∧ 243 ≤ 243 ∧ 243 ≤ 243 := ⟨by omega, by decide, by decide⟩
  have b0 := hc.2.1.2.2.2.2.2.2.2.2.2.1
  have hs := hc.2.2.2.2.2.2
  have hn := hs.2.1
  refine r_iconst (v := (nI 0)) C dX11_judge_0 (by decide) ?_
  refine r_istore_n C dX11_judge_1 st1 ?_
  have loop : ∀ k i, i + k = (gBk g).1 → bwF (gSv g) (gBk g).2.1 (gBk g).2.2 k i = bwF (gSv g) (gBk g).2.1 (gBk g).2.2 (gBk g).1 0 → Wa E G 243 (Rs a b) h (QQ E G 243 (qst a b h (bwF (gSv g) (gBk g).2.1 (gBk g).2.2 (gBk g).1 0))) 2 [some (aR 11 0), some (aI (nI i))] [] := by
    intro k
    induction k with
    | zero =>
      intro i hi he
      refine r_iload_n C dX11_judge_2 rfl ?_
      refine r_aload_n C dX11_judge_3 rfl ?_
      refine q_getV C flX11_182 dX11_judge_4 ok11 rfl hs.1 ?_
      refine r_icmpN_ge C dX11_judge_7 (by omega) (by omega) (fun _ => ?_) (fun cc => absurd cc (by omega))
      refine r_iconst (v := (-1)) C dX11_judge_40 (by decide) ?_
      refine r_iret C hrt dX11_judge_41 ?_
      rw [← he]
      exact ⟨rfl, rfl, rfl⟩
    | succ k ih =>
      intro i hi he
      obtain ⟨g1, g2, g3⟩ := hs.2.2 i (by omega)
      rw [bwF] at he
      refine r_iload_n C dX11_judge_2 rfl ?_
      refine r_aload_n C dX11_judge_3 rfl ?_
      refine q_getV C flX11_182 dX11_judge_4 ok11 rfl hs.1 ?_
      refine r_icmpN_ge C dX11_judge_7 (by omega) (by omega) (fun cc => absurd cc (by omega)) (fun _ => ?_)
      refine r_aload_n C dX11_judge_10 rfl ?_
      refine r_getR C flX11_7 dX11_judge_11 ok11 rfl rfl ?_
      refine r_iconst (v := (nI 5)) C dX11_judge_14 (by decide) ?_
      refine r_aload_n C dX11_judge_15 rfl ?_
      refine r_getR C flX11_72 dX11_judge_16 ok11 rfl rfl ?_
      refine r_iload_n C dX11_judge_19 rfl ?_
      refine q_ialdV (m := 15) C dX11_judge_20 ok58 rfl rfl (by omega) g1 ?_
      first | refine r_iaddN C dX11_judge_21 ?_ | refine r_iadd C dX11_judge_21 ?_
      refine q_ialdV (m := 1080) C dX11_judge_22 ok39 rfl rfl (by omega) (mw0 hc.2.2.1 (by omega)) ?_
      refine r_aload_n C dX11_judge_23 rfl ?_
      refine r_getR C flX11_75 dX11_judge_24 ok11 rfl rfl ?_
      refine r_iload_n C dX11_judge_27 rfl ?_
      refine q_ialdV (m := 15) C dX11_judge_28 ok59 rfl rfl (by omega) g2 ?_
      refine r_icmp_eq C dX11_judge_29 (fun c29 => ?_) (fun c29 => ?_)
      · rw [if_pos c29] at he
        first | refine r_iincN C dX11_judge_34 rfl st1 ?_ | refine r_iinc C dX11_judge_34 rfl rfl st1 ?_
        refine r_goto C dX11_judge_37 ?_
        exact ih (i + 1) (by omega) he
      · rw [if_neg c29] at he
        refine r_iload_n C dX11_judge_32 rfl ?_
        refine r_iret C hrt dX11_judge_33 ?_
        rw [← he]
        exact ⟨rfl, rfl, rfl⟩
  exact loop (gBk g).1 0 (by omega) rfl
set_option maxRecDepth 100000 in
set_option maxHeartbeats 4000000 in
theorem m_isBehind {E : Ev} {a b i : Nat} {h : HF} {N : Nat → Nat} {q : Nat × (Nat → Nat) × (Nat → Int32) × (Nat → Int32) × (Nat → Int32)} (hs : M6 h N q) (hi : i < q.1) : Ct E 0 yX11_isBehind cX11_isBehind 2 (some .boolean) [aR 11 0, aI (nI i)] 243 (Rs a b) h 243 (qst a b h (if q.2.2.2.1 i ≤ q.2.2.1 i then nI 0 else nI 1)) := by
  refine Ct.of 0 (L0 := [some (aR 11 0), some (aI (nI i))]) (by decide) ⟨Nat.le_refl _, Nat.le_refl _⟩ rfl rfl ?_
  intro G C hg hrt hnm
  have hN : gn G ≤ 243 ∧ 243 ≤ 243 ∧ 243 ≤ 243 := ⟨by omega, by decide, by decide⟩
  have hn := hs.2.1
  obtain ⟨g1, g2, g3, g4, g5⟩ := hs.2.2 i hi
  refine r_aload_n C dX11_isBehind_0 rfl ?_
  refine r_getR C flX11_66 dX11_isBehind_1 ok11 rfl rfl ?_
  refine r_iload_n C dX11_isBehind_4 rfl ?_
  refine q_ialdV (m := 8) C dX11_isBehind_5 ok56 rfl rfl (by omega) g3 ?_
  refine r_aload_n C dX11_isBehind_6 rfl ?_
  refine r_getR C flX11_63 dX11_isBehind_7 ok11 rfl rfl ?_
  refine r_iload_n C dX11_isBehind_10 rfl ?_
  refine q_ialdV (m := 8) C dX11_isBehind_11 ok55 rfl rfl (by omega) g2 ?_
  refine r_icmp_le C dX11_isBehind_12 (fun c12 => ?_) (fun c12 => ?_)
  · refine r_iconst (v := (nI 0)) C dX11_isBehind_19 (by decide) ?_
    refine r_zret C hrt dX11_isBehind_20 (by decide) ?_
    rw [if_pos c12]
    exact ⟨rfl, rfl, rfl⟩
  · refine r_iconst (v := (nI 1)) C dX11_isBehind_15 (by decide) ?_
    refine r_goto C dX11_isBehind_16 ?_
    refine r_zret C hrt dX11_isBehind_20 (by decide) ?_
    rw [if_neg c12]
    exact ⟨rfl, rfl, rfl⟩
set_option maxRecDepth 100000 in
set_option maxHeartbeats 4000000 in
theorem m_forged {E : Ev} {a b : Nat} {h : HF} {g : Gs} (hc : MP h g) : Ct E 1 yX11_forged cX11_forged 3 (some .int) [aR 11 0] 243 (Rs a b) h 243 (qst a b h (fgF (gT g) (gSh g).2.1 (gSh g).2.2.1 (gSh g).2.2.2.1 (gSh g).2.2.2.2 (gSh g).1)) := by
  refine Ct.of 2 (L0 := [some (aR 11 0), none, none]) (by decide) ⟨Nat.le_refl _, Nat.le_refl _⟩ rfl rfl ?_
  intro G C hg hrt hnm
  have hN : gn G ≤ 243 ∧ 243 ≤ 243 ∧ 243 ≤ 243 := ⟨by omega, by decide, by decide⟩
  have ht := hc.2.1
  have b1 := ht.2.2.2.2.2.2.2.2.2.2.1
  have hs := hc.2.2.2.2.2.1
  have hn := hs.2.1
  refine r_iconst (v := (nI 0)) C dX11_forged_0 (by decide) ?_
  refine r_istore_n C dX11_forged_1 st1 ?_
  refine r_iconst (v := (nI 0)) C dX11_forged_2 (by decide) ?_
  refine r_istore_n C dX11_forged_3 st2 ?_
  have loop : ∀ k i, i + k = (gSh g).1 → Wa E G 243 (Rs a b) h (QQ E G 243 (qst a b h (fgF (gT g) (gSh g).2.1 (gSh g).2.2.1 (gSh g).2.2.2.1 (gSh g).2.2.2.2 (gSh g).1))) 4 [some (aR 11 0), some (aI (fgF (gT g) (gSh g).2.1 (gSh g).2.2.1 (gSh g).2.2.2.1 (gSh g).2.2.2.2 i)), some (aI (nI i))] [] := by
    intro k
    induction k with
    | zero =>
      intro i hi
      have e : i = (gSh g).1 := by omega
      subst e
      refine r_iload_n C dX11_forged_4 rfl ?_
      refine r_aload_n C dX11_forged_5 rfl ?_
      refine q_getV C flX11_179 dX11_forged_6 ok11 rfl hs.1 ?_
      refine r_icmpN_ge C dX11_forged_9 (by omega) (by omega) (fun _ => ?_) (fun cc => absurd cc (by omega))
      refine r_iload_n C dX11_forged_56 rfl ?_
      refine r_iret C hrt dX11_forged_57 ?_
      exact ⟨rfl, rfl, rfl⟩
    | succ k ih =>
      intro i hi
      obtain ⟨g1, g2, g3, g4, g5⟩ := hs.2.2 i (by omega)
      have ih2 := ih (i + 1) (by omega)
      rw [fgF] at ih2
      refine r_iload_n C dX11_forged_4 rfl ?_
      refine r_aload_n C dX11_forged_5 rfl ?_
      refine q_getV C flX11_179 dX11_forged_6 ok11 rfl hs.1 ?_
      refine r_icmpN_ge C dX11_forged_9 (by omega) (by omega) (fun cc => absurd cc (by omega)) (fun _ => ?_)
      refine r_iload_n C dX11_forged_12 rfl ?_
      refine r_aload_n C dX11_forged_13 rfl ?_
      refine r_iload_n C dX11_forged_14 rfl ?_
      refine r_callV C (m_isBehind hs (by omega)) dX11_forged_15 cw_X11_isBehind cvX11_275 (by omega) ok11 rfl hN rfl (Nat.le_of_ble_eq_true rfl) ?_
      rintro v R' h1 ⟨rfl, rfl, rfl⟩
      by_cases hb : (gSh g).2.2.2.1 i ≤ (gSh g).2.2.1 i
      · rw [if_pos hb]
        refine r_if_ne C dX11_forged_18 (fun cc => absurd cc (by exact fun z => z rfl)) (fun _ => ?_)
        refine r_aload_n C dX11_forged_21 rfl ?_
        refine r_getR C flX11_69 dX11_forged_22 ok11 rfl rfl ?_
        refine r_iload_n C dX11_forged_25 rfl ?_
        refine q_ialdV (m := 8) C dX11_forged_26 ok57 rfl rfl (by omega) g4 ?_
        refine r_aload_n C dX11_forged_27 rfl ?_
        refine r_getR C flX11_26 dX11_forged_28 ok11 rfl rfl ?_
        refine r_aload_n C dX11_forged_31 rfl ?_
        refine r_getR C flX11_60 dX11_forged_32 ok11 rfl rfl ?_
        refine r_iload_n C dX11_forged_35 rfl ?_
        refine q_ialdV (m := 8) C dX11_forged_36 ok54 rfl rfl (by omega) g1 ?_
        refine q_ialdV (m := 4) C dX11_forged_37 ok44 rfl rfl (by omega) ((ht.2.2.2.2.2.2.1 ((gSh g).2.1 i) g5).2) ?_
        refine r_icmp_ge C dX11_forged_38 (fun c38 => ?_) (fun c38 => ?_)
        · rw [if_pos ⟨hb, c38⟩] at ih2
          refine r_iconst (v := (nI 0)) C dX11_forged_47 (by decide) ?_
          refine r_ior C dX11_forged_48 ?_
          rw [show fgF (gT g) (gSh g).2.1 (gSh g).2.2.1 (gSh g).2.2.2.1 (gSh g).2.2.2.2 i ||| nI 0 = fgF (gT g) (gSh g).2.1 (gSh g).2.2.1 (gSh g).2.2.2.1 (gSh g).2.2.2.2 i from Int32.or_zero]
          refine r_istore_n C dX11_forged_49 st1 ?_
          first | refine r_iincN C dX11_forged_50 rfl st2 ?_ | refine r_iinc C dX11_forged_50 rfl rfl st2 ?_
          refine r_goto C dX11_forged_53 ?_
          exact ih2
        · rw [if_neg (fun z => c38 z.2)] at ih2
          refine r_iconst (v := (nI 1)) C dX11_forged_41 (by decide) ?_
          refine r_iload_n C dX11_forged_42 rfl ?_
          refine r_ishl C dX11_forged_43 ?_
          refine r_goto C dX11_forged_44 ?_
          refine r_ior C dX11_forged_48 ?_
          refine r_istore_n C dX11_forged_49 st1 ?_
          first | refine r_iincN C dX11_forged_50 rfl st2 ?_ | refine r_iinc C dX11_forged_50 rfl rfl st2 ?_
          refine r_goto C dX11_forged_53 ?_
          exact ih2
      · rw [if_neg hb]
        refine r_if_ne C dX11_forged_18 (fun _ => ?_) (fun cc => absurd cc (by decide))
        rw [if_neg (fun z => hb z.1)] at ih2
        refine r_iconst (v := (nI 1)) C dX11_forged_41 (by decide) ?_
        refine r_iload_n C dX11_forged_42 rfl ?_
        refine r_ishl C dX11_forged_43 ?_
        refine r_goto C dX11_forged_44 ?_
        refine r_ior C dX11_forged_48 ?_
        refine r_istore_n C dX11_forged_49 st1 ?_
        first | refine r_iincN C dX11_forged_50 rfl st2 ?_ | refine r_iinc C dX11_forged_50 rfl rfl st2 ?_
        refine r_goto C dX11_forged_53 ?_
        exact ih2
  exact loop (gSh g).1 0 (by omega)
theorem wbV_le {K : Nat → Nat} {D S : Nat → Int32} {n : Nat} : ∀ x, wbV (fun m => wcF K D S m n) x ≤ n
  | none => Nat.zero_le _
  | some m => wcF_le K D S m n
set_option maxRecDepth 100000 in
set_option maxHeartbeats 4000000 in
theorem m_weighFirst {E : Ev} {a b : Nat} {h : HF} {g : Gs} (hc : MP h g) : Ct E 1 yX11_weighFirst cX11_weighFirst 6 (some .int) [aR 11 0] 243 (Rs a b) h 243 (qst a b h (opI (wbF (fun m => wcF (gSh g).2.1 (gSh g).2.2.1 (gSh g).2.2.2.1 m (gSh g).1) (gNn g 1)))) := by
  refine Ct.of 5 (L0 := [some (aR 11 0), none, none, none, none, none]) (by decide) ⟨Nat.le_refl _, Nat.le_refl _⟩ rfl rfl ?_
  intro G C hg hrt hnm
  have hN : gn G ≤ 243 ∧ 243 ≤ 243 ∧ 243 ≤ 243 := ⟨by omega, by decide, by decide⟩
  have ht := hc.2.1
  have b1 := ht.2.2.2.2.2.2.2.2.2.2.1
  have hs := hc.2.2.2.2.2.1
  have hn := hs.2.1
  refine r_iconst (v := (-1)) C dX11_weighFirst_0 (by decide) ?_
  refine r_istore_n C dX11_weighFirst_1 st1 ?_
  refine r_iconst (v := (nI 0)) C dX11_weighFirst_2 (by decide) ?_
  refine r_istore_n C dX11_weighFirst_3 st2 ?_
  refine r_iconst (v := (nI 0)) C dX11_weighFirst_4 (by decide) ?_
  refine r_istore_n C dX11_weighFirst_5 st3 ?_
  have outer : ∀ k m, m + k = gNn g 1 → Wa E G 243 (Rs a b) h (QQ E G 243 (qst a b h (opI (wbF (fun m => wcF (gSh g).2.1 (gSh g).2.2.1 (gSh g).2.2.2.1 m (gSh g).1) (gNn g 1))))) 6 [some (aR 11 0), some (aI (opI (wbF (fun m => wcF (gSh g).2.1 (gSh g).2.2.1 (gSh g).2.2.2.1 m (gSh g).1) m))), some (aI (nI (wbV (fun m => wcF (gSh g).2.1 (gSh g).2.2.1 (gSh g).2.2.2.1 m (gSh g).1) (wbF (fun m => wcF (gSh g).2.1 (gSh g).2.2.1 (gSh g).2.2.2.1 m (gSh g).1) m)))), some (aI (nI m)), none, none] [] := by
    intro k
    induction k with
    | zero =>
      intro m hm
      have e : m = gNn g 1 := by omega
      subst e
      refine r_iload_n C dX11_weighFirst_6 rfl ?_
      refine r_aload_n C dX11_weighFirst_7 rfl ?_
      refine q_getV C flX11_89 dX11_weighFirst_8 ok11 rfl ht.2.1 ?_
      refine r_icmpN_ge C dX11_weighFirst_11 (by omega) (by omega) (fun _ => ?_) (fun cc => absurd cc (by omega))
      refine r_iload_n C dX11_weighFirst_96 rfl ?_
      refine r_iret C hrt dX11_weighFirst_97 ?_
      exact ⟨rfl, rfl, rfl⟩
    | succ k ih =>
      intro m hm
      have ih2 := ih (m + 1) (by omega)
      rw [wbF] at ih2
      refine r_iload_n C dX11_weighFirst_6 rfl ?_
      refine r_aload_n C dX11_weighFirst_7 rfl ?_
      refine q_getV C flX11_89 dX11_weighFirst_8 ok11 rfl ht.2.1 ?_
      refine r_icmpN_ge C dX11_weighFirst_11 (by omega) (by omega) (fun cc => absurd cc (by omega)) (fun _ => ?_)
      refine r_iconst (v := (nI 0)) C dX11_weighFirst_14 (by decide) ?_
      refine r_istore C dX11_weighFirst_15 st4 ?_
      refine r_iconst (v := (nI 0)) C dX11_weighFirst_17 (by decide) ?_
      refine r_istore C dX11_weighFirst_18 st5 ?_
      have inner : ∀ k2 i, i + k2 = (gSh g).1 → Wa E G 243 (Rs a b) h (QQ E G 243 (qst a b h (opI (wbF (fun m => wcF (gSh g).2.1 (gSh g).2.2.1 (gSh g).2.2.2.1 m (gSh g).1) (gNn g 1))))) 20 [some (aR 11 0), some (aI (opI (wbF (fun m => wcF (gSh g).2.1 (gSh g).2.2.1 (gSh g).2.2.2.1 m (gSh g).1) m))), some (aI (nI (wbV (fun m => wcF (gSh g).2.1 (gSh g).2.2.1 (gSh g).2.2.2.1 m (gSh g).1) (wbF (fun m => wcF (gSh g).2.1 (gSh g).2.2.1 (gSh g).2.2.2.1 m (gSh g).1) m)))), some (aI (nI m)), some (aI (nI (wcF (gSh g).2.1 (gSh g).2.2.1 (gSh g).2.2.2.1 m i))), some (aI (nI i))] [] := by
        intro k2
        induction k2 with
        | zero =>
          intro i hi
          have e : i = (gSh g).1 := by omega
          subst e
          have l1 := wcF_le (gSh g).2.1 (gSh g).2.2.1 (gSh g).2.2.2.1 m (gSh g).1
          have l2 := wbV_le (K := (gSh g).2.1) (D := (gSh g).2.2.1) (S := (gSh g).2.2.2.1) (n := (gSh g).1) (wbF (fun m => wcF (gSh g).2.1 (gSh g).2.2.1 (gSh g).2.2.2.1 m (gSh g).1) m)
          refine r_iload C dX11_weighFirst_20 rfl ?_
          refine r_aload_n C dX11_weighFirst_22 rfl ?_
          refine q_getV C flX11_179 dX11_weighFirst_23 ok11 rfl hs.1 ?_
          refine r_icmpN_ge C dX11_weighFirst_26 (by omega) (by omega) (fun _ => ?_) (fun cc => absurd cc (by omega))
          refine r_iload C dX11_weighFirst_65 rfl ?_
          refine r_iload_n C dX11_weighFirst_67 rfl ?_
          by_cases hb : wbV (fun m => wcF (gSh g).2.1 (gSh g).2.2.1 (gSh g).2.2.2.1 m (gSh g).1) (wbF (fun m => wcF (gSh g).2.1 (gSh g).2.2.1 (gSh g).2.2.2.1 m (gSh g).1) m) < wcF (gSh g).2.1 (gSh g).2.2.1 (gSh g).2.2.2.1 m (gSh g).1
          · rw [if_pos hb] at ih2
            refine r_icmpN_le C dX11_weighFirst_68 (by omega) (by omega) (fun cc => absurd cc (by omega)) (fun _ => ?_)
            refine r_iload_n C dX11_weighFirst_71 rfl ?_
            refine r_goto C dX11_weighFirst_72 ?_
            refine r_istore_n C dX11_weighFirst_76 st1 ?_
            refine r_iload C dX11_weighFirst_77 rfl ?_
            refine r_iload_n C dX11_weighFirst_79 rfl ?_
            refine r_icmpN_le C dX11_weighFirst_80 (by omega) (by omega) (fun cc => absurd cc (by omega)) (fun _ => ?_)
            refine r_iload C dX11_weighFirst_83 rfl ?_
            refine r_goto C dX11_weighFirst_85 ?_
            refine r_istore_n C dX11_weighFirst_89 st2 ?_
            first | refine r_iincN C dX11_weighFirst_90 rfl st3 ?_ | refine r_iinc C dX11_weighFirst_90 rfl rfl st3 ?_
            refine r_goto C dX11_weighFirst_93 ?_
            exact wa_loc (by simp [lsub, opI, wbV]) ih2
          · rw [if_neg hb] at ih2
            refine r_icmpN_le C dX11_weighFirst_68 (by omega) (by omega) (fun _ => ?_) (fun cc => absurd cc (by omega))
            refine r_iload_n C dX11_weighFirst_75 rfl ?_
            refine r_istore_n C dX11_weighFirst_76 st1 ?_
            refine r_iload C dX11_weighFirst_77 rfl ?_
            refine r_iload_n C dX11_weighFirst_79 rfl ?_
            refine r_icmpN_le C dX11_weighFirst_80 (by omega) (by omega) (fun _ => ?_) (fun cc => absurd cc (by omega))
            refine r_iload_n C dX11_weighFirst_88 rfl ?_
            refine r_istore_n C dX11_weighFirst_89 st2 ?_
            first | refine r_iincN C dX11_weighFirst_90 rfl st3 ?_ | refine r_iinc C dX11_weighFirst_90 rfl rfl st3 ?_
            refine r_goto C dX11_weighFirst_93 ?_
            exact wa_loc (by simp [lsub, opI, wbV]) ih2
        | succ k2 ih3 =>
          intro i hi
          obtain ⟨g1, g2, g3, g4, g5⟩ := hs.2.2 i (by omega)
          have ih4 := ih3 (i + 1) (by omega)
          rw [wcF] at ih4
          refine r_iload C dX11_weighFirst_20 rfl ?_
          refine r_aload_n C dX11_weighFirst_22 rfl ?_
          refine q_getV C flX11_179 dX11_weighFirst_23 ok11 rfl hs.1 ?_
          refine r_icmpN_ge C dX11_weighFirst_26 (by omega) (by omega) (fun cc => absurd cc (by omega)) (fun _ => ?_)
          refine r_iload C dX11_weighFirst_29 rfl ?_
          refine r_aload_n C dX11_weighFirst_31 rfl ?_
          refine r_getR C flX11_60 dX11_weighFirst_32 ok11 rfl rfl ?_
          refine r_iload C dX11_weighFirst_35 rfl ?_
          refine q_ialdV (m := 8) C dX11_weighFirst_37 ok54 rfl rfl (by omega) g1 ?_
          refine r_iload_n C dX11_weighFirst_38 rfl ?_
          have add : ∀ y, wcF (gSh g).2.1 (gSh g).2.2.1 (gSh g).2.2.2.1 m i + y = (if (gSh g).2.2.2.1 i ≤ (gSh g).2.2.1 i ∧ (gSh g).2.1 i = m then wcF (gSh g).2.1 (gSh g).2.2.1 (gSh g).2.2.2.1 m i + 1 else wcF (gSh g).2.1 (gSh g).2.2.1 (gSh g).2.2.2.1 m i) → Wa E G 243 (Rs a b) h (QQ E G 243 (qst a b h (opI (wbF (fun m => wcF (gSh g).2.1 (gSh g).2.2.1 (gSh g).2.2.2.1 m (gSh g).1) (gNn g 1))))) 56 [some (aR 11 0), some (aI (opI (wbF (fun m => wcF (gSh g).2.1 (gSh g).2.2.1 (gSh g).2.2.2.1 m (gSh g).1) m))), some (aI (nI (wbV (fun m => wcF (gSh g).2.1 (gSh g).2.2.1 (gSh g).2.2.2.1 m (gSh g).1) (wbF (fun m => wcF (gSh g).2.1 (gSh g).2.2.1 (gSh g).2.2.2.1 m (gSh g).1) m)))), some (aI (nI m)), some (aI (nI (wcF (gSh g).2.1 (gSh g).2.2.1 (gSh g).2.2.2.1 m i))), some (aI (nI i))] [aI (nI y), aI (nI (wcF (gSh g).2.1 (gSh g).2.2.1 (gSh g).2.2.2.1 m i))] := by
            intro y hy
            refine r_iaddN C dX11_weighFirst_56 ?_
            rw [hy]
            refine r_istore C dX11_weighFirst_57 st4 ?_
            first | refine r_iincN C dX11_weighFirst_59 rfl st5 ?_ | refine r_iinc C dX11_weighFirst_59 rfl rfl st5 ?_
            refine r_goto C dX11_weighFirst_62 ?_
            exact ih4
          refine r_icmpN_ne C dX11_weighFirst_39 (by omega) (by omega) (fun c39 => ?_) (fun c39 => ?_)
          · refine r_iconst (v := (nI 0)) C dX11_weighFirst_55 (by decide) ?_
            exact add 0 (by rw [if_neg (fun z => c39 z.2)]; rfl)
          · refine r_aload_n C dX11_weighFirst_42 rfl ?_
            refine r_iload C dX11_weighFirst_43 rfl ?_
            refine r_callV C (m_isBehind hs (by omega)) dX11_weighFirst_45 cw_X11_isBehind cvX11_275 (by omega) ok11 rfl hN rfl (Nat.le_of_ble_eq_true rfl) ?_
            rintro v R' h1 ⟨rfl, rfl, rfl⟩
            by_cases hb : (gSh g).2.2.2.1 i ≤ (gSh g).2.2.1 i
            · rw [if_pos hb]
              refine r_if_ne C dX11_weighFirst_48 (fun cc => absurd cc (by exact fun z => z rfl)) (fun _ => ?_)
              refine r_iconst (v := (nI 1)) C dX11_weighFirst_51 (by decide) ?_
              refine r_goto C dX11_weighFirst_52 ?_
              exact add 1 (by rw [if_pos ⟨hb, c39⟩])
            · rw [if_neg hb]
              refine r_if_ne C dX11_weighFirst_48 (fun _ => ?_) (fun cc => absurd cc (by decide))
              refine r_iconst (v := (nI 0)) C dX11_weighFirst_55 (by decide) ?_
              exact add 0 (by rw [if_neg (fun z => hb z.1)]; rfl)
      exact inner (gSh g).1 0 (by omega)
  exact outer (gNn g 1) 0 (by omega)
