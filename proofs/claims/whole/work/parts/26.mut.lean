theorem idq_cnt : ∀ i, i < 243 → (idq i).2 < cnt (idq i).1 := by decide +kernel
theorem wsl_congr {E : Ev} {n : Nat} {R R' : RF} {h : HF} (hn : n ≤ 243) (hR : ∀ k j, j < cnt k → R k j = R' k j) : wsl E n R h = wsl E n R' h := by
  unfold wsl
  apply List.map_congr_left
  intro i hi
  have hi2 : i < n := List.mem_range.mp hi
  rw [hR _ _ (idq_cnt i (by omega))]
theorem wa_R {E : Ev} {G : Gv} {n pc : Nat} {R R' : RF} {h : HF} {Q : State → Prop} {L : List (Option AV)} {st : List AV} (hn : n ≤ 243) (hR : ∀ k j, j < cnt k → R k j = R' k j) (kk : Wa E G n R' h Q pc L st) : Wa E G n R h Q pc L st := by
  intro H locs ls hP hS hl
  refine kk H locs ls ?_ hS hl
  unfold Rp at hP ⊢
  rw [← wsl_congr hn hR]
  exact hP
theorem swapR (a b : Nat) : ∀ k j, j < cnt k → putR (putR (Rs a b) 10 0 2 (some (8, b))) 10 0 3 (some (8, a)) k j = Rs b a k j := by
  intro k j hj
  by_cases hk : k = 10
  · subst hk
    have hj0 : j = 0 := by
      have : j < 1 := hj
      omega
    subst hj0
    funext i
    simp only [putR]
    by_cases h2 : i = 2
    · subst h2; rfl
    · by_cases h3 : i = 3
      · subst h3; rfl
      · simp only [h2, h3, if_true, if_false]
        match i, h2, h3 with
        | 0, _, _ => rfl
        | 1, _, _ => rfl
        | 2, h, _ => exact absurd rfl h
        | 3, _, h => exact absurd rfl h
        | 4, _, _ => rfl
        | 5, _, _ => rfl
        | 6, _, _ => rfl
        | 7, _, _ => rfl
        | 8, _, _ => rfl
        | 9, _, _ => rfl
        | i + 10, _, _ => rfl
  · funext i
    simp only [putR, hk, if_false]
    unfold Rs
    split <;> first | rfl | exact absurd rfl hk
theorem sgk_cases {k : Nat} (hk : sgK k = true) : k = 1 ∨ k = 14 ∨ k = 15 ∨ k = 6 ∨ k = 23 ∨ k = 24 ∨ k = 25 := by
  simp only [sgK, Bool.or_eq_true, beq_iff_eq] at hk
  omega
theorem s7_sXc : ∀ k j, s7 k j = true → sXc k j = true := by
  intro k j hh
  simp only [s7, Bool.or_eq_true, beq_iff_eq] at hh
  rcases hh with rfl | rfl <;> rfl
theorem s5_sXc : ∀ k j, s5 k j = true → sXc k j = true := by
  intro k j hh
  simp only [s5, Bool.or_eq_true, beq_iff_eq] at hh
  rcases hh with ((((rfl | rfl) | rfl) | rfl) | rfl) | rfl <;> rfl
theorem s0_sXc : ∀ k j, s0 k j = true → sXc k j = true := by
  intro k j hh
  simp only [s0, Bool.or_eq_true, beq_iff_eq] at hh
  rcases hh with (rfl | rfl) | rfl <;> rfl
/-- the siege that is, the log, the seed -/
def sNL : Nat → Nat → Bool := fun k j => k == 3 || k == 10 || (sgK k && decide (j ≤ 20))
theorem sNL_sXc : ∀ k j, sNL k j = true → sXc k j = true := by
  intro k j hh
  simp only [sNL, Bool.or_eq_true, Bool.and_eq_true, beq_iff_eq] at hh
  rcases hh with (rfl | rfl) | ⟨hk, -⟩
  · rfl
  · rfl
  · rcases sgk_cases hk with rfl | rfl | rfl | rfl | rfl | rfl | rfl <;> rfl
theorem sLg_sNL : ∀ k j, sLg k j = true → sNL k j = true := by
  intro k j hh
  simp only [sLg, Bool.or_eq_true, Bool.and_eq_true, decide_eq_true_eq] at hh
  rcases hh with z | ⟨z, z2⟩
  · simp [sNL, z]
  · simp [sNL, z, z2.2]
theorem sUn_sNL : ∀ k j, sUn k j = true → sNL k j = true := by
  intro k j hh
  simp only [sUn, Bool.or_eq_true, Bool.and_eq_true, beq_iff_eq] at hh
  rcases hh with z | ⟨z, z2⟩
  · simp [sNL, z]
  · simp [sNL, z, z2]
theorem sS0_sNL : ∀ k j, sS 0 k j = true → sNL k j = true := fun k j z => sUn_sNL k j (sS_sUn k j z)
theorem CP.nl {h h' : HF} {a : Nat} {g : Gs} {s : Sv} {u : Nat × (Nat → Sv)} (f : Fr sNL h h') (hfp : h' 10 0 11 = h 10 0 11) (c : CP h a g) (p3 : P3 h' s) (p4 : P4 h' u) : CP h' a (gX g, gLn g, gFp g, gNn g, gT g, s, u, gI g, gSh g, gBk g) :=
  ⟨⟨c.1.1.fr f rfl rfl, hfp.trans c.1.2⟩, c.2.1.fr f (fun k hk => by
    have h1 : (k == 3) = false ∧ (k == 10) = false ∧ sgK k = false := ⟨by simp; omega, by simp; omega, by simp [sgK]; omega⟩
    simp [sNL, h1]), p3, p4, c.2.2.2.2.1.fr f (fun i _ => rfl) (fun k j hk hj _ => by
    rcases sgk_cases hk with rfl | rfl | rfl | rfl | rfl | rfl | rfl <;> (simp [sNL, sgK]; omega)), c.2.2.2.2.2.1.fr f rfl rfl rfl rfl rfl, c.2.2.2.2.2.2.fr f rfl rfl rfl⟩
def feedF (g : Gs) (x : Int32) : Int32 × Gs := if nI 0 ≤ x ∧ x ≤ nI 255 then (if gLn g < 240 then (nI (gLn g + 1), va_up (gX g) (gLn g) x, gLn g + 1, gFp g, gNn g, gT g, gSv g, gU g, gI g, gSh g, gBk g) else (cF, g)) else (cO, g)
set_option maxRecDepth 100000 in
set_option maxHeartbeats 4000000 in
theorem c_feed {E : Ev} {a b : Nat} {h : HF} {g : Gs} {x : Int32} (hc : CP h a g) : Ct E 1 yX10_feed cX10_feed 2 (some .int) [aR 10 0, aI x] 243 (Rs a b) h 243 (qry a b (feedF g x).2 h (feedF g x).1) := by
  refine Ct.of 0 (L0 := [some (aR 10 0), some (aI x)]) (by decide) ⟨Nat.le_refl _, Nat.le_refl _⟩ rfl rfl ?_
  intro G C hg hrt hnm
  have hN : gn G ≤ 243 ∧ 243 ≤ 243 ∧ 243 ≤ 243 := ⟨by omega, by decide, by decide⟩
  have p1 := hc.1.1
  have hle := p1.2.1
  refine r_iload_n C dX10_feed_0 rfl ?_
  refine r_iconst (v := (nI 0)) C dX10_feed_1 (by decide) ?_
  refine r_sipush (v := (nI 255)) C dX10_feed_2 (by decide) ?_
  refine r_callS C c_isWithin dX10_feed_5 cw_X10_isWithin csX10_82 (by omega) rfl hN rfl (Nat.le_of_ble_eq_true rfl) ?_
  rintro v R' h1 ⟨rfl, rfl, rfl⟩
  by_cases hx : nI 0 ≤ x ∧ x ≤ nI 255
  · rw [if_pos hx, feedF, if_pos hx]
    refine r_if_ne C dX10_feed_8 (fun _ => ?_) (fun cc => absurd cc (by decide))
    refine r_aload_n C dX10_feed_14 rfl ?_
    refine r_getR C flX10_10 dX10_feed_15 ok10 rfl rfl ?_
    refine q_getV C flX10_87 dX10_feed_18 ok7 rfl p1.1 ?_
    refine r_sipush (v := (nI 240)) C dX10_feed_21 (by decide) ?_
    refine r_icmpN_lt C dX10_feed_24 (by omega) (by omega) (fun c24 => ?_) (fun c24 => ?_)
    · rw [if_pos c24]
      refine r_aload_n C dX10_feed_30 rfl ?_
      refine r_getR C flX10_10 dX10_feed_31 ok10 rfl rfl ?_
      refine r_iload_n C dX10_feed_34 rfl ?_
      refine r_callV C (c_append p1 c24) dX10_feed_35 cw_X7_append cvX10_91 (by omega) ok7 rfl hN rfl (Nat.le_of_ble_eq_true rfl) ?_
      rintro v R' h2 ⟨rfl, rfl, t2, f2⟩
      refine r_aload_n C dX10_feed_38 rfl ?_
      refine r_getR C flX10_10 dX10_feed_39 ok10 rfl rfl ?_
      refine q_getV C flX10_87 dX10_feed_42 ok7 rfl t2.1 ?_
      refine r_iret C hrt dX10_feed_45 ?_
      refine ⟨rfl, rfl, ⟨⟨t2, by rw [f2 10 0 rfl]; exact hc.1.2⟩, hc.2.1.fr f2 (fun k hk => by simp [s7]; omega), hc.2.2.1.fr f2 (fun k hk => by rcases sgk_cases hk with rfl | rfl | rfl | rfl | rfl | rfl | rfl <;> rfl) rfl, hc.2.2.2.1.fr f2 rfl (fun k j hk _ _ => by rcases sgk_cases hk with rfl | rfl | rfl | rfl | rfl | rfl | rfl <;> rfl), hc.2.2.2.2.1.fr f2 (fun _ _ => rfl) (fun k j hk _ _ => by rcases sgk_cases hk with rfl | rfl | rfl | rfl | rfl | rfl | rfl <;> rfl), hc.2.2.2.2.2.1.fr f2 rfl rfl rfl rfl rfl, hc.2.2.2.2.2.2.fr f2 rfl rfl rfl⟩, f2.wk s7_sXc⟩
    · rw [if_neg (by omega)]
      refine r_ldc C dX10_feed_27 kX10_90 ?_
      refine r_iret C hrt dX10_feed_29 ?_
      exact ⟨rfl, rfl, hc, Fr.rf⟩
  · rw [if_neg hx, feedF, if_neg hx]
    refine r_if_ne C dX10_feed_8 (fun cc => absurd cc (by exact fun z => z rfl)) (fun _ => ?_)
    refine r_ldc C dX10_feed_11 kX10_86 ?_
    refine r_iret C hrt dX10_feed_13 ?_
    exact ⟨rfl, rfl, hc, Fr.rf⟩
def showG (g : Gs) (m : Nat) (d s w : Int32) : Gs := (gX g, gLn g, gFp g, gNn g, gT g, gSv g, gU g, gI g, ((gSh g).1 + 1, va_up (gSh g).2.1 (gSh g).1 m, va_up (gSh g).2.2.1 (gSh g).1 d, va_up (gSh g).2.2.2.1 (gSh g).1 s, va_up (gSh g).2.2.2.2 (gSh g).1 w), gBk g)
def showF (g : Gs) (m d s w : Int32) : Int32 × Gs := match ixO m (gNn g 1) with
  | none => (cU, g)
  | some i => if (nI 0 ≤ d ∧ d ≤ nI 99) ∧ (nI 0 ≤ s ∧ s ≤ nI 99) ∧ (nI 0 ≤ w ∧ w ≤ nI 99) then (if (gSh g).1 < 8 then (nI ((gSh g).1 + 1), showG g i d s w) else (cF, g)) else (cO, g)
set_option maxRecDepth 100000 in
set_option maxHeartbeats 4000000 in
theorem c_show {E : Ev} {a b : Nat} {h : HF} {g : Gs} {m d s w : Int32} (ha : a < 2) (hc : CP h a g) : Ct E 2 yX10_show cX10_show 5 (some .int) [aR 10 0, aI m, aI d, aI s, aI w] 243 (Rs a b) h 243 (qry a b (showF g m d s w).2 h (showF g m d s w).1) := by
  refine Ct.of 0 (L0 := [some (aR 10 0), some (aI m), some (aI d), some (aI s), some (aI w)]) (by decide) ⟨Nat.le_refl _, Nat.le_refl _⟩ rfl rfl ?_
  intro G C hg hrt hnm
  have hN : gn G ≤ 243 ∧ 243 ≤ 243 ∧ 243 ≤ 243 := ⟨by omega, by decide, by decide⟩
  have p2 := hc.2.1
  obtain ⟨p6, p6b⟩ := hc.2.2.2.2.2.1
  have hle := p6.2.1
  have hT : a < 2 := ha
  refine r_aload_n C dX10_show_0 rfl ?_
  refine r_iload_n C dX10_show_1 rfl ?_
  refine r_callV C (c_isMoney hT p2) dX10_show_2 cw_X10_isMoney cvX10_185 (by omega) ok10 rfl hN rfl (Nat.le_of_ble_eq_true rfl) ?_
  rintro v R' h1 ⟨rfl, rfl, rfl⟩
  cases hx : ixO m (gNn g 1) with
  | none =>
    rw [showF, hx, ixB_n hx]
    refine r_if_ne C dX10_show_5 (fun cc => absurd cc (by exact fun z => z rfl)) (fun _ => ?_)
    refine r_ldc C dX10_show_8 kX10_168 ?_
    refine r_iret C hrt dX10_show_10 ?_
    exact ⟨rfl, rfl, hc, Fr.rf⟩
  | some i =>
    obtain ⟨hi, rfl⟩ := ixO_some hx
    rw [showF, hx, ixB_s hx]
    show Wa E G 243 (Rs a b) h1 (QQ E G 243 (qry a b (if _ then _ else _ : Int32 × Gs).2 h1 (if _ then _ else _ : Int32 × Gs).1)) _ _ _
    refine r_if_ne C dX10_show_5 (fun _ => ?_) (fun cc => absurd cc (by decide))
    have bad : ¬ ((nI 0 ≤ d ∧ d ≤ nI 99) ∧ (nI 0 ≤ s ∧ s ≤ nI 99) ∧ (nI 0 ≤ w ∧ w ≤ nI 99)) → Wa E G 243 (Rs a b) h1 (QQ E G 243 (qry a b (if (nI 0 ≤ d ∧ d ≤ nI 99) ∧ (nI 0 ≤ s ∧ s ≤ nI 99) ∧ (nI 0 ≤ w ∧ w ≤ nI 99) then (if (gSh g).1 < 8 then (nI ((gSh g).1 + 1), showG g i d s w) else (cF, g)) else (cO, g)).2 h1 (if (nI 0 ≤ d ∧ d ≤ nI 99) ∧ (nI 0 ≤ s ∧ s ≤ nI 99) ∧ (nI 0 ≤ w ∧ w ≤ nI 99) then (if (gSh g).1 < 8 then (nI ((gSh g).1 + 1), showG g i d s w) else (cF, g)) else (cO, g)).1)) 42 [some (aR 10 0), some (aI (nI i)), some (aI d), some (aI s), some (aI w)] [] := by
      intro hb
      rw [if_neg hb]
      refine r_ldc C dX10_show_42 kX10_86 ?_
      refine r_iret C hrt dX10_show_44 ?_
      exact ⟨rfl, rfl, hc, Fr.rf⟩
    refine r_iload_n C dX10_show_11 rfl ?_
    refine r_iconst (v := (nI 0)) C dX10_show_12 (by decide) ?_
    refine r_bipush (v := (nI 99)) C dX10_show_13 (by decide) ?_
    refine r_callS C c_isWithin dX10_show_15 cw_X10_isWithin csX10_82 (by omega) rfl hN rfl (Nat.le_of_ble_eq_true rfl) ?_
    rintro v R' h2 ⟨rfl, rfl, rfl⟩
    by_cases q1 : nI 0 ≤ d ∧ d ≤ nI 99
    · rw [if_pos q1]
      refine r_if_eq C dX10_show_18 (fun cc => absurd cc (by decide)) (fun _ => ?_)
      refine r_iload_n C dX10_show_21 rfl ?_
      refine r_iconst (v := (nI 0)) C dX10_show_22 (by decide) ?_
      refine r_bipush (v := (nI 99)) C dX10_show_23 (by decide) ?_
      refine r_callS C c_isWithin dX10_show_25 cw_X10_isWithin csX10_82 (by omega) rfl hN rfl (Nat.le_of_ble_eq_true rfl) ?_
      rintro v R' h3 ⟨rfl, rfl, rfl⟩
      by_cases q2 : nI 0 ≤ s ∧ s ≤ nI 99
      · rw [if_pos q2]
        refine r_if_eq C dX10_show_28 (fun cc => absurd cc (by decide)) (fun _ => ?_)
        refine r_iload C dX10_show_31 rfl ?_
        refine r_iconst (v := (nI 0)) C dX10_show_33 (by decide) ?_
        refine r_bipush (v := (nI 99)) C dX10_show_34 (by decide) ?_
        refine r_callS C c_isWithin dX10_show_36 cw_X10_isWithin csX10_82 (by omega) rfl hN rfl (Nat.le_of_ble_eq_true rfl) ?_
        rintro v R' h4 ⟨rfl, rfl, rfl⟩
        by_cases q3 : nI 0 ≤ w ∧ w ≤ nI 99
        · rw [if_pos q3, if_pos ⟨q1, q2, q3⟩]
          refine r_if_ne C dX10_show_39 (fun _ => ?_) (fun cc => absurd cc (by decide))
          refine r_aload_n C dX10_show_45 rfl ?_
          refine r_getR C flX10_63 dX10_show_46 ok10 rfl rfl ?_
          refine q_getV C flX10_118 dX10_show_49 ok5 rfl p6.1 ?_
          refine r_bipush (v := (nI 8)) C dX10_show_52 (by decide) ?_
          refine r_icmpN_lt C dX10_show_54 (by omega) (by omega) (fun c54 => ?_) (fun c54 => ?_)
          · rw [if_pos c54]
            refine r_aload_n C dX10_show_60 rfl ?_
            refine r_getR C flX10_63 dX10_show_61 ok10 rfl rfl ?_
            refine r_iload_n C dX10_show_64 rfl ?_
            refine r_iload_n C dX10_show_65 rfl ?_
            refine r_iload_n C dX10_show_66 rfl ?_
            refine r_iload C dX10_show_67 rfl ?_
            refine r_callV C (c_shownAdd p6 c54) dX10_show_69 cw_X5_add cvX10_284 (by omega) ok5 rfl hN rfl (Nat.le_of_ble_eq_true rfl) ?_
            rintro v R' h5 ⟨rfl, rfl, s5', f5⟩
            refine r_aload_n C dX10_show_72 rfl ?_
            refine r_getR C flX10_63 dX10_show_73 ok10 rfl rfl ?_
            refine q_getV C flX10_118 dX10_show_76 ok5 rfl s5'.1 ?_
            refine r_iret C hrt dX10_show_79 ?_
            refine ⟨rfl, rfl, ⟨hc.1.fr f5 rfl rfl rfl, hc.2.1.fr f5 (fun k hk => by simp [s5]; omega), hc.2.2.1.fr f5 (fun k hk => by rcases sgk_cases hk with rfl | rfl | rfl | rfl | rfl | rfl | rfl <;> rfl) rfl, hc.2.2.2.1.fr f5 rfl (fun k j hk _ _ => by rcases sgk_cases hk with rfl | rfl | rfl | rfl | rfl | rfl | rfl <;> rfl), hc.2.2.2.2.1.fr f5 (fun _ _ => rfl) (fun k j hk _ _ => by rcases sgk_cases hk with rfl | rfl | rfl | rfl | rfl | rfl | rfl <;> rfl), ⟨s5', fun j hj => ?_⟩, hc.2.2.2.2.2.2.fr f5 rfl rfl rfl⟩, f5.wk s5_sXc⟩
            have hj2 : j < (gSh g).1 + 1 := hj
            show va_up (gSh g).2.1 (gSh g).1 i j < gNn g 1
            by_cases e : j = (gSh g).1
            · rw [e, va_up_self]; exact hi
            · rw [va_up_ne _ _ e]; exact p6b j (by omega)
          · rw [if_neg (by omega)]
            refine r_ldc C dX10_show_57 kX10_90 ?_
            refine r_iret C hrt dX10_show_59 ?_
            exact ⟨rfl, rfl, hc, Fr.rf⟩
        · have hb := bad (fun z => q3 z.2.2)
          rw [if_neg (fun z => q3 z.2.2)] at hb ⊢
          rw [if_neg q3]
          refine r_if_ne C dX10_show_39 (fun cc => absurd cc (by exact fun z => z rfl)) (fun _ => ?_)
          exact hb
      · have hb := bad (fun z => q2 z.2.1)
        rw [if_neg (fun z => q2 z.2.1)] at hb ⊢
        rw [if_neg q2]
        refine r_if_eq C dX10_show_28 (fun _ => ?_) (fun cc => absurd cc (by exact fun z => z rfl))
        exact hb
    · have hb := bad (fun z => q1 z.1)
      rw [if_neg (fun z => q1 z.1)] at hb ⊢
      rw [if_neg q1]
      refine r_if_eq C dX10_show_18 (fun _ => ?_) (fun cc => absurd cc (by exact fun z => z rfl))
      exact hb
def writG (g : Gs) (c : Nat) (m : Int32) : Gs := (gX g, gLn g, gFp g, gNn g, gT g, gSv g, gU g, gI g, gSh g, ((gBk g).1 + 1, va_up (gBk g).2.1 (gBk g).1 c, va_up (gBk g).2.2 (gBk g).1 m))
def writF (g : Gs) (c m : Int32) : Int32 × Gs := match ixO c (gNn g 0) with
  | none => (cU, g)
  | some i => if nI 0 ≤ m ∧ m ≤ nI 99 then (if (gBk g).1 < 15 then (nI ((gBk g).1 + 1), writG g i m) else (cF, g)) else (cO, g)
set_option maxRecDepth 100000 in
set_option maxHeartbeats 4000000 in
theorem c_write {E : Ev} {a b : Nat} {h : HF} {g : Gs} {c m : Int32} (ha : a < 2) (hc : CP h a g) : Ct E 2 yX10_write cX10_write 3 (some .int) [aR 10 0, aI c, aI m] 243 (Rs a b) h 243 (qry a b (writF g c m).2 h (writF g c m).1) := by
  refine Ct.of 0 (L0 := [some (aR 10 0), some (aI c), some (aI m)]) (by decide) ⟨Nat.le_refl _, Nat.le_refl _⟩ rfl rfl ?_
  intro G C hg hrt hnm
  have hN : gn G ≤ 243 ∧ 243 ≤ 243 ∧ 243 ≤ 243 := ⟨by omega, by decide, by decide⟩
  have p2 := hc.2.1
  obtain ⟨p7, p7b⟩ := hc.2.2.2.2.2.2
  have hle := p7.2.1
  have hT : a < 2 := ha
  refine r_aload_n C dX10_write_0 rfl ?_
  refine r_iload_n C dX10_write_1 rfl ?_
  refine r_callV C (c_isCompany hT p2) dX10_write_2 cw_X10_isCompany cvX10_164 (by omega) ok10 rfl hN rfl (Nat.le_of_ble_eq_true rfl) ?_
  rintro v R' h1 ⟨rfl, rfl, rfl⟩
  cases hx : ixO c (gNn g 0) with
  | none =>
    rw [writF, hx, ixB_n hx]
    refine r_if_ne C dX10_write_5 (fun cc => absurd cc (by exact fun z => z rfl)) (fun _ => ?_)
    refine r_ldc C dX10_write_8 kX10_168 ?_
    refine r_iret C hrt dX10_write_10 ?_
    exact ⟨rfl, rfl, hc, Fr.rf⟩
  | some i =>
    obtain ⟨hi, rfl⟩ := ixO_some hx
    rw [writF, hx, ixB_s hx]
    show Wa E G 243 (Rs a b) h1 (QQ E G 243 (qry a b (if _ then _ else _ : Int32 × Gs).2 h1 (if _ then _ else _ : Int32 × Gs).1)) _ _ _
    refine r_if_ne C dX10_write_5 (fun _ => ?_) (fun cc => absurd cc (by decide))
    refine r_iload_n C dX10_write_11 rfl ?_
    refine r_iconst (v := (nI 0)) C dX10_write_12 (by decide) ?_
    refine r_bipush (v := (nI 99)) C dX10_write_13 (by decide) ?_
    refine r_callS C c_isWithin dX10_write_15 cw_X10_isWithin csX10_82 (by omega) rfl hN rfl (Nat.le_of_ble_eq_true rfl) ?_
    rintro v R' h2 ⟨rfl, rfl, rfl⟩
    by_cases q1 : nI 0 ≤ m ∧ m ≤ nI 99
    · rw [if_pos q1, if_pos q1]
      refine r_if_ne C dX10_write_18 (fun _ => ?_) (fun cc => absurd cc (by decide))
      refine r_aload_n C dX10_write_24 rfl ?_
      refine r_getR C flX10_70 dX10_write_25 ok10 rfl rfl ?_
      refine q_getV C flX10_121 dX10_write_28 ok0 rfl p7.1 ?_
      refine r_bipush (v := (nI 15)) C dX10_write_31 (by decide) ?_
      refine r_icmpN_lt C dX10_write_33 (by omega) (by omega) (fun c33 => ?_) (fun c33 => ?_)
      · rw [if_pos c33]
        refine r_aload_n C dX10_write_39 rfl ?_
        refine r_getR C flX10_70 dX10_write_40 ok10 rfl rfl ?_
        refine r_iload_n C dX10_write_43 rfl ?_
        refine r_iload_n C dX10_write_44 rfl ?_
        refine r_callV C (c_bookAdd p7 c33) dX10_write_45 cw_X0_add cvX10_295 (by omega) ok0 rfl hN rfl (Nat.le_of_ble_eq_true rfl) ?_
        rintro v R' h3 ⟨rfl, rfl, b3, f3⟩
        refine r_aload_n C dX10_write_48 rfl ?_
        refine r_getR C flX10_70 dX10_write_49 ok10 rfl rfl ?_
        refine q_getV C flX10_121 dX10_write_52 ok0 rfl b3.1 ?_
        refine r_iret C hrt dX10_write_55 ?_
        refine ⟨rfl, rfl, ⟨hc.1.fr f3 rfl rfl rfl, hc.2.1.fr f3 (fun k hk => by simp [s0]; omega), hc.2.2.1.fr f3 (fun k hk => by rcases sgk_cases hk with rfl | rfl | rfl | rfl | rfl | rfl | rfl <;> rfl) rfl, hc.2.2.2.1.fr f3 rfl (fun k j hk _ _ => by rcases sgk_cases hk with rfl | rfl | rfl | rfl | rfl | rfl | rfl <;> rfl), hc.2.2.2.2.1.fr f3 (fun _ _ => rfl) (fun k j hk _ _ => by rcases sgk_cases hk with rfl | rfl | rfl | rfl | rfl | rfl | rfl <;> rfl), hc.2.2.2.2.2.1.fr f3 rfl rfl rfl rfl rfl, ⟨b3, fun j hj => ?_⟩⟩, f3.wk s0_sXc⟩
        have hj2 : j < (gBk g).1 + 1 := hj
        show va_up (gBk g).2.1 (gBk g).1 i j < gNn g 0
        by_cases e : j = (gBk g).1
        · rw [e, va_up_self]; exact hi
        · rw [va_up_ne _ _ e]; exact p7b j (by omega)
      · rw [if_neg (by omega)]
        refine r_ldc C dX10_write_36 kX10_90 ?_
        refine r_iret C hrt dX10_write_38 ?_
        exact ⟨rfl, rfl, hc, Fr.rf⟩
    · rw [if_neg q1, if_neg q1]
      refine r_if_ne C dX10_write_18 (fun cc => absurd cc (by exact fun z => z rfl)) (fun _ => ?_)
      refine r_ldc C dX10_write_21 kX10_86 ?_
      refine r_iret C hrt dX10_write_23 ?_
      exact ⟨rfl, rfl, hc, Fr.rf⟩
def tearG (g : Gs) : Gs := (gX g, gLn g, gFp g, gNn g, gT g, gSv g, gU g, gI g, (0, (gSh g).2), (0, (gBk g).2))
def s50 : Nat → Nat → Bool := fun k _ => k == 5 || k == 0
set_option maxRecDepth 100000 in
set_option maxHeartbeats 4000000 in
theorem c_tear {E : Ev} {a b : Nat} {h : HF} {g : Gs} (hc : CP h a g) : Ct E 0 yX10_tear cX10_tear 2 (some .int) [aR 10 0] 243 (Rs a b) h 243 (qry a b (tearG g) h (nI ((gSh g).1 + (gBk g).1))) := by
  refine Ct.of 1 (L0 := [some (aR 10 0), none]) (by decide) ⟨Nat.le_refl _, Nat.le_refl _⟩ rfl rfl ?_
  intro G C hg hrt hnm
  have hN : gn G ≤ 243 ∧ 243 ≤ 243 ∧ 243 ≤ 243 := ⟨by omega, by decide, by decide⟩
  obtain ⟨p6, p6b⟩ := hc.2.2.2.2.2.1
  obtain ⟨p7, p7b⟩ := hc.2.2.2.2.2.2
  refine r_aload_n C dX10_tear_0 rfl ?_
  refine r_getR C flX10_63 dX10_tear_1 ok10 rfl rfl ?_
  refine q_getV C flX10_118 dX10_tear_4 ok5 rfl p6.1 ?_
  refine r_aload_n C dX10_tear_7 rfl ?_
  refine r_getR C flX10_70 dX10_tear_8 ok10 rfl rfl ?_
  refine q_getV C flX10_121 dX10_tear_11 ok0 rfl p7.1 ?_
  first | refine r_iaddN C dX10_tear_14 ?_ | refine r_iadd C dX10_tear_14 ?_
  refine r_istore_n C dX10_tear_15 st1 ?_
  refine r_aload_n C dX10_tear_16 rfl ?_
  refine r_getR C flX10_63 dX10_tear_17 ok10 rfl rfl ?_
  refine r_iconst (v := (nI 0)) C dX10_tear_20 (by decide) ?_
  refine r_putI C flX10_118 dX10_tear_21 ok5 rfl ⟨rfl, rfl⟩ ?_
  refine r_aload_n C dX10_tear_24 rfl ?_
  refine r_getR C flX10_70 dX10_tear_25 ok10 rfl rfl ?_
  refine r_iconst (v := (nI 0)) C dX10_tear_28 (by decide) ?_
  refine r_putI C flX10_121 dX10_tear_29 ok0 rfl ⟨rfl, rfl⟩ ?_
  refine r_iload_n C dX10_tear_32 rfl ?_
  refine r_iret C hrt dX10_tear_33 ?_
  have f : Fr s50 h (put (put h 5 0 5 (nI 0)) 0 0 2 (nI 0)) := Fr.put (Fr.put Fr.rf rfl) rfl
  refine ⟨rfl, rfl, ⟨hc.1.fr f rfl rfl rfl, hc.2.1.fr f (fun k hk => by simp [s50]; omega), hc.2.2.1.fr f (fun k hk => by rcases sgk_cases hk with rfl | rfl | rfl | rfl | rfl | rfl | rfl <;> rfl) rfl, hc.2.2.2.1.fr f rfl (fun k j hk _ _ => by rcases sgk_cases hk with rfl | rfl | rfl | rfl | rfl | rfl | rfl <;> rfl), hc.2.2.2.2.1.fr f (fun _ _ => rfl) (fun k j hk _ _ => by rcases sgk_cases hk with rfl | rfl | rfl | rfl | rfl | rfl | rfl <;> rfl), ⟨⟨by rw [put_k (by decide), put_same]; rfl, Nat.zero_le _, fun i hi => absurd hi (Nat.not_lt_zero i)⟩, fun i hi => absurd hi (Nat.not_lt_zero i)⟩, ⟨⟨put_same, Nat.zero_le _, fun i hi => absurd hi (Nat.not_lt_zero i)⟩, fun i hi => absurd hi (Nat.not_lt_zero i)⟩⟩, Fr.put (Fr.put Fr.rf rfl) rfl⟩
