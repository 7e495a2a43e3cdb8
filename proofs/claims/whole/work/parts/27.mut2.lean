theorem sgp.up44 {h : HF} {j n : Nat} {s : Sv} {x : Int32} (hn : 44 ≤ n) (c : sgp h j s) : sgp h j (va_up s n x) := by
  obtain ⟨a0, a1, a2, a3, a4, a5, a6⟩ := c
  exact ⟨a0.up (by omega) (by omega) (by omega), by rw [va_up_ne _ _ (by omega)]; exact a1, by rw [va_up_ne _ _ (by omega)]; exact a2, by rw [va_up_ne _ _ (by omega)]; exact a3, fun m hm => by rw [va_up_ne _ _ (by omega)]; exact a4 m hm, fun m hm => by rw [va_up_ne _ _ (by omega)]; exact a5 m hm, fun m hm => by rw [va_up_ne _ _ (by omega)]; exact a6 m hm⟩
theorem sgp.put10 {h : HF} {j i : Nat} {s : Sv} {x : Int32} (c : sgp h j s) : sgp (put h 10 0 i x) j s := c.fr (S := fun k _ => k == 10) (Fr.put Fr.rf rfl) (fun k hk => by
    rcases hk with rfl | rfl | rfl | rfl | rfl | rfl | rfl <;> rfl)
theorem P4.put10 {h : HF} {i : Nat} {u : Nat × (Nat → Sv)} {x : Int32} (c : P4 h u) : P4 (put h 10 0 i x) u := c.fr (S := fun k _ => k == 10) (Fr.put Fr.rf rfl) rfl (fun k j hk _ _ => by
    rcases sgk_cases hk with rfl | rfl | rfl | rfl | rfl | rfl | rfl <;> rfl)
def setS (g : Gs) (s : Sv) (u : Nat × (Nat → Sv)) : Gs := (gX g, gLn g, gFp g, gNn g, gT g, s, u, gI g, gSh g, gBk g)
def seedF (g : Gs) (v : Int32) : Int32 × Gs := if 0 ≤ v then (gSv g 44, setS g (va_up (gSv g) 44 v) (gU g)) else (cO, g)
set_option maxRecDepth 100000 in
set_option maxHeartbeats 4000000 in
theorem c_seed {E : Ev} {a b : Nat} {h : HF} {g : Gs} {v : Int32} (hc : CP h a g) : Ct E 0 yX10_seed cX10_seed 3 (some .int) [aR 10 0, aI v] 243 (Rs a b) h 243 (qry a b (seedF g v).2 h (seedF g v).1) := by
  refine Ct.of 1 (L0 := [some (aR 10 0), some (aI v), none]) (by decide) ⟨Nat.le_refl _, Nat.le_refl _⟩ rfl rfl ?_
  intro G C hg hrt hnm
  have hN : gn G ≤ 243 ∧ 243 ≤ 243 ∧ 243 ≤ 243 := ⟨by omega, by decide, by decide⟩
  refine r_iload_n C dX10_seed_0 rfl ?_
  refine r_if_ge C dX10_seed_1 (fun c1 => ?_) (fun c1 => ?_)
  · rw [seedF, if_pos c1]
    refine r_aload_n C dX10_seed_7 rfl ?_
    refine q_getV C flX10_74 dX10_seed_8 ok10 rfl hc.2.2.1.2 ?_
    refine r_istore_n C dX10_seed_11 st2 ?_
    refine r_aload_n C dX10_seed_12 rfl ?_
    refine r_iload_n C dX10_seed_13 rfl ?_
    refine r_putI C flX10_74 dX10_seed_14 ok10 rfl ⟨rfl, rfl⟩ ?_
    refine r_iload_n C dX10_seed_17 rfl ?_
    refine r_iret C hrt dX10_seed_18 ?_
    exact ⟨rfl, rfl, CP.nl (s := va_up (gSv g) 44 v) (u := gU g) (Fr.put Fr.rf rfl) (put_i (by decide)) hc ⟨hc.2.2.1.1.put10.up44 (by decide), by rw [put_same, va_up_self]⟩ hc.2.2.2.1.put10, Fr.put Fr.rf rfl⟩
  · rw [seedF, if_neg c1]
    refine r_ldc C dX10_seed_4 kX10_86 ?_
    refine r_iret C hrt dX10_seed_6 ?_
    exact ⟨rfl, rfl, hc, Fr.rf⟩
def undoF (g : Gs) : Int32 × Gs := if (gU g).1 = 0 then (cN, g) else (nI ((gU g).1 - 1), setS g (va_up ((gU g).2 ((gU g).1 - 1)) 44 (gSv g 44)) ((gU g).1 - 1, (gU g).2))
set_option maxRecDepth 100000 in
set_option maxHeartbeats 4000000 in
theorem c_undo {E : Ev} {a b : Nat} {h : HF} {g : Gs} (hc : CP h a g) : Ct E 3 yX10_undo cX10_undo 1 (some .int) [aR 10 0] 243 (Rs a b) h 243 (qry a b (undoF g).2 h (undoF g).1) := by
  refine Ct.of 0 (L0 := [some (aR 10 0)]) (by decide) ⟨Nat.le_refl _, Nat.le_refl _⟩ rfl rfl ?_
  intro G C hg hrt hnm
  have hN : gn G ≤ 243 ∧ 243 ≤ 243 ∧ 243 ≤ 243 := ⟨by omega, by decide, by decide⟩
  obtain ⟨nx, hl⟩ := hc.2.2.2.1
  have hle := hl.2.2.2.1
  refine r_aload_n C dX10_undo_0 rfl ?_
  refine r_getR C flX10_43 dX10_undo_1 ok10 rfl rfl ?_
  refine q_getV C flX10_160 dX10_undo_4 ok3 rfl hl.2.1 ?_
  by_cases h0 : (gU g).1 = 0
  · rw [undoF, if_pos h0, h0]
    refine r_if_ne C dX10_undo_7 (fun cc => absurd cc (by exact fun z => z rfl)) (fun _ => ?_)
    refine r_ldc C dX10_undo_10 kX10_213 ?_
    refine r_iret C hrt dX10_undo_12 ?_
    exact ⟨rfl, rfl, hc, Fr.rf⟩
  · rw [undoF, if_neg h0]
    refine r_if_ne C dX10_undo_7 (fun _ => ?_) (fun cc => absurd cc (by exact fun z => nI_ne0 (by omega) (by omega) z))
    refine r_aload_n C dX10_undo_13 rfl ?_
    refine r_getR C flX10_43 dX10_undo_14 ok10 rfl rfl ?_
    refine r_aload_n C dX10_undo_17 rfl ?_
    refine r_getR C flX10_36 dX10_undo_18 ok10 rfl rfl ?_
    refine r_callV C (c_popInto hl (by omega)) dX10_undo_21 cw_X3_popInto cvX10_229 (by omega) ok3 rfl hN rfl (Nat.le_of_ble_eq_true rfl) ?_
    rintro v R' h1 ⟨rfl, rfl, ⟨nx', hl1⟩, hs1, hf1⟩
    refine r_aload_n C dX10_undo_24 rfl ?_
    refine r_getR C flX10_43 dX10_undo_25 ok10 rfl rfl ?_
    refine q_getV C flX10_160 dX10_undo_28 ok3 rfl hl1.2.1 ?_
    refine r_iret C hrt dX10_undo_31 ?_
    exact ⟨rfl, rfl, CP.nl (s := va_up ((gU g).2 ((gU g).1 - 1)) 44 (gSv g 44)) (u := ((gU g).1 - 1, (gU g).2)) (hf1.wk sUn_sNL) (by rw [hf1 10 0 rfl]) hc ⟨hs1.up44 (by decide), by rw [hf1 10 0 rfl, va_up_self]; exact hc.2.2.1.2⟩ ⟨nx', hl1⟩, hf1.wk (fun k j z => sNL_sXc k j (sUn_sNL k j z))⟩
/-- behind a push: the log has the siege that is; nothing else changed -/
theorem CP.push {h h' : HF} {a : Nat} {g : Gs} (f : Fr sLg h h') (hl : ∃ nx', logp h' nx' (pushN (gU g).1) (pushU (gU g).1 (gU g).2 (gSv g))) (c : CP h a g) : CP h' a (setS g (gSv g) (pushN (gU g).1, pushU (gU g).1 (gU g).2 (gSv g))) :=
  CP.nl (f.wk sLg_sNL) (by rw [f 10 0 rfl]) c ⟨c.2.2.1.1.fr f (fun k hk => by rcases hk with rfl | rfl | rfl | rfl | rfl | rfl | rfl <;> rfl), by rw [f 10 0 rfl]; exact c.2.2.1.2⟩ hl
/-- behind a change of the siege alone -/
theorem CP.now {h h' : HF} {a : Nat} {g : Gs} {s : Sv} (f : Fr (sS 0) h h') (hs : sgp h' 0 s) (h44 : s 44 = gSv g 44) (c : CP h a g) : CP h' a (setS g s (gU g)) :=
  CP.nl (f.wk sS0_sNL) (by rw [f 10 0 rfl]) c ⟨hs, by rw [f 10 0 rfl, h44]; exact c.2.2.1.2⟩ (c.2.2.2.1.fr f rfl (fun k j _ h1 _ => sS_ne (by omega)))
theorem sS0_sXc : ∀ k j, sS 0 k j = true → sXc k j = true := fun k j z => sNL_sXc k j (sS0_sNL k j z)
theorem sLg_sXc : ∀ k j, sLg k j = true → sXc k j = true := fun k j z => sNL_sXc k j (sLg_sNL k j z)
def pushd (g : Gs) (s : Sv) : Gs := setS g s (pushN (gU g).1, pushU (gU g).1 (gU g).2 (gSv g))
def gunF (g : Gs) : Int32 × Gs := if bsB (gNn g) (gSv g) = true then (rodF (nI 5) (gSv g) 1, pushd g (rodF (nI 5) (gSv g))) else (cN, g)
set_option maxRecDepth 100000 in
set_option maxHeartbeats 4000000 in
theorem c_gun {E : Ev} {a b : Nat} {h : HF} {g : Gs} (ha : a < 2) (hc : CP h a g) : Ct E 3 yX10_gun cX10_gun 1 (some .int) [aR 10 0] 243 (Rs a b) h 243 (qry a b (gunF g).2 h (gunF g).1) := by
  refine Ct.of 0 (L0 := [some (aR 10 0)]) (by decide) ⟨Nat.le_refl _, Nat.le_refl _⟩ rfl rfl ?_
  intro G C hg hrt hnm
  have hN : gn G ≤ 243 ∧ 243 ≤ 243 ∧ 243 ≤ 243 := ⟨by omega, by decide, by decide⟩
  obtain ⟨nx, hl⟩ := hc.2.2.2.1
  have hS : 0 < 23 := by decide
  refine r_aload_n C dX10_gun_0 rfl ?_
  refine r_callV C (c_isBesieged ha hc.2.1 hc.2.2.1.1) dX10_gun_1 cw_X10_isBesieged cvX10_209 (by omega) ok10 rfl hN rfl (Nat.le_of_ble_eq_true rfl) ?_
  rintro v R' h1 ⟨rfl, rfl, rfl⟩
  by_cases hb : bsB (gNn g) (gSv g) = true
  · rw [if_pos hb, gunF, if_pos hb]
    refine r_if_ne C dX10_gun_4 (fun _ => ?_) (fun cc => absurd cc (by decide))
    refine r_aload_n C dX10_gun_10 rfl ?_
    refine r_getR C flX10_43 dX10_gun_11 ok10 rfl rfl ?_
    refine r_aload_n C dX10_gun_14 rfl ?_
    refine r_getR C flX10_36 dX10_gun_15 ok10 rfl rfl ?_
    refine r_callV C (c_push hl hc.2.2.1.1) dX10_gun_18 cw_X3_push cvX10_201 (by omega) ok3 rfl hN rfl (Nat.le_of_ble_eq_true rfl) ?_
    rintro v R' h2 ⟨rfl, rfl, hl2, f2⟩
    have hc2 := hc.push f2 hl2
    refine r_aload_n C dX10_gun_21 rfl ?_
    refine r_getR C flX10_36 dX10_gun_22 ok10 rfl rfl ?_
    refine r_callV C (c_hearGun hS hc2.2.2.1.1) dX10_gun_25 cw_X6_hearGun cvX10_214 (by omega) (Ok.full (by decide) hS) rfl hN rfl (Nat.le_of_ble_eq_true rfl) ?_
    rintro v R' h3 ⟨rfl, rfl, hs3, f3⟩
    refine r_aload_n C dX10_gun_28 rfl ?_
    refine r_getR C flX10_36 dX10_gun_29 ok10 rfl rfl ?_
    refine q_getV C flX10_135 dX10_gun_32 (Ok.full (by decide) hS) rfl hs3.2.1 ?_
    refine r_iret C hrt dX10_gun_35 ?_
    exact ⟨rfl, rfl, hc2.now f3 hs3 (va_up_ne _ _ (by decide)), (f2.wk sLg_sXc).tr (f3.wk sS0_sXc)⟩
  · rw [if_neg hb, gunF, if_neg hb]
    refine r_if_ne C dX10_gun_4 (fun cc => absurd cc (by exact fun z => z rfl)) (fun _ => ?_)
    refine r_ldc C dX10_gun_7 kX10_213 ?_
    refine r_iret C hrt dX10_gun_9 ?_
    exact ⟨rfl, rfl, hc, Fr.rf⟩
def relF (g : Gs) (x : Int32) : Int32 × Gs := if bsB (gNn g) (gSv g) = true then (gSv g 2, pushd g (va_up (gSv g) 4 (if x = 0 then nI 2 else nI 1))) else (cN, g)
set_option maxRecDepth 100000 in
set_option maxHeartbeats 4000000 in
theorem c_relief {E : Ev} {a b : Nat} {h : HF} {g : Gs} {x : Int32} (ha : a < 2) (hc : CP h a g) : Ct E 3 yX10_relief cX10_relief 2 (some .int) [aR 10 0, aI x] 243 (Rs a b) h 243 (qry a b (relF g x).2 h (relF g x).1) := by
  refine Ct.of 0 (L0 := [some (aR 10 0), some (aI x)]) (by decide) ⟨Nat.le_refl _, Nat.le_refl _⟩ rfl rfl ?_
  intro G C hg hrt hnm
  have hN : gn G ≤ 243 ∧ 243 ≤ 243 ∧ 243 ≤ 243 := ⟨by omega, by decide, by decide⟩
  obtain ⟨nx, hl⟩ := hc.2.2.2.1
  have hS : 0 < 23 := by decide
  have hC : 0 < 29 := by decide
  refine r_aload_n C dX10_relief_0 rfl ?_
  refine r_callV C (c_isBesieged ha hc.2.1 hc.2.2.1.1) dX10_relief_1 cw_X10_isBesieged cvX10_209 (by omega) ok10 rfl hN rfl (Nat.le_of_ble_eq_true rfl) ?_
  rintro v R' h1 ⟨rfl, rfl, rfl⟩
  by_cases hb : bsB (gNn g) (gSv g) = true
  · rw [if_pos hb, relF, if_pos hb]
    refine r_if_ne C dX10_relief_4 (fun _ => ?_) (fun cc => absurd cc (by decide))
    refine r_aload_n C dX10_relief_10 rfl ?_
    refine r_getR C flX10_43 dX10_relief_11 ok10 rfl rfl ?_
    refine r_aload_n C dX10_relief_14 rfl ?_
    refine r_getR C flX10_36 dX10_relief_15 ok10 rfl rfl ?_
    refine r_callV C (c_push hl hc.2.2.1.1) dX10_relief_18 cw_X3_push cvX10_201 (by omega) ok3 rfl hN rfl (Nat.le_of_ble_eq_true rfl) ?_
    rintro v R' h2 ⟨rfl, rfl, hl2, f2⟩
    have hc2 := hc.push f2 hl2
    have fin : ∀ y, y = (if x = 0 then nI 2 else nI 1) → Wa E G 243 (Rs a b) h2 (QQ E G 243 (qry a b (gSv g 2, pushd g (va_up (gSv g) 4 (if x = 0 then nI 2 else nI 1))).2 h1 (gSv g 2, pushd g (va_up (gSv g) 4 (if x = 0 then nI 2 else nI 1))).1)) 34 [some (aR 10 0), some (aI x)] [aI y, aR 6 0] := by
      intro y hy
      refine r_putI C flX10_157 dX10_relief_34 (Ok.full (by decide) hS) rfl ⟨rfl, rfl⟩ ?_
      refine r_aload_n C dX10_relief_37 rfl ?_
      refine r_getR C flX10_36 dX10_relief_38 ok10 rfl rfl ?_
      refine r_getR C flX10_126 dX10_relief_41 (Ok.full (by decide) hS) rfl rfl ?_
      refine q_getV C flX10_147 dX10_relief_44 (Ok.full (by decide) hC) rfl (show _ = gSv g 2 from hc2.2.2.1.1.1.2.1) ?_
      refine r_iret C hrt dX10_relief_47 ?_
      rw [← hy]
      exact ⟨rfl, rfl, hc2.now (Fr.put Fr.rf (sS_of (by omega))) (sgp_fate hc2.2.2.1.1) (va_up_ne _ _ (by decide)), Fr.put (f2.wk sLg_sXc) rfl⟩
    refine r_aload_n C dX10_relief_21 rfl ?_
    refine r_getR C flX10_36 dX10_relief_22 ok10 rfl rfl ?_
    refine r_iload_n C dX10_relief_25 rfl ?_
    refine r_if_eq C dX10_relief_26 (fun c26 => ?_) (fun c26 => ?_)
    · refine r_iconst (v := (nI 2)) C dX10_relief_33 (by decide) ?_
      exact fin _ (by rw [if_pos c26])
    · refine r_iconst (v := (nI 1)) C dX10_relief_29 (by decide) ?_
      refine r_goto C dX10_relief_30 ?_
      exact fin _ (by rw [if_neg c26])
  · rw [if_neg hb, relF, if_neg hb]
    refine r_if_ne C dX10_relief_4 (fun cc => absurd cc (by exact fun z => z rfl)) (fun _ => ?_)
    refine r_ldc C dX10_relief_7 kX10_213 ?_
    refine r_iret C hrt dX10_relief_9 ?_
    exact ⟨rfl, rfl, hc, Fr.rf⟩
def salS (g : Gs) (c : Nat) (k : Int32) : Sv := rodF (k / nI 2) (va_up (gSv g) (5 + c) (gSv g (5 + c) - k))
def salF (g : Gs) (c k : Int32) : Int32 × Gs := match ixO c (gNn g 0) with
  | none => (cU, g)
  | some i => if nI 1 ≤ k ∧ k ≤ nI 99 then (if bsB (gNn g) (gSv g) = true ∧ k ≤ gSv g (5 + i) then (salS g i k 1, pushd g (salS g i k)) else (cN, g)) else (cO, g)
set_option maxRecDepth 100000 in
set_option maxHeartbeats 4000000 in
theorem c_sally {E : Ev} {a b : Nat} {h : HF} {g : Gs} {c k : Int32} (ha : a < 2) (hc : CP h a g) : Ct E 3 yX10_sally cX10_sally 3 (some .int) [aR 10 0, aI c, aI k] 243 (Rs a b) h 243 (qry a b (salF g c k).2 h (salF g c k).1) := by
  refine Ct.of 0 (L0 := [some (aR 10 0), some (aI c), some (aI k)]) (by decide) ⟨Nat.le_refl _, Nat.le_refl _⟩ rfl rfl ?_
  intro G C hg hrt hnm
  have hN : gn G ≤ 243 ∧ 243 ≤ 243 ∧ 243 ≤ 243 := ⟨by omega, by decide, by decide⟩
  obtain ⟨nx, hl⟩ := hc.2.2.2.1
  have p2 := hc.2.1
  have b0 := p2.2.2.2.2.2.2.2.2.2.1
  have hT : a < 2 := ha
  have hS : 0 < 23 := by decide
  have hC : 0 < 29 := by decide
  refine r_aload_n C dX10_sally_0 rfl ?_
  refine r_iload_n C dX10_sally_1 rfl ?_
  refine r_callV C (c_isCompany hT p2) dX10_sally_2 cw_X10_isCompany cvX10_164 (by omega) ok10 rfl hN rfl (Nat.le_of_ble_eq_true rfl) ?_
  rintro v R' h1 ⟨rfl, rfl, rfl⟩
  cases hx : ixO c (gNn g 0) with
  | none =>
    rw [salF, hx, ixB_n hx]
    refine r_if_ne C dX10_sally_5 (fun cc => absurd cc (by exact fun z => z rfl)) (fun _ => ?_)
    refine r_ldc C dX10_sally_8 kX10_168 ?_
    refine r_iret C hrt dX10_sally_10 ?_
    exact ⟨rfl, rfl, hc, Fr.rf⟩
  | some i =>
    obtain ⟨hi, rfl⟩ := ixO_some hx
    rw [salF, hx, ixB_s hx]
    show Wa E G 243 (Rs a b) h1 (QQ E G 243 (qry a b (if _ then _ else _ : Int32 × Gs).2 h1 (if _ then _ else _ : Int32 × Gs).1)) _ _ _
    refine r_if_ne C dX10_sally_5 (fun _ => ?_) (fun cc => absurd cc (by decide))
    refine r_iload_n C dX10_sally_11 rfl ?_
    refine r_iconst (v := (nI 1)) C dX10_sally_12 (by decide) ?_
    refine r_bipush (v := (nI 99)) C dX10_sally_13 (by decide) ?_
    refine r_callS C c_isWithin dX10_sally_15 cw_X10_isWithin csX10_82 (by omega) rfl hN rfl (Nat.le_of_ble_eq_true rfl) ?_
    rintro v R' h2 ⟨rfl, rfl, rfl⟩
    by_cases q1 : nI 1 ≤ k ∧ k ≤ nI 99
    · rw [if_pos q1, if_pos q1]
      refine r_if_ne C dX10_sally_18 (fun _ => ?_) (fun cc => absurd cc (by decide))
      refine r_aload_n C dX10_sally_24 rfl ?_
      refine r_callV C (c_isBesieged ha hc.2.1 hc.2.2.1.1) dX10_sally_25 cw_X10_isBesieged cvX10_209 (by omega) ok10 rfl hN rfl (Nat.le_of_ble_eq_true rfl) ?_
      rintro v R' h3 ⟨rfl, rfl, rfl⟩
      by_cases hb : bsB (gNn g) (gSv g) = true
      · rw [if_pos hb]
        refine r_if_eq C dX10_sally_28 (fun cc => absurd cc (by decide)) (fun _ => ?_)
        refine r_iload_n C dX10_sally_31 rfl ?_
        refine r_aload_n C dX10_sally_32 rfl ?_
        refine r_getR C flX10_36 dX10_sally_33 ok10 rfl rfl ?_
        refine r_getR C flX10_126 dX10_sally_36 (Ok.full (by decide) hS) rfl rfl ?_
        refine r_getR C flX10_169 dX10_sally_39 (Ok.full (by decide) hC) rfl rfl ?_
        refine r_iload_n C dX10_sally_42 rfl ?_
        refine q_ialdV (m := 5) C dX10_sally_43 (Ok.full (by decide) hC) rfl rfl (by omega) (hc.2.2.1.1.1.2.2.1 i (by omega)) ?_
        refine r_icmp_le C dX10_sally_44 (fun c44 => ?_) (fun c44 => ?_)
        · rw [if_pos ⟨hb, c44⟩]
          refine r_aload_n C dX10_sally_50 rfl ?_
          refine r_getR C flX10_43 dX10_sally_51 ok10 rfl rfl ?_
          refine r_aload_n C dX10_sally_54 rfl ?_
          refine r_getR C flX10_36 dX10_sally_55 ok10 rfl rfl ?_
          refine r_callV C (c_push hl hc.2.2.1.1) dX10_sally_58 cw_X3_push cvX10_201 (by omega) ok3 rfl hN rfl (Nat.le_of_ble_eq_true rfl) ?_
          rintro v R' h4 ⟨rfl, rfl, hl4, f4⟩
          have hc4 := hc.push f4 hl4
          refine r_aload_n C dX10_sally_61 rfl ?_
          refine r_getR C flX10_36 dX10_sally_62 ok10 rfl rfl ?_
          refine r_getR C flX10_126 dX10_sally_65 (Ok.full (by decide) hS) rfl rfl ?_
          refine r_getR C flX10_169 dX10_sally_68 (Ok.full (by decide) hC) rfl rfl ?_
          refine r_iload_n C dX10_sally_71 rfl ?_
          refine r_dup2 C dX10_sally_72 rfl rfl ?_
          refine q_ialdV (m := 5) C dX10_sally_73 (Ok.full (by decide) hC) rfl rfl (by omega) (show _ = gSv g (5 + i) from hc4.2.2.1.1.1.2.2.1 i (by omega)) ?_
          refine r_iload_n C dX10_sally_74 rfl ?_
          refine r_isub C dX10_sally_75 ?_
          refine q_iast (m := 5) C dX10_sally_76 (Ok.full (by decide) hC) rfl rfl (by omega) ?_
          have hs5 : sgp (put h4 14 0 i (gSv g (5 + i) - k)) 0 (va_up (gSv g) (5 + i) (gSv g (5 + i) - k)) := sgp_men (by omega) hc4.2.2.1.1
          refine r_aload_n C dX10_sally_77 rfl ?_
          refine r_getR C flX10_36 dX10_sally_78 ok10 rfl rfl ?_
          refine r_iload_n C dX10_sally_81 rfl ?_
          refine r_iconst (v := (nI 2)) C dX10_sally_82 (by decide) ?_
          refine r_idiv C dX10_sally_83 (by decide) ?_
          refine r_callV C (c_raiseOdds hS hs5) dX10_sally_84 cw_X6_raiseOdds cvX10_217 (by omega) (Ok.full (by decide) hS) rfl hN rfl (Nat.le_of_ble_eq_true rfl) ?_
          rintro v R' h6 ⟨rfl, rfl, hs6, f6⟩
          refine r_aload_n C dX10_sally_87 rfl ?_
          refine r_getR C flX10_36 dX10_sally_88 ok10 rfl rfl ?_
          refine q_getV C flX10_135 dX10_sally_91 (Ok.full (by decide) hS) rfl hs6.2.1 ?_
          refine r_iret C hrt dX10_sally_94 ?_
          have ff : Fr (sS 0) h4 h6 := (Fr.put Fr.rf (sS_of (by omega))).tr f6
          exact ⟨rfl, rfl, hc4.now ff hs6 (by show va_up (va_up _ _ _) _ _ 44 = _; rw [va_up_ne _ _ (by decide), va_up_ne _ _ (by omega)]; rfl), (f4.wk sLg_sXc).tr (ff.wk sS0_sXc)⟩
        · rw [if_neg (fun z => c44 z.2)]
          refine r_ldc C dX10_sally_47 kX10_213 ?_
          refine r_iret C hrt dX10_sally_49 ?_
          exact ⟨rfl, rfl, hc, Fr.rf⟩
      · rw [if_neg hb, if_neg (fun z => hb z.1)]
        refine r_if_eq C dX10_sally_28 (fun _ => ?_) (fun cc => absurd cc (by exact fun z => z rfl))
        refine r_ldc C dX10_sally_47 kX10_213 ?_
        refine r_iret C hrt dX10_sally_49 ?_
        exact ⟨rfl, rfl, hc, Fr.rf⟩
    · rw [if_neg q1, if_neg q1]
      refine r_if_ne C dX10_sally_18 (fun cc => absurd cc (by exact fun z => z rfl)) (fun _ => ?_)
      refine r_ldc C dX10_sally_21 kX10_86 ?_
      refine r_iret C hrt dX10_sally_23 ?_
      exact ⟨rfl, rfl, hc, Fr.rf⟩
