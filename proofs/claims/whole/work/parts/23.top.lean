/-! THE WHOLE STATE, pure: text, its length, the fault's place, the town (counts, rows), the siege with the seed, what can be undone, images, squares shown, the book -/
abbrev Gs : Type := (Nat → Int32) × Nat × Int32 × (Nat → Nat) × Tv × Sv × (Nat × (Nat → Sv)) × ((Nat → Nat) × (Nat → Sv)) × (Nat × (Nat → Nat) × (Nat → Int32) × (Nat → Int32) × (Nat → Int32)) × (Nat × (Nat → Nat) × (Nat → Int32))
abbrev gX (g : Gs) : Nat → Int32 := g.1
abbrev gLn (g : Gs) : Nat := g.2.1
abbrev gFp (g : Gs) : Int32 := g.2.2.1
abbrev gNn (g : Gs) : Nat → Nat := g.2.2.2.1
abbrev gT (g : Gs) : Tv := g.2.2.2.2.1
abbrev gSv (g : Gs) : Sv := g.2.2.2.2.2.1
abbrev gU (g : Gs) : Nat × (Nat → Sv) := g.2.2.2.2.2.2.1
abbrev gI (g : Gs) : (Nat → Nat) × (Nat → Sv) := g.2.2.2.2.2.2.2.1
abbrev gSh (g : Gs) : Nat × (Nat → Nat) × (Nat → Int32) × (Nat → Int32) × (Nat → Int32) := g.2.2.2.2.2.2.2.2.1
abbrev gBk (g : Gs) : Nat × (Nat → Nat) × (Nat → Int32) := g.2.2.2.2.2.2.2.2.2
abbrev cU : Int32 := -1000000001
abbrev cO : Int32 := -1000000002
abbrev cN : Int32 := -1000000003
abbrev cF : Int32 := -1000000004
def sXc : Nat → Nat → Bool := fun k _ => decide (k < 39) && !(k == 11)
def P1 (h : HF) (n : Nat) (X : Nat → Int32) (fp : Int32) : Prop := txp h n X ∧ h 10 0 11 = fp
def P3 (h : HF) (s : Sv) : Prop := sgp h 0 s ∧ h 10 0 10 = s 44
def P4 (h : HF) (u : Nat × (Nat → Sv)) : Prop := ∃ nx, logp h nx u.1 u.2
def P5 (h : HF) (I : (Nat → Nat) × (Nat → Sv)) : Prop := ∀ i, i < 2 → h 2 i 2 = nI (I.1 i) ∧ I.1 i ≤ 1 ∧ (I.1 i = 1 → sgp h (21 + i) (I.2 i) ∧ h 2 i 1 = I.2 i 44)
def P6 (h : HF) (N : Nat → Nat) (q : Nat × (Nat → Nat) × (Nat → Int32) × (Nat → Int32) × (Nat → Int32)) : Prop := shp5 h q.1 q.2.1 q.2.2.1 q.2.2.2.1 q.2.2.2.2 ∧ ∀ i, i < q.1 → q.2.1 i < N 1
def P7 (h : HF) (N : Nat → Nat) (q : Nat × (Nat → Nat) × (Nat → Int32)) : Prop := bkp h q.1 q.2.1 q.2.2 ∧ ∀ i, i < q.1 → q.2.1 i < N 0
def CP (h : HF) (a : Nat) (g : Gs) : Prop := P1 h (gLn g) (gX g) (gFp g) ∧ twn h a (gNn g) (gT g) ∧ P3 h (gSv g) ∧ P4 h (gU g) ∧ P5 h (gI g) ∧ P6 h (gNn g) (gSh g) ∧ P7 h (gNn g) (gBk g)
section FRP
variable {S : Nat → Nat → Bool} {h h' : HF}
theorem P1.fr {n : Nat} {X : Nat → Int32} {fp : Int32} (f : Fr S h h') (h1 : S 7 0 = false) (h2 : S 26 0 = false) (h3 : S 10 0 = false) (c : P1 h n X fp) : P1 h' n X fp := ⟨c.1.fr f h1 h2, by rw [f 10 0 h3]; exact c.2⟩
theorem sgk_of {k : Nat} (hk : k = 1 ∨ k = 14 ∨ k = 15 ∨ k = 6 ∨ k = 23 ∨ k = 24 ∨ k = 25) : sgK k = true := by
  rcases hk with rfl | rfl | rfl | rfl | rfl | rfl | rfl <;> rfl
theorem P3.fr {s : Sv} (f : Fr S h h') (h1 : ∀ k, sgK k = true → S k 0 = false) (h3 : S 10 0 = false) (c : P3 h s) : P3 h' s := ⟨c.1.fr f (fun k hk => h1 k (sgk_of hk)), by rw [f 10 0 h3]; exact c.2⟩
theorem P4.fr {u : Nat × (Nat → Sv)} (f : Fr S h h') (h1 : S 3 0 = false) (h2 : ∀ k j, sgK k = true → 1 ≤ j → j ≤ 20 → S k j = false) (c : P4 h u) : P4 h' u := by
  obtain ⟨nx, l1, l2, l3, l4, l5⟩ := c
  exact ⟨nx, by rw [f 3 0 h1]; exact l1, by rw [f 3 0 h1]; exact l2, l3, l4, fun i hi => (l5 i hi).fr f (fun k hk => h2 k _ (sgk_of hk) (by omega) (by omega))⟩
theorem P5.fr {I : (Nat → Nat) × (Nat → Sv)} (f : Fr S h h') (h1 : ∀ i, i < 2 → S 2 i = false) (h2 : ∀ k j, sgK k = true → 21 ≤ j → j ≤ 22 → S k j = false) (c : P5 h I) : P5 h' I := by
  intro i hi
  obtain ⟨c1, c2, c3⟩ := c i hi
  exact ⟨by rw [f 2 i (h1 i hi)]; exact c1, c2, fun z => ⟨(c3 z).1.fr f (fun k hk => h2 k _ (sgk_of hk) (by omega) (by omega)), by rw [f 2 i (h1 i hi)]; exact (c3 z).2⟩⟩
theorem P6.fr {N : Nat → Nat} {q : Nat × (Nat → Nat) × (Nat → Int32) × (Nat → Int32) × (Nat → Int32)} (f : Fr S h h') (h1 : S 5 0 = false) (h2 : S 18 0 = false) (h3 : S 19 0 = false) (h4 : S 20 0 = false) (h5 : S 21 0 = false) (c : P6 h N q) : P6 h' N q := by
  refine ⟨?_, c.2⟩
  unfold shp5
  rw [f 5 0 h1, f 18 0 h2, f 19 0 h3, f 20 0 h4, f 21 0 h5]
  exact c.1
theorem P7.fr {N : Nat → Nat} {q : Nat × (Nat → Nat) × (Nat → Int32)} (f : Fr S h h') (h1 : S 0 0 = false) (h2 : S 12 0 = false) (h3 : S 13 0 = false) (c : P7 h N q) : P7 h' N q := by
  refine ⟨?_, c.2⟩
  unfold bkp
  rw [f 0 0 h1, f 12 0 h2, f 13 0 h3]
  exact c.1
end FRP
/-- what a question may change -/
def sQ : Nat → Nat → Bool := fun k j => k == 9 || k == 37 || k == 22 || ((k == 1 || k == 14 || k == 15) && decide (23 ≤ j))
theorem sQ_low {k j : Nat} (hk : sgK k = true) (hj : j ≤ 22) : sQ k j = false := by
  have hj2 : decide (23 ≤ j) = false := by simp; omega
  simp only [sgK, Bool.or_eq_true, beq_iff_eq] at hk
  rcases hk with ((((((rfl | rfl) | rfl) | rfl) | rfl) | rfl) | rfl) <;> simp [sQ, hj2]
theorem CP.q {h h' : HF} {a : Nat} {g : Gs} (f : Fr sQ h h') (c : CP h a g) : CP h' a g :=
  ⟨c.1.fr f rfl rfl rfl, c.2.1.fr f (fun k hk => by simp [sQ]; omega), c.2.2.1.fr f (fun k hk => sQ_low hk (by omega)) rfl, c.2.2.2.1.fr f rfl (fun k j hk _ hj => sQ_low hk (by omega)), c.2.2.2.2.1.fr f (fun i _ => rfl) (fun k j hk _ hj => sQ_low hk (by omega)), c.2.2.2.2.2.1.fr f rfl rfl rfl rfl rfl, c.2.2.2.2.2.2.fr f rfl rfl rfl⟩
theorem sQ_sXc : ∀ k j, sQ k j = true → sXc k j = true := by
  intro k j hh
  simp only [sQ, Bool.or_eq_true, Bool.and_eq_true, beq_iff_eq] at hh
  rcases hh with ((rfl | rfl) | rfl) | ⟨(rfl | rfl) | rfl, -⟩ <;> rfl
theorem sTr_sQ : ∀ k j, sTr k j = true → sQ k j = true := by
  intro k j hh
  simp only [sTr, Bool.or_eq_true] at hh
  rcases hh with z | z
  · simp [sQ, z]
  · simp only [sQ, Bool.or_eq_true]
    exact Or.inr z
theorem s37_sQ : ∀ k j, s37 k j = true → sQ k j = true := by
  intro k j hh
  simp only [s37, beq_iff_eq] at hh
  subst hh
  rfl
theorem s22_sQ : ∀ k j, s22 k j = true → sQ k j = true := by
  intro k j hh
  simp only [s22, beq_iff_eq] at hh
  subst hh
  rfl
/-- which of n it is -/
def ixO (x : Int32) (n : Nat) : Option Nat := if 0 ≤ x.toInt ∧ x.toInt < n then some x.toInt.toNat else none
theorem ixO_some {x : Int32} {n c : Nat} (h : ixO x n = some c) : c < n ∧ x = nI c := by
  unfold ixO at h
  split at h
  · next z =>
    cases h
    refine ⟨by omega, ?_⟩
    have h1 : (x.toInt.toNat : Int) = x.toInt := Int.toNat_of_nonneg z.1
    have hb := Int32.toInt_lt x
    apply Int32.toInt_inj.mp
    rw [nI_toInt (by omega), h1]
  · cases h
theorem ixO_nI {n c : Nat} (hc : c < n) (hn : n < 2 ^ 31) : ixO (nI c) n = some c := by
  unfold ixO
  rw [nI_toInt (by omega), if_pos (by omega)]
  simp
theorem ixO_none {x : Int32} {n : Nat} (h : ixO x n = none) : ¬ (0 ≤ x.toInt ∧ x.toInt < n) := by
  unfold ixO at h
  intro z
  rw [if_pos z] at h
  cases h
def ixB (x : Int32) (n : Nat) : Int32 := if (ixO x n).isSome = true then nI 1 else nI 0
theorem ix_within {x : Int32} {n : Nat} (hn : n ≤ 100) : (if nI 0 ≤ x ∧ x ≤ nI n - nI 1 then nI 1 else nI 0) = ixB x n := by
  have e : (nI n - nI 1).toInt = (n : Int) - 1 := pk_sub_toInt (by omega) (by decide)
  have z0 : (nI 0).toInt = 0 := by decide
  unfold ixB ixO
  by_cases hc : 0 ≤ x.toInt ∧ x.toInt < n
  · rw [if_pos hc, if_pos ⟨by rw [Int32.le_iff_toInt_le, z0]; exact hc.1, by rw [Int32.le_iff_toInt_le, e]; omega⟩]
    rfl
  · rw [if_neg hc, if_neg (fun z => hc ⟨by have := z.1; rw [Int32.le_iff_toInt_le, z0] at this; exact this, by have := z.2; rw [Int32.le_iff_toInt_le, e] at this; omega⟩)]
    rfl
def qst (a b : Nat) (h : HF) (x : Int32) : Option AV → RF → HF → Prop := fun v R' h' => v = some (aI x) ∧ R' = Rs a b ∧ h' = h
set_option maxRecDepth 100000 in
set_option maxHeartbeats 4000000 in
theorem c_isCompany {E : Ev} {a b : Nat} {h : HF} {N : Nat → Nat} {T : Tv} {x : Int32} (hT : a < 2) (ht : twn h a N T) : Ct E 1 yX10_isCompany cX10_isCompany 2 (some .boolean) [aR 10 0, aI x] 243 (Rs a b) h 243 (qst a b h (ixB x (N 0))) := by
  refine Ct.of 0 (L0 := [some (aR 10 0), some (aI x)]) (by decide) ⟨Nat.le_refl _, Nat.le_refl _⟩ rfl rfl ?_
  intro G C hg hrt hnm
  have hN : gn G ≤ 243 ∧ 243 ≤ 243 ∧ 243 ≤ 243 := ⟨by omega, by decide, by decide⟩
  have b0 := ht.2.2.2.2.2.2.2.2.2.1
  refine r_iload_n C dX10_isCompany_0 rfl ?_
  refine r_iconst (v := (nI 0)) C dX10_isCompany_1 (by decide) ?_
  refine r_aload_n C dX10_isCompany_2 rfl ?_
  refine r_getR C flX10_26 dX10_isCompany_3 ok10 rfl rfl ?_
  refine q_getV C flX10_108 dX10_isCompany_6 (Ok.full (by decide) hT) rfl ht.1 ?_
  refine r_iconst (v := (nI 1)) C dX10_isCompany_9 (by decide) ?_
  refine r_isub C dX10_isCompany_10 ?_
  refine r_callS C c_isWithin dX10_isCompany_11 cw_X10_isWithin csX10_82 (by omega) rfl hN rfl (Nat.le_of_ble_eq_true rfl) ?_
  rintro v R' h1 ⟨rfl, rfl, rfl⟩
  rw [ix_within (by omega)]
  refine r_zret C hrt dX10_isCompany_14 (by unfold ixB; split <;> decide) ?_
  exact ⟨rfl, rfl, rfl⟩
set_option maxRecDepth 100000 in
set_option maxHeartbeats 4000000 in
theorem c_isMoney {E : Ev} {a b : Nat} {h : HF} {N : Nat → Nat} {T : Tv} {x : Int32} (hT : a < 2) (ht : twn h a N T) : Ct E 1 yX10_isMoney cX10_isMoney 2 (some .boolean) [aR 10 0, aI x] 243 (Rs a b) h 243 (qst a b h (ixB x (N 1))) := by
  refine Ct.of 0 (L0 := [some (aR 10 0), some (aI x)]) (by decide) ⟨Nat.le_refl _, Nat.le_refl _⟩ rfl rfl ?_
  intro G C hg hrt hnm
  have hN : gn G ≤ 243 ∧ 243 ≤ 243 ∧ 243 ≤ 243 := ⟨by omega, by decide, by decide⟩
  have b0 := ht.2.2.2.2.2.2.2.2.2.2.1
  refine r_iload_n C dX10_isMoney_0 rfl ?_
  refine r_iconst (v := (nI 0)) C dX10_isMoney_1 (by decide) ?_
  refine r_aload_n C dX10_isMoney_2 rfl ?_
  refine r_getR C flX10_26 dX10_isMoney_3 ok10 rfl rfl ?_
  refine q_getV C flX10_138 dX10_isMoney_6 (Ok.full (by decide) hT) rfl ht.2.1 ?_
  refine r_iconst (v := (nI 1)) C dX10_isMoney_9 (by decide) ?_
  refine r_isub C dX10_isMoney_10 ?_
  refine r_callS C c_isWithin dX10_isMoney_11 cw_X10_isWithin csX10_82 (by omega) rfl hN rfl (Nat.le_of_ble_eq_true rfl) ?_
  rintro v R' h1 ⟨rfl, rfl, rfl⟩
  rw [ix_within (by omega)]
  refine r_zret C hrt dX10_isMoney_14 (by unfold ixB; split <;> decide) ?_
  exact ⟨rfl, rfl, rfl⟩
set_option maxRecDepth 100000 in
set_option maxHeartbeats 4000000 in
theorem c_isGood {E : Ev} {a b : Nat} {h : HF} {N : Nat → Nat} {T : Tv} {x : Int32} (hT : a < 2) (ht : twn h a N T) : Ct E 1 yX10_isGood cX10_isGood 2 (some .boolean) [aR 10 0, aI x] 243 (Rs a b) h 243 (qst a b h (ixB x (N 2))) := by
  refine Ct.of 0 (L0 := [some (aR 10 0), some (aI x)]) (by decide) ⟨Nat.le_refl _, Nat.le_refl _⟩ rfl rfl ?_
  intro G C hg hrt hnm
  have hN : gn G ≤ 243 ∧ 243 ≤ 243 ∧ 243 ≤ 243 := ⟨by omega, by decide, by decide⟩
  have b0 := ht.2.2.2.2.2.2.2.2.2.2.2.1
  refine r_iload_n C dX10_isGood_0 rfl ?_
  refine r_iconst (v := (nI 0)) C dX10_isGood_1 (by decide) ?_
  refine r_aload_n C dX10_isGood_2 rfl ?_
  refine r_getR C flX10_26 dX10_isGood_3 ok10 rfl rfl ?_
  refine q_getV C flX10_141 dX10_isGood_6 (Ok.full (by decide) hT) rfl ht.2.2.1 ?_
  refine r_iconst (v := (nI 1)) C dX10_isGood_9 (by decide) ?_
  refine r_isub C dX10_isGood_10 ?_
  refine r_callS C c_isWithin dX10_isGood_11 cw_X10_isWithin csX10_82 (by omega) rfl hN rfl (Nat.le_of_ble_eq_true rfl) ?_
  rintro v R' h1 ⟨rfl, rfl, rfl⟩
  rw [ix_within (by omega)]
  refine r_zret C hrt dX10_isGood_14 (by unfold ixB; split <;> decide) ?_
  exact ⟨rfl, rfl, rfl⟩
theorem ix_lit {x : Int32} {n : Nat} (hn : 1 ≤ n) (hn2 : n ≤ 100) : (if nI 0 ≤ x ∧ x ≤ nI (n - 1) then nI 1 else nI 0) = ixB x n := by
  rw [← ix_within hn2, ← pk_sub hn]
set_option maxRecDepth 100000 in
set_option maxHeartbeats 4000000 in
theorem c_isRation {E : Ev} {a b : Nat} {h : HF} {x : Int32} : Ct E 1 yX10_isRation cX10_isRation 1 (some .boolean) [aI x] 243 (Rs a b) h 243 (qst a b h (ixB x 4)) := by
  refine Ct.of 0 (L0 := [some (aI x)]) (by decide) ⟨Nat.le_refl _, Nat.le_refl _⟩ rfl rfl ?_
  intro G C hg hrt hnm
  have hN : gn G ≤ 243 ∧ 243 ≤ 243 ∧ 243 ≤ 243 := ⟨by omega, by decide, by decide⟩
  refine r_iload_n C dX10_isRation_0 rfl ?_
  refine r_iconst (v := (nI 0)) C dX10_isRation_1 (by decide) ?_
  refine r_iconst (v := (nI 3)) C dX10_isRation_2 (by decide) ?_
  refine r_callS C c_isWithin dX10_isRation_3 cw_X10_isWithin csX10_82 (by omega) rfl hN rfl (Nat.le_of_ble_eq_true rfl) ?_
  rintro v R' h1 ⟨rfl, rfl, rfl⟩
  rw [show nI 3 = nI (4 - 1) from rfl, ix_lit (by decide) (by decide)]
  refine r_zret C hrt dX10_isRation_6 (by unfold ixB; split <;> decide) ?_
  exact ⟨rfl, rfl, rfl⟩
set_option maxRecDepth 100000 in
set_option maxHeartbeats 4000000 in
theorem c_isReading {E : Ev} {a b : Nat} {h : HF} {x : Int32} : Ct E 1 yX10_isReading cX10_isReading 1 (some .boolean) [aI x] 243 (Rs a b) h 243 (qst a b h (ixB x 3)) := by
  refine Ct.of 0 (L0 := [some (aI x)]) (by decide) ⟨Nat.le_refl _, Nat.le_refl _⟩ rfl rfl ?_
  intro G C hg hrt hnm
  have hN : gn G ≤ 243 ∧ 243 ≤ 243 ∧ 243 ≤ 243 := ⟨by omega, by decide, by decide⟩
  refine r_iload_n C dX10_isReading_0 rfl ?_
  refine r_iconst (v := (nI 0)) C dX10_isReading_1 (by decide) ?_
  refine r_iconst (v := (nI 2)) C dX10_isReading_2 (by decide) ?_
  refine r_callS C c_isWithin dX10_isReading_3 cw_X10_isWithin csX10_82 (by omega) rfl hN rfl (Nat.le_of_ble_eq_true rfl) ?_
  rintro v R' h1 ⟨rfl, rfl, rfl⟩
  rw [show nI 2 = nI (3 - 1) from rfl, ix_lit (by decide) (by decide)]
  refine r_zret C hrt dX10_isReading_6 (by unfold ixB; split <;> decide) ?_
  exact ⟨rfl, rfl, rfl⟩
/-- besieged: there is a town, and no fate -/
def bsB (N : Nat → Nat) (s : Sv) : Bool := decide (N 4 ≠ 0) && decide (s 4 = 0)
set_option maxRecDepth 100000 in
set_option maxHeartbeats 4000000 in
theorem c_isBesieged {E : Ev} {a b : Nat} {h : HF} {N : Nat → Nat} {T : Tv} {s : Sv} (hT : a < 2) (ht : twn h a N T) (hs : sgp h 0 s) : Ct E 0 yX10_isBesieged cX10_isBesieged 1 (some .boolean) [aR 10 0] 243 (Rs a b) h 243 (qst a b h (if bsB N s = true then nI 1 else nI 0)) := by
  refine Ct.of 0 (L0 := [some (aR 10 0)]) (by decide) ⟨Nat.le_refl _, Nat.le_refl _⟩ rfl rfl ?_
  intro G C hg hrt hnm
  have hN : gn G ≤ 243 ∧ 243 ≤ 243 ∧ 243 ≤ 243 := ⟨by omega, by decide, by decide⟩
  have b4 := ht.2.2.2.2.2.2.2.2.2.2.2.2.2
  have hS : 0 < 23 := by decide
  refine r_aload_n C dX10_isBesieged_0 rfl ?_
  refine r_getR C flX10_26 dX10_isBesieged_1 ok10 rfl rfl ?_
  refine q_getV C flX10_161 dX10_isBesieged_4 (Ok.full (by decide) hT) rfl ht.2.2.2.2.1 ?_
  by_cases hN : N 4 = 0
  · rw [hN]
    refine r_if_eq C dX10_isBesieged_7 (fun _ => ?_) (fun cc => absurd cc (by exact fun z => z rfl))
    refine r_iconst (v := (nI 0)) C dX10_isBesieged_24 (by decide) ?_
    refine r_zret C hrt dX10_isBesieged_25 (by decide) ?_
    have e : bsB N s = false := by simp [bsB, hN]
    rw [e]
    exact ⟨rfl, rfl, rfl⟩
  · refine r_if_eq C dX10_isBesieged_7 (fun cc => absurd cc (by exact nI_ne0 (by omega) (by omega))) (fun _ => ?_)
    refine r_aload_n C dX10_isBesieged_10 rfl ?_
    refine r_getR C flX10_36 dX10_isBesieged_11 ok10 rfl rfl ?_
    refine q_getV C flX10_157 dX10_isBesieged_14 (Ok.full (by decide) hS) rfl hs.2.2.2.1 ?_
    refine r_if_ne C dX10_isBesieged_17 (fun c17 => ?_) (fun c17 => ?_)
    · refine r_iconst (v := (nI 0)) C dX10_isBesieged_24 (by decide) ?_
      refine r_zret C hrt dX10_isBesieged_25 (by decide) ?_
      have e : bsB N s = false := by simp [bsB, c17]
      rw [e]
      exact ⟨rfl, rfl, rfl⟩
    · refine r_iconst (v := (nI 1)) C dX10_isBesieged_20 (by decide) ?_
      refine r_goto C dX10_isBesieged_21 ?_
      refine r_zret C hrt dX10_isBesieged_25 (by decide) ?_
      have e : bsB N s = true := by simp [bsB, c17, hN]
      rw [e]
      exact ⟨rfl, rfl, rfl⟩
