/-! constructors: positions of cells; which are done, which are not yet made, which are as they were -/
def H0 : HF := fun k _ i => match k with
  | 1 => if i = 5 then -1 else 0
  | 4 => if i = 3 then -1 else 0
  | 10 => if i = 11 then -1 else 0
  | 11 => if i = 21 then -1 else 0
  | _ => 0
def Dq (q : Nat) (R : RF) (h : HF) : Prop := ∀ i, i < nf (idq q).1 → R (idq q).1 (idq q).2 i = Rs 0 1 (idq q).1 (idq q).2 i ∧ h (idq q).1 (idq q).2 i = H0 (idq q).1 (idq q).2 i
def Dn (a n : Nat) (R : RF) (h : HF) : Prop := ∀ q, a ≤ q → q < n → Dq q R h
def Un (n : Nat) (R : RF) (h : HF) : Prop := ∀ q, n ≤ q → q < 243 → ∀ i, R (idq q).1 (idq q).2 i = none ∧ h (idq q).1 (idq q).2 i = 0
def Sq (q : Nat) (R : RF) (h : HF) (R' : RF) (h' : HF) : Prop := R' (idq q).1 (idq q).2 = R (idq q).1 (idq q).2 ∧ h' (idq q).1 (idq q).2 = h (idq q).1 (idq q).2
def Sm (a : Nat) (R : RF) (h : HF) (R' : RF) (h' : HF) : Prop := ∀ q, q < a → Sq q R h R' h'
/-- all but the cell at a place is as it was -/
def Of (a : Nat) (R : RF) (h : HF) (R' : RF) (h' : HF) : Prop := ∀ q, q < 243 → q ≠ a → Sq q R h R' h'
theorem Dq.sq {q : Nat} {R R' : RF} {h h' : HF} (d : Dq q R h) (s : Sq q R h R' h') : Dq q R' h' := fun i hi => by rw [s.1, s.2]; exact d i hi
theorem Sq.tr {q : Nat} {R R' R2 : RF} {h h' h2 : HF} (a : Sq q R h R' h') (b : Sq q R' h' R2 h2) : Sq q R h R2 h2 := ⟨b.1.trans a.1, b.2.trans a.2⟩
theorem Of.rf {a : Nat} {R : RF} {h : HF} : Of a R h R h := fun _ _ _ => ⟨rfl, rfl⟩
theorem Of.put {a k j i : Nat} {R R' : RF} {h h' : HF} {v : Int32} (f : Of a R h R' h') (hp : pos k j = a) : Of a R h R' (put h' k j i v) := fun q hq hn => by
  refine ⟨(f q hq hn).1, ?_⟩
  rw [put_off (fun z => hn (by rw [← hp, ← (pos_idq q hq).1, z.1, z.2]))]
  exact (f q hq hn).2
theorem Of.putR {a k j i : Nat} {R R' : RF} {h h' : HF} {v : Option (Nat × Nat)} (f : Of a R h R' h') (hp : pos k j = a) : Of a R h (putR R' k j i v) h' := fun q hq hn => by
  refine ⟨?_, (f q hq hn).2⟩
  rw [putR_off (fun z => hn (by rw [← hp, ← (pos_idq q hq).1, z.1, z.2]))]
  exact (f q hq hn).1
theorem Un.le {n m : Nat} {R : RF} {h : HF} (u : Un n R h) (hm : n ≤ m) : Un m R h := fun q h1 h2 => u q (by omega) h2
theorem Un.of {a n : Nat} {R R' : RF} {h h' : HF} (u : Un n R h) (f : Of a R h R' h') (ha : a < n) : Un n R' h' := fun q h1 h2 i => by
  have s := f q h2 (by omega)
  rw [s.1, s.2]
  exact u q h1 h2 i
theorem Sm.of {a : Nat} {R R' R2 : RF} {h h' h2 : HF} (s : Sm a R h R' h') (f : Of a R' h' R2 h2) (ha : a ≤ 243) : Sm a R h R2 h2 := fun q hq => (s q hq).tr (f q (by omega) (by omega))
theorem Sm.rf {a : Nat} {R : RF} {h : HF} : Sm a R h R h := fun _ _ => ⟨rfl, rfl⟩
theorem Sm.le {a b : Nat} {R R' : RF} {h h' : HF} (s : Sm b R h R' h') (hb : a ≤ b) : Sm a R h R' h' := fun q hq => s q (by omega)
theorem Sm.tr {a : Nat} {R R' R2 : RF} {h h' h2 : HF} (s : Sm a R h R' h') (t : Sm a R' h' R2 h2) : Sm a R h R2 h2 := fun q hq => (s q hq).tr (t q hq)
def inP (a len : Nat) (R : RF) (h : HF) : Option AV → RF → HF → Prop := fun v R' h' => v = none ∧ Dn a (a + len) R' h' ∧ Un (a + len) R' h' ∧ Sm a R h R' h'
theorem in_of {a len : Nat} {R R' : RF} {h h' : HF} (u : Un a R h) (hb : a + len ≤ 243) (hl : 0 < len) (f : Of a R h R' h') (d : Dn a (a + len) R' h') : inP a len R h none R' h' := ⟨rfl, d, (u.le (by omega)).of f (by omega), Sm.of Sm.rf f (by omega)⟩
theorem un_at {n q k j : Nat} {R : RF} {h : HF} (u : Un n R h) (hn : n ≤ q) (hq : q < 243) (hi : idq q = (k, j)) : ∀ i, R k j i = none ∧ h k j i = 0 := fun i => by
  have z := u q hn hq i
  rw [hi] at z
  exact z
theorem sq_at {q k j : Nat} {R R' : RF} {h h' : HF} (s : Sq q R h R' h') (hi : idq q = (k, j)) : R' k j = R k j ∧ h' k j = h k j := by
  unfold Sq at s
  rw [hi] at s
  exact s
theorem dq_of {q k j : Nat} {R : RF} {h : HF} (hi : idq q = (k, j)) (d : ∀ i, i < nf k → R k j i = Rs 0 1 k j i ∧ h k j i = H0 k j i) : Dq q R h := by
  unfold Dq
  rw [hi]
  exact d
theorem dq_at {q k j : Nat} {R : RF} {h : HF} (hi : idq q = (k, j)) (d : Dq q R h) : ∀ i, i < nf k → R k j i = Rs 0 1 k j i ∧ h k j i = H0 k j i := by
  unfold Dq at d
  rw [hi] at d
  exact d

theorem id_0 : ∀ j, j < 1 → pos 0 j + 3 ≤ 243 ∧ idq (pos 0 j) = (0, j) ∧ idq (pos 0 j + 1) = (12, j) ∧ idq (pos 0 j + 2) = (13, j) := by decide +kernel
set_option maxRecDepth 100000 in
set_option maxHeartbeats 4000000 in
theorem n_0 {E : Ev} {j : Nat} {R : RF} {h : HF} (hj : j < 1) (hU : Un (pos 0 j) R h) : Ct E 1 yX0_init cX0_init 1 none [aR 0 j] (pos 0 j + 1) R h (pos 0 j + 3) (inP (pos 0 j) 3 R h) := by
  obtain rfl : j = 0 := by omega
  obtain ⟨hb, i0, i1, i2⟩ := id_0 0 hj
  generalize hq : pos 0 0 = q0 at hU hb i0 i1 i2 ⊢
  have o : ∀ n, q0 < n → n ≤ 243 → Ok n 0 0 := fun n h1 h2 => ⟨by decide, hj, by rw [hq]; exact h1, h2⟩
  have u0 := un_at hU (Nat.le_refl _) (by omega) i0
  have u1 := un_at hU (by omega) (by omega) i1
  have u2 := un_at hU (by omega) (by omega) i2
  refine Ct.of 0 (L0 := [some (aR 0 0)]) (by decide) ⟨by omega, by omega⟩ rfl rfl ?_
  intro G C hg hrt hnm
  refine r_aload_n C dX0_init_0 rfl ?_
  refine r_objI C dX0_init_1 coX0_3 (by omega) (Nat.le_of_ble_eq_true rfl) ?_
  refine r_aload_n C dX0_init_4 rfl ?_
  refine r_bipush (v := (nI 15)) C dX0_init_5 (by decide) ?_
  refine r_newI C dX0_init_7 aw_I i1 rfl rfl (by decide) ⟨by omega, by omega⟩ (fun i => (u1 i).2) ?_
  refine r_putF C hnm flX0_9 rfl dX0_init_9 (o _ (by omega) (by omega)) rfl (fun _ => ⟨rfl, rfl⟩) ?_
  refine r_aload_n C dX0_init_12 rfl ?_
  refine r_bipush (v := (nI 15)) C dX0_init_13 (by decide) ?_
  refine r_newI C dX0_init_15 aw_I i2 rfl rfl (by decide) ⟨by omega, by omega⟩ (fun i => (u2 i).2) ?_
  refine r_putF C hnm flX0_15 rfl dX0_init_17 (o _ (by omega) (by omega)) rfl (fun _ => ⟨rfl, rfl⟩) ?_
  refine r_aload_n C dX0_init_20 rfl ?_
  refine r_iconst (v := (nI 0)) C dX0_init_21 (by decide) ?_
  refine r_putI C flX0_18 dX0_init_22 (o _ (by omega) (by omega)) rfl ⟨rfl, rfl⟩ ?_
  refine r_vret C hrt dX0_init_25 ?_
  refine in_of hU hb (by decide) (by repeat (first | exact Of.rf | refine Of.put ?_ hq | refine Of.putR ?_ hq)) (fun q h1 h2 => ?_)
  rcases (show q = q0 ∨ q = q0 + 1 ∨ q = q0 + 2 by omega) with e | e | e
  · refine dq_of (k := 0) (j := 0) (by rw [e]; exact i0) (fun i hi => ?_)
    have hi : i < 3 := hi
    rcases (show i = 0 ∨ i = 1 ∨ i = 2 by omega) with rfl | rfl | rfl <;> simp [putR, put, Rs, H0, u0, nI_0]
  · exact dq_of (k := 12) (j := 0) (by rw [e]; exact i1) (fun i _ => ⟨(u1 i).1, (u1 i).2⟩)
  · exact dq_of (k := 13) (j := 0) (by rw [e]; exact i2) (fun i _ => ⟨(u2 i).1, (u2 i).2⟩)
theorem id_1 : ∀ j, j < 29 → pos 1 j + 3 ≤ 243 ∧ idq (pos 1 j) = (1, j) ∧ idq (pos 1 j + 1) = (14, j) ∧ idq (pos 1 j + 2) = (15, j) := by decide +kernel
set_option maxRecDepth 100000 in
set_option maxHeartbeats 4000000 in
theorem n_1 {E : Ev} {j : Nat} {R : RF} {h : HF} (hj : j < 29) (hU : Un (pos 1 j) R h) : Ct E 1 yX1_init cX1_init 1 none [aR 1 j] (pos 1 j + 1) R h (pos 1 j + 3) (inP (pos 1 j) 3 R h) := by
  obtain ⟨hb, i0, i1, i2⟩ := id_1 j hj
  generalize hq : pos 1 j = q0 at hU hb i0 i1 i2 ⊢
  have o : ∀ n, q0 < n → n ≤ 243 → Ok n 1 j := fun n h1 h2 => ⟨by decide, hj, by rw [hq]; exact h1, h2⟩
  have u0 := un_at hU (Nat.le_refl _) (by omega) i0
  have u1 := un_at hU (by omega) (by omega) i1
  have u2 := un_at hU (by omega) (by omega) i2
  refine Ct.of 0 (L0 := [some (aR 1 j)]) (by decide) ⟨by omega, by omega⟩ rfl rfl ?_
  intro G C hg hrt hnm
  refine r_aload_n C dX1_init_0 rfl ?_
  refine r_objI C dX1_init_1 coX1_3 (by omega) (Nat.le_of_ble_eq_true rfl) ?_
  refine r_aload_n C dX1_init_4 rfl ?_
  refine r_iconst (v := (nI 0)) C dX1_init_5 (by decide) ?_
  refine r_putI C flX1_9 dX1_init_6 (o _ (by omega) (by omega)) rfl ⟨rfl, rfl⟩ ?_
  refine r_aload_n C dX1_init_9 rfl ?_
  refine r_iconst (v := (nI 0)) C dX1_init_10 (by decide) ?_
  refine r_putI C flX1_15 dX1_init_11 (o _ (by omega) (by omega)) rfl ⟨rfl, rfl⟩ ?_
  refine r_aload_n C dX1_init_14 rfl ?_
  refine r_iconst (v := (nI 5)) C dX1_init_15 (by decide) ?_
  refine r_newI C dX1_init_16 aw_I i1 rfl rfl (by decide) ⟨by omega, by omega⟩ (fun i => (u1 i).2) ?_
  refine r_putF C hnm flX1_18 rfl dX1_init_18 (o _ (by omega) (by omega)) rfl (fun _ => ⟨rfl, rfl⟩) ?_
  refine r_aload_n C dX1_init_21 rfl ?_
  refine r_iconst (v := (nI 5)) C dX1_init_22 (by decide) ?_
  refine r_newI C dX1_init_23 aw_I i2 rfl rfl (by decide) ⟨by omega, by omega⟩ (fun i => (u2 i).2) ?_
  refine r_putF C hnm flX1_22 rfl dX1_init_25 (o _ (by omega) (by omega)) rfl (fun _ => ⟨rfl, rfl⟩) ?_
  refine r_aload_n C dX1_init_28 rfl ?_
  refine r_iconst (v := (nI 0)) C dX1_init_29 (by decide) ?_
  refine r_putI C flX1_25 dX1_init_30 (o _ (by omega) (by omega)) rfl ⟨rfl, rfl⟩ ?_
  refine r_aload_n C dX1_init_33 rfl ?_
  refine r_iconst (v := (-1)) C dX1_init_34 (by decide) ?_
  refine r_putI C flX1_29 dX1_init_35 (o _ (by omega) (by omega)) rfl ⟨rfl, rfl⟩ ?_
  refine r_vret C hrt dX1_init_38 ?_
  refine in_of hU hb (by decide) (by repeat (first | exact Of.rf | refine Of.put ?_ hq | refine Of.putR ?_ hq)) (fun q h1 h2 => ?_)
  rcases (show q = q0 ∨ q = q0 + 1 ∨ q = q0 + 2 by omega) with e | e | e
  · refine dq_of (k := 1) (j := j) (by rw [e]; exact i0) (fun i hi => ?_)
    have hi : i < 6 := hi
    rcases (show i = 0 ∨ i = 1 ∨ i = 2 ∨ i = 3 ∨ i = 4 ∨ i = 5 by omega) with rfl | rfl | rfl | rfl | rfl | rfl <;> simp [putR, put, Rs, H0, u0, nI_0]
  · exact dq_of (k := 14) (j := j) (by rw [e]; exact i1) (fun i _ => ⟨(u1 i).1, (u1 i).2⟩)
  · exact dq_of (k := 15) (j := j) (by rw [e]; exact i2) (fun i _ => ⟨(u2 i).1, (u2 i).2⟩)
theorem id_4 : ∀ j, j < 1 → pos 4 j + 2 ≤ 243 ∧ idq (pos 4 j) = (4, j) ∧ idq (pos 4 j + 1) = (17, j) := by decide +kernel
set_option maxRecDepth 100000 in
set_option maxHeartbeats 4000000 in
theorem n_4 {E : Ev} {j : Nat} {R : RF} {h : HF} (hj : j < 1) (hU : Un (pos 4 j) R h) : Ct E 1 yX4_init cX4_init 1 none [aR 4 j] (pos 4 j + 1) R h (pos 4 j + 2) (inP (pos 4 j) 2 R h) := by
  obtain rfl : j = 0 := by omega
  obtain ⟨hb, i0, i1⟩ := id_4 0 hj
  generalize hq : pos 4 0 = q0 at hU hb i0 i1 ⊢
  have o : ∀ n, q0 < n → n ≤ 243 → Ok n 4 0 := fun n h1 h2 => ⟨by decide, hj, by rw [hq]; exact h1, h2⟩
  have u0 := un_at hU (Nat.le_refl _) (by omega) i0
  have u1 := un_at hU (by omega) (by omega) i1
  refine Ct.of 0 (L0 := [some (aR 4 0)]) (by decide) ⟨by omega, by omega⟩ rfl rfl ?_
  intro G C hg hrt hnm
  refine r_aload_n C dX4_init_0 rfl ?_
  refine r_objI C dX4_init_1 coX4_3 (by omega) (Nat.le_of_ble_eq_true rfl) ?_
  refine r_aload_n C dX4_init_4 rfl ?_
  refine r_iconst (v := (nI 3)) C dX4_init_5 (by decide) ?_
  refine r_newI C dX4_init_6 aw_I i1 rfl rfl (by decide) ⟨by omega, by omega⟩ (fun i => (u1 i).2) ?_
  refine r_putF C hnm flX4_11 rfl dX4_init_8 (o _ (by omega) (by omega)) rfl (fun _ => ⟨rfl, rfl⟩) ?_
  refine r_aload_n C dX4_init_11 rfl ?_
  refine r_iconst (v := (nI 0)) C dX4_init_12 (by decide) ?_
  refine r_putI C flX4_15 dX4_init_13 (o _ (by omega) (by omega)) rfl ⟨rfl, rfl⟩ ?_
  refine r_aload_n C dX4_init_16 rfl ?_
  refine r_iconst (v := (nI 0)) C dX4_init_17 (by decide) ?_
  refine r_putI C flX4_19 dX4_init_18 (o _ (by omega) (by omega)) rfl ⟨rfl, rfl⟩ ?_
  refine r_aload_n C dX4_init_21 rfl ?_
  refine r_iconst (v := (-1)) C dX4_init_22 (by decide) ?_
  refine r_putI C flX4_22 dX4_init_23 (o _ (by omega) (by omega)) rfl ⟨rfl, rfl⟩ ?_
  refine r_vret C hrt dX4_init_26 ?_
  refine in_of hU hb (by decide) (by repeat (first | exact Of.rf | refine Of.put ?_ hq | refine Of.putR ?_ hq)) (fun q h1 h2 => ?_)
  rcases (show q = q0 ∨ q = q0 + 1 by omega) with e | e
  · refine dq_of (k := 4) (j := 0) (by rw [e]; exact i0) (fun i hi => ?_)
    have hi : i < 4 := hi
    rcases (show i = 0 ∨ i = 1 ∨ i = 2 ∨ i = 3 by omega) with rfl | rfl | rfl | rfl <;> simp [putR, put, Rs, H0, u0, nI_0]
  · exact dq_of (k := 17) (j := 0) (by rw [e]; exact i1) (fun i _ => ⟨(u1 i).1, (u1 i).2⟩)
theorem id_5 : ∀ j, j < 1 → pos 5 j + 6 ≤ 243 ∧ idq (pos 5 j) = (5, j) ∧ idq (pos 5 j + 1) = (18, j) ∧ idq (pos 5 j + 2) = (19, j) ∧ idq (pos 5 j + 3) = (20, j) ∧ idq (pos 5 j + 4) = (21, j) ∧ idq (pos 5 j + 5) = (22, j) := by decide +kernel
set_option maxRecDepth 100000 in
set_option maxHeartbeats 4000000 in
theorem n_5 {E : Ev} {j : Nat} {R : RF} {h : HF} (hj : j < 1) (hU : Un (pos 5 j) R h) : Ct E 1 yX5_init cX5_init 1 none [aR 5 j] (pos 5 j + 1) R h (pos 5 j + 6) (inP (pos 5 j) 6 R h) := by
  obtain rfl : j = 0 := by omega
  obtain ⟨hb, i0, i1, i2, i3, i4, i5⟩ := id_5 0 hj
  generalize hq : pos 5 0 = q0 at hU hb i0 i1 i2 i3 i4 i5 ⊢
  have o : ∀ n, q0 < n → n ≤ 243 → Ok n 5 0 := fun n h1 h2 => ⟨by decide, hj, by rw [hq]; exact h1, h2⟩
  have u0 := un_at hU (Nat.le_refl _) (by omega) i0
  have u1 := un_at hU (by omega) (by omega) i1
  have u2 := un_at hU (by omega) (by omega) i2
  have u3 := un_at hU (by omega) (by omega) i3
  have u4 := un_at hU (by omega) (by omega) i4
  have u5 := un_at hU (by omega) (by omega) i5
  refine Ct.of 0 (L0 := [some (aR 5 0)]) (by decide) ⟨by omega, by omega⟩ rfl rfl ?_
  intro G C hg hrt hnm
  refine r_aload_n C dX5_init_0 rfl ?_
  refine r_objI C dX5_init_1 coX5_3 (by omega) (Nat.le_of_ble_eq_true rfl) ?_
  refine r_aload_n C dX5_init_4 rfl ?_
  refine r_bipush (v := (nI 8)) C dX5_init_5 (by decide) ?_
  refine r_newI C dX5_init_7 aw_I i1 rfl rfl (by decide) ⟨by omega, by omega⟩ (fun i => (u1 i).2) ?_
  refine r_putF C hnm flX5_9 rfl dX5_init_9 (o _ (by omega) (by omega)) rfl (fun _ => ⟨rfl, rfl⟩) ?_
  refine r_aload_n C dX5_init_12 rfl ?_
  refine r_bipush (v := (nI 8)) C dX5_init_13 (by decide) ?_
  refine r_newI C dX5_init_15 aw_I i2 rfl rfl (by decide) ⟨by omega, by omega⟩ (fun i => (u2 i).2) ?_
  refine r_putF C hnm flX5_15 rfl dX5_init_17 (o _ (by omega) (by omega)) rfl (fun _ => ⟨rfl, rfl⟩) ?_
  refine r_aload_n C dX5_init_20 rfl ?_
  refine r_bipush (v := (nI 8)) C dX5_init_21 (by decide) ?_
  refine r_newI C dX5_init_23 aw_I i3 rfl rfl (by decide) ⟨by omega, by omega⟩ (fun i => (u3 i).2) ?_
  refine r_putF C hnm flX5_18 rfl dX5_init_25 (o _ (by omega) (by omega)) rfl (fun _ => ⟨rfl, rfl⟩) ?_
  refine r_aload_n C dX5_init_28 rfl ?_
  refine r_bipush (v := (nI 8)) C dX5_init_29 (by decide) ?_
  refine r_newI C dX5_init_31 aw_I i4 rfl rfl (by decide) ⟨by omega, by omega⟩ (fun i => (u4 i).2) ?_
  refine r_putF C hnm flX5_21 rfl dX5_init_33 (o _ (by omega) (by omega)) rfl (fun _ => ⟨rfl, rfl⟩) ?_
  refine r_aload_n C dX5_init_36 rfl ?_
  refine r_iconst (v := (nI 4)) C dX5_init_37 (by decide) ?_
  refine r_newI C dX5_init_38 aw_I i5 rfl rfl (by decide) ⟨by omega, by omega⟩ (fun i => (u5 i).2) ?_
  refine r_putF C hnm flX5_24 rfl dX5_init_40 (o _ (by omega) (by omega)) rfl (fun _ => ⟨rfl, rfl⟩) ?_
  refine r_aload_n C dX5_init_43 rfl ?_
  refine r_iconst (v := (nI 0)) C dX5_init_44 (by decide) ?_
  refine r_putI C flX5_27 dX5_init_45 (o _ (by omega) (by omega)) rfl ⟨rfl, rfl⟩ ?_
  refine r_vret C hrt dX5_init_48 ?_
  refine in_of hU hb (by decide) (by repeat (first | exact Of.rf | refine Of.put ?_ hq | refine Of.putR ?_ hq)) (fun q h1 h2 => ?_)
  rcases (show q = q0 ∨ q = q0 + 1 ∨ q = q0 + 2 ∨ q = q0 + 3 ∨ q = q0 + 4 ∨ q = q0 + 5 by omega) with e | e | e | e | e | e
  · refine dq_of (k := 5) (j := 0) (by rw [e]; exact i0) (fun i hi => ?_)
    have hi : i < 6 := hi
    rcases (show i = 0 ∨ i = 1 ∨ i = 2 ∨ i = 3 ∨ i = 4 ∨ i = 5 by omega) with rfl | rfl | rfl | rfl | rfl | rfl <;> simp [putR, put, Rs, H0, u0, nI_0]
  · exact dq_of (k := 18) (j := 0) (by rw [e]; exact i1) (fun i _ => ⟨(u1 i).1, (u1 i).2⟩)
  · exact dq_of (k := 19) (j := 0) (by rw [e]; exact i2) (fun i _ => ⟨(u2 i).1, (u2 i).2⟩)
  · exact dq_of (k := 20) (j := 0) (by rw [e]; exact i3) (fun i _ => ⟨(u3 i).1, (u3 i).2⟩)
  · exact dq_of (k := 21) (j := 0) (by rw [e]; exact i4) (fun i _ => ⟨(u4 i).1, (u4 i).2⟩)
  · exact dq_of (k := 22) (j := 0) (by rw [e]; exact i5) (fun i _ => ⟨(u5 i).1, (u5 i).2⟩)
theorem id_7 : ∀ j, j < 1 → pos 7 j + 2 ≤ 243 ∧ idq (pos 7 j) = (7, j) ∧ idq (pos 7 j + 1) = (26, j) := by decide +kernel
set_option maxRecDepth 100000 in
set_option maxHeartbeats 4000000 in
theorem n_7 {E : Ev} {j : Nat} {R : RF} {h : HF} (hj : j < 1) (hU : Un (pos 7 j) R h) : Ct E 1 yX7_init cX7_init 1 none [aR 7 j] (pos 7 j + 1) R h (pos 7 j + 2) (inP (pos 7 j) 2 R h) := by
  obtain rfl : j = 0 := by omega
  obtain ⟨hb, i0, i1⟩ := id_7 0 hj
  generalize hq : pos 7 0 = q0 at hU hb i0 i1 ⊢
  have o : ∀ n, q0 < n → n ≤ 243 → Ok n 7 0 := fun n h1 h2 => ⟨by decide, hj, by rw [hq]; exact h1, h2⟩
  have u0 := un_at hU (Nat.le_refl _) (by omega) i0
  have u1 := un_at hU (by omega) (by omega) i1
  refine Ct.of 0 (L0 := [some (aR 7 0)]) (by decide) ⟨by omega, by omega⟩ rfl rfl ?_
  intro G C hg hrt hnm
  refine r_aload_n C dX7_init_0 rfl ?_
  refine r_objI C dX7_init_1 coX7_3 (by omega) (Nat.le_of_ble_eq_true rfl) ?_
  refine r_aload_n C dX7_init_4 rfl ?_
  refine r_sipush (v := (nI 240)) C dX7_init_5 (by decide) ?_
  refine r_newI C dX7_init_8 aw_I i1 rfl rfl (by decide) ⟨by omega, by omega⟩ (fun i => (u1 i).2) ?_
  refine r_putF C hnm flX7_9 rfl dX7_init_10 (o _ (by omega) (by omega)) rfl (fun _ => ⟨rfl, rfl⟩) ?_
  refine r_aload_n C dX7_init_13 rfl ?_
  refine r_iconst (v := (nI 0)) C dX7_init_14 (by decide) ?_
  refine r_putI C flX7_15 dX7_init_15 (o _ (by omega) (by omega)) rfl ⟨rfl, rfl⟩ ?_
  refine r_vret C hrt dX7_init_18 ?_
  refine in_of hU hb (by decide) (by repeat (first | exact Of.rf | refine Of.put ?_ hq | refine Of.putR ?_ hq)) (fun q h1 h2 => ?_)
  rcases (show q = q0 ∨ q = q0 + 1 by omega) with e | e
  · refine dq_of (k := 7) (j := 0) (by rw [e]; exact i0) (fun i hi => ?_)
    have hi : i < 2 := hi
    rcases (show i = 0 ∨ i = 1 by omega) with rfl | rfl <;> simp [putR, put, Rs, H0, u0, nI_0]
  · exact dq_of (k := 26) (j := 0) (by rw [e]; exact i1) (fun i _ => ⟨(u1 i).1, (u1 i).2⟩)
theorem id_8 : ∀ j, j < 2 → pos 8 j + 10 ≤ 243 ∧ idq (pos 8 j) = (8, j) ∧ idq (pos 8 j + 1) = (27, j) ∧ idq (pos 8 j + 2) = (28, j) ∧ idq (pos 8 j + 3) = (29, j) ∧ idq (pos 8 j + 4) = (30, j) ∧ idq (pos 8 j + 5) = (31, j) ∧ idq (pos 8 j + 6) = (32, j) ∧ idq (pos 8 j + 7) = (33, j) ∧ idq (pos 8 j + 8) = (34, j) ∧ idq (pos 8 j + 9) = (35, j) := by decide +kernel
set_option maxRecDepth 100000 in
set_option maxHeartbeats 4000000 in
theorem n_8 {E : Ev} {j : Nat} {R : RF} {h : HF} (hj : j < 2) (hU : Un (pos 8 j) R h) : Ct E 1 yX8_init cX8_init 1 none [aR 8 j] (pos 8 j + 1) R h (pos 8 j + 10) (inP (pos 8 j) 10 R h) := by
  obtain ⟨hb, i0, i1, i2, i3, i4, i5, i6, i7, i8, i9⟩ := id_8 j hj
  generalize hq : pos 8 j = q0 at hU hb i0 i1 i2 i3 i4 i5 i6 i7 i8 i9 ⊢
  have o : ∀ n, q0 < n → n ≤ 243 → Ok n 8 j := fun n h1 h2 => ⟨by decide, hj, by rw [hq]; exact h1, h2⟩
  have u0 := un_at hU (Nat.le_refl _) (by omega) i0
  have u1 := un_at hU (by omega) (by omega) i1
  have u2 := un_at hU (by omega) (by omega) i2
  have u3 := un_at hU (by omega) (by omega) i3
  have u4 := un_at hU (by omega) (by omega) i4
  have u5 := un_at hU (by omega) (by omega) i5
  have u6 := un_at hU (by omega) (by omega) i6
  have u7 := un_at hU (by omega) (by omega) i7
  have u8 := un_at hU (by omega) (by omega) i8
  have u9 := un_at hU (by omega) (by omega) i9
  refine Ct.of 0 (L0 := [some (aR 8 j)]) (by decide) ⟨by omega, by omega⟩ rfl rfl ?_
  intro G C hg hrt hnm
  refine r_aload_n C dX8_init_0 rfl ?_
  refine r_objI C dX8_init_1 coX8_3 (by omega) (Nat.le_of_ble_eq_true rfl) ?_
  refine r_aload_n C dX8_init_4 rfl ?_
  refine r_iconst (v := (nI 0)) C dX8_init_5 (by decide) ?_
  refine r_putI C flX8_9 dX8_init_6 (o _ (by omega) (by omega)) rfl ⟨rfl, rfl⟩ ?_
  refine r_aload_n C dX8_init_9 rfl ?_
  refine r_iconst (v := (nI 0)) C dX8_init_10 (by decide) ?_
  refine r_putI C flX8_15 dX8_init_11 (o _ (by omega) (by omega)) rfl ⟨rfl, rfl⟩ ?_
  refine r_aload_n C dX8_init_14 rfl ?_
  refine r_iconst (v := (nI 0)) C dX8_init_15 (by decide) ?_
  refine r_putI C flX8_19 dX8_init_16 (o _ (by omega) (by omega)) rfl ⟨rfl, rfl⟩ ?_
  refine r_aload_n C dX8_init_19 rfl ?_
  refine r_iconst (v := (nI 0)) C dX8_init_20 (by decide) ?_
  refine r_putI C flX8_22 dX8_init_21 (o _ (by omega) (by omega)) rfl ⟨rfl, rfl⟩ ?_
  refine r_aload_n C dX8_init_24 rfl ?_
  refine r_iconst (v := (nI 0)) C dX8_init_25 (by decide) ?_
  refine r_putI C flX8_25 dX8_init_26 (o _ (by omega) (by omega)) rfl ⟨rfl, rfl⟩ ?_
  refine r_aload_n C dX8_init_29 rfl ?_
  refine r_iconst (v := (nI 0)) C dX8_init_30 (by decide) ?_
  refine r_putI C flX8_28 dX8_init_31 (o _ (by omega) (by omega)) rfl ⟨rfl, rfl⟩ ?_
  refine r_aload_n C dX8_init_34 rfl ?_
  refine r_iconst (v := (nI 0)) C dX8_init_35 (by decide) ?_
  refine r_putI C flX8_31 dX8_init_36 (o _ (by omega) (by omega)) rfl ⟨rfl, rfl⟩ ?_
  refine r_aload_n C dX8_init_39 rfl ?_
  refine r_iconst (v := (nI 5)) C dX8_init_40 (by decide) ?_
  refine r_newI C dX8_init_41 aw_I i1 rfl rfl (by decide) ⟨by omega, by omega⟩ (fun i => (u1 i).2) ?_
  refine r_putF C hnm flX8_34 rfl dX8_init_43 (o _ (by omega) (by omega)) rfl (fun _ => ⟨rfl, rfl⟩) ?_
  refine r_aload_n C dX8_init_46 rfl ?_
  refine r_iconst (v := (nI 5)) C dX8_init_47 (by decide) ?_
  refine r_newI C dX8_init_48 aw_I i2 rfl rfl (by decide) ⟨by omega, by omega⟩ (fun i => (u2 i).2) ?_
  refine r_putF C hnm flX8_38 rfl dX8_init_50 (o _ (by omega) (by omega)) rfl (fun _ => ⟨rfl, rfl⟩) ?_
  refine r_aload_n C dX8_init_53 rfl ?_
  refine r_iconst (v := (nI 5)) C dX8_init_54 (by decide) ?_
  refine r_newI C dX8_init_55 aw_I i3 rfl rfl (by decide) ⟨by omega, by omega⟩ (fun i => (u3 i).2) ?_
  refine r_putF C hnm flX8_41 rfl dX8_init_57 (o _ (by omega) (by omega)) rfl (fun _ => ⟨rfl, rfl⟩) ?_
  refine r_aload_n C dX8_init_60 rfl ?_
  refine r_iconst (v := (nI 4)) C dX8_init_61 (by decide) ?_
  refine r_newI C dX8_init_62 aw_I i4 rfl rfl (by decide) ⟨by omega, by omega⟩ (fun i => (u4 i).2) ?_
  refine r_putF C hnm flX8_44 rfl dX8_init_64 (o _ (by omega) (by omega)) rfl (fun _ => ⟨rfl, rfl⟩) ?_
  refine r_aload_n C dX8_init_67 rfl ?_
  refine r_iconst (v := (nI 4)) C dX8_init_68 (by decide) ?_
  refine r_newI C dX8_init_69 aw_I i5 rfl rfl (by decide) ⟨by omega, by omega⟩ (fun i => (u5 i).2) ?_
  refine r_putF C hnm flX8_47 rfl dX8_init_71 (o _ (by omega) (by omega)) rfl (fun _ => ⟨rfl, rfl⟩) ?_
  refine r_aload_n C dX8_init_74 rfl ?_
  refine r_iconst (v := (nI 4)) C dX8_init_75 (by decide) ?_
  refine r_newI C dX8_init_76 aw_I i6 rfl rfl (by decide) ⟨by omega, by omega⟩ (fun i => (u6 i).2) ?_
  refine r_putF C hnm flX8_50 rfl dX8_init_78 (o _ (by omega) (by omega)) rfl (fun _ => ⟨rfl, rfl⟩) ?_
  refine r_aload_n C dX8_init_81 rfl ?_
  refine r_bipush (v := (nI 6)) C dX8_init_82 (by decide) ?_
  refine r_newI C dX8_init_84 aw_I i7 rfl rfl (by decide) ⟨by omega, by omega⟩ (fun i => (u7 i).2) ?_
  refine r_putF C hnm flX8_53 rfl dX8_init_86 (o _ (by omega) (by omega)) rfl (fun _ => ⟨rfl, rfl⟩) ?_
  refine r_aload_n C dX8_init_89 rfl ?_
  refine r_iconst (v := (nI 4)) C dX8_init_90 (by decide) ?_
  refine r_newI C dX8_init_91 aw_I i8 rfl rfl (by decide) ⟨by omega, by omega⟩ (fun i => (u8 i).2) ?_
  refine r_putF C hnm flX8_56 rfl dX8_init_93 (o _ (by omega) (by omega)) rfl (fun _ => ⟨rfl, rfl⟩) ?_
  refine r_aload_n C dX8_init_96 rfl ?_
  refine r_iconst (v := (nI 4)) C dX8_init_97 (by decide) ?_
  refine r_newI C dX8_init_98 aw_I i9 rfl rfl (by decide) ⟨by omega, by omega⟩ (fun i => (u9 i).2) ?_
  refine r_putF C hnm flX8_59 rfl dX8_init_100 (o _ (by omega) (by omega)) rfl (fun _ => ⟨rfl, rfl⟩) ?_
  refine r_vret C hrt dX8_init_103 ?_
  refine in_of hU hb (by decide) (by repeat (first | exact Of.rf | refine Of.put ?_ hq | refine Of.putR ?_ hq)) (fun q h1 h2 => ?_)
  rcases (show q = q0 ∨ q = q0 + 1 ∨ q = q0 + 2 ∨ q = q0 + 3 ∨ q = q0 + 4 ∨ q = q0 + 5 ∨ q = q0 + 6 ∨ q = q0 + 7 ∨ q = q0 + 8 ∨ q = q0 + 9 by omega) with e | e | e | e | e | e | e | e | e | e
  · refine dq_of (k := 8) (j := j) (by rw [e]; exact i0) (fun i hi => ?_)
    have hi : i < 16 := hi
    rcases (show i = 0 ∨ i = 1 ∨ i = 2 ∨ i = 3 ∨ i = 4 ∨ i = 5 ∨ i = 6 ∨ i = 7 ∨ i = 8 ∨ i = 9 ∨ i = 10 ∨ i = 11 ∨ i = 12 ∨ i = 13 ∨ i = 14 ∨ i = 15 by omega) with rfl | rfl | rfl | rfl | rfl | rfl | rfl | rfl | rfl | rfl | rfl | rfl | rfl | rfl | rfl | rfl <;> simp [putR, put, Rs, H0, u0, nI_0]
  · exact dq_of (k := 27) (j := j) (by rw [e]; exact i1) (fun i _ => ⟨(u1 i).1, (u1 i).2⟩)
  · exact dq_of (k := 28) (j := j) (by rw [e]; exact i2) (fun i _ => ⟨(u2 i).1, (u2 i).2⟩)
  · exact dq_of (k := 29) (j := j) (by rw [e]; exact i3) (fun i _ => ⟨(u3 i).1, (u3 i).2⟩)
  · exact dq_of (k := 30) (j := j) (by rw [e]; exact i4) (fun i _ => ⟨(u4 i).1, (u4 i).2⟩)
  · exact dq_of (k := 31) (j := j) (by rw [e]; exact i5) (fun i _ => ⟨(u5 i).1, (u5 i).2⟩)
  · exact dq_of (k := 32) (j := j) (by rw [e]; exact i6) (fun i _ => ⟨(u6 i).1, (u6 i).2⟩)
  · exact dq_of (k := 33) (j := j) (by rw [e]; exact i7) (fun i _ => ⟨(u7 i).1, (u7 i).2⟩)
  · exact dq_of (k := 34) (j := j) (by rw [e]; exact i8) (fun i _ => ⟨(u8 i).1, (u8 i).2⟩)
  · exact dq_of (k := 35) (j := j) (by rw [e]; exact i9) (fun i _ => ⟨(u9 i).1, (u9 i).2⟩)
theorem id_6 : ∀ j, j < 23 → pos 6 j + 7 ≤ 243 ∧ pos 1 j = pos 6 j + 1 ∧ idq (pos 6 j) = (6, j) ∧ idq (pos 6 j + 1) = (1, j) ∧ idq (pos 6 j + 4) = (23, j) ∧ idq (pos 6 j + 5) = (24, j) ∧ idq (pos 6 j + 6) = (25, j) := by decide +kernel
set_option maxRecDepth 100000 in
set_option maxHeartbeats 4000000 in
theorem n_6 {E : Ev} {j : Nat} {R : RF} {h : HF} (hj : j < 23) (hU : Un (pos 6 j) R h) : Ct E 2 yX6_init cX6_init 1 none [aR 6 j] (pos 6 j + 1) R h (pos 6 j + 7) (inP (pos 6 j) 7 R h) := by
  obtain ⟨hb, p1, i0, i1, i4, i5, i6⟩ := id_6 j hj
  have hc := n_1 (E := E) (j := j) (R := R) (h := h) (by omega) (hU.le (by omega))
  rw [p1] at hc
  generalize hq : pos 6 j = q0 at hU hb i0 i1 i4 i5 i6 p1 hc ⊢
  have o : ∀ n, q0 < n → n ≤ 243 → Ok n 6 j := fun n h1 h2 => ⟨by decide, hj, by rw [hq]; exact h1, h2⟩
  have w0 := un_at hU (Nat.le_refl _) (by omega) i0
  have w1 := un_at hU (by omega) (by omega) i1
  refine Ct.of 0 (L0 := [some (aR 6 j)]) (by decide) ⟨by omega, by omega⟩ rfl rfl ?_
  intro G C hg hrt hnm
  refine r_aload_n C dX6_init_0 rfl ?_
  refine r_objI C dX6_init_1 coX6_3 (by omega) (Nat.le_of_ble_eq_true rfl) ?_
  refine r_aload_n C dX6_init_4 rfl ?_
  refine r_new C clX6_9 dX6_init_5 i1 ⟨by omega, by omega⟩ (fun i => (w1 i).1) (fun i => (w1 i).2) ?_
  refine r_dup C dX6_init_8 rfl ?_
  refine r_callIN C hc dX6_init_9 cw_X1_init cnX6_11 (by omega) rfl ⟨by omega, by omega, by omega⟩ rfl (Nat.le_of_ble_eq_true rfl) ?_
  rintro v R1 h1 ⟨rfl, d1, v1, s1⟩
  have u4 := un_at v1 (q := q0 + 4) (by omega) (by omega) i4
  have u5 := un_at v1 (q := q0 + 5) (by omega) (by omega) i5
  have u6 := un_at v1 (q := q0 + 6) (by omega) (by omega) i6
  have e0 := sq_at (s1 q0 (by omega)) i0
  have u0 : ∀ i, R1 6 j i = none ∧ h1 6 j i = 0 := fun i => by rw [e0.1, e0.2]; exact w0 i
  refine r_putF C hnm flX6_12 rfl dX6_init_12 (o _ (by omega) (by omega)) rfl (fun _ => ⟨rfl, rfl⟩) ?_
  refine r_aload_n C dX6_init_15 rfl ?_
  refine r_iconst (v := (nI 0)) C dX6_init_16 (by decide) ?_
  refine r_putI C flX6_18 dX6_init_17 (o _ (by omega) (by omega)) rfl ⟨rfl, rfl⟩ ?_
  refine r_aload_n C dX6_init_20 rfl ?_
  refine r_iconst (v := (nI 0)) C dX6_init_21 (by decide) ?_
  refine r_putI C flX6_22 dX6_init_22 (o _ (by omega) (by omega)) rfl ⟨rfl, rfl⟩ ?_
  refine r_aload_n C dX6_init_25 rfl ?_
  refine r_iconst (v := (nI 0)) C dX6_init_26 (by decide) ?_
  refine r_putI C flX6_25 dX6_init_27 (o _ (by omega) (by omega)) rfl ⟨rfl, rfl⟩ ?_
  refine r_aload_n C dX6_init_30 rfl ?_
  refine r_iconst (v := (nI 4)) C dX6_init_31 (by decide) ?_
  refine r_newI C dX6_init_32 aw_I i4 rfl rfl (by decide) ⟨by omega, by omega⟩ (fun i => (u4 i).2) ?_
  refine r_putF C hnm flX6_28 rfl dX6_init_34 (o _ (by omega) (by omega)) rfl (fun _ => ⟨rfl, rfl⟩) ?_
  refine r_aload_n C dX6_init_37 rfl ?_
  refine r_iconst (v := (nI 5)) C dX6_init_38 (by decide) ?_
  refine r_newI C dX6_init_39 aw_I i5 rfl rfl (by decide) ⟨by omega, by omega⟩ (fun i => (u5 i).2) ?_
  refine r_putF C hnm flX6_32 rfl dX6_init_41 (o _ (by omega) (by omega)) rfl (fun _ => ⟨rfl, rfl⟩) ?_
  refine r_aload_n C dX6_init_44 rfl ?_
  refine r_bipush (v := (nI 20)) C dX6_init_45 (by decide) ?_
  refine r_newI C dX6_init_47 aw_I i6 rfl rfl (by decide) ⟨by omega, by omega⟩ (fun i => (u6 i).2) ?_
  refine r_putF C hnm flX6_35 rfl dX6_init_49 (o _ (by omega) (by omega)) rfl (fun _ => ⟨rfl, rfl⟩) ?_
  refine r_vret C hrt dX6_init_52 ?_
  have f : Of q0 R1 h1 (putR (putR (putR (putR R1 6 j 0 (some (1, j))) 6 j 4 (some (23, j))) 6 j 5 (some (24, j))) 6 j 6 (some (25, j))) (put (put (put h1 6 j 1 (nI 0)) 6 j 2 (nI 0)) 6 j 3 (nI 0)) := by repeat (first | exact Of.rf | refine Of.put ?_ hq | refine Of.putR ?_ hq)
  refine ⟨rfl, fun q h1 h2 => ?_, (v1.le (by omega)).of f (by omega), (s1.le (by omega)).of f (by omega)⟩
  rcases (show q = q0 ∨ (q0 + 1 ≤ q ∧ q < q0 + 1 + 3) ∨ q = q0 + 4 ∨ q = q0 + 5 ∨ q = q0 + 6 by omega) with e | e | e | e | e
  · refine dq_of (k := 6) (j := j) (by rw [e]; exact i0) (fun i hi => ?_)
    have hi : i < 7 := hi
    rcases (show i = 0 ∨ i = 1 ∨ i = 2 ∨ i = 3 ∨ i = 4 ∨ i = 5 ∨ i = 6 by omega) with rfl | rfl | rfl | rfl | rfl | rfl | rfl <;> simp [putR, put, Rs, H0, u0, nI_0]
  · exact (d1 q e.1 e.2).sq (f q (by omega) (by omega))
  · exact dq_of (k := 23) (j := j) (by rw [e]; exact i4) (fun i _ => ⟨(u4 i).1, (u4 i).2⟩)
  · exact dq_of (k := 24) (j := j) (by rw [e]; exact i5) (fun i _ => ⟨(u5 i).1, (u5 i).2⟩)
  · exact dq_of (k := 25) (j := j) (by rw [e]; exact i6) (fun i _ => ⟨(u6 i).1, (u6 i).2⟩)
theorem id_2 : ∀ j, j < 2 → pos 2 j + 8 ≤ 243 ∧ pos 6 (21 + j) = pos 2 j + 1 ∧ idq (pos 2 j) = (2, j) ∧ idq (pos 2 j + 1) = (6, 21 + j) := by decide +kernel
set_option maxRecDepth 100000 in
set_option maxHeartbeats 4000000 in
theorem n_2 {E : Ev} {j : Nat} {R : RF} {h : HF} (hj : j < 2) (hU : Un (pos 2 j) R h) : Ct E 3 yX2_init cX2_init 1 none [aR 2 j] (pos 2 j + 1) R h (pos 2 j + 8) (inP (pos 2 j) 8 R h) := by
  obtain ⟨hb, p1, i0, i1⟩ := id_2 j hj
  have hc := n_6 (E := E) (j := 21 + j) (R := R) (h := h) (by omega) (hU.le (by omega))
  rw [p1] at hc
  generalize hq : pos 2 j = q0 at hU hb i0 i1 p1 hc ⊢
  have o : ∀ n, q0 < n → n ≤ 243 → Ok n 2 j := fun n h1 h2 => ⟨by decide, hj, by rw [hq]; exact h1, h2⟩
  have w0 := un_at hU (Nat.le_refl _) (by omega) i0
  have w1 := un_at hU (by omega) (by omega) i1
  refine Ct.of 0 (L0 := [some (aR 2 j)]) (by decide) ⟨by omega, by omega⟩ rfl rfl ?_
  intro G C hg hrt hnm
  refine r_aload_n C dX2_init_0 rfl ?_
  refine r_objI C dX2_init_1 coX2_1 (by omega) (Nat.le_of_ble_eq_true rfl) ?_
  refine r_aload_n C dX2_init_4 rfl ?_
  refine r_new C clX2_7 dX2_init_5 i1 ⟨by omega, by omega⟩ (fun i => (w1 i).1) (fun i => (w1 i).2) ?_
  refine r_dup C dX2_init_8 rfl ?_
  refine r_callIN C hc dX2_init_9 cw_X6_init cnX2_9 (by omega) rfl ⟨by omega, by omega, by omega⟩ rfl (Nat.le_of_ble_eq_true rfl) ?_
  rintro v R1 h1 ⟨rfl, d1, v1, s1⟩
  have e0 := sq_at (s1 q0 (by omega)) i0
  have u0 : ∀ i, R1 2 j i = none ∧ h1 2 j i = 0 := fun i => by rw [e0.1, e0.2]; exact w0 i
  refine r_putF C hnm flX2_10 rfl dX2_init_12 (o _ (by omega) (by omega)) rfl (fun _ => ⟨rfl, rfl⟩) ?_
  refine r_aload_n C dX2_init_15 rfl ?_
  refine r_iconst (v := (nI 0)) C dX2_init_16 (by decide) ?_
  refine r_putI C flX2_16 dX2_init_17 (o _ (by omega) (by omega)) rfl ⟨rfl, rfl⟩ ?_
  refine r_aload_n C dX2_init_20 rfl ?_
  refine r_iconst (v := (nI 0)) C dX2_init_21 (by decide) ?_
  refine r_putI C flX2_20 dX2_init_22 (o _ (by omega) (by omega)) rfl ⟨rfl, rfl⟩ ?_
  refine r_vret C hrt dX2_init_25 ?_
  have f : Of q0 R1 h1 (putR R1 2 j 0 (some (6, 21 + j))) (put (put h1 2 j 1 (nI 0)) 2 j 2 (nI 0)) := by repeat (first | exact Of.rf | refine Of.put ?_ hq | refine Of.putR ?_ hq)
  refine ⟨rfl, fun q h1 h2 => ?_, (v1.le (by omega)).of f (by omega), (s1.le (by omega)).of f (by omega)⟩
  rcases (show q = q0 ∨ (q0 + 1 ≤ q ∧ q < q0 + 1 + 7) by omega) with e | e
  · refine dq_of (k := 2) (j := j) (by rw [e]; exact i0) (fun i hi => ?_)
    have hi : i < 3 := hi
    rcases (show i = 0 ∨ i = 1 ∨ i = 2 by omega) with rfl | rfl | rfl <;> simp [putR, put, Rs, H0, u0, nI_0]
  · exact (d1 q e.1 e.2).sq (f q (by omega) (by omega))
theorem lk_3 : Cond.classLink RX3 9 "SiegePlate$Siege" ∈ tb := (tbm 269 (by decide +kernel) rfl)
theorem lk_9 : Cond.classLink RX9 9 "SiegePlate$Camp" ∈ tb := (tbm 291 (by decide +kernel) rfl)
theorem lk_10 : Cond.classLink RX10 47 "SiegePlate$Image" ∈ tb := (tbm 283 (by decide +kernel) rfl)
theorem id_3 : pos 3 0 = 32 ∧ pos 16 0 = 33 ∧ idq 32 = (3, 0) ∧ idq 33 = (16, 0) ∧ ∀ i, i < 20 → pos 6 (i + 1) = 34 + 7 * i ∧ idq (34 + 7 * i) = (6, i + 1) := by decide +kernel
set_option maxRecDepth 100000 in
set_option maxHeartbeats 4000000 in
theorem n_3 {E : Ev} {R : RF} {h : HF} (hU : Un 32 R h) : Ct E 3 yX3_init cX3_init 2 none [aR 3 0] 33 R h 174 (inP 32 142 R h) := by
  obtain ⟨q3, q16, i0, i1, iL⟩ := id_3
  have o3 : ∀ n, 32 < n → n ≤ 243 → Ok n 3 0 := fun n h1 h2 => ⟨by decide, by decide, by rw [q3]; exact h1, h2⟩
  have o16 : ∀ n, 33 < n → n ≤ 243 → Ok n 16 0 := fun n h1 h2 => ⟨by decide, by decide, by rw [q16]; exact h1, h2⟩
  have w0 := un_at hU (Nat.le_refl _) (by omega) i0
  have w1 := un_at hU (by omega) (by omega) i1
  refine Ct.of 1 (L0 := [some (aR 3 0), none]) (by decide) ⟨by omega, by omega⟩ rfl rfl ?_
  intro G C hg hrt hnm
  refine r_aload_n C dX3_init_0 rfl ?_
  refine r_objI C dX3_init_1 coX3_3 (by omega) (Nat.le_of_ble_eq_true rfl) ?_
  refine r_aload_n C dX3_init_4 rfl ?_
  refine r_bipush (v := (nI 20)) C dX3_init_5 (by decide) ?_
  refine r_newA (t := 0) C dX3_init_7 lk_3 C.2.2.2.2.1.2.2.1.1 rfl i1 rfl rfl (by decide) ⟨by omega, by omega⟩ (fun i => (w1 i).1) ?_
  refine r_putF C hnm flX3_11 rfl dX3_init_10 (o3 _ (by omega) (by omega)) rfl (fun _ => ⟨rfl, rfl⟩) ?_
  refine r_aload_n C dX3_init_13 rfl ?_
  refine r_iconst (v := (nI 0)) C dX3_init_14 (by decide) ?_
  refine r_putI C flX3_17 dX3_init_15 (o3 _ (by omega) (by omega)) rfl ⟨rfl, rfl⟩ ?_
  refine r_aload_n C dX3_init_18 rfl ?_
  refine r_iconst (v := (nI 0)) C dX3_init_19 (by decide) ?_
  refine r_putI C flX3_21 dX3_init_20 (o3 _ (by omega) (by omega)) rfl ⟨rfl, rfl⟩ ?_
  refine r_iconst (v := (nI 0)) C dX3_init_23 (by decide) ?_
  refine r_istore_n C dX3_init_24 st1 ?_
  have loop : ∀ m i R' h', i + m = 20 → Dq 32 R' h' → (∀ x, x < i → R' 16 0 x = some (6, x + 1)) → (∀ x, h' 16 0 x = 0) → Dn 34 (34 + 7 * i) R' h' → Un (34 + 7 * i) R' h' → Sm 32 R h R' h' → Wa E G (34 + 7 * i) R' h' (QQ E G 174 (inP 32 142 R h)) 25 [some (aR 3 0), some (aI (nI i))] [] := by
    intro m
    induction m with
    | zero =>
      intro i R' h' hi g0 g1 g2 g3 g4 g5
      have e : i = 20 := by omega
      subst e
      refine r_iload_n C dX3_init_25 rfl ?_
      refine r_bipush (v := (nI 20)) C dX3_init_26 (by decide) ?_
      refine r_icmpN_ge C dX3_init_28 (by omega) (by omega) (fun _ => ?_) (fun cc => absurd cc (by omega))
      refine r_vret C hrt dX3_init_50 ?_
      refine ⟨rfl, fun q h1 h2 => ?_, g4, g5⟩
      rcases (show q = 32 ∨ q = 33 ∨ 34 ≤ q by omega) with e | e | e
      · rw [e]; exact g0
      · rw [e]; exact dq_of i1 (fun x hx => ⟨g1 x hx, g2 x⟩)
      · exact g3 q e (by omega)
    | succ m ih =>
      intro i R' h' hi g0 g1 g2 g3 g4 g5
      obtain ⟨pn, idn⟩ := iL i (by omega)
      have hc := n_6 (E := E) (j := i + 1) (R := R') (h := h') (by omega) (by rw [pn]; exact g4)
      rw [pn] at hc
      have wn := un_at g4 (Nat.le_refl _) (by omega) idn
      have r0 := (dq_at i0 g0 0 (by decide)).1
      refine r_iload_n C dX3_init_25 rfl ?_
      refine r_bipush (v := (nI 20)) C dX3_init_26 (by decide) ?_
      refine r_icmpN_ge C dX3_init_28 (by omega) (by omega) (fun cc => absurd cc (by omega)) (fun _ => ?_)
      refine r_aload_n C dX3_init_31 rfl ?_
      refine r_getR C flX3_11 dX3_init_32 (o3 _ (by omega) (by omega)) rfl r0 ?_
      refine r_iload_n C dX3_init_35 rfl ?_
      refine r_new C clX3_9 dX3_init_36 idn ⟨by omega, by omega⟩ (fun x => (wn x).1) (fun x => (wn x).2) ?_
      refine r_dup C dX3_init_39 rfl ?_
      refine r_callIN C hc dX3_init_40 cw_X6_init cnX3_24 (by omega) rfl ⟨by omega, by omega, by omega⟩ rfl (Nat.le_of_ble_eq_true rfl) ?_
      rintro v R1 h1 ⟨rfl, d1, v1, s1⟩
      refine r_aast (t := 0) C dX3_init_43 (o16 _ (by omega) (by omega)) rfl rfl (show i < 20 by omega) (by decide) rfl rfl ⟨by decide, (show i + 1 < 23 by omega), by rw [pn]; omega, by omega⟩ rfl ?_
      first | refine r_iincN C dX3_init_44 rfl st1 ?_ | refine r_iinc C dX3_init_44 rfl rfl st1 ?_
      refine r_goto C dX3_init_47 ?_
      have e16 := sq_at (s1 33 (by omega)) i1
      have f : Of 33 R1 h1 (putR R1 16 0 i (some (6, i + 1))) h1 := Of.putR Of.rf q16
      have en : 34 + 7 * i + 7 = 34 + 7 * (i + 1) := by omega
      rw [en] at d1 v1 ⊢
      refine ih (i + 1) _ _ (by omega) ?_ (fun x hx => ?_) (fun x => ?_) (fun q h1 h2 => ?_) (v1.of f (by omega)) ((g5.tr (s1.le (by omega))).tr (fun q hq => f q (by omega) (by omega)))
      · exact (g0.sq (s1 32 (by omega))).sq (f 32 (by omega) (by omega))
      · by_cases e : x = i
        · subst e; simp [putR]
        · simp only [putR, if_neg e, if_true]
          rw [e16.1]
          exact g1 x (by omega)
      · rw [e16.2]; exact g2 x
      · by_cases e : q < 34 + 7 * i
        · exact ((g3 q h1 e).sq (s1 q e)).sq (f q (by omega) (by omega))
        · exact (d1 q (by omega) h2).sq (f q (by omega) (by omega))
  have f : Of 32 R h (putR R 3 0 0 (some (16, 0))) (put (put h 3 0 1 (nI 0)) 3 0 2 (nI 0)) := by repeat (first | exact Of.rf | refine Of.put ?_ q3 | refine Of.putR ?_ q3)
  refine loop 20 0 _ _ rfl (dq_of i0 (fun i hi => ?_)) (fun x hx => absurd hx (Nat.not_lt_zero _)) (fun x => (w1 x).2) (fun q h1 h2 => by omega) ((hU.le (by omega)).of f (by omega)) (Sm.of Sm.rf f (by omega))
  have hi : i < 3 := hi
  rcases (show i = 0 ∨ i = 1 ∨ i = 2 by omega) with rfl | rfl | rfl <;> simp [putR, put, Rs, H0, w0, nI_0]
theorem id_9 : pos 9 0 = 175 ∧ pos 36 0 = 176 ∧ idq 175 = (9, 0) ∧ idq 176 = (36, 0) ∧ idq 177 = (37, 0) ∧ ∀ i, i < 6 → pos 1 (23 + i) = 178 + 3 * i ∧ idq (178 + 3 * i) = (1, 23 + i) := by decide +kernel
set_option maxRecDepth 100000 in
set_option maxHeartbeats 4000000 in
theorem n_9 {E : Ev} {R : RF} {h : HF} (hU : Un 175 R h) : Ct E 2 yX9_init cX9_init 2 none [aR 9 0] 176 R h 196 (inP 175 21 R h) := by
  obtain ⟨q9, q36, i0, i1, i2, iL⟩ := id_9
  have o9 : ∀ n, 175 < n → n ≤ 243 → Ok n 9 0 := fun n h1 h2 => ⟨by decide, by decide, by rw [q9]; exact h1, h2⟩
  have o36 : ∀ n, 176 < n → n ≤ 243 → Ok n 36 0 := fun n h1 h2 => ⟨by decide, by decide, by rw [q36]; exact h1, h2⟩
  have w0 := un_at hU (Nat.le_refl _) (by omega) i0
  have w1 := un_at hU (by omega) (by omega) i1
  have w2 := un_at hU (by omega) (by omega) i2
  refine Ct.of 1 (L0 := [some (aR 9 0), none]) (by decide) ⟨by omega, by omega⟩ rfl rfl ?_
  intro G C hg hrt hnm
  refine r_aload_n C dX9_init_0 rfl ?_
  refine r_objI C dX9_init_1 coX9_3 (by omega) (Nat.le_of_ble_eq_true rfl) ?_
  refine r_aload_n C dX9_init_4 rfl ?_
  refine r_bipush (v := (nI 6)) C dX9_init_5 (by decide) ?_
  refine r_newA (t := 1) C dX9_init_7 lk_9 C.2.2.2.2.1.2.2.1.2.1 rfl i1 rfl rfl (by decide) ⟨by omega, by omega⟩ (fun i => (w1 i).1) ?_
  refine r_putF C hnm flX9_11 rfl dX9_init_10 (o9 _ (by omega) (by omega)) rfl (fun _ => ⟨rfl, rfl⟩) ?_
  refine r_aload_n C dX9_init_13 rfl ?_
  refine r_iconst (v := (nI 5)) C dX9_init_14 (by decide) ?_
  refine r_newI C dX9_init_15 aw_I i2 rfl rfl (by decide) ⟨by omega, by omega⟩ (fun i => (w2 i).2) ?_
  refine r_putF C hnm flX9_17 rfl dX9_init_17 (o9 _ (by omega) (by omega)) rfl (fun _ => ⟨rfl, rfl⟩) ?_
  refine r_aload_n C dX9_init_20 rfl ?_
  refine r_iconst (v := (nI 0)) C dX9_init_21 (by decide) ?_
  refine r_putI C flX9_21 dX9_init_22 (o9 _ (by omega) (by omega)) rfl ⟨rfl, rfl⟩ ?_
  refine r_aload_n C dX9_init_25 rfl ?_
  refine r_iconst (v := (nI 0)) C dX9_init_26 (by decide) ?_
  refine r_putI C flX9_25 dX9_init_27 (o9 _ (by omega) (by omega)) rfl ⟨rfl, rfl⟩ ?_
  refine r_aload_n C dX9_init_30 rfl ?_
  refine r_iconst (v := (nI 0)) C dX9_init_31 (by decide) ?_
  refine r_putI C flX9_28 dX9_init_32 (o9 _ (by omega) (by omega)) rfl ⟨rfl, rfl⟩ ?_
  refine r_iconst (v := (nI 0)) C dX9_init_35 (by decide) ?_
  refine r_istore_n C dX9_init_36 st1 ?_
  have loop : ∀ m i R' h', i + m = 6 → Dq 175 R' h' → Dq 177 R' h' → (∀ x, x < i → R' 36 0 x = some (1, 23 + x)) → (∀ x, h' 36 0 x = 0) → Dn 178 (178 + 3 * i) R' h' → Un (178 + 3 * i) R' h' → Sm 175 R h R' h' → Wa E G (178 + 3 * i) R' h' (QQ E G 196 (inP 175 21 R h)) 37 [some (aR 9 0), some (aI (nI i))] [] := by
    intro m
    induction m with
    | zero =>
      intro i R' h' hi g0 g0b g1 g2 g3 g4 g5
      have e : i = 6 := by omega
      subst e
      refine r_iload_n C dX9_init_37 rfl ?_
      refine r_iconst (v := (nI 5)) C dX9_init_38 (by decide) ?_
      refine r_icmpN_gt C dX9_init_39 (by omega) (by omega) (fun _ => ?_) (fun cc => absurd cc (by omega))
      refine r_vret C hrt dX9_init_61 ?_
      refine ⟨rfl, fun q h1 h2 => ?_, g4, g5⟩
      rcases (show q = 175 ∨ q = 176 ∨ q = 177 ∨ 178 ≤ q by omega) with e | e | e | e
      · rw [e]; exact g0
      · rw [e]; exact dq_of i1 (fun x hx => ⟨g1 x hx, g2 x⟩)
      · rw [e]; exact g0b
      · exact g3 q e (by omega)
    | succ m ih =>
      intro i R' h' hi g0 g0b g1 g2 g3 g4 g5
      obtain ⟨pn, idn⟩ := iL i (by omega)
      have hc := n_1 (E := E) (j := 23 + i) (R := R') (h := h') (by omega) (by rw [pn]; exact g4)
      rw [pn] at hc
      have wn := un_at g4 (Nat.le_refl _) (by omega) idn
      have r0 := (dq_at i0 g0 0 (by decide)).1
      refine r_iload_n C dX9_init_37 rfl ?_
      refine r_iconst (v := (nI 5)) C dX9_init_38 (by decide) ?_
      refine r_icmpN_gt C dX9_init_39 (by omega) (by omega) (fun cc => absurd cc (by omega)) (fun _ => ?_)
      refine r_aload_n C dX9_init_42 rfl ?_
      refine r_getR C flX9_11 dX9_init_43 (o9 _ (by omega) (by omega)) rfl r0 ?_
      refine r_iload_n C dX9_init_46 rfl ?_
      refine r_new C clX9_9 dX9_init_47 idn ⟨by omega, by omega⟩ (fun x => (wn x).1) (fun x => (wn x).2) ?_
      refine r_dup C dX9_init_50 rfl ?_
      refine r_callIN C hc dX9_init_51 cw_X1_init cnX9_31 (by omega) rfl ⟨by omega, by omega, by omega⟩ rfl (Nat.le_of_ble_eq_true rfl) ?_
      rintro v R1 h1 ⟨rfl, d1, v1, s1⟩
      refine r_aast (t := 1) C dX9_init_54 (o36 _ (by omega) (by omega)) rfl rfl (show i < 6 by omega) (by decide) rfl rfl ⟨by decide, (show 23 + i < 29 by omega), by rw [pn]; omega, by omega⟩ rfl ?_
      first | refine r_iincN C dX9_init_55 rfl st1 ?_ | refine r_iinc C dX9_init_55 rfl rfl st1 ?_
      refine r_goto C dX9_init_58 ?_
      have e16 := sq_at (s1 176 (by omega)) i1
      have f : Of 176 R1 h1 (putR R1 36 0 i (some (1, 23 + i))) h1 := Of.putR Of.rf q36
      have en : 178 + 3 * i + 3 = 178 + 3 * (i + 1) := by omega
      rw [en] at d1 v1 ⊢
      refine ih (i + 1) _ _ (by omega) ?_ ?_ (fun x hx => ?_) (fun x => ?_) (fun q h1 h2 => ?_) (v1.of f (by omega)) ((g5.tr (s1.le (by omega))).tr (fun q hq => f q (by omega) (by omega)))
      · exact (g0.sq (s1 175 (by omega))).sq (f 175 (by omega) (by omega))
      · exact (g0b.sq (s1 177 (by omega))).sq (f 177 (by omega) (by omega))
      · by_cases e : x = i
        · subst e; simp [putR]
        · simp only [putR, if_neg e, if_true]
          rw [e16.1]
          exact g1 x (by omega)
      · rw [e16.2]; exact g2 x
      · by_cases e : q < 178 + 3 * i
        · exact ((g3 q h1 e).sq (s1 q e)).sq (f q (by omega) (by omega))
        · exact (d1 q (by omega) h2).sq (f q (by omega) (by omega))
  have f : Of 175 R h (putR (putR R 9 0 0 (some (36, 0))) 9 0 1 (some (37, 0))) (put (put (put h 9 0 2 (nI 0)) 9 0 3 (nI 0)) 9 0 4 (nI 0)) := by repeat (first | exact Of.rf | refine Of.put ?_ q9 | refine Of.putR ?_ q9)
  refine loop 6 0 _ _ rfl (dq_of i0 (fun i hi => ?_)) (dq_of i2 (fun i _ => ⟨(w2 i).1, (w2 i).2⟩)) (fun x hx => absurd hx (Nat.not_lt_zero _)) (fun x => (w1 x).2) (fun q h1 h2 => by omega) ((hU.le (by omega)).of f (by omega)) (Sm.of Sm.rf f (by omega))
  have hi : i < 5 := hi
  rcases (show i = 0 ∨ i = 1 ∨ i = 2 ∨ i = 3 ∨ i = 4 by omega) with rfl | rfl | rfl | rfl | rfl <;> simp [putR, put, Rs, H0, w0, nI_0]

theorem id_11 : ∀ j, j < 1 → pos 11 j + 22 ≤ 243 ∧ idq (pos 11 j) = (11, j) ∧ idq (pos 11 j + 1) = (39, j) ∧ idq (pos 11 j + 2) = (40, j) ∧ idq (pos 11 j + 3) = (41, j) ∧ idq (pos 11 j + 4) = (42, j) ∧ idq (pos 11 j + 5) = (43, j) ∧ idq (pos 11 j + 6) = (44, j) ∧ idq (pos 11 j + 7) = (45, j) ∧ idq (pos 11 j + 8) = (46, j) ∧ idq (pos 11 j + 9) = (47, j) ∧ idq (pos 11 j + 10) = (48, j) ∧ idq (pos 11 j + 11) = (49, j) ∧ idq (pos 11 j + 12) = (50, j) ∧ idq (pos 11 j + 13) = (51, j) ∧ idq (pos 11 j + 14) = (52, j) ∧ idq (pos 11 j + 15) = (53, j) ∧ idq (pos 11 j + 16) = (54, j) ∧ idq (pos 11 j + 17) = (55, j) ∧ idq (pos 11 j + 18) = (56, j) ∧ idq (pos 11 j + 19) = (57, j) ∧ idq (pos 11 j + 20) = (58, j) ∧ idq (pos 11 j + 21) = (59, j) := fun j hj => by
  obtain rfl : j = 0 := by omega
  exact ⟨by decide +kernel, by decide +kernel, by decide +kernel, by decide +kernel, by decide +kernel, by decide +kernel, by decide +kernel, by decide +kernel, by decide +kernel, by decide +kernel, by decide +kernel, by decide +kernel, by decide +kernel, by decide +kernel, by decide +kernel, by decide +kernel, by decide +kernel, by decide +kernel, by decide +kernel, by decide +kernel, by decide +kernel, by decide +kernel, by decide +kernel⟩
set_option maxRecDepth 100000 in
set_option maxHeartbeats 4000000 in
theorem n_11 {E : Ev} {j : Nat} {R : RF} {h : HF} (hj : j < 1) (hU : Un (pos 11 j) R h) : Ct E 1 yX11_init cX11_init 1 none [aR 11 j] (pos 11 j + 1) R h (pos 11 j + 22) (inP (pos 11 j) 22 R h) := by
  obtain rfl : j = 0 := by omega
  obtain ⟨hb, i0, i1, i2, i3, i4, i5, i6, i7, i8, i9, i10, i11, i12, i13, i14, i15, i16, i17, i18, i19, i20, i21⟩ := id_11 0 hj
  generalize hq : pos 11 0 = q0 at hU hb i0 i1 i2 i3 i4 i5 i6 i7 i8 i9 i10 i11 i12 i13 i14 i15 i16 i17 i18 i19 i20 i21 ⊢
  have o : ∀ n, q0 < n → n ≤ 243 → Ok n 11 0 := fun n h1 h2 => ⟨by decide, hj, by rw [hq]; exact h1, h2⟩
  have u0 := un_at hU (Nat.le_refl _) (by omega) i0
  have u1 := un_at hU (by omega) (by omega) i1
  have u2 := un_at hU (by omega) (by omega) i2
  have u3 := un_at hU (by omega) (by omega) i3
  have u4 := un_at hU (by omega) (by omega) i4
  have u5 := un_at hU (by omega) (by omega) i5
  have u6 := un_at hU (by omega) (by omega) i6
  have u7 := un_at hU (by omega) (by omega) i7
  have u8 := un_at hU (by omega) (by omega) i8
  have u9 := un_at hU (by omega) (by omega) i9
  have u10 := un_at hU (by omega) (by omega) i10
  have u11 := un_at hU (by omega) (by omega) i11
  have u12 := un_at hU (by omega) (by omega) i12
  have u13 := un_at hU (by omega) (by omega) i13
  have u14 := un_at hU (by omega) (by omega) i14
  have u15 := un_at hU (by omega) (by omega) i15
  have u16 := un_at hU (by omega) (by omega) i16
  have u17 := un_at hU (by omega) (by omega) i17
  have u18 := un_at hU (by omega) (by omega) i18
  have u19 := un_at hU (by omega) (by omega) i19
  have u20 := un_at hU (by omega) (by omega) i20
  have u21 := un_at hU (by omega) (by omega) i21
  refine Ct.of 0 (L0 := [some (aR 11 0)]) (by decide) ⟨by omega, by omega⟩ rfl rfl ?_
  intro G C hg hrt hnm
  refine r_aload_n C dX11_init_0 rfl ?_
  refine r_objI C dX11_init_1 coX11_1 (by omega) (Nat.le_of_ble_eq_true rfl) ?_
  refine r_aload_n C dX11_init_4 rfl ?_
  refine r_sipush (v := (nI 1080)) C dX11_init_5 (by decide) ?_
  refine r_newI C dX11_init_8 aw_I i1 rfl rfl (by decide) ⟨by omega, by omega⟩ (fun i => (u1 i).2) ?_
  refine r_putF C hnm flX11_7 rfl dX11_init_10 (o _ (by omega) (by omega)) rfl (fun _ => ⟨rfl, rfl⟩) ?_
  refine r_aload_n C dX11_init_13 rfl ?_
  refine r_iconst (v := (nI 2)) C dX11_init_14 (by decide) ?_
  refine r_newZ C dX11_init_15 aw_Z i2 rfl rfl (by decide) ⟨by omega, by omega⟩ (fun i => (u2 i).2) ?_
  refine r_putF C hnm flX11_13 rfl dX11_init_17 (o _ (by omega) (by omega)) rfl (fun _ => ⟨rfl, rfl⟩) ?_
  refine r_aload_n C dX11_init_20 rfl ?_
  refine r_iconst (v := (nI 5)) C dX11_init_21 (by decide) ?_
  refine r_newI C dX11_init_22 aw_I i3 rfl rfl (by decide) ⟨by omega, by omega⟩ (fun i => (u3 i).2) ?_
  refine r_putF C hnm flX11_17 rfl dX11_init_24 (o _ (by omega) (by omega)) rfl (fun _ => ⟨rfl, rfl⟩) ?_
  refine r_aload_n C dX11_init_27 rfl ?_
  refine r_iconst (v := (nI 5)) C dX11_init_28 (by decide) ?_
  refine r_newI C dX11_init_29 aw_I i4 rfl rfl (by decide) ⟨by omega, by omega⟩ (fun i => (u4 i).2) ?_
  refine r_putF C hnm flX11_20 rfl dX11_init_31 (o _ (by omega) (by omega)) rfl (fun _ => ⟨rfl, rfl⟩) ?_
  refine r_aload_n C dX11_init_34 rfl ?_
  refine r_iconst (v := (nI 4)) C dX11_init_35 (by decide) ?_
  refine r_newI C dX11_init_36 aw_I i5 rfl rfl (by decide) ⟨by omega, by omega⟩ (fun i => (u5 i).2) ?_
  refine r_putF C hnm flX11_23 rfl dX11_init_38 (o _ (by omega) (by omega)) rfl (fun _ => ⟨rfl, rfl⟩) ?_
  refine r_aload_n C dX11_init_41 rfl ?_
  refine r_iconst (v := (nI 4)) C dX11_init_42 (by decide) ?_
  refine r_newI C dX11_init_43 aw_I i6 rfl rfl (by decide) ⟨by omega, by omega⟩ (fun i => (u6 i).2) ?_
  refine r_putF C hnm flX11_26 rfl dX11_init_45 (o _ (by omega) (by omega)) rfl (fun _ => ⟨rfl, rfl⟩) ?_
  refine r_aload_n C dX11_init_48 rfl ?_
  refine r_bipush (v := (nI 6)) C dX11_init_49 (by decide) ?_
  refine r_newI C dX11_init_51 aw_I i7 rfl rfl (by decide) ⟨by omega, by omega⟩ (fun i => (u7 i).2) ?_
  refine r_putF C hnm flX11_29 rfl dX11_init_53 (o _ (by omega) (by omega)) rfl (fun _ => ⟨rfl, rfl⟩) ?_
  refine r_aload_n C dX11_init_56 rfl ?_
  refine r_iconst (v := (nI 4)) C dX11_init_57 (by decide) ?_
  refine r_newI C dX11_init_58 aw_I i8 rfl rfl (by decide) ⟨by omega, by omega⟩ (fun i => (u8 i).2) ?_
  refine r_putF C hnm flX11_32 rfl dX11_init_60 (o _ (by omega) (by omega)) rfl (fun _ => ⟨rfl, rfl⟩) ?_
  refine r_aload_n C dX11_init_63 rfl ?_
  refine r_iconst (v := (nI 4)) C dX11_init_64 (by decide) ?_
  refine r_newI C dX11_init_65 aw_I i9 rfl rfl (by decide) ⟨by omega, by omega⟩ (fun i => (u9 i).2) ?_
  refine r_putF C hnm flX11_35 rfl dX11_init_67 (o _ (by omega) (by omega)) rfl (fun _ => ⟨rfl, rfl⟩) ?_
  refine r_aload_n C dX11_init_70 rfl ?_
  refine r_sipush (v := (nI 240)) C dX11_init_71 (by decide) ?_
  refine r_newI C dX11_init_74 aw_I i10 rfl rfl (by decide) ⟨by omega, by omega⟩ (fun i => (u10 i).2) ?_
  refine r_putF C hnm flX11_38 rfl dX11_init_76 (o _ (by omega) (by omega)) rfl (fun _ => ⟨rfl, rfl⟩) ?_
  refine r_aload_n C dX11_init_79 rfl ?_
  refine r_iconst (v := (-1)) C dX11_init_80 (by decide) ?_
  refine r_putI C flX11_41 dX11_init_81 (o _ (by omega) (by omega)) rfl ⟨rfl, rfl⟩ ?_
  refine r_aload_n C dX11_init_84 rfl ?_
  refine r_iconst (v := (nI 2)) C dX11_init_85 (by decide) ?_
  refine r_newI C dX11_init_86 aw_I i11 rfl rfl (by decide) ⟨by omega, by omega⟩ (fun i => (u11 i).2) ?_
  refine r_putF C hnm flX11_45 rfl dX11_init_88 (o _ (by omega) (by omega)) rfl (fun _ => ⟨rfl, rfl⟩) ?_
  refine r_aload_n C dX11_init_91 rfl ?_
  refine r_bipush (v := (nI 15)) C dX11_init_92 (by decide) ?_
  refine r_newI C dX11_init_94 aw_I i12 rfl rfl (by decide) ⟨by omega, by omega⟩ (fun i => (u12 i).2) ?_
  refine r_putF C hnm flX11_48 rfl dX11_init_96 (o _ (by omega) (by omega)) rfl (fun _ => ⟨rfl, rfl⟩) ?_
  refine r_aload_n C dX11_init_99 rfl ?_
  refine r_bipush (v := (nI 12)) C dX11_init_100 (by decide) ?_
  refine r_newI C dX11_init_102 aw_I i13 rfl rfl (by decide) ⟨by omega, by omega⟩ (fun i => (u13 i).2) ?_
  refine r_putF C hnm flX11_51 rfl dX11_init_104 (o _ (by omega) (by omega)) rfl (fun _ => ⟨rfl, rfl⟩) ?_
  refine r_aload_n C dX11_init_107 rfl ?_
  refine r_bipush (v := (nI 6)) C dX11_init_108 (by decide) ?_
  refine r_newI C dX11_init_110 aw_I i14 rfl rfl (by decide) ⟨by omega, by omega⟩ (fun i => (u14 i).2) ?_
  refine r_putF C hnm flX11_54 rfl dX11_init_112 (o _ (by omega) (by omega)) rfl (fun _ => ⟨rfl, rfl⟩) ?_
  refine r_aload_n C dX11_init_115 rfl ?_
  refine r_bipush (v := (nI 8)) C dX11_init_116 (by decide) ?_
  refine r_newI C dX11_init_118 aw_I i15 rfl rfl (by decide) ⟨by omega, by omega⟩ (fun i => (u15 i).2) ?_
  refine r_putF C hnm flX11_57 rfl dX11_init_120 (o _ (by omega) (by omega)) rfl (fun _ => ⟨rfl, rfl⟩) ?_
  refine r_aload_n C dX11_init_123 rfl ?_
  refine r_bipush (v := (nI 8)) C dX11_init_124 (by decide) ?_
  refine r_newI C dX11_init_126 aw_I i16 rfl rfl (by decide) ⟨by omega, by omega⟩ (fun i => (u16 i).2) ?_
  refine r_putF C hnm flX11_60 rfl dX11_init_128 (o _ (by omega) (by omega)) rfl (fun _ => ⟨rfl, rfl⟩) ?_
  refine r_aload_n C dX11_init_131 rfl ?_
  refine r_bipush (v := (nI 8)) C dX11_init_132 (by decide) ?_
  refine r_newI C dX11_init_134 aw_I i17 rfl rfl (by decide) ⟨by omega, by omega⟩ (fun i => (u17 i).2) ?_
  refine r_putF C hnm flX11_63 rfl dX11_init_136 (o _ (by omega) (by omega)) rfl (fun _ => ⟨rfl, rfl⟩) ?_
  refine r_aload_n C dX11_init_139 rfl ?_
  refine r_bipush (v := (nI 8)) C dX11_init_140 (by decide) ?_
  refine r_newI C dX11_init_142 aw_I i18 rfl rfl (by decide) ⟨by omega, by omega⟩ (fun i => (u18 i).2) ?_
  refine r_putF C hnm flX11_66 rfl dX11_init_144 (o _ (by omega) (by omega)) rfl (fun _ => ⟨rfl, rfl⟩) ?_
  refine r_aload_n C dX11_init_147 rfl ?_
  refine r_bipush (v := (nI 8)) C dX11_init_148 (by decide) ?_
  refine r_newI C dX11_init_150 aw_I i19 rfl rfl (by decide) ⟨by omega, by omega⟩ (fun i => (u19 i).2) ?_
  refine r_putF C hnm flX11_69 rfl dX11_init_152 (o _ (by omega) (by omega)) rfl (fun _ => ⟨rfl, rfl⟩) ?_
  refine r_aload_n C dX11_init_155 rfl ?_
  refine r_bipush (v := (nI 15)) C dX11_init_156 (by decide) ?_
  refine r_newI C dX11_init_158 aw_I i20 rfl rfl (by decide) ⟨by omega, by omega⟩ (fun i => (u20 i).2) ?_
  refine r_putF C hnm flX11_72 rfl dX11_init_160 (o _ (by omega) (by omega)) rfl (fun _ => ⟨rfl, rfl⟩) ?_
  refine r_aload_n C dX11_init_163 rfl ?_
  refine r_bipush (v := (nI 15)) C dX11_init_164 (by decide) ?_
  refine r_newI C dX11_init_166 aw_I i21 rfl rfl (by decide) ⟨by omega, by omega⟩ (fun i => (u21 i).2) ?_
  refine r_putF C hnm flX11_75 rfl dX11_init_168 (o _ (by omega) (by omega)) rfl (fun _ => ⟨rfl, rfl⟩) ?_
  refine r_aload_n C dX11_init_171 rfl ?_
  refine r_iconst (v := (nI 0)) C dX11_init_172 (by decide) ?_
  refine r_putI C flX11_78 dX11_init_173 (o _ (by omega) (by omega)) rfl ⟨rfl, rfl⟩ ?_
  refine r_vret C hrt dX11_init_176 ?_
  refine in_of hU hb (by decide) (by repeat (first | exact Of.rf | refine Of.put ?_ hq | refine Of.putR ?_ hq)) (fun q h1 h2 => ?_)
  rcases (show q = q0 ∨ q = q0 + 1 ∨ q = q0 + 2 ∨ q = q0 + 3 ∨ q = q0 + 4 ∨ q = q0 + 5 ∨ q = q0 + 6 ∨ q = q0 + 7 ∨ q = q0 + 8 ∨ q = q0 + 9 ∨ q = q0 + 10 ∨ q = q0 + 11 ∨ q = q0 + 12 ∨ q = q0 + 13 ∨ q = q0 + 14 ∨ q = q0 + 15 ∨ q = q0 + 16 ∨ q = q0 + 17 ∨ q = q0 + 18 ∨ q = q0 + 19 ∨ q = q0 + 20 ∨ q = q0 + 21 by omega) with e | e | e | e | e | e | e | e | e | e | e | e | e | e | e | e | e | e | e | e | e | e
  · refine dq_of (k := 11) (j := 0) (by rw [e]; exact i0) (fun i hi => ?_)
    have hi : i < 41 := hi
    rcases (show i = 0 ∨ i = 1 ∨ i = 2 ∨ i = 3 ∨ i = 4 ∨ i = 5 ∨ i = 6 ∨ i = 7 ∨ i = 8 ∨ i = 9 ∨ i = 10 ∨ i = 11 ∨ i = 12 ∨ i = 13 ∨ i = 14 ∨ i = 15 ∨ i = 16 ∨ i = 17 ∨ i = 18 ∨ i = 19 ∨ i = 20 ∨ i = 21 ∨ i = 22 ∨ i = 23 ∨ i = 24 ∨ i = 25 ∨ i = 26 ∨ i = 27 ∨ i = 28 ∨ i = 29 ∨ i = 30 ∨ i = 31 ∨ i = 32 ∨ i = 33 ∨ i = 34 ∨ i = 35 ∨ i = 36 ∨ i = 37 ∨ i = 38 ∨ i = 39 ∨ i = 40 by omega) with rfl | rfl | rfl | rfl | rfl | rfl | rfl | rfl | rfl | rfl | rfl | rfl | rfl | rfl | rfl | rfl | rfl | rfl | rfl | rfl | rfl | rfl | rfl | rfl | rfl | rfl | rfl | rfl | rfl | rfl | rfl | rfl | rfl | rfl | rfl | rfl | rfl | rfl | rfl | rfl | rfl <;> simp [putR, put, Rs, H0, u0, nI_0]
  · exact dq_of (k := 39) (j := 0) (by rw [e]; exact i1) (fun i _ => ⟨(u1 i).1, (u1 i).2⟩)
  · exact dq_of (k := 40) (j := 0) (by rw [e]; exact i2) (fun i _ => ⟨(u2 i).1, (u2 i).2⟩)
  · exact dq_of (k := 41) (j := 0) (by rw [e]; exact i3) (fun i _ => ⟨(u3 i).1, (u3 i).2⟩)
  · exact dq_of (k := 42) (j := 0) (by rw [e]; exact i4) (fun i _ => ⟨(u4 i).1, (u4 i).2⟩)
  · exact dq_of (k := 43) (j := 0) (by rw [e]; exact i5) (fun i _ => ⟨(u5 i).1, (u5 i).2⟩)
  · exact dq_of (k := 44) (j := 0) (by rw [e]; exact i6) (fun i _ => ⟨(u6 i).1, (u6 i).2⟩)
  · exact dq_of (k := 45) (j := 0) (by rw [e]; exact i7) (fun i _ => ⟨(u7 i).1, (u7 i).2⟩)
  · exact dq_of (k := 46) (j := 0) (by rw [e]; exact i8) (fun i _ => ⟨(u8 i).1, (u8 i).2⟩)
  · exact dq_of (k := 47) (j := 0) (by rw [e]; exact i9) (fun i _ => ⟨(u9 i).1, (u9 i).2⟩)
  · exact dq_of (k := 48) (j := 0) (by rw [e]; exact i10) (fun i _ => ⟨(u10 i).1, (u10 i).2⟩)
  · exact dq_of (k := 49) (j := 0) (by rw [e]; exact i11) (fun i _ => ⟨(u11 i).1, (u11 i).2⟩)
  · exact dq_of (k := 50) (j := 0) (by rw [e]; exact i12) (fun i _ => ⟨(u12 i).1, (u12 i).2⟩)
  · exact dq_of (k := 51) (j := 0) (by rw [e]; exact i13) (fun i _ => ⟨(u13 i).1, (u13 i).2⟩)
  · exact dq_of (k := 52) (j := 0) (by rw [e]; exact i14) (fun i _ => ⟨(u14 i).1, (u14 i).2⟩)
  · exact dq_of (k := 53) (j := 0) (by rw [e]; exact i15) (fun i _ => ⟨(u15 i).1, (u15 i).2⟩)
  · exact dq_of (k := 54) (j := 0) (by rw [e]; exact i16) (fun i _ => ⟨(u16 i).1, (u16 i).2⟩)
  · exact dq_of (k := 55) (j := 0) (by rw [e]; exact i17) (fun i _ => ⟨(u17 i).1, (u17 i).2⟩)
  · exact dq_of (k := 56) (j := 0) (by rw [e]; exact i18) (fun i _ => ⟨(u18 i).1, (u18 i).2⟩)
  · exact dq_of (k := 57) (j := 0) (by rw [e]; exact i19) (fun i _ => ⟨(u19 i).1, (u19 i).2⟩)
  · exact dq_of (k := 58) (j := 0) (by rw [e]; exact i20) (fun i _ => ⟨(u20 i).1, (u20 i).2⟩)
  · exact dq_of (k := 59) (j := 0) (by rw [e]; exact i21) (fun i _ => ⟨(u21 i).1, (u21 i).2⟩)
