/-! THE MODEL over the same pure state -/
def mw (h : HF) (o : Nat) (s : Sv) : Prop := ∀ k, k < 45 → h 39 0 (o + k) = s k
def mtw (h : HF) (N : Nat → Nat) (T : Tv) : Prop := h 11 0 4 = nI (N 0) ∧ h 11 0 7 = nI (N 1) ∧ h 11 0 10 = nI (N 2) ∧ h 11 0 12 = nI (N 3) ∧ h 11 0 3 = nI (N 4) ∧ (∀ i, i < N 0 → h 41 0 i = T 0 i ∧ h 42 0 i = T 1 i) ∧ (∀ i, i < N 1 → h 43 0 i = T 2 i ∧ h 44 0 i = T 3 i) ∧ (∀ i, i < N 2 → h 45 0 i = T 4 i) ∧ (∀ i, i < N 3 → h 46 0 i = T 5 i ∧ h 47 0 i = T 6 i) ∧ N 0 ≤ 5 ∧ N 1 ≤ 4 ∧ N 2 ≤ 6 ∧ N 3 ≤ 4 ∧ N 4 ≤ 1
def mtx (h : HF) (n : Nat) (X : Nat → Int32) : Prop := h 11 0 16 = nI n ∧ n ≤ 240 ∧ ∀ i, i < n → h 48 0 i = X i
def M4 (h : HF) (u : Nat × (Nat → Sv)) : Prop := h 11 0 2 = nI u.1 ∧ u.1 ≤ 20 ∧ ∀ i, i < u.1 → mw h (180 + 45 * i) (u.2 i)
def M5 (h : HF) (I : (Nat → Nat) × (Nat → Sv)) : Prop := ∀ i, i < 2 → h 40 0 i = nI (I.1 i) ∧ I.1 i ≤ 1 ∧ (I.1 i = 1 → mw h (90 + 45 * i) (I.2 i))
def M6 (h : HF) (N : Nat → Nat) (q : Nat × (Nat → Nat) × (Nat → Int32) × (Nat → Int32) × (Nat → Int32)) : Prop := h 11 0 33 = nI q.1 ∧ q.1 ≤ 8 ∧ ∀ i, i < q.1 → h 54 0 i = nI (q.2.1 i) ∧ h 55 0 i = q.2.2.1 i ∧ h 56 0 i = q.2.2.2.1 i ∧ h 57 0 i = q.2.2.2.2 i ∧ q.2.1 i < N 1
def M7 (h : HF) (N : Nat → Nat) (q : Nat × (Nat → Nat) × (Nat → Int32)) : Prop := h 11 0 38 = nI q.1 ∧ q.1 ≤ 15 ∧ ∀ i, i < q.1 → h 58 0 i = nI (q.2.1 i) ∧ h 59 0 i = q.2.2 i ∧ q.2.1 i < N 0
def MP (h : HF) (g : Gs) : Prop := (mtx h (gLn g) (gX g) ∧ h 11 0 21 = gFp g) ∧ mtw h (gNn g) (gT g) ∧ mw h 0 (gSv g) ∧ M4 h (gU g) ∧ M5 h (gI g) ∧ M6 h (gNn g) (gSh g) ∧ M7 h (gNn g) (gBk g)
/-- h' differs from h at most at the places of S -/
def Fs (S : Nat → Nat → Bool) (h h' : HF) : Prop := ∀ k j i, S k i = false → h' k j i = h k j i
theorem Fs.rf {S : Nat → Nat → Bool} {h : HF} : Fs S h h := fun _ _ _ _ => rfl
theorem put_ne {h : HF} {k j i k' j' i' : Nat} {v : Int32} (hn : ¬ (k' = k ∧ j' = j ∧ i' = i)) : put h k j i v k' j' i' = h k' j' i' := by
  by_cases h1 : k' = k ∧ j' = j
  · obtain ⟨rfl, rfl⟩ := h1
    exact put_i (fun z => hn ⟨rfl, rfl, z⟩)
  · rw [put_off h1]
theorem Fs.put {S : Nat → Nat → Bool} {h h' : HF} {k j i : Nat} {v : Int32} (f : Fs S h h') (hs : S k i = true) : Fs S h (put h' k j i v) := fun k' j' i' hn => by
  rw [put_ne (fun z => by rw [z.1, z.2.2, hs] at hn; cases hn)]
  exact f k' j' i' hn
theorem Fs.tr {S : Nat → Nat → Bool} {h h' h2 : HF} (f : Fs S h h') (g : Fs S h' h2) : Fs S h h2 := fun k j i hn => (g k j i hn).trans (f k j i hn)
theorem Fs.wk {S S' : Nat → Nat → Bool} {h h' : HF} (f : Fs S h h') (hs : ∀ k i, S k i = true → S' k i = true) : Fs S' h h' := fun k j i hn => f k j i (by
  cases z : S k i with
  | false => rfl
  | true => rw [hs k i z] at hn; cases hn)
def sXm : Nat → Nat → Bool := fun k _ => k == 11 || decide (39 ≤ k)
theorem mw.fs {S : Nat → Nat → Bool} {h h' : HF} {o : Nat} {s : Sv} (f : Fs S h h') (hs : ∀ k, k < 45 → S 39 (o + k) = false) (c : mw h o s) : mw h' o s := fun k hk => (f 39 0 (o + k) (hs k hk)).trans (c k hk)
theorem mtw.fs {S : Nat → Nat → Bool} {h h' : HF} {N : Nat → Nat} {T : Tv} (f : Fs S h h') (h1 : ∀ i, (i = 3 ∨ i = 4 ∨ i = 7 ∨ i = 10 ∨ i = 12) → S 11 i = false) (h2 : ∀ k i, 41 ≤ k → k ≤ 47 → S k i = false) (c : mtw h N T) : mtw h' N T := by
  obtain ⟨c1, c2, c3, c4, c5, c6, c7, c8, c9, c10⟩ := c
  exact ⟨(f 11 0 4 (h1 4 (by omega))).trans c1, (f 11 0 7 (h1 7 (by omega))).trans c2, (f 11 0 10 (h1 10 (by omega))).trans c3, (f 11 0 12 (h1 12 (by omega))).trans c4, (f 11 0 3 (h1 3 (by omega))).trans c5,
    fun i hi => ⟨(f 41 0 i (h2 41 i (by omega) (by omega))).trans (c6 i hi).1, (f 42 0 i (h2 42 i (by omega) (by omega))).trans (c6 i hi).2⟩,
    fun i hi => ⟨(f 43 0 i (h2 43 i (by omega) (by omega))).trans (c7 i hi).1, (f 44 0 i (h2 44 i (by omega) (by omega))).trans (c7 i hi).2⟩,
    fun i hi => (f 45 0 i (h2 45 i (by omega) (by omega))).trans (c8 i hi),
    fun i hi => ⟨(f 46 0 i (h2 46 i (by omega) (by omega))).trans (c9 i hi).1, (f 47 0 i (h2 47 i (by omega) (by omega))).trans (c9 i hi).2⟩, c10⟩
theorem mtx.fs {S : Nat → Nat → Bool} {h h' : HF} {n : Nat} {X : Nat → Int32} (f : Fs S h h') (h1 : S 11 16 = false) (h2 : ∀ i, S 48 i = false) (c : mtx h n X) : mtx h' n X := ⟨(f 11 0 16 h1).trans c.1, c.2.1, fun i hi => (f 48 0 i (h2 i)).trans (c.2.2 i hi)⟩
theorem M4.fs {S : Nat → Nat → Bool} {h h' : HF} {u : Nat × (Nat → Sv)} (f : Fs S h h') (h1 : S 11 2 = false) (h2 : ∀ i, 180 ≤ i → S 39 i = false) (c : M4 h u) : M4 h' u := ⟨(f 11 0 2 h1).trans c.1, c.2.1, fun i hi => (c.2.2 i hi).fs f (fun k hk => h2 _ (by omega))⟩
theorem M5.fs {S : Nat → Nat → Bool} {h h' : HF} {I : (Nat → Nat) × (Nat → Sv)} (f : Fs S h h') (h1 : ∀ i, S 40 i = false) (h2 : ∀ i, 90 ≤ i → i < 180 → S 39 i = false) (c : M5 h I) : M5 h' I := fun i hi => ⟨(f 40 0 i (h1 i)).trans (c i hi).1, (c i hi).2.1, fun z => ((c i hi).2.2 z).fs f (fun k hk => h2 _ (by omega) (by omega))⟩
theorem M6.fs {S : Nat → Nat → Bool} {h h' : HF} {N : Nat → Nat} {q : Nat × (Nat → Nat) × (Nat → Int32) × (Nat → Int32) × (Nat → Int32)} (f : Fs S h h') (h1 : S 11 33 = false) (h2 : ∀ k i, 54 ≤ k → k ≤ 57 → S k i = false) (c : M6 h N q) : M6 h' N q := by
  refine ⟨(f 11 0 33 h1).trans c.1, c.2.1, fun i hi => ?_⟩
  obtain ⟨a1, a2, a3, a4, a5⟩ := c.2.2 i hi
  exact ⟨(f 54 0 i (h2 54 i (by omega) (by omega))).trans a1, (f 55 0 i (h2 55 i (by omega) (by omega))).trans a2, (f 56 0 i (h2 56 i (by omega) (by omega))).trans a3, (f 57 0 i (h2 57 i (by omega) (by omega))).trans a4, a5⟩
theorem M7.fs {S : Nat → Nat → Bool} {h h' : HF} {N : Nat → Nat} {q : Nat × (Nat → Nat) × (Nat → Int32)} (f : Fs S h h') (h1 : S 11 38 = false) (h2 : ∀ k i, 58 ≤ k → k ≤ 59 → S k i = false) (c : M7 h N q) : M7 h' N q := by
  refine ⟨(f 11 0 38 h1).trans c.1, c.2.1, fun i hi => ?_⟩
  obtain ⟨a1, a2, a3⟩ := c.2.2 i hi
  exact ⟨(f 58 0 i (h2 58 i (by omega) (by omega))).trans a1, (f 59 0 i (h2 59 i (by omega) (by omega))).trans a2, a3⟩
theorem MP.fs {S : Nat → Nat → Bool} {h h' : HF} {g : Gs} (f : Fs S h h') (h1 : ∀ i, (i = 2 ∨ i = 3 ∨ i = 4 ∨ i = 7 ∨ i = 10 ∨ i = 12 ∨ i = 16 ∨ i = 21 ∨ i = 33 ∨ i = 38) → S 11 i = false) (h2 : ∀ i, ¬ (45 ≤ i ∧ i < 90) → S 39 i = false) (h3 : ∀ k i, (40 ≤ k ∧ k ≤ 48) ∨ (54 ≤ k ∧ k ≤ 59) → S k i = false) (c : MP h g) : MP h' g :=
  ⟨⟨c.1.1.fs f (h1 16 (by omega)) (fun i => h3 48 i (by omega)), (f 11 0 21 (h1 21 (by omega))).trans c.1.2⟩, c.2.1.fs f (fun i hi => h1 i (by omega)) (fun k i _ _ => h3 k i (by omega)), c.2.2.1.fs f (fun k hk => h2 _ (by omega)), c.2.2.2.1.fs f (h1 2 (by omega)) (fun i _ => h2 i (by omega)), c.2.2.2.2.1.fs f (fun i => h3 40 i (by omega)) (fun i _ _ => h2 i (by omega)), c.2.2.2.2.2.1.fs f (h1 33 (by omega)) (fun k i _ _ => h3 k i (by omega)), c.2.2.2.2.2.2.fs f (h1 38 (by omega)) (fun k i _ _ => h3 k i (by omega))⟩
theorem MP.fr {h h' : HF} {g : Gs} (f : Fr sXc h h') (c : MP h g) : MP h' g := by
  have e : Fs (fun k _ => decide (k < 39) && !(k == 11)) h h' := fun k j i hn => by rw [f k j hn]
  exact c.fs e (fun i _ => rfl) (fun i _ => rfl) (fun k i hk => by simp; omega)
theorem CP.fs {h h' : HF} {a : Nat} {g : Gs} (f : Fs sXm h h') (c : CP h a g) : CP h' a g := by
  have e : Fr (fun k _ => k == 11 || decide (39 ≤ k)) h h' := fun k j hn => funext fun i => f k j i hn
  refine ⟨c.1.fr e rfl rfl rfl, c.2.1.fr e (fun k hk => by simp; omega), c.2.2.1.fr e (fun k hk => ?_) rfl, c.2.2.2.1.fr e rfl (fun k j hk _ _ => ?_), c.2.2.2.2.1.fr e (fun _ _ => rfl) (fun k j hk _ _ => ?_), c.2.2.2.2.2.1.fr e rfl rfl rfl rfl rfl, c.2.2.2.2.2.2.fr e rfl rfl rfl⟩ <;> rcases sgk_cases hk with rfl | rfl | rfl | rfl | rfl | rfl | rfl <;> rfl
/-- a question's end -/
def mqr (a b : Nat) (g : Gs) (h : HF) (x : Int32) : Option AV → RF → HF → Prop := fun v R' h' => v = some (aI x) ∧ R' = Rs a b ∧ MP h' g ∧ Fs sXm h h'
theorem le64 {x y : Int32} : x.toInt64 ≤ y.toInt64 ↔ x ≤ y := by
  rw [Int64.le_iff_toInt_le, Int32.le_iff_toInt_le, Int32.toInt_toInt64, Int32.toInt_toInt64]
set_option maxRecDepth 100000 in
set_option maxHeartbeats 4000000 in
theorem m_in {E : Ev} {a b : Nat} {h : HF} {x lo hi : Int64} : Ct E 0 yX11_in cX11_in 6 (some .boolean) [aL x, aL lo, aL hi] 243 (Rs a b) h 243 (qst a b h (if lo ≤ x ∧ x ≤ hi then nI 1 else nI 0)) := by
  refine Ct.of 0 (L0 := [some (aL x), none, some (aL lo), none, some (aL hi), none]) (by decide) ⟨Nat.le_refl _, Nat.le_refl _⟩ rfl rfl ?_
  intro G C hg hrt hnm
  have hN : gn G ≤ 243 ∧ 243 ≤ 243 ∧ 243 ≤ 243 := ⟨by omega, by decide, by decide⟩
  refine r_lload_n C dX11_in_0 rfl ?_
  refine r_lload_n C dX11_in_1 rfl ?_
  refine r_lcmp C dX11_in_2 ?_
  refine r_if_lt C dX11_in_3 (fun c3 => ?_) (fun c3 => ?_)
  · refine r_iconst (v := (nI 0)) C dX11_in_17 (by decide) ?_
    refine r_zret C hrt dX11_in_18 (by decide) ?_
    rw [if_neg (fun z => lg_le_not_lt z.1 ((lg_cmp_lt _ _).mp c3))]
    exact ⟨rfl, rfl, rfl⟩
  · have h1 : lo ≤ x := (lg_cmp_ge _ _).mp (Int32.not_lt.mp c3)
    refine r_lload_n C dX11_in_6 rfl ?_
    refine r_lload C dX11_in_7 rfl ?_
    refine r_lcmp C dX11_in_9 ?_
    refine r_if_gt C dX11_in_10 (fun c10 => ?_) (fun c10 => ?_)
    · refine r_iconst (v := (nI 0)) C dX11_in_17 (by decide) ?_
      refine r_zret C hrt dX11_in_18 (by decide) ?_
      rw [if_neg (fun z => lg_le_not_lt z.2 ((lg_cmp_gt _ _).mp c10))]
      exact ⟨rfl, rfl, rfl⟩
    · have h2 : x ≤ hi := (lg_cmp_le _ _).mp (Int32.not_lt.mp c10)
      refine r_iconst (v := (nI 1)) C dX11_in_13 (by decide) ?_
      refine r_goto C dX11_in_14 ?_
      refine r_zret C hrt dX11_in_18 (by decide) ?_
      rw [if_pos ⟨h1, h2⟩]
      exact ⟨rfl, rfl, rfl⟩
theorem in64 {x : Int32} {l u : Int64} {lo hi : Int32} (h1 : l = lo.toInt64) (h2 : u = hi.toInt64) : (if l ≤ x.toInt64 ∧ x.toInt64 ≤ u then nI 1 else nI 0) = (if lo ≤ x ∧ x ≤ hi then nI 1 else nI 0) := by
  subst h1 h2
  simp only [le64]
set_option maxRecDepth 100000 in
set_option maxHeartbeats 4000000 in
theorem m_isCompany {E : Ev} {a b : Nat} {h : HF} {N : Nat → Nat} {T : Tv} {x : Int32} (ht : mtw h N T) : Ct E 1 yX11_isCompany cX11_isCompany 2 (some .boolean) [aR 11 0, aI x] 243 (Rs a b) h 243 (qst a b h (ixB x (N 0))) := by
  refine Ct.of 0 (L0 := [some (aR 11 0), some (aI x)]) (by decide) ⟨Nat.le_refl _, Nat.le_refl _⟩ rfl rfl ?_
  intro G C hg hrt hnm
  have hN : gn G ≤ 243 ∧ 243 ≤ 243 ∧ 243 ≤ 243 := ⟨by omega, by decide, by decide⟩
  have b0 := ht.2.2.2.2.2.2.2.2.2.1
  refine r_iload_n C dX11_isCompany_0 rfl ?_
  refine r_i2l C dX11_isCompany_1 ?_
  refine r_lconst (v := 0) C dX11_isCompany_2 (by decide) ?_
  refine r_aload_n C dX11_isCompany_3 rfl ?_
  refine q_getV C flX11_82 dX11_isCompany_4 ok11 rfl ht.1 ?_
  refine r_iconst (v := (nI 1)) C dX11_isCompany_7 (by decide) ?_
  refine r_isub C dX11_isCompany_8 ?_
  refine r_i2l C dX11_isCompany_9 ?_
  refine r_callS C m_in dX11_isCompany_10 cw_X11_in csX11_85 (by omega) rfl hN rfl (Nat.le_of_ble_eq_true rfl) ?_
  rintro v R' h1 ⟨rfl, rfl, rfl⟩
  rw [in64 (lo := nI 0) (by decide) rfl, ix_within (by omega)]
  refine r_zret C hrt dX11_isCompany_13 (by unfold ixB; split <;> decide) ?_
  exact ⟨rfl, rfl, rfl⟩
set_option maxRecDepth 100000 in
set_option maxHeartbeats 4000000 in
theorem m_isMoney {E : Ev} {a b : Nat} {h : HF} {N : Nat → Nat} {T : Tv} {x : Int32} (ht : mtw h N T) : Ct E 1 yX11_isMoney cX11_isMoney 2 (some .boolean) [aR 11 0, aI x] 243 (Rs a b) h 243 (qst a b h (ixB x (N 1))) := by
  refine Ct.of 0 (L0 := [some (aR 11 0), some (aI x)]) (by decide) ⟨Nat.le_refl _, Nat.le_refl _⟩ rfl rfl ?_
  intro G C hg hrt hnm
  have hN : gn G ≤ 243 ∧ 243 ≤ 243 ∧ 243 ≤ 243 := ⟨by omega, by decide, by decide⟩
  have b0 := ht.2.2.2.2.2.2.2.2.2.2.1
  refine r_iload_n C dX11_isMoney_0 rfl ?_
  refine r_i2l C dX11_isMoney_1 ?_
  refine r_lconst (v := 0) C dX11_isMoney_2 (by decide) ?_
  refine r_aload_n C dX11_isMoney_3 rfl ?_
  refine q_getV C flX11_89 dX11_isMoney_4 ok11 rfl ht.2.1 ?_
  refine r_iconst (v := (nI 1)) C dX11_isMoney_7 (by decide) ?_
  refine r_isub C dX11_isMoney_8 ?_
  refine r_i2l C dX11_isMoney_9 ?_
  refine r_callS C m_in dX11_isMoney_10 cw_X11_in csX11_85 (by omega) rfl hN rfl (Nat.le_of_ble_eq_true rfl) ?_
  rintro v R' h1 ⟨rfl, rfl, rfl⟩
  rw [in64 (lo := nI 0) (by decide) rfl, ix_within (by omega)]
  refine r_zret C hrt dX11_isMoney_13 (by unfold ixB; split <;> decide) ?_
  exact ⟨rfl, rfl, rfl⟩
set_option maxRecDepth 100000 in
set_option maxHeartbeats 4000000 in
theorem m_isGood {E : Ev} {a b : Nat} {h : HF} {N : Nat → Nat} {T : Tv} {x : Int32} (ht : mtw h N T) : Ct E 1 yX11_isGood cX11_isGood 2 (some .boolean) [aR 11 0, aI x] 243 (Rs a b) h 243 (qst a b h (ixB x (N 2))) := by
  refine Ct.of 0 (L0 := [some (aR 11 0), some (aI x)]) (by decide) ⟨Nat.le_refl _, Nat.le_refl _⟩ rfl rfl ?_
  intro G C hg hrt hnm
  have hN : gn G ≤ 243 ∧ 243 ≤ 243 ∧ 243 ≤ 243 := ⟨by omega, by decide, by decide⟩
  have b0 := ht.2.2.2.2.2.2.2.2.2.2.2.1
  refine r_iload_n C dX11_isGood_0 rfl ?_
  refine r_i2l C dX11_isGood_1 ?_
  refine r_lconst (v := 0) C dX11_isGood_2 (by decide) ?_
  refine r_aload_n C dX11_isGood_3 rfl ?_
  refine q_getV C flX11_92 dX11_isGood_4 ok11 rfl ht.2.2.1 ?_
  refine r_iconst (v := (nI 1)) C dX11_isGood_7 (by decide) ?_
  refine r_isub C dX11_isGood_8 ?_
  refine r_i2l C dX11_isGood_9 ?_
  refine r_callS C m_in dX11_isGood_10 cw_X11_in csX11_85 (by omega) rfl hN rfl (Nat.le_of_ble_eq_true rfl) ?_
  rintro v R' h1 ⟨rfl, rfl, rfl⟩
  rw [in64 (lo := nI 0) (by decide) rfl, ix_within (by omega)]
  refine r_zret C hrt dX11_isGood_13 (by unfold ixB; split <;> decide) ?_
  exact ⟨rfl, rfl, rfl⟩
set_option maxRecDepth 100000 in
set_option maxHeartbeats 4000000 in
theorem m_isRation {E : Ev} {a b : Nat} {h : HF} {x : Int32} : Ct E 1 yX11_isRation cX11_isRation 1 (some .boolean) [aI x] 243 (Rs a b) h 243 (qst a b h (ixB x 4)) := by
  refine Ct.of 0 (L0 := [some (aI x)]) (by decide) ⟨Nat.le_refl _, Nat.le_refl _⟩ rfl rfl ?_
  intro G C hg hrt hnm
  have hN : gn G ≤ 243 ∧ 243 ≤ 243 ∧ 243 ≤ 243 := ⟨by omega, by decide, by decide⟩
  refine r_iload_n C dX11_isRation_0 rfl ?_
  refine r_i2l C dX11_isRation_1 ?_
  refine r_lconst (v := 0) C dX11_isRation_2 (by decide) ?_
  refine r_ldc2 C dX11_isRation_3 klX11_95 ?_
  refine r_callS C m_in dX11_isRation_6 cw_X11_in csX11_85 (by omega) rfl hN rfl (Nat.le_of_ble_eq_true rfl) ?_
  rintro v R' h1 ⟨rfl, rfl, rfl⟩
  rw [in64 (lo := nI 0) (hi := nI 3) (by decide) (by decide), show (if nI 0 ≤ x ∧ x ≤ nI 3 then nI 1 else nI 0) = ixB x 4 from ix_lit (n := 4) (by decide) (by decide)]
  refine r_zret C hrt dX11_isRation_9 (by unfold ixB; split <;> decide) ?_
  exact ⟨rfl, rfl, rfl⟩
/-- the places of one town in the row -/
def sW (o : Nat) : Nat → Nat → Bool := fun k i => k == 39 && (decide (o ≤ i) && decide (i < o + 45))
theorem sW_in {o k : Nat} (hk : k < 45) : sW o 39 (o + k) = true := by simp [sW]; omega
theorem sW_out {o k i : Nat} (hi : i < o ∨ o + 45 ≤ i) : sW o k i = false := by
  have : ¬ (o ≤ i ∧ i < o + 45) := by omega
  simp [sW]
  intro _ _
  omega
theorem sW_ne {o k i : Nat} (hk : k ≠ 39) : sW o k i = false := by simp [sW, hk]
set_option maxRecDepth 100000 in
set_option maxHeartbeats 4000000 in
theorem m_copy {E : Ev} {a b o o' : Nat} {h : HF} {s : Sv} (ho : o ≤ 1035) (ho' : o' ≤ 1035) (hd : o + 45 ≤ o' ∨ o' + 45 ≤ o) (hs : mw h o s) : Ct E 0 yX11_copy cX11_copy 4 none [aR 11 0, aI (nI o), aI (nI o')] 243 (Rs a b) h 243 (fun v R' h' => v = none ∧ R' = Rs a b ∧ mw h' o' s ∧ Fs (sW o') h h') := by
  refine Ct.of 1 (L0 := [some (aR 11 0), some (aI (nI o)), some (aI (nI o')), none]) (by decide) ⟨Nat.le_refl _, Nat.le_refl _⟩ rfl rfl ?_
  intro G C hg hrt hnm
  have hN : gn G ≤ 243 ∧ 243 ≤ 243 ∧ 243 ≤ 243 := ⟨by omega, by decide, by decide⟩
  refine r_iconst (v := (nI 0)) C dX11_copy_0 (by decide) ?_
  refine r_istore_n C dX11_copy_1 st3 ?_
  have loop : ∀ k c hh, c + k = 45 → (∀ i, i < c → hh 39 0 (o' + i) = s i) → Fs (sW o') h hh → Wa E G 243 (Rs a b) hh (QQ E G 243 (fun v R' h' => v = none ∧ R' = Rs a b ∧ mw h' o' s ∧ Fs (sW o') h h')) 2 [some (aR 11 0), some (aI (nI o)), some (aI (nI o')), some (aI (nI c))] [] := by
    intro k
    induction k with
    | zero =>
      intro c hh hk hr hf
      refine r_iload_n C dX11_copy_2 rfl ?_
      refine r_bipush (v := (nI 45)) C dX11_copy_3 (by decide) ?_
      refine r_icmpN_ge C dX11_copy_5 (by omega) (by omega) (fun _ => ?_) (fun cc => absurd cc (by omega))
      refine r_vret C hrt dX11_copy_30 ?_
      exact ⟨rfl, rfl, fun i hi => hr i (by omega), hf⟩
    | succ k ih =>
      intro c hh hk hr hf
      have e : hh 39 0 (o + c) = s c := by rw [hf 39 0 (o + c) (sW_out (by omega))]; exact hs c (by omega)
      refine r_iload_n C dX11_copy_2 rfl ?_
      refine r_bipush (v := (nI 45)) C dX11_copy_3 (by decide) ?_
      refine r_icmpN_ge C dX11_copy_5 (by omega) (by omega) (fun cc => absurd cc (by omega)) (fun _ => ?_)
      refine r_aload_n C dX11_copy_8 rfl ?_
      refine r_getR C flX11_7 dX11_copy_9 ok11 rfl rfl ?_
      refine r_iload_n C dX11_copy_12 rfl ?_
      refine r_iload_n C dX11_copy_13 rfl ?_
      first | refine r_iaddN C dX11_copy_14 ?_ | refine r_iadd C dX11_copy_14 ?_
      refine r_aload_n C dX11_copy_15 rfl ?_
      refine r_getR C flX11_7 dX11_copy_16 ok11 rfl rfl ?_
      refine r_iload_n C dX11_copy_19 rfl ?_
      refine r_iload_n C dX11_copy_20 rfl ?_
      first | refine r_iaddN C dX11_copy_21 ?_ | refine r_iadd C dX11_copy_21 ?_
      refine q_ialdV (m := 1080) C dX11_copy_22 ok39 rfl rfl (by omega) e ?_
      refine q_iast (m := 1080) C dX11_copy_23 ok39 rfl rfl (by omega) ?_
      first | refine r_iincN C dX11_copy_24 rfl st3 ?_ | refine r_iinc C dX11_copy_24 rfl rfl st3 ?_
      refine r_goto C dX11_copy_27 ?_
      refine ih (c + 1) _ (by omega) (fun i hi => ?_) (hf.put (sW_in (by omega)))
      by_cases z : i = c
      · subst z; exact put_same
      · rw [put_i (by omega)]; exact hr i (by omega)
  exact loop 45 0 h rfl (fun i hi => by omega) Fs.rf
set_option maxRecDepth 100000 in
set_option maxHeartbeats 4000000 in
theorem m_menIn {E : Ev} {a b o : Nat} {h : HF} {s : Sv} {N : Nat → Nat} {T : Tv} (ho : o ≤ 1035) (ht : mtw h N T) (hs : mw h o s) : Ct E 0 yX11_menIn cX11_menIn 4 (some .int) [aR 11 0, aI (nI o)] 243 (Rs a b) h 243 (qst a b h (msum s (N 0))) := by
  refine Ct.of 2 (L0 := [some (aR 11 0), some (aI (nI o)), none, none]) (by decide) ⟨Nat.le_refl _, Nat.le_refl _⟩ rfl rfl ?_
  intro G C hg hrt hnm
  have hN : gn G ≤ 243 ∧ 243 ≤ 243 ∧ 243 ≤ 243 := ⟨by omega, by decide, by decide⟩
  have b0 := ht.2.2.2.2.2.2.2.2.2.1
  refine r_iconst (v := (nI 0)) C dX11_menIn_0 (by decide) ?_
  refine r_istore_n C dX11_menIn_1 st2 ?_
  refine r_iconst (v := (nI 0)) C dX11_menIn_2 (by decide) ?_
  refine r_istore_n C dX11_menIn_3 st3 ?_
  have loop : ∀ k c, c + k = N 0 → Wa E G 243 (Rs a b) h (QQ E G 243 (qst a b h (msum s (N 0)))) 4 [some (aR 11 0), some (aI (nI o)), some (aI (msum s c)), some (aI (nI c))] [] := by
    intro k
    induction k with
    | zero =>
      intro c hk
      have e : c = N 0 := by omega
      subst e
      refine r_iload_n C dX11_menIn_4 rfl ?_
      refine r_aload_n C dX11_menIn_5 rfl ?_
      refine q_getV C flX11_82 dX11_menIn_6 ok11 rfl ht.1 ?_
      refine r_icmpN_ge C dX11_menIn_9 (by omega) (by omega) (fun _ => ?_) (fun cc => absurd cc (by omega))
      refine r_iload_n C dX11_menIn_31 rfl ?_
      refine r_iret C hrt dX11_menIn_32 ?_
      exact ⟨rfl, rfl, rfl⟩
    | succ k ih =>
      intro c hk
      have e : h 39 0 (o + 5 + c) = s (5 + c) := by rw [show o + 5 + c = o + (5 + c) by omega]; exact hs (5 + c) (by omega)
      refine r_iload_n C dX11_menIn_4 rfl ?_
      refine r_aload_n C dX11_menIn_5 rfl ?_
      refine q_getV C flX11_82 dX11_menIn_6 ok11 rfl ht.1 ?_
      refine r_icmpN_ge C dX11_menIn_9 (by omega) (by omega) (fun cc => absurd cc (by omega)) (fun _ => ?_)
      refine r_iload_n C dX11_menIn_12 rfl ?_
      refine r_aload_n C dX11_menIn_13 rfl ?_
      refine r_getR C flX11_7 dX11_menIn_14 ok11 rfl rfl ?_
      refine r_iload_n C dX11_menIn_17 rfl ?_
      refine r_iconst (v := (nI 5)) C dX11_menIn_18 (by decide) ?_
      first | refine r_iaddN C dX11_menIn_19 ?_ | refine r_iadd C dX11_menIn_19 ?_
      refine r_iload_n C dX11_menIn_20 rfl ?_
      first | refine r_iaddN C dX11_menIn_21 ?_ | refine r_iadd C dX11_menIn_21 ?_
      refine q_ialdV (m := 1080) C dX11_menIn_22 ok39 rfl rfl (by omega) e ?_
      refine r_iadd C dX11_menIn_23 ?_
      refine r_istore_n C dX11_menIn_24 st2 ?_
      first | refine r_iincN C dX11_menIn_25 rfl st3 ?_ | refine r_iinc C dX11_menIn_25 rfl rfl st3 ?_
      refine r_goto C dX11_menIn_28 ?_
      exact ih (c + 1) (by omega)
  exact loop (N 0) 0 (by omega)
