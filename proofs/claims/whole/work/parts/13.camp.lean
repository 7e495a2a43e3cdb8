/-! THE PURE SIDE: a siege is 45 numbers: 0 food, 1 odds, 2 days, 3 hunger, 4 fate, 5.. men, 10.. hungry days, 15.. words, 20.. squares left, 24.. paid (4 each), 44 the seed -/
abbrev Sv : Type := Nat → Int32
/-- rows of a town: 0 pay, 1 bears, 2 stamp, 3 weight, 4 cost, 5 horse's day, 6 its food -/
abbrev Tv : Type := Nat → Nat → Int32
def fedB (q : Int32) (s : Sv) (c : Nat) : Bool := decide (q * s (5 + c) ≤ s 0) && decide (nI 2 ≤ q)
def fedS (q : Int32) (s : Sv) (c : Nat) : Sv := if q * s (5 + c) ≤ s 0 then va_up s 0 (s 0 - q * s (5 + c)) else s
def goneF (m : Int32) : Int32 := if m / nI 5 + nI 1 < m then m / nI 5 + nI 1 else m
def starveF (b : Int32) (c : Nat) (u : Sv × Int32 × Int32) : Sv × Int32 × Int32 :=
  if u.1 (5 + c) = 0 then (va_up u.1 (10 + c) (u.1 (10 + c) + nI 1), u.2)
  else if u.1 (10 + c) + nI 1 ≤ b then (va_up u.1 (10 + c) (u.1 (10 + c) + nI 1), nI 1, u.2.2)
  else (va_up (va_up u.1 (10 + c) (u.1 (10 + c) + nI 1)) (5 + c) (u.1 (5 + c) - goneF (u.1 (5 + c))), nI 1, if u.2.2 = -1 then nI c else u.2.2)
def eat1 (b : Nat → Int32) (q : Int32) (c : Nat) (u : Sv × Int32 × Int32) : Sv × Int32 × Int32 :=
  if fedB q u.1 c = true then (va_up (fedS q u.1 c) (10 + c) (nI 0), u.2) else starveF (b c) c (fedS q u.1 c, u.2)
def eatN (b : Nat → Int32) (q : Int32) (u : Sv × Int32 × Int32) : Nat → Sv × Int32 × Int32
  | 0 => u
  | c + 1 => eat1 b q c (eatN b q u c)
def hfd (T : Tv) (day : Int32) : Nat → Int32
  | 0 => nI 0
  | n + 1 => if T 5 n = day then hfd T day n + T 6 n else hfd T day n
def edayF (N : Nat → Nat) (T : Tv) (q : Int32) (s : Sv) : Sv × Int32 × Int32 :=
  (va_up (eatN (T 1) q (va_up s 0 (s 0 + hfd T (s 2) (N 3)), nI 0, -1) (N 0)).1 2 ((eatN (T 1) q (va_up s 0 (s 0 + hfd T (s 2) (N 3)), nI 0, -1) (N 0)).1 2 + nI 1), (eatN (T 1) q (va_up s 0 (s 0 + hfd T (s 2) (N 3)), nI 0, -1) (N 0)).2)
def msum (s : Sv) : Nat → Int32
  | 0 => nI 0
  | c + 1 => msum s c + s (5 + c)
/-- camp j of the class -/
def cmp (h : HF) (j : Nat) (s : Sv) : Prop := h 1 j 0 = s 0 ∧ h 1 j 1 = s 2 ∧ (∀ c, c < 5 → h 14 j c = s (5 + c)) ∧ ∀ c, c < 5 → h 15 j c = s (10 + c)
def cmq (h : HF) (j : Nat) (s : Sv) (w d : Int32) : Prop := cmp h j s ∧ h 1 j 4 = w ∧ h 1 j 5 = d
/-- town t of the class -/
def twn (h : HF) (t : Nat) (N : Nat → Nat) (T : Tv) : Prop := h 8 t 3 = nI (N 0) ∧ h 8 t 4 = nI (N 1) ∧ h 8 t 5 = nI (N 2) ∧ h 8 t 6 = nI (N 3) ∧ h 8 t 0 = nI (N 4) ∧ (∀ i, i < N 0 → h 28 t i = T 0 i ∧ h 29 t i = T 1 i) ∧ (∀ i, i < N 1 → h 31 t i = T 2 i ∧ h 32 t i = T 3 i) ∧ (∀ i, i < N 2 → h 33 t i = T 4 i) ∧ (∀ i, i < N 3 → h 34 t i = T 5 i ∧ h 35 t i = T 6 i) ∧ N 0 ≤ 5 ∧ N 1 ≤ 4 ∧ N 2 ≤ 6 ∧ N 3 ≤ 4 ∧ N 4 ≤ 1
def sC (j : Nat) : Nat → Nat → Bool := fun k j' => (k == 1 || k == 14 || k == 15) && j' == j
theorem cmp.fr {S : Nat → Nat → Bool} {h h' : HF} {j : Nat} {s : Sv} (f : Fr S h h') (h1 : S 1 j = false) (h2 : S 14 j = false) (h3 : S 15 j = false) (c : cmp h j s) : cmp h' j s := by
  unfold cmp
  rw [f 1 j h1, f 14 j h2, f 15 j h3]
  exact c
theorem twn.fr {S : Nat → Nat → Bool} {h h' : HF} {t : Nat} {N : Nat → Nat} {T : Tv} (f : Fr S h h') (hs : ∀ k, (k = 8 ∨ (28 ≤ k ∧ k ≤ 35)) → S k t = false) (c : twn h t N T) : twn h' t N T := by
  unfold twn
  rw [f 8 t (hs 8 (by omega)), f 28 t (hs 28 (by omega)), f 29 t (hs 29 (by omega)), f 31 t (hs 31 (by omega)), f 32 t (hs 32 (by omega)), f 33 t (hs 33 (by omega)), f 34 t (hs 34 (by omega)), f 35 t (hs 35 (by omega))]
  exact c
theorem sC_twn {j t : Nat} : ∀ k, (k = 8 ∨ (28 ≤ k ∧ k ≤ 35)) → sC j k t = false := by
  intro k hk
  have : (k == 1) = false ∧ (k == 14) = false ∧ (k == 15) = false := ⟨by simp; omega, by simp; omega, by simp; omega⟩
  simp [sC, this]
theorem sC1 {j : Nat} : sC j 1 j = true := by simp [sC]
theorem sC14 {j : Nat} : sC j 14 j = true := by simp [sC]
theorem sC15 {j : Nat} : sC j 15 j = true := by simp [sC]
theorem cmq_food {h : HF} {j : Nat} {s : Sv} {w d x : Int32} (c : cmq h j s w d) : cmq (put h 1 j 0 x) j (va_up s 0 x) w d := by
  obtain ⟨⟨a1, a2, a3, a4⟩, a5, a6⟩ := c
  refine ⟨⟨put_same, ?_, fun c hc => ?_, fun c hc => ?_⟩, ?_, ?_⟩
  · rw [put_i (by decide), va_up_ne _ _ (by decide)]; exact a2
  · rw [put_k (by decide), va_up_ne _ _ (by omega)]; exact a3 c hc
  · rw [put_k (by decide), va_up_ne _ _ (by omega)]; exact a4 c hc
  · rw [put_i (by decide)]; exact a5
  · rw [put_i (by decide)]; exact a6
theorem cmq_days {h : HF} {j : Nat} {s : Sv} {w d x : Int32} (c : cmq h j s w d) : cmq (put h 1 j 1 x) j (va_up s 2 x) w d := by
  obtain ⟨⟨a1, a2, a3, a4⟩, a5, a6⟩ := c
  refine ⟨⟨?_, put_same, fun c hc => ?_, fun c hc => ?_⟩, ?_, ?_⟩
  · rw [put_i (by decide), va_up_ne _ _ (by decide)]; exact a1
  · rw [put_k (by decide), va_up_ne _ _ (by omega)]; exact a3 c hc
  · rw [put_k (by decide), va_up_ne _ _ (by omega)]; exact a4 c hc
  · rw [put_i (by decide)]; exact a5
  · rw [put_i (by decide)]; exact a6
theorem cmq_wh {h : HF} {j : Nat} {s : Sv} {w d x : Int32} (c : cmq h j s w d) : cmq (put h 1 j 4 x) j s x d := by
  obtain ⟨⟨a1, a2, a3, a4⟩, a5, a6⟩ := c
  refine ⟨⟨?_, ?_, fun c hc => ?_, fun c hc => ?_⟩, put_same, ?_⟩
  · rw [put_i (by decide)]; exact a1
  · rw [put_i (by decide)]; exact a2
  · rw [put_k (by decide)]; exact a3 c hc
  · rw [put_k (by decide)]; exact a4 c hc
  · rw [put_i (by decide)]; exact a6
theorem cmq_des {h : HF} {j : Nat} {s : Sv} {w d x : Int32} (c : cmq h j s w d) : cmq (put h 1 j 5 x) j s w x := by
  obtain ⟨⟨a1, a2, a3, a4⟩, a5, a6⟩ := c
  refine ⟨⟨?_, ?_, fun c hc => ?_, fun c hc => ?_⟩, ?_, put_same⟩
  · rw [put_i (by decide)]; exact a1
  · rw [put_i (by decide)]; exact a2
  · rw [put_k (by decide)]; exact a3 c hc
  · rw [put_k (by decide)]; exact a4 c hc
  · rw [put_i (by decide)]; exact a5
theorem cmq_men {h : HF} {j i : Nat} {s : Sv} {w d x : Int32} (hi : i < 5) (c : cmq h j s w d) : cmq (put h 14 j i x) j (va_up s (5 + i) x) w d := by
  obtain ⟨⟨a1, a2, a3, a4⟩, a5, a6⟩ := c
  refine ⟨⟨?_, ?_, fun c hc => ?_, fun c hc => ?_⟩, ?_, ?_⟩
  · rw [put_k (by decide), va_up_ne _ _ (by omega)]; exact a1
  · rw [put_k (by decide), va_up_ne _ _ (by omega)]; exact a2
  · by_cases e : c = i
    · subst e; rw [put_same, va_up_self]
    · rw [put_i e, va_up_ne _ _ (by omega)]; exact a3 c hc
  · rw [put_k (by decide), va_up_ne _ _ (by omega)]; exact a4 c hc
  · rw [put_k (by decide)]; exact a5
  · rw [put_k (by decide)]; exact a6
theorem cmq_hd {h : HF} {j i : Nat} {s : Sv} {w d x : Int32} (hi : i < 5) (c : cmq h j s w d) : cmq (put h 15 j i x) j (va_up s (10 + i) x) w d := by
  obtain ⟨⟨a1, a2, a3, a4⟩, a5, a6⟩ := c
  refine ⟨⟨?_, ?_, fun c hc => ?_, fun c hc => ?_⟩, ?_, ?_⟩
  · rw [put_k (by decide), va_up_ne _ _ (by omega)]; exact a1
  · rw [put_k (by decide), va_up_ne _ _ (by omega)]; exact a2
  · rw [put_k (by decide), va_up_ne _ _ (by omega)]; exact a3 c hc
  · by_cases e : c = i
    · subst e; rw [put_same, va_up_self]
    · rw [put_i e, va_up_ne _ _ (by omega)]; exact a4 c hc
  · rw [put_k (by decide)]; exact a5
  · rw [put_k (by decide)]; exact a6
set_option maxRecDepth 100000 in
set_option maxHeartbeats 4000000 in
theorem c_menOfAll {E : Ev} {a b j : Nat} {h : HF} {s : Sv} (hC : j < 29) (hc : cmp h j s) : Ct E 0 yX1_menOfAll cX1_menOfAll 3 (some .int) [aR 1 j] 243 (Rs a b) h 243 (fun v R' h' => v = some (aI (msum s 5)) ∧ R' = Rs a b ∧ h' = h) := by
  refine Ct.of 2 (L0 := [some (aR 1 j), none, none]) (by decide) ⟨Nat.le_refl _, Nat.le_refl _⟩ rfl rfl ?_
  intro G C hg hrt hnm
  have hN : gn G ≤ 243 ∧ 243 ≤ 243 ∧ 243 ≤ 243 := ⟨by omega, by decide, by decide⟩
  refine r_iconst (v := (nI 0)) C dX1_menOfAll_0 (by decide) ?_
  refine r_istore_n C dX1_menOfAll_1 st1 ?_
  refine r_iconst (v := (nI 0)) C dX1_menOfAll_2 (by decide) ?_
  refine r_istore_n C dX1_menOfAll_3 st2 ?_
  have loop : ∀ k c, c + k = 5 → Wa E G 243 (Rs a b) h (QQ E G 243 (fun v R' h' => v = some (aI (msum s 5)) ∧ R' = Rs a b ∧ h' = h)) 4 [some (aR 1 j), some (aI (msum s c)), some (aI (nI c))] [] := by
    intro k
    induction k with
    | zero =>
      intro c hc5
      refine r_iload_n C dX1_menOfAll_4 rfl ?_
      refine r_iconst (v := (nI 5)) C dX1_menOfAll_5 (by decide) ?_
      refine r_icmpN_ge C dX1_menOfAll_6 (by omega) (by omega) (fun _ => ?_) (fun cc => absurd cc (by omega))
      refine r_iload_n C dX1_menOfAll_24 rfl ?_
      refine r_iret C hrt dX1_menOfAll_25 ?_
      have e : c = 5 := by omega
      subst e
      exact ⟨rfl, rfl, rfl⟩
    | succ k ih =>
      intro c hc5
      refine r_iload_n C dX1_menOfAll_4 rfl ?_
      refine r_iconst (v := (nI 5)) C dX1_menOfAll_5 (by decide) ?_
      refine r_icmpN_ge C dX1_menOfAll_6 (by omega) (by omega) (fun cc => absurd cc (by omega)) (fun _ => ?_)
      refine r_iload_n C dX1_menOfAll_9 rfl ?_
      refine r_aload_n C dX1_menOfAll_10 rfl ?_
      refine r_getR C flX1_18 dX1_menOfAll_11 (Ok.full (by decide) hC) rfl rfl ?_
      refine r_iload_n C dX1_menOfAll_14 rfl ?_
      refine q_ialdV (m := 5) C dX1_menOfAll_15 (Ok.full (by decide) hC) rfl rfl (by omega) (hc.2.2.1 c (by omega)) ?_
      refine r_iadd C dX1_menOfAll_16 ?_
      refine r_istore_n C dX1_menOfAll_17 st1 ?_
      first | refine r_iincN C dX1_menOfAll_18 rfl st2 ?_ | refine r_iinc C dX1_menOfAll_18 rfl rfl st2 ?_
      refine r_goto C dX1_menOfAll_21 ?_
      exact ih (c + 1) (by omega)
  exact loop 5 0 rfl
