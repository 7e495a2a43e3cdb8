/-! sieges -/
def sS (j : Nat) : Nat → Nat → Bool := fun k j' => (k == 1 || k == 14 || k == 15 || k == 6 || k == 23 || k == 24 || k == 25) && j' == j
def sgp (h : HF) (j : Nat) (s : Sv) : Prop := cmp h j s ∧ h 6 j 1 = s 1 ∧ h 6 j 2 = s 3 ∧ h 6 j 3 = s 4 ∧ (∀ m, m < 4 → h 23 j m = s (20 + m)) ∧ (∀ c, c < 5 → h 24 j c = s (15 + c)) ∧ ∀ i, i < 20 → h 25 j i = s (24 + i)
theorem sS_of {j k : Nat} (hk : k = 1 ∨ k = 14 ∨ k = 15 ∨ k = 6 ∨ k = 23 ∨ k = 24 ∨ k = 25) : sS j k j = true := by
  rcases hk with rfl | rfl | rfl | rfl | rfl | rfl | rfl <;> simp [sS]
theorem sS_twn {j t : Nat} : ∀ k, (k = 8 ∨ (27 ≤ k ∧ k ≤ 35)) → sS j k t = false := by
  intro k hk
  have : (k == 1) = false ∧ (k == 14) = false ∧ (k == 15) = false ∧ (k == 6) = false ∧ (k == 23) = false ∧ (k == 24) = false ∧ (k == 25) = false := ⟨by simp; omega, by simp; omega, by simp; omega, by simp; omega, by simp; omega, by simp; omega, by simp; omega⟩
  simp [sS, this]
theorem sS_twn' {j t : Nat} : ∀ k, (k = 8 ∨ (28 ≤ k ∧ k ≤ 35)) → sS j k t = false := fun k hk => sS_twn k (by omega)
theorem sC_sS {j : Nat} : ∀ k j', sC j k j' = true → sS j k j' = true := by
  intro k j' hh
  simp only [sC, sS, Bool.and_eq_true, Bool.or_eq_true] at hh ⊢
  refine ⟨?_, hh.2⟩
  rcases hh.1 with (z | z) | z <;> simp [z]
theorem sS_ne {i j k : Nat} (h : i ≠ j) : sS j k i = false := by simp [sS, h]
theorem sC_ne {i j k : Nat} (h : i ≠ j) : sC j k i = false := by simp [sC, h]
theorem sgp.fr {S : Nat → Nat → Bool} {h h' : HF} {j : Nat} {s : Sv} (f : Fr S h h') (hs : ∀ k, (k = 1 ∨ k = 14 ∨ k = 15 ∨ k = 6 ∨ k = 23 ∨ k = 24 ∨ k = 25) → S k j = false) (c : sgp h j s) : sgp h' j s := by
  unfold sgp
  rw [f 6 j (hs 6 (by omega)), f 23 j (hs 23 (by omega)), f 24 j (hs 24 (by omega)), f 25 j (hs 25 (by omega))]
  exact ⟨c.1.fr f (hs 1 (by omega)) (hs 14 (by omega)) (hs 15 (by omega)), c.2⟩
/-- the camp's part of a siege changes -/
theorem sgp.camp {h h' : HF} {j : Nat} {s s' : Sv} (c : sgp h j s) (f : Fr (sC j) h h') (hc : cmp h' j s') (ho : ∀ k, k ≠ 0 → k ≠ 2 → (k < 5 ∨ 15 ≤ k) → s' k = s k) : sgp h' j s' := by
  obtain ⟨-, a1, a2, a3, a4, a5, a6⟩ := c
  refine ⟨hc, ?_, ?_, ?_, fun m hm => ?_, fun m hm => ?_, fun m hm => ?_⟩
  · rw [f 6 j rfl, ho 1 (by omega) (by omega) (by omega)]; exact a1
  · rw [f 6 j rfl, ho 3 (by omega) (by omega) (by omega)]; exact a2
  · rw [f 6 j rfl, ho 4 (by omega) (by omega) (by omega)]; exact a3
  · rw [f 23 j rfl, ho (20 + m) (by omega) (by omega) (by omega)]; exact a4 m hm
  · rw [f 24 j rfl, ho (15 + m) (by omega) (by omega) (by omega)]; exact a5 m hm
  · rw [f 25 j rfl, ho (24 + m) (by omega) (by omega) (by omega)]; exact a6 m hm
theorem cmp.up {h : HF} {j n : Nat} {s : Sv} {x : Int32} (c : cmp h j s) (h1 : n ≠ 0) (h2 : n ≠ 2) (h3 : n < 5 ∨ 15 ≤ n) : cmp h j (va_up s n x) := by
  obtain ⟨a1, a2, a3, a4⟩ := c
  exact ⟨by rw [va_up_ne _ _ (by omega)]; exact a1, by rw [va_up_ne _ _ (by omega)]; exact a2, fun c hc => by rw [va_up_ne _ _ (by omega)]; exact a3 c hc, fun c hc => by rw [va_up_ne _ _ (by omega)]; exact a4 c hc⟩
theorem cmp.putk {h : HF} {j k i n : Nat} {s : Sv} {x : Int32} (c : cmp h j s) (h1 : k ≠ 1) (h2 : k ≠ 14) (h3 : k ≠ 15) : cmp (put h k n i x) j s := by
  unfold cmp
  rw [put_k (Ne.symm h1), put_k (Ne.symm h2), put_k (Ne.symm h3)]
  exact c
theorem sgp_odds {h : HF} {j : Nat} {s : Sv} {x : Int32} (c : sgp h j s) : sgp (put h 6 j 1 x) j (va_up s 1 x) := by
  obtain ⟨a0, a1, a2, a3, a4, a5, a6⟩ := c
  refine ⟨(a0.up (by omega) (by omega) (by omega)).putk (by omega) (by omega) (by omega), put_same, ?_, ?_, fun m hm => ?_, fun m hm => ?_, fun m hm => ?_⟩
  · rw [put_i (by decide), va_up_ne _ _ (by decide)]; exact a2
  · rw [put_i (by decide), va_up_ne _ _ (by decide)]; exact a3
  · rw [put_k (by decide), va_up_ne _ _ (by omega)]; exact a4 m hm
  · rw [put_k (by decide), va_up_ne _ _ (by omega)]; exact a5 m hm
  · rw [put_k (by decide), va_up_ne _ _ (by omega)]; exact a6 m hm
theorem sgp_hunger {h : HF} {j : Nat} {s : Sv} {x : Int32} (c : sgp h j s) : sgp (put h 6 j 2 x) j (va_up s 3 x) := by
  obtain ⟨a0, a1, a2, a3, a4, a5, a6⟩ := c
  refine ⟨(a0.up (by omega) (by omega) (by omega)).putk (by omega) (by omega) (by omega), ?_, put_same, ?_, fun m hm => ?_, fun m hm => ?_, fun m hm => ?_⟩
  · rw [put_i (by decide), va_up_ne _ _ (by decide)]; exact a1
  · rw [put_i (by decide), va_up_ne _ _ (by decide)]; exact a3
  · rw [put_k (by decide), va_up_ne _ _ (by omega)]; exact a4 m hm
  · rw [put_k (by decide), va_up_ne _ _ (by omega)]; exact a5 m hm
  · rw [put_k (by decide), va_up_ne _ _ (by omega)]; exact a6 m hm
theorem sgp_fate {h : HF} {j : Nat} {s : Sv} {x : Int32} (c : sgp h j s) : sgp (put h 6 j 3 x) j (va_up s 4 x) := by
  obtain ⟨a0, a1, a2, a3, a4, a5, a6⟩ := c
  refine ⟨(a0.up (by omega) (by omega) (by omega)).putk (by omega) (by omega) (by omega), ?_, ?_, put_same, fun m hm => ?_, fun m hm => ?_, fun m hm => ?_⟩
  · rw [put_i (by decide), va_up_ne _ _ (by decide)]; exact a1
  · rw [put_i (by decide), va_up_ne _ _ (by decide)]; exact a2
  · rw [put_k (by decide), va_up_ne _ _ (by omega)]; exact a4 m hm
  · rw [put_k (by decide), va_up_ne _ _ (by omega)]; exact a5 m hm
  · rw [put_k (by decide), va_up_ne _ _ (by omega)]; exact a6 m hm
theorem sgp_left {h : HF} {j i : Nat} {s : Sv} {x : Int32} (hi : i < 4) (c : sgp h j s) : sgp (put h 23 j i x) j (va_up s (20 + i) x) := by
  obtain ⟨a0, a1, a2, a3, a4, a5, a6⟩ := c
  refine ⟨(a0.up (by omega) (by omega) (by omega)).putk (by omega) (by omega) (by omega), ?_, ?_, ?_, fun m hm => ?_, fun m hm => ?_, fun m hm => ?_⟩
  · rw [put_k (by decide), va_up_ne _ _ (by omega)]; exact a1
  · rw [put_k (by decide), va_up_ne _ _ (by omega)]; exact a2
  · rw [put_k (by decide), va_up_ne _ _ (by omega)]; exact a3
  · by_cases e : m = i
    · subst e; rw [put_same, va_up_self]
    · rw [put_i e, va_up_ne _ _ (by omega)]; exact a4 m hm
  · rw [put_k (by decide), va_up_ne _ _ (by omega)]; exact a5 m hm
  · rw [put_k (by decide), va_up_ne _ _ (by omega)]; exact a6 m hm
theorem sgp_words {h : HF} {j i : Nat} {s : Sv} {x : Int32} (hi : i < 5) (c : sgp h j s) : sgp (put h 24 j i x) j (va_up s (15 + i) x) := by
  obtain ⟨a0, a1, a2, a3, a4, a5, a6⟩ := c
  refine ⟨(a0.up (by omega) (by omega) (by omega)).putk (by omega) (by omega) (by omega), ?_, ?_, ?_, fun m hm => ?_, fun m hm => ?_, fun m hm => ?_⟩
  · rw [put_k (by decide), va_up_ne _ _ (by omega)]; exact a1
  · rw [put_k (by decide), va_up_ne _ _ (by omega)]; exact a2
  · rw [put_k (by decide), va_up_ne _ _ (by omega)]; exact a3
  · rw [put_k (by decide), va_up_ne _ _ (by omega)]; exact a4 m hm
  · by_cases e : m = i
    · subst e; rw [put_same, va_up_self]
    · rw [put_i e, va_up_ne _ _ (by omega)]; exact a5 m hm
  · rw [put_k (by decide), va_up_ne _ _ (by omega)]; exact a6 m hm
theorem sgp_paid {h : HF} {j i : Nat} {s : Sv} {x : Int32} (hi : i < 20) (c : sgp h j s) : sgp (put h 25 j i x) j (va_up s (24 + i) x) := by
  obtain ⟨a0, a1, a2, a3, a4, a5, a6⟩ := c
  refine ⟨(a0.up (by omega) (by omega) (by omega)).putk (by omega) (by omega) (by omega), ?_, ?_, ?_, fun m hm => ?_, fun m hm => ?_, fun m hm => ?_⟩
  · rw [put_k (by decide), va_up_ne _ _ (by omega)]; exact a1
  · rw [put_k (by decide), va_up_ne _ _ (by omega)]; exact a2
  · rw [put_k (by decide), va_up_ne _ _ (by omega)]; exact a3
  · rw [put_k (by decide), va_up_ne _ _ (by omega)]; exact a4 m hm
  · rw [put_k (by decide), va_up_ne _ _ (by omega)]; exact a5 m hm
  · by_cases e : m = i
    · subst e; rw [put_same, va_up_self]
    · rw [put_i e, va_up_ne _ _ (by omega)]; exact a6 m hm
theorem sgp_men {h : HF} {j i : Nat} {s : Sv} {x : Int32} (hi : i < 5) (c : sgp h j s) : sgp (put h 14 j i x) j (va_up s (5 + i) x) :=
  c.camp (Fr.put Fr.rf sC14) (cmq_men hi ⟨c.1, rfl, rfl⟩).1 (fun k h1 h2 h3 => by rw [va_up_ne _ _ (by omega)])
/-- what isn't a camp's stays, when a day is eaten -/
theorem fedS_off {q : Int32} {s : Sv} {c k : Nat} (hk : k ≠ 0) : fedS q s c k = s k := by
  unfold fedS
  split
  · rw [va_up_ne _ _ hk]
  · rfl
theorem starveF_off {b : Int32} {c k : Nat} {u : Sv × Int32 × Int32} (hc : c < 5) (hk : k < 5 ∨ 15 ≤ k) : (starveF b c u).1 k = u.1 k := by
  unfold starveF
  split
  · exact va_up_ne _ _ (by omega)
  · split
    · exact va_up_ne _ _ (by omega)
    · show va_up (va_up _ _ _) _ _ k = _
      rw [va_up_ne _ _ (by omega), va_up_ne _ _ (by omega)]
theorem eat1_off {b : Nat → Int32} {q : Int32} {c k : Nat} {u : Sv × Int32 × Int32} (hc : c < 5) (h0 : k ≠ 0) (hk : k < 5 ∨ 15 ≤ k) : (eat1 b q c u).1 k = u.1 k := by
  unfold eat1
  split
  · show va_up _ _ _ k = _
    rw [va_up_ne _ _ (by omega), fedS_off h0]
  · rw [starveF_off hc hk]
    exact fedS_off h0
theorem eatN_off {b : Nat → Int32} {q : Int32} {k : Nat} {u : Sv × Int32 × Int32} (h0 : k ≠ 0) (hk : k < 5 ∨ 15 ≤ k) : ∀ n, n ≤ 5 → (eatN b q u n).1 k = u.1 k
  | 0, _ => rfl
  | n + 1, hn => by rw [eatN, eat1_off (by omega) h0 hk, eatN_off h0 hk n (by omega)]
theorem eday_off {N : Nat → Nat} {T : Tv} {q : Int32} {s : Sv} {k : Nat} (hN : N 0 ≤ 5) (h0 : k ≠ 0) (h2 : k ≠ 2) (hk : k < 5 ∨ 15 ≤ k) : (edayF N T q s).1 k = s k := by
  show va_up _ _ _ k = _
  rw [va_up_ne _ _ h2, eatN_off h0 hk _ hN]
  exact va_up_ne _ _ h0
def payR (s : Sv) (c : Nat) (due : Int32) : Nat → Nat → Sv
  | 0, _ => va_up s (15 + c) (s (15 + c) + due)
  | r + 1, i => if due ≤ s (20 + i) then va_up (va_up s (20 + i) (s (20 + i) - due)) (24 + (c * 4 + i)) (s (24 + (c * 4 + i)) + due) else payR s c due r (i + 1)
def payN (N : Nat → Nat) (T : Tv) (s : Sv) : Nat → Sv
  | 0 => s
  | c + 1 => payR (payN N T s c) c (payN N T s c (5 + c) * T 0 c) (N 1) 0
def hunF (w x : Int32) : Int32 := if w = 0 then (if nI 0 < x - nI 1 then x - nI 1 else nI 0) else x + nI 1
def passF (N : Nat → Nat) (T : Tv) (q : Int32) (s : Sv) : Sv :=
  va_up (payN N T (edayF N T q s).1 (N 0)) 3 (hunF (edayF N T q s).2.1 (payN N T (edayF N T q s).1 (N 0) 3))
def rodF (more : Int32) (s : Sv) : Sv := va_up s 1 (if s 1 + more < nI 99 then s 1 + more else nI 99)
def wosF (T : Tv) (m rd : Nat) : Int32 := if rd = 0 then T 2 m else if rd = 1 then T 3 m else nI 1
def owF (T : Tv) (s : Sv) (c rd : Nat) : Nat → Int32
  | 0 => s (15 + c)
  | m + 1 => owF T s c rd m + s (24 + (c * 4 + m)) * wosF T m rd
def twb (h : HF) (t : Nat) (N : Nat → Nat) (T : Tv) : Prop := (∀ i, i < N 0 → h 27 t i = T 7 i) ∧ (∀ i, i < N 1 → h 30 t i = T 8 i) ∧ h 8 t 1 = T 9 0 ∧ h 8 t 2 = T 9 1
theorem twb.fr {S : Nat → Nat → Bool} {h h' : HF} {t : Nat} {N : Nat → Nat} {T : Tv} (f : Fr S h h') (hs : ∀ k, (k = 8 ∨ (27 ≤ k ∧ k ≤ 35)) → S k t = false) (c : twb h t N T) : twb h' t N T := by
  unfold twb
  rw [f 8 t (hs 8 (by omega)), f 27 t (hs 27 (by omega)), f 30 t (hs 30 (by omega))]
  exact c
def bgF (N : Nat → Nat) (T : Tv) : Sv := fun k => if k = 0 then T 9 0 else if k = 1 then T 9 1 else if 5 ≤ k ∧ k < 5 + N 0 then T 7 (k - 5) else if 20 ≤ k ∧ k < 20 + N 1 then T 8 (k - 20) else nI 0
