/-! WHAT HOLDS OF EVERY STATE (pure) -/
theorem fb_rng (x : Int32) : -2147483648 ≤ x.toInt ∧ x.toInt < 2147483648 := by
  have h1 := Int32.le_toInt x
  have h2 := Int32.toInt_lt x
  omega
theorem fb_bmod {z : Int} (h1 : -2147483648 ≤ z) (h2 : z < 2147483648) : z.bmod (2 ^ 32) = z := by
  rw [Int.bmod_eq_of_le (by omega) (by omega)]
theorem fb_addI {x y : Int32} (h1 : -2147483648 ≤ x.toInt + y.toInt) (h2 : x.toInt + y.toInt < 2147483648) : (x + y).toInt = x.toInt + y.toInt := by
  rw [Int32.toInt_add, fb_bmod h1 h2]
theorem fb_subI {x y : Int32} (h1 : -2147483648 ≤ x.toInt - y.toInt) (h2 : x.toInt - y.toInt < 2147483648) : (x - y).toInt = x.toInt - y.toInt := by
  rw [Int32.toInt_sub, fb_bmod h1 h2]
theorem toN {x : Int32} {n : Nat} (h : 0 ≤ x.toInt) (h2 : x.toInt ≤ n) : ∃ j, j ≤ n ∧ x = nI j := by
  have hb := fb_rng x
  refine ⟨x.toInt.toNat, by omega, Int32.toInt_inj.mp ?_⟩
  rw [nI_toInt (by omega)]
  omega
theorem t0 : (nI 0).toInt = 0 := by decide
theorem t1 : (nI 1).toInt = 1 := by decide
def MV (N : Nat → Nat) (s : Sv) : Prop := (∀ c, c < 5 → 0 ≤ (s (5 + c)).toInt ∧ (s (5 + c)).toInt ≤ 99) ∧ ∀ c, N 0 ≤ c → c < 5 → s (5 + c) = nI 0
def PP (s : Sv) : Prop := ∀ c m, c < 5 → m < 4 → 0 ≤ (s (24 + (c * 4 + m))).toInt ∧ 0 ≤ (s (20 + m)).toInt ∧ (s (24 + (c * 4 + m))).toInt + (s (20 + m)).toInt ≤ 999
def SVd (N : Nat → Nat) (D : Nat) (s : Sv) : Prop := MV N s ∧ (0 ≤ (s 1).toInt ∧ (s 1).toInt ≤ 99) ∧ (0 ≤ (s 3).toInt ∧ (s 3).toInt ≤ (s 2).toInt ∧ (s 2).toInt ≤ D) ∧ (∀ c, c < 5 → 0 ≤ (s (15 + c)).toInt ∧ (s (15 + c)).toInt ≤ 891 * (s 2).toInt) ∧ PP s ∧ 0 ≤ (s 44).toInt
def TVd (N : Nat → Nat) (T : Tv) : Prop := (∀ c, c < N 0 → 0 ≤ (T 0 c).toInt ∧ (T 0 c).toInt ≤ 9 ∧ 0 ≤ (T 1 c).toInt) ∧ ∀ m, m < N 1 → (0 ≤ (T 2 m).toInt ∧ (T 2 m).toInt ≤ 99) ∧ 0 ≤ (T 3 m).toInt ∧ (T 3 m).toInt ≤ 99
theorem gone_ok : ∀ j, j < 100 → 0 ≤ (nI j - goneF (nI j)).toInt ∧ (nI j - goneF (nI j)).toInt ≤ 99 := by decide +kernel
theorem eat1_men {b : Nat → Int32} {q : Int32} {c i : Nat} {u : Sv × Int32 × Int32} (hi : i < 5) (hu : 0 ≤ (u.1 (5 + i)).toInt ∧ (u.1 (5 + i)).toInt ≤ 99) : 0 ≤ ((eat1 b q c u).1 (5 + i)).toInt ∧ ((eat1 b q c u).1 (5 + i)).toInt ≤ 99 := by
  by_cases e : i = c
  · subst e
    obtain ⟨s, w, d⟩ := u
    have f5 : fedS q s i (5 + i) = s (5 + i) := fedS_off (by omega)
    by_cases h1 : fedB q s i = true
    · rw [eat1_fed h1]
      show 0 ≤ Int32.toInt (va_up _ _ _ (5 + i)) ∧ Int32.toInt (va_up _ _ _ (5 + i)) ≤ 99
      rw [va_up_ne _ _ (by omega), f5]
      exact hu
    · rw [eat1_not h1]
      by_cases h2 : fedS q s i (5 + i) = 0
      · rw [starve_0 h2]
        show 0 ≤ Int32.toInt (va_up _ _ _ (5 + i)) ∧ Int32.toInt (va_up _ _ _ (5 + i)) ≤ 99
        rw [va_up_ne _ _ (by omega), f5]
        exact hu
      · by_cases h3 : fedS q s i (10 + i) + nI 1 ≤ b i
        · rw [starve_1 h2 h3]
          show 0 ≤ Int32.toInt (va_up _ _ _ (5 + i)) ∧ Int32.toInt (va_up _ _ _ (5 + i)) ≤ 99
          rw [va_up_ne _ _ (by omega), f5]
          exact hu
        · rw [starve_2 h2 h3]
          show 0 ≤ Int32.toInt (va_up _ _ _ (5 + i)) ∧ Int32.toInt (va_up _ _ _ (5 + i)) ≤ 99
          rw [va_up_self, f5]
          obtain ⟨j, hj, ej⟩ := toN (n := 99) hu.1 hu.2
          have ej2 : s (5 + i) = nI j := ej
          rw [ej2]
          exact gone_ok j (by omega)
  · rw [eat1_oth (by omega) (by omega) (by omega)]
    exact hu
theorem eat1_zero {b : Nat → Int32} {q : Int32} {c i : Nat} {u : Sv × Int32 × Int32} (hi : i < 5) (hu : u.1 (5 + i) = nI 0) : (eat1 b q c u).1 (5 + i) = nI 0 := by
  by_cases e : i = c
  · subst e
    obtain ⟨s, w, d⟩ := u
    have f5 : fedS q s i (5 + i) = s (5 + i) := fedS_off (by omega)
    have hu2 : s (5 + i) = nI 0 := hu
    by_cases h1 : fedB q s i = true
    · rw [eat1_fed h1]
      show va_up _ _ _ (5 + i) = _
      rw [va_up_ne _ _ (by omega), f5, hu2]
    · rw [eat1_not h1, starve_0 (by rw [f5, hu2]; rfl)]
      show va_up _ _ _ (5 + i) = _
      rw [va_up_ne _ _ (by omega), f5, hu2]
  · rw [eat1_oth (by omega) (by omega) (by omega)]
    exact hu
theorem eatN_MV {N : Nat → Nat} {b : Nat → Int32} {q : Int32} {u : Sv × Int32 × Int32} (h : MV N u.1) : ∀ n, MV N (eatN b q u n).1
  | 0 => h
  | n + 1 => ⟨fun c hc => eat1_men hc ((eatN_MV h n).1 c hc), fun c h1 hc => eat1_zero hc ((eatN_MV h n).2 c h1 hc)⟩
theorem MV.up {N : Nat → Nat} {s : Sv} {k : Nat} {x : Int32} (h : MV N s) (hk : k < 5 ∨ 10 ≤ k) : MV N (va_up s k x) :=
  ⟨fun c hc => by rw [va_up_ne _ _ (by omega)]; exact h.1 c hc, fun c h1 hc => by rw [va_up_ne _ _ (by omega)]; exact h.2 c h1 hc⟩
theorem eday_MV {N : Nat → Nat} {T : Tv} {q : Int32} {s : Sv} (h : MV N s) : MV N (edayF N T q s).1 := (eatN_MV (h.up (by omega)) _).up (by omega)
theorem eday_2 {N : Nat → Nat} {T : Tv} {q : Int32} {s : Sv} (h0 : N 0 ≤ 5) : (edayF N T q s).1 2 = s 2 + nI 1 := by
  show va_up (eatN (T 1) q (u0F N T s) (N 0)).1 2 ((eatN (T 1) q (u0F N T s) (N 0)).1 2 + nI 1) 2 = _
  rw [va_up_self, eatN_off (by omega) (by omega) _ h0]
  show va_up s 0 (s 0 + hfd T (s 2) (N 3)) 2 + nI 1 = _
  rw [va_up_ne _ _ (by decide)]
theorem msum_b {N : Nat → Nat} {s : Sv} (h : MV N s) : ∀ n, n ≤ 5 → 0 ≤ (msum s n).toInt ∧ (msum s n).toInt ≤ 99 * n
  | 0, _ => by rw [msum, t0]; omega
  | n + 1, hn => by
    have h1 := msum_b h n (by omega)
    have h2 := h.1 n (by omega)
    rw [msum, fb_addI (by omega) (by omega)]
    omega
theorem msum_5 {N : Nat → Nat} {s : Sv} (h : MV N s) (h0 : N 0 ≤ 5) : msum s (N 0) = msum s 5 := by
  have := msum_z (s := s) (n := N 0) (5 - N 0) (fun c h1 h2 => h.2 c h1 (by omega))
  rw [show N 0 + (5 - N 0) = 5 by omega] at this
  exact this.symm
theorem rowS_MV {N : Nat → Nat} {T : Tv} {n row : Nat} {s : Sv} (h : MV N s) : ∀ d, MV N (rowS N T n row s d)
  | 0 => h
  | d + 1 => eday_MV (rowS_MV h d)
theorem rowS_pos {N : Nat → Nat} {T : Tv} {s : Sv} (h : MV N s) (n r : Nat) : -1 < msum (rowS N T n r s n) 5 := by
  have h1 := msum_b (rowS_MV (T := T) (n := n) (row := r) h n) 5 (by omega)
  rw [Int32.lt_iff_toInt_lt]
  have h2 : (-1 : Int32).toInt = -1 := by decide
  omega
/-! pay -/
theorem payR_PP {s : Sv} {c : Nat} {due : Int32} (hc : c < 5) (hd : 0 ≤ due.toInt) (hp : PP s) : ∀ r i, i + r ≤ 4 → PP (payR s c due r i)
  | 0, i, _ => by
    intro c' m hc' hm
    rw [payR, va_up_ne _ _ (by omega), va_up_ne _ _ (by omega)]
    exact hp c' m hc' hm
  | r + 1, i, hi => by
    rw [payR]
    split
    · next hle =>
      rw [Int32.le_iff_toInt_le] at hle
      intro c' m hc' hm
      have h0 := hp c i hc (by omega)
      have h1 := hp c' m hc' hm
      have e1 : (s (20 + i) - due).toInt = (s (20 + i)).toInt - due.toInt := fb_subI (by omega) (by omega)
      have e2 : (s (24 + (c * 4 + i)) + due).toInt = (s (24 + (c * 4 + i))).toInt + due.toInt := fb_addI (by omega) (by omega)
      rw [va_up_ne _ _ (show 20 + m ≠ 24 + (c * 4 + i) by omega)]
      by_cases z : m = i
      · subst z
        rw [va_up_self]
        by_cases z2 : c' = c
        · subst z2
          rw [va_up_self, e1, e2]
          omega
        · rw [va_up_ne _ _ (by omega), va_up_ne _ _ (by omega), e1]
          omega
      · rw [va_up_ne _ _ (by omega), va_up_ne _ _ (by omega), va_up_ne _ _ (by omega)]
        exact h1
    · exact payR_PP hc hd hp r (i + 1) (by omega)
theorem payR_wo {s : Sv} {c c' : Nat} {due : Int32} (hc : c < 5) (hc' : c' < 5) (hn : c' ≠ c) : ∀ r i, i + r ≤ 4 → payR s c due r i (15 + c') = s (15 + c')
  | 0, i, _ => by rw [payR, va_up_ne _ _ (by omega)]
  | r + 1, i, hi => by
    rw [payR]
    split
    · rw [va_up_ne _ _ (by omega), va_up_ne _ _ (by omega)]
    · exact payR_wo hc hc' hn r (i + 1) (by omega)
theorem payR_wd {s : Sv} {c : Nat} {due : Int32} (hc : c < 5) : ∀ r i, i + r ≤ 4 → payR s c due r i (15 + c) = s (15 + c) ∨ payR s c due r i (15 + c) = s (15 + c) + due
  | 0, i, _ => Or.inr (by rw [payR, va_up_self])
  | r + 1, i, hi => by
    rw [payR]
    split
    · exact Or.inl (by rw [va_up_ne _ _ (by omega), va_up_ne _ _ (by omega)])
    · exact payR_wd hc r (i + 1) (by omega)
theorem due_b {x y : Int32} (h1 : 0 ≤ x.toInt ∧ x.toInt ≤ 99) (h2 : 0 ≤ y.toInt ∧ y.toInt ≤ 9) : 0 ≤ (x * y).toInt ∧ (x * y).toInt ≤ 891 := by
  obtain ⟨j, hj, rfl⟩ := toN (n := 99) h1.1 h1.2
  obtain ⟨k, hk, rfl⟩ := toN (n := 9) h2.1 h2.2
  have h : j * k ≤ 99 * 9 := Nat.mul_le_mul hj hk
  rw [pk_mul, nI_toInt (by omega)]
  omega
theorem payN_ok {N : Nat → Nat} {T : Tv} {s : Sv} (h0 : N 0 ≤ 5) (h1 : N 1 ≤ 4) (hT : TVd N T) (hm : MV N s) (hp : PP s) : ∀ n, n ≤ N 0 → PP (payN N T s n) ∧ ∀ c, c < 5 → (payN N T s n (15 + c) = s (15 + c) ∨ (c < n ∧ ∃ due : Int32, (0 ≤ due.toInt ∧ due.toInt ≤ 891) ∧ payN N T s n (15 + c) = s (15 + c) + due))
  | 0, _ => ⟨hp, fun c _ => Or.inl rfl⟩
  | n + 1, hn => by
    obtain ⟨i1, i2⟩ := payN_ok h0 h1 hT hm hp n (by omega)
    have hd : 0 ≤ (payN N T s n (5 + n) * T 0 n).toInt ∧ (payN N T s n (5 + n) * T 0 n).toInt ≤ 891 := by
      rw [payN_off h1 (by omega) n (by omega)]
      have := hT.1 n (by omega)
      exact due_b (hm.1 n (by omega)) ⟨this.1, this.2.1⟩
    rw [payN]
    refine ⟨payR_PP (by omega) hd.1 i1 _ _ (by omega), fun c hc => ?_⟩
    by_cases e : c = n
    · subst e
      have e2 : payN N T s c (15 + c) = s (15 + c) := by
        rcases i2 c hc with z | ⟨z, -⟩
        · exact z
        · omega
      rcases payR_wd (s := payN N T s c) (due := payN N T s c (5 + c) * T 0 c) hc (N 1) 0 (by omega) with z | z
      · exact Or.inl (z.trans e2)
      · exact Or.inr ⟨by omega, _, hd, by rw [z, e2]⟩
    · rw [payR_wo (by omega) hc e _ _ (by omega)]
      rcases i2 c hc with z | ⟨z, y⟩
      · exact Or.inl z
      · exact Or.inr ⟨by omega, y⟩
theorem hun_b {w x : Int32} (h : 0 ≤ x.toInt) (h2 : x.toInt ≤ 1000000) : 0 ≤ (hunF w x).toInt ∧ (hunF w x).toInt ≤ x.toInt + 1 := by
  have e1 : (x - nI 1).toInt = x.toInt - 1 := by
    have := fb_subI (x := x) (y := nI 1) (by rw [t1]; omega) (by rw [t1]; omega)
    rw [t1] at this
    exact this
  have e2 : (x + nI 1).toInt = x.toInt + 1 := by
    have := fb_addI (x := x) (y := nI 1) (by rw [t1]; omega) (by rw [t1]; omega)
    rw [t1] at this
    exact this
  unfold hunF
  split
  · split
    · next z =>
      rw [Int32.lt_iff_toInt_lt, e1, t0] at z
      rw [e1]
      omega
    · rw [t0]; omega
  · rw [e2]; omega
theorem inc_b {x : Int32} (h : 0 ≤ x.toInt) (h2 : x.toInt ≤ 1000000) : (x + nI 1).toInt = x.toInt + 1 := by
  have := fb_addI (x := x) (y := nI 1) (by rw [t1]; omega) (by rw [t1]; omega)
  rw [t1] at this
  exact this
theorem pass_2 {N : Nat → Nat} {T : Tv} {q : Int32} {s : Sv} (h0 : N 0 ≤ 5) (h1 : N 1 ≤ 4) : passF N T q s 2 = s 2 + nI 1 := by
  rw [passF, va_up_ne _ _ (by omega), payN_off h1 (by omega) _ h0, eday_2 h0]
theorem pass_low {N : Nat → Nat} {T : Tv} {q : Int32} {s : Sv} {k : Nat} (h0 : N 0 ≤ 5) (h1 : N 1 ≤ 4) (hk : k < 15) (h3 : k ≠ 3) : passF N T q s k = (edayF N T q s).1 k := by
  rw [passF, va_up_ne _ _ h3, payN_off h1 (by omega) _ h0]
theorem pass_MV {N : Nat → Nat} {T : Tv} {q : Int32} {s : Sv} (h0 : N 0 ≤ 5) (h1 : N 1 ≤ 4) (h : MV N s) : MV N (passF N T q s) :=
  ⟨fun c hc => by rw [pass_low h0 h1 (by omega) (by omega)]; exact (eday_MV h).1 c hc, fun c h2 hc => by rw [pass_low h0 h1 (by omega) (by omega)]; exact (eday_MV h).2 c h2 hc⟩
theorem pass_SV {N : Nat → Nat} {T : Tv} {q : Int32} {s : Sv} {D : Nat} (h0 : N 0 ≤ 5) (h1 : N 1 ≤ 4) (hD : D ≤ 100000) (hT : TVd N T) (h : SVd N D s) : SVd N (D + 1) (passF N T q s) := by
  obtain ⟨m1, m2, m3, m4, m5, m6⟩ := h
  have hm := eday_MV (T := T) (q := q) m1
  have hpp : PP (edayF N T q s).1 := fun c m hc hm => by
    rw [eday_off h0 (by omega) (by omega) (by omega), eday_off h0 (by omega) (by omega) (by omega)]
    exact m5 c m hc hm
  obtain ⟨p1, p2⟩ := payN_ok h0 h1 hT hm hpp (N 0) (Nat.le_refl _)
  have e2 := pass_2 (T := T) (q := q) (s := s) h0 h1
  have i2 := inc_b (x := s 2) (by omega) (by omega)
  refine ⟨pass_MV h0 h1 m1, ?_, ?_, fun c hc => ?_, fun c m hc hm => ?_, ?_⟩
  · rw [passF_off h0 h1 (by omega)]; exact m2
  · have e3 : passF N T q s 3 = hunF (edayF N T q s).2.1 (s 3) := by
      show va_up _ _ _ 3 = _
      rw [va_up_self, payN_off h1 (by omega) _ h0, eday_off h0 (by omega) (by omega) (by omega)]
    have hb := hun_b (w := (edayF N T q s).2.1) m3.1 (by omega)
    rw [e2, i2, e3]
    omega
  · have ec : passF N T q s (15 + c) = payN N T (edayF N T q s).1 (N 0) (15 + c) := va_up_ne _ _ (by omega)
    have eo : (edayF N T q s).1 (15 + c) = s (15 + c) := eday_off h0 (by omega) (by omega) (by omega)
    have h4 := m4 c hc
    rw [e2, i2, ec]
    rcases p2 c hc with z | ⟨-, due, hd, z⟩
    · rw [z, eo]; omega
    · rw [z, eo, fb_addI (by omega) (by omega)]; omega
  · have ea : passF N T q s (24 + (c * 4 + m)) = payN N T (edayF N T q s).1 (N 0) (24 + (c * 4 + m)) := va_up_ne _ _ (by omega)
    have eb : passF N T q s (20 + m) = payN N T (edayF N T q s).1 (N 0) (20 + m) := va_up_ne _ _ (by omega)
    rw [ea, eb]
    exact p1 c m hc hm
  · rw [passF_off h0 h1 (by omega)]; exact m6
theorem SVd.le {N : Nat → Nat} {D D' : Nat} {s : Sv} (h : SVd N D s) (hd : D ≤ D') : SVd N D' s := by
  obtain ⟨m1, m2, m3, m4⟩ := h
  exact ⟨m1, m2, ⟨m3.1, m3.2.1, by omega⟩, m4⟩
/-! camps that are alike -/
def CE (s s' : Sv) : Prop := s 0 = s' 0 ∧ s 2 = s' 2 ∧ (∀ c, c < 5 → s (5 + c) = s' (5 + c)) ∧ ∀ c, c < 5 → s (10 + c) = s' (10 + c)
theorem CE.up {s s' : Sv} {k : Nat} {x : Int32} (h : CE s s') : CE (va_up s k x) (va_up s' k x) := by
  have g : ∀ i, s i = s' i → va_up s k x i = va_up s' k x i := fun i e => by
    by_cases z : i = k
    · subst z; rw [va_up_self, va_up_self]
    · rw [va_up_ne _ _ z, va_up_ne _ _ z, e]
  exact ⟨g _ h.1, g _ h.2.1, fun c hc => g _ (h.2.2.1 c hc), fun c hc => g _ (h.2.2.2 c hc)⟩
theorem CE.tr {s s' s2 : Sv} (h : CE s s') (g : CE s' s2) : CE s s2 := ⟨h.1.trans g.1, h.2.1.trans g.2.1, fun c hc => (h.2.2.1 c hc).trans (g.2.2.1 c hc), fun c hc => (h.2.2.2 c hc).trans (g.2.2.2 c hc)⟩
theorem CE.rf {s : Sv} : CE s s := ⟨rfl, rfl, fun _ _ => rfl, fun _ _ => rfl⟩
theorem fed_CE {q : Int32} {s s' : Sv} {c : Nat} (hc : c < 5) (h : CE s s') : fedB q s c = fedB q s' c ∧ CE (fedS q s c) (fedS q s' c) := by
  refine ⟨by rw [fedB, fedB, h.2.2.1 c hc, h.1], ?_⟩
  unfold fedS
  rw [h.2.2.1 c hc, h.1]
  split
  · exact h.up
  · exact h
theorem eat1_CE {b : Nat → Int32} {q : Int32} {c : Nat} {u u' : Sv × Int32 × Int32} (hc : c < 5) (h : CE u.1 u'.1) (h2 : u.2 = u'.2) : CE (eat1 b q c u).1 (eat1 b q c u').1 ∧ (eat1 b q c u).2 = (eat1 b q c u').2 := by
  obtain ⟨s, w, d⟩ := u
  obtain ⟨s', w', d'⟩ := u'
  cases h2
  obtain ⟨f1, f2⟩ := fed_CE (q := q) hc h
  have f1' : fedB q s c = fedB q s' c := f1
  by_cases h1 : fedB q s c = true
  · rw [eat1_fed h1, eat1_fed (f1' ▸ h1)]
    exact ⟨f2.up, rfl⟩
  · have h1' : ¬ fedB q s' c = true := f1' ▸ h1
    rw [eat1_not h1, eat1_not h1']
    have e5 : fedS q s c (5 + c) = fedS q s' c (5 + c) := f2.2.2.1 c hc
    have e10 : fedS q s c (10 + c) = fedS q s' c (10 + c) := f2.2.2.2 c hc
    by_cases h2 : fedS q s c (5 + c) = 0
    · rw [starve_0 h2, starve_0 (e5 ▸ h2), e10]
      exact ⟨f2.up, rfl⟩
    · by_cases h3 : fedS q s c (10 + c) + nI 1 ≤ b c
      · rw [starve_1 h2 h3, starve_1 (e5 ▸ h2) (e10 ▸ h3), e10]
        exact ⟨f2.up, rfl⟩
      · rw [starve_2 h2 h3, starve_2 (e5 ▸ h2) (e10 ▸ h3), e10, e5]
        exact ⟨f2.up.up, rfl⟩
theorem eatN_CE {b : Nat → Int32} {q : Int32} {u u' : Sv × Int32 × Int32} (h : CE u.1 u'.1) (h2 : u.2 = u'.2) : ∀ n, n ≤ 5 → CE (eatN b q u n).1 (eatN b q u' n).1 ∧ (eatN b q u n).2 = (eatN b q u' n).2
  | 0, _ => ⟨h, h2⟩
  | n + 1, hn => by
    obtain ⟨a1, a2⟩ := eatN_CE h h2 n (by omega)
    exact eat1_CE (by omega) a1 a2
theorem eday_CE {N : Nat → Nat} {T : Tv} {q : Int32} {s s' : Sv} (h0 : N 0 ≤ 5) (h : CE s s') : CE (edayF N T q s).1 (edayF N T q s').1 ∧ (edayF N T q s).2 = (edayF N T q s').2 := by
  have h1 : CE (va_up s 0 (s 0 + hfd T (s 2) (N 3))) (va_up s' 0 (s' 0 + hfd T (s' 2) (N 3))) := by
    rw [h.1, h.2.1]
    exact h.up
  obtain ⟨a1, a2⟩ := eatN_CE (b := T 1) (q := q) (u := (va_up s 0 (s 0 + hfd T (s 2) (N 3)), nI 0, -1)) (u' := (va_up s' 0 (s' 0 + hfd T (s' 2) (N 3)), nI 0, -1)) h1 rfl (N 0) h0
  refine ⟨?_, a2⟩
  show CE (va_up _ 2 _) (va_up _ 2 _)
  rw [a1.2.1]
  exact a1.up
theorem pass_CE {N : Nat → Nat} {T : Tv} {q : Int32} {s : Sv} (h0 : N 0 ≤ 5) (h1 : N 1 ≤ 4) : CE (passF N T q s) (edayF N T q s).1 :=
  ⟨pass_low h0 h1 (by omega) (by omega), pass_low h0 h1 (by omega) (by omega), fun c hc => pass_low h0 h1 (by omega) (by omega), fun c hc => pass_low h0 h1 (by omega) (by omega)⟩
theorem msum_CE {s s' : Sv} (h : CE s s') : ∀ n, n ≤ 5 → msum s n = msum s' n
  | 0, _ => rfl
  | n + 1, hn => by rw [msum, msum, msum_CE h n (by omega), h.2.2.1 n (by omega)]
theorem le0 {x : Int32} (h : 0 ≤ x.toInt) : 0 ≤ x := by
  rw [Int32.le_iff_toInt_le]
  exact h
theorem le0n {x : Int32} (h : 0 ≤ x.toInt) : nI 0 ≤ x := le0 h
