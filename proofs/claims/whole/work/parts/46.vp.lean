/-! what holds of every state, kept by every call -/
def VP (g : Gs) : Prop := (gNn g 0 ≤ 5 ∧ gNn g 1 ≤ 4) ∧ TVd (gNn g) (gT g) ∧ SVd (gNn g) 9030 (gSv g) ∧ (∀ i, i < (gU g).1 → SVd (gNn g) 9030 ((gU g).2 i)) ∧ (∀ i, i < 2 → (gI g).1 i = 1 → SVd (gNn g) 9030 ((gI g).2 i)) ∧ XV (gX g) (gLn g)
theorem leI {x : Int32} {n : Nat} (hn : n < 2 ^ 31) : nI n ≤ x ↔ (n : Int) ≤ x.toInt := by rw [Int32.le_iff_toInt_le, nI_toInt hn]
theorem leJ {x : Int32} {n : Nat} (hn : n < 2 ^ 31) : x ≤ nI n ↔ x.toInt ≤ (n : Int) := by rw [Int32.le_iff_toInt_le, nI_toInt hn]
theorem vp_feed {g : Gs} {x : Int32} (v : VP g) : VP (feedF g x).2 := by
  unfold feedF
  split
  · next c =>
    split
    · next c2 =>
      refine ⟨v.1, v.2.1, v.2.2.1, v.2.2.2.1, v.2.2.2.2.1, fun i hi => ?_⟩
      show 0 ≤ Int32.toInt (va_up (gX g) (gLn g) x i) ∧ Int32.toInt (va_up (gX g) (gLn g) x i) ≤ 255
      by_cases e : i = gLn g
      · rw [e, va_up_self]
        rw [leI (by decide), leJ (by decide)] at c
        exact ⟨c.1, c.2⟩
      · rw [va_up_ne _ _ e]
        have hi2 : i < gLn g + 1 := hi
        exact v.2.2.2.2.2 i (by omega)
    · exact v
  · exact v
theorem vp_set {g : Gs} {s : Sv} {u : Nat × (Nat → Sv)} (v : VP g) (hs : SVd (gNn g) 9030 s) (hu : ∀ i, i < u.1 → SVd (gNn g) 9030 (u.2 i)) : VP (setS g s u) := ⟨v.1, v.2.1, hs, hu, v.2.2.2.2.1, v.2.2.2.2.2⟩
theorem vp_push {g : Gs} {s : Sv} (v : VP g) (hs : SVd (gNn g) 9030 s) : VP (pushd g s) := by
  refine vp_set v hs (fun i hi => ?_)
  have hi2 : i < pushN (gU g).1 := hi
  show SVd (gNn g) 9030 (pushU (gU g).1 (gU g).2 (gSv g) i)
  unfold pushN at hi2
  unfold pushU
  split at hi2
  · next c =>
    rw [if_pos c]
    by_cases e : i = (gU g).1
    · rw [e, va_up_self]; exact v.2.2.1
    · rw [va_up_ne _ _ e]; exact v.2.2.2.1 i (by omega)
  · next c =>
    rw [if_neg c]
    show SVd (gNn g) 9030 (if i < 19 then (gU g).2 (i + 1) else gSv g)
    split
    · exact v.2.2.2.1 (i + 1) (by omega)
    · exact v.2.2.1
theorem vp_gun {g : Gs} (v : VP g) : VP (gunF g).2 := by
  unfold gunF
  split
  · exact vp_push v (rod_SV v.2.2.1 (by decide))
  · exact v
theorem vp_relief {g : Gs} {x : Int32} (v : VP g) : VP (relF g x).2 := by
  unfold relF
  split
  · exact vp_push v (v.2.2.1.up (by omega))
  · exact v
theorem SVd.men {N : Nat → Nat} {D c : Nat} {s : Sv} {x : Int32} (h : SVd N D s) (hc : c < N 0) (hc5 : c < 5) (hx : 0 ≤ x.toInt ∧ x.toInt ≤ 99) : SVd N D (va_up s (5 + c) x) := by
  obtain ⟨⟨m1, m1b⟩, m2, m3, m4, m5, m6⟩ := h
  refine ⟨⟨fun i hi => ?_, fun i h1 h2 => ?_⟩, ?_, ?_, fun i hi => ?_, fun i m hi hm => ?_, ?_⟩
  · by_cases e : i = c
    · subst e; rw [va_up_self]; exact hx
    · rw [va_up_ne _ _ (by omega)]; exact m1 i hi
  · rw [va_up_ne _ _ (by omega)]; exact m1b i h1 h2
  · rw [va_up_ne _ _ (by omega)]; exact m2
  · rw [va_up_ne _ _ (by omega), va_up_ne _ _ (by omega)]; exact m3
  · rw [va_up_ne _ _ (by omega), va_up_ne _ _ (by omega)]; exact m4 i hi
  · rw [va_up_ne _ _ (by omega), va_up_ne _ _ (by omega)]; exact m5 i m hi hm
  · rw [va_up_ne _ _ (by omega)]; exact m6
theorem half_b : ∀ j, j < 100 → 0 ≤ (nI j / nI 2).toInt ∧ (nI j / nI 2).toInt ≤ 99 := by decide +kernel
theorem vp_sally {g : Gs} {c k : Int32} (v : VP g) : VP (salF g c k).2 := by
  unfold salF
  split
  · exact v
  · next i hx =>
    obtain ⟨hi, rfl⟩ := ixO_some hx
    split
    · next c1 =>
      split
      · next c2 =>
        rw [leI (by decide), leJ (by decide)] at c1
        have h1 := v.2.2.1.1.1 i (by have := v.1.1; omega)
        have hk : k.toInt ≤ (gSv g (5 + i)).toInt := by
          have := c2.2
          rw [Int32.le_iff_toInt_le] at this
          exact this
        have c1a : (1 : Int) ≤ k.toInt := c1.1
        have c1b : k.toInt ≤ (99 : Int) := c1.2
        have e : (gSv g (5 + i) - k).toInt = (gSv g (5 + i)).toInt - k.toInt := fb_subI (by omega) (by omega)
        obtain ⟨j, hj, rfl⟩ := toN (x := k) (n := 99) (by omega) c1b
        exact vp_push v (rod_SV (v.2.2.1.men hi (by have := v.1.1; omega) (by omega)) (half_b j (by omega)))
      · exact v
    · exact v
theorem rfd_days {g : Gs} {q n : Int32} (h : rfdF g q n = 0) : (gSv g 2).toInt ≤ 9000 ∧ n.toInt.toNat ≤ 30 := by
  obtain ⟨-, ⟨k, hk1, hk2, rfl⟩, -, hd⟩ := rfd_ok h
  rw [leJ (by decide)] at hd
  refine ⟨hd, ?_⟩
  rw [nI_toInt (by omega)]
  omega
theorem vp_day {g : Gs} {q n : Int32} (v : VP g) : VP (dayF g q n).2 := by
  unfold dayF
  split
  · next c =>
    obtain ⟨h1, h2⟩ := rfd_days c
    exact vp_push v ((dyF_SV v.1.1 v.1.2 v.2.1 n.toInt.toNat _ 9000 (by omega) (v.2.2.1.days h1)).le (by omega))
  · exact v
theorem vp_drift {g : Gs} {q n : Int32} (v : VP g) : VP (driF g q n).2 := by
  unfold driF
  split
  · next c =>
    obtain ⟨h1, h2⟩ := rfd_days c
    exact vp_push v ((drF_SV v.1.1 v.1.2 v.2.1 n.toInt.toNat _ 9000 (by omega) (v.2.2.1.days h1)).le (by omega))
  · exact v
theorem vp_undo {g : Gs} (v : VP g) : VP (undoF g).2 := by
  unfold undoF
  split
  · exact v
  · exact vp_set v ((v.2.2.2.1 ((gU g).1 - 1) (by omega)).seed v.2.2.1.2.2.2.2.2) (fun i hi => v.2.2.2.1 i (by have : i < (gU g).1 - 1 := hi; omega))
theorem vp_seed {g : Gs} {x : Int32} (v : VP g) : VP (seedF g x).2 := by
  unfold seedF
  split
  · next c =>
    rw [Int32.le_iff_toInt_le] at c
    exact vp_set v (v.2.2.1.seed c) v.2.2.2.1
  · exact v
theorem vp_keep {g : Gs} {x : Int32} (v : VP g) : VP (keepF g x).2 := by
  unfold keepF
  split
  · exact v
  · next k hx =>
    refine ⟨v.1, v.2.1, v.2.2.1, fun i hi => absurd hi (Nat.not_lt_zero _), fun i hi h1 => ?_, v.2.2.2.2.2⟩
    show SVd (gNn g) 9030 (va_up (gI g).2 k (gSv g) i)
    by_cases e : i = k
    · rw [e, va_up_self]; exact v.2.2.1
    · rw [va_up_ne _ _ e]
      have h1 : va_up (gI g).1 k 1 i = 1 := h1
      rw [va_up_ne _ _ e] at h1
      exact v.2.2.2.2.1 i hi h1
theorem vp_back {g : Gs} {x : Int32} (hI : ∀ i, i < 2 → (gI g).1 i ≤ 1) (v : VP g) : VP (backF g x).2 := by
  unfold backF
  split
  · exact v
  · next k hx =>
    obtain ⟨hk, -⟩ := ixO_some hx
    split
    · exact v
    · next c =>
      exact ⟨v.1, v.2.1, v.2.2.2.2.1 k hk (by have := hI k hk; omega), fun i hi => absurd hi (Nat.not_lt_zero _), v.2.2.2.2.1, v.2.2.2.2.2⟩
theorem vp_show {g : Gs} {m d s w : Int32} (v : VP g) : VP (showF g m d s w).2 := by
  unfold showF
  split
  · exact v
  · split
    · split
      · exact v
      · exact v
    · exact v
theorem vp_write {g : Gs} {c m : Int32} (v : VP g) : VP (writF g c m).2 := by
  unfold writF
  split
  · exact v
  · split
    · split
      · exact v
      · exact v
    · exact v
/-! what is read is within its bounds -/
theorem rdn_ok {X : Nat → Int32} {n p : Nat} {lo hi : Int32} (h : (rdn X n p lo hi).2.2.1 = 0) : lo ≤ (rdn X n p lo hi).2.1 ∧ (rdn X n p lo hi).2.1 ≤ hi := by
  unfold rdn at h ⊢
  split at h
  · exact absurd h (show ¬ (1 : Nat) = 0 by decide)
  · next c1 =>
    rw [if_neg c1]
    split at h
    · next c2 =>
      rw [if_pos c2]
      exact c2.2
    · exact absurd h (show ¬ (2 : Nat) = 0 by decide)
theorem ff_ok {X : Nat → Int32} {n cl p : Nat} : ∀ k i, (ffF X n cl p k i).1 = 0 → ∀ x, i ≤ x → x < i + k → (rrF X n cl p x).2.2.1 = 0
  | 0, i, _, x, h1, h2 => by omega
  | k + 1, i, h, x, h1, h2 => by
    rw [ffF] at h
    split at h
    · next c =>
      by_cases e : x = i
      · rw [e]; exact c
      · exact ff_ok k (i + 1) h x (by omega) (by omega)
    · next c => exact absurd h c
theorem rr_b {X : Nat → Int32} {n cl p x : Nat} (h : (rrF X n cl p x).2.2.1 = 0) : (lowV.getD (cl * 3 + x) 0).toInt ≤ (rrF X n cl p x).2.1.toInt ∧ (rrF X n cl p x).2.1.toInt ≤ (higV.getD (cl * 3 + x) 0).toInt := by
  have := rdn_ok (X := X) (n := n) (p := rpF X n cl p x) h
  rw [Int32.le_iff_toInt_le, Int32.le_iff_toInt_le] at this
  exact this
def TVf (N : Nat → Nat) (T : Tv) : Prop := (N 0 ≤ 5 ∧ N 1 ≤ 4) ∧ TVd N T ∧ (∀ c, c < N 0 → 0 ≤ (T 7 c).toInt ∧ (T 7 c).toInt ≤ 99) ∧ (∀ m, m < N 1 → 0 ≤ (T 8 m).toInt ∧ (T 8 m).toInt ≤ 999) ∧ 0 ≤ (T 9 1).toInt ∧ (T 9 1).toInt ≤ 99
theorem add_V {N : Nat → Nat} {T : Tv} {V : Nat → Int32} {cl : Nat} (hcl : cl < 5) (hf : ¬ fulF N cl = true) (hV : ∀ x, x < nosF cl → (lowV.getD (cl * 3 + x) 0).toInt ≤ (V x).toInt ∧ (V x).toInt ≤ (higV.getD (cl * 3 + x) 0).toInt) (t : TVf N T) : TVf (addN N cl) (addT N T V cl) := by
  obtain ⟨⟨n0, n1⟩, ⟨d1, d2⟩, t7, t8, t9⟩ := t
  rcases (show cl = 0 ∨ cl = 1 ∨ cl = 2 ∨ cl = 3 ∨ cl = 4 by omega) with rfl | rfl | rfl | rfl | rfl
  · have h1 := hV 1 (by decide)
    refine ⟨⟨n0, n1⟩, ⟨fun c hc => ?_, fun m hm => ?_⟩, fun c hc => ?_, fun m hm => ?_, ?_⟩
    · simp only [addT, tup]; exact d1 c hc
    · simp only [addT, tup]; exact d2 m hm
    · simp only [addT, tup]; exact t7 c hc
    · simp only [addT, tup]; exact t8 m hm
    · simp only [addT, tup]; exact h1
  · have h0 := hV 0 (by decide)
    have h1 := hV 1 (by decide)
    have h2 := hV 2 (by decide)
    have hN : N 0 < 5 := by simp [fulF] at hf; omega
    refine ⟨⟨hN, n1⟩, ⟨fun c hc => ?_, fun m hm => ?_⟩, fun c hc => ?_, fun m hm => ?_, ?_⟩
    · have hc : c < N 0 + 1 := hc
      by_cases e : c = N 0
      · subst e
        have e1 : addT N T V 1 0 (N 0) = V 1 := by simp [addT, tup]
        have e2 : addT N T V 1 1 (N 0) = V 2 := by simp [addT, tup]
        rw [e1, e2]
        exact ⟨h1.1, h1.2, h2.1⟩
      · have e1 : addT N T V 1 0 c = T 0 c := by simp [addT, tup, e]
        have e2 : addT N T V 1 1 c = T 1 c := by simp [addT, tup, e]
        rw [e1, e2]
        exact d1 c (by omega)
    · have e1 : addT N T V 1 2 m = T 2 m := by simp [addT, tup]
      have e2 : addT N T V 1 3 m = T 3 m := by simp [addT, tup]
      rw [e1, e2]
      exact d2 m hm
    · have hc : c < N 0 + 1 := hc
      by_cases e : c = N 0
      · subst e
        have e1 : addT N T V 1 7 (N 0) = V 0 := by simp [addT, tup]
        rw [e1]
        exact h0
      · have e1 : addT N T V 1 7 c = T 7 c := by simp [addT, tup, e]
        rw [e1]
        exact t7 c (by omega)
    · have e1 : addT N T V 1 8 m = T 8 m := by simp [addT, tup]
      rw [e1]
      exact t8 m hm
    · have e1 : addT N T V 1 9 1 = T 9 1 := by simp [addT, tup]
      rw [e1]
      exact t9
  · have h0 := hV 0 (by decide)
    have h1 := hV 1 (by decide)
    have h2 := hV 2 (by decide)
    have l1 : (lowV.getD (2 * 3 + 1) 0).toInt = 1 := by decide
    rw [l1] at h1
    have hN : N 1 < 4 := by simp [fulF] at hf; omega
    refine ⟨⟨n0, hN⟩, ⟨fun c hc => ?_, fun m hm => ?_⟩, fun c hc => ?_, fun m hm => ?_, ?_⟩
    · have e1 : addT N T V 2 0 c = T 0 c := by simp [addT, tup]
      have e2 : addT N T V 2 1 c = T 1 c := by simp [addT, tup]
      rw [e1, e2]
      exact d1 c hc
    · have hm : m < N 1 + 1 := hm
      by_cases e : m = N 1
      · subst e
        have e1 : addT N T V 2 2 (N 1) = V 1 := by simp [addT, tup]
        have e2 : addT N T V 2 3 (N 1) = V 2 := by simp [addT, tup]
        rw [e1, e2]
        exact ⟨⟨by omega, h1.2⟩, h2⟩
      · have e1 : addT N T V 2 2 m = T 2 m := by simp [addT, tup, e]
        have e2 : addT N T V 2 3 m = T 3 m := by simp [addT, tup, e]
        rw [e1, e2]
        exact d2 m (by omega)
    · have e1 : addT N T V 2 7 c = T 7 c := by simp [addT, tup]
      rw [e1]
      exact t7 c hc
    · have hm : m < N 1 + 1 := hm
      by_cases e : m = N 1
      · subst e
        have e1 : addT N T V 2 8 (N 1) = V 0 := by simp [addT, tup]
        rw [e1]
        exact h0
      · have e1 : addT N T V 2 8 m = T 8 m := by simp [addT, tup, e]
        rw [e1]
        exact t8 m (by omega)
    · have e1 : addT N T V 2 9 1 = T 9 1 := by simp [addT, tup]
      rw [e1]
      exact t9
  · refine ⟨⟨n0, n1⟩, ⟨fun c hc => ?_, fun m hm => ?_⟩, fun c hc => ?_, fun m hm => ?_, ?_⟩
    · simp only [addT, tup]; exact d1 c hc
    · simp only [addT, tup]; exact d2 m hm
    · simp only [addT, tup]; exact t7 c hc
    · simp only [addT, tup]; exact t8 m hm
    · simp only [addT, tup]; exact t9
  · refine ⟨⟨n0, n1⟩, ⟨fun c hc => ?_, fun m hm => ?_⟩, fun c hc => ?_, fun m hm => ?_, ?_⟩
    · simp only [addT, tup]; exact d1 c hc
    · simp only [addT, tup]; exact d2 m hm
    · simp only [addT, tup]; exact t7 c hc
    · simp only [addT, tup]; exact t8 m hm
    · simp only [addT, tup]; exact t9
theorem cls_V {X : Nat → Int32} {n p : Nat} {N : Nat → Nat} {T : Tv} (t : TVf N T) (h0 : (clsF X n p N T).2.2.2.1 = 0) : TVf (clsF X n p N T).2.1 (clsF X n p N T).2.2.1 := by
  unfold clsF at h0 ⊢
  split at h0
  · exact absurd h0 (show ¬ (1 : Nat) = 0 by decide)
  · next c1 =>
    rw [if_neg c1]
    split at h0
    · exact absurd h0 (show ¬ (3 : Nat) = 0 by decide)
    · next c2 =>
      rw [if_neg c2]
      split at h0
      · next c3 => exact absurd h0 c3
      · next c3 =>
        rw [if_neg c3]
        split at h0
        · next c4 =>
          rw [if_pos c4]
          have hcl : ccF (X p) < 5 := by
            have := ccF_lt (X p)
            have : ccF (X p) ≠ 5 := fun z => c1 (Or.inl z)
            omega
          have hz : (ffF X n (ccF (X p)) (p + 1) (nosF (ccF (X p))) 0).1 = 0 := by
            by_cases z : (ffF X n (ccF (X p)) (p + 1) (nosF (ccF (X p))) 0).1 = 0
            · exact z
            · exact absurd z c3
          exact add_V hcl c2 (fun x hx => rr_b (ff_ok _ _ hz x (by omega) (by omega))) t
        · exact absurd h0 (show ¬ (1 : Nat) = 0 by decide)
theorem pr_V {X : Nat → Int32} {n : Nat} : ∀ f p N T, TVf N T → (prF X n f p N T).2.2.1 = 0 → TVf (prF X n f p N T).1 (prF X n f p N T).2.1
  | 0, p, N, T, t, _ => t
  | f + 1, p, N, T, t, h => by
    rw [prF] at h ⊢
    split at h
    · next c1 =>
      rw [if_pos c1]
      split at h
      · next c2 =>
        rw [if_pos c2]
        exact pr_V f _ _ _ (cls_V t c2) h
      · next c2 => exact absurd h c2
    · next c1 =>
      rw [if_neg c1]
      exact t
theorem parse_V {X : Nat → Int32} {n : Nat} (h : (parseF X n).2.2.1 = 0) : TVf (parseF X n).1 (parseF X n).2.1 :=
  pr_V 240 _ _ _ ⟨⟨by decide, by decide⟩, ⟨fun c hc => absurd hc (Nat.not_lt_zero _), fun c hc => absurd hc (Nat.not_lt_zero _)⟩, fun c hc => absurd hc (Nat.not_lt_zero _), fun c hc => absurd hc (Nat.not_lt_zero _), by decide⟩ h
theorem bg_SV {N : Nat → Nat} {T : Tv} {s : Int32} (t : TVf N T) (hs : 0 ≤ s.toInt) : SVd N 9030 (va_up (bgF N T) 44 s) := by
  obtain ⟨⟨n0, n1⟩, ⟨d1, d2⟩, t7, t8, t9⟩ := t
  have z0 : ∀ k, k ≠ 44 → k ≠ 0 → k ≠ 1 → ¬ (5 ≤ k ∧ k < 5 + N 0) → ¬ (20 ≤ k ∧ k < 20 + N 1) → va_up (bgF N T) 44 s k = nI 0 := fun k h44 h0 h1 h5 h20 => by
    rw [va_up_ne _ _ h44]
    simp only [bgF]
    rw [if_neg h0, if_neg h1, if_neg h5, if_neg h20]
  have z5 : ∀ c, c < N 0 → va_up (bgF N T) 44 s (5 + c) = T 7 c := fun c hc => by
    rw [va_up_ne _ _ (by omega)]
    simp only [bgF]
    rw [if_neg (by omega), if_neg (by omega), if_pos (by omega)]
    congr 1
    omega
  have z20 : ∀ m, m < N 1 → va_up (bgF N T) 44 s (20 + m) = T 8 m := fun m hm => by
    rw [va_up_ne _ _ (by omega)]
    simp only [bgF]
    rw [if_neg (by omega), if_neg (by omega), if_neg (by omega), if_pos (by omega)]
    congr 1
    omega
  have e2 : va_up (bgF N T) 44 s 2 = nI 0 := z0 2 (by omega) (by omega) (by omega) (by omega) (by omega)
  have e3 : va_up (bgF N T) 44 s 3 = nI 0 := z0 3 (by omega) (by omega) (by omega) (by omega) (by omega)
  refine ⟨⟨fun c hc => ?_, fun c h1 h2 => z0 (5 + c) (by omega) (by omega) (by omega) (by omega) (by omega)⟩, ?_, ?_, fun c hc => ?_, fun c m hc hm => ?_, ?_⟩
  · by_cases z : c < N 0
    · rw [z5 c z]; exact t7 c z
    · rw [z0 (5 + c) (by omega) (by omega) (by omega) (by omega) (by omega)]; decide
  · have e1 : va_up (bgF N T) 44 s 1 = T 9 1 := rfl
    rw [e1]
    exact t9
  · rw [e2, e3]
    decide
  · rw [z0 (15 + c) (by omega) (by omega) (by omega) (by omega) (by omega), e2]
    decide
  · rw [z0 (24 + (c * 4 + m)) (by omega) (by omega) (by omega) (by omega) (by omega)]
    by_cases z : m < N 1
    · rw [z20 m z]
      have := t8 m z
      rw [t0]
      omega
    · rw [z0 (20 + m) (by omega) (by omega) (by omega) (by omega) (by omega)]
      decide
  · rw [va_up_self]; exact hs
theorem vp_town {g : Gs} (v : VP g) : VP (townF g).2 := by
  unfold townF
  split
  · next c =>
    have t := parse_V c
    exact ⟨t.1, t.2.1, bg_SV t v.2.2.1.2.2.2.2.2, fun i hi => absurd hi (Nat.not_lt_zero _), fun i hi z => absurd z (show ¬ (0 : Nat) = 1 by decide), fun i hi => absurd hi (Nat.not_lt_zero _)⟩
  · exact ⟨v.1, v.2.1, v.2.2.1, v.2.2.2.1, v.2.2.2.2.1, fun i hi => absurd hi (Nat.not_lt_zero _)⟩
