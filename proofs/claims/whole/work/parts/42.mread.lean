/-! the clauses, as the model reads them -/
def mrd (h : HF) (N : Nat → Nat) (T : Tv) : Prop := h 11 0 22 = nI (N 4) ∧ h 11 0 24 = nI (N 0) ∧ h 11 0 26 = nI (N 1) ∧ h 11 0 28 = nI (N 2) ∧ h 11 0 30 = nI (N 3) ∧ h 49 0 0 = T 9 0 ∧ h 49 0 1 = T 9 1 ∧ (∀ i, i < N 0 → h 50 0 (3 * i) = T 7 i ∧ h 50 0 (3 * i + 1) = T 0 i ∧ h 50 0 (3 * i + 2) = T 1 i) ∧ (∀ i, i < N 1 → h 51 0 (3 * i) = T 8 i ∧ h 51 0 (3 * i + 1) = T 2 i ∧ h 51 0 (3 * i + 2) = T 3 i) ∧ (∀ i, i < N 2 → h 52 0 i = T 4 i) ∧ (∀ i, i < N 3 → h 53 0 (2 * i) = T 5 i ∧ h 53 0 (2 * i + 1) = T 6 i) ∧ N 0 ≤ 5 ∧ N 1 ≤ 4 ∧ N 2 ≤ 6 ∧ N 3 ≤ 4 ∧ N 4 ≤ 1
theorem mrd.fs {S : Nat → Nat → Bool} {h h' : HF} {N : Nat → Nat} {T : Tv} (f : Fs S h h') (h1 : ∀ i, (i = 22 ∨ i = 24 ∨ i = 26 ∨ i = 28 ∨ i = 30) → S 11 i = false) (h2 : ∀ k i, 49 ≤ k → k ≤ 53 → S k i = false) (c : mrd h N T) : mrd h' N T := by
  obtain ⟨m1, m2, m3, m4, m5, m6, m7, m8, m9, m10, m11, mb⟩ := c
  have r : ∀ k i, 49 ≤ k → k ≤ 53 → h' k 0 i = h k 0 i := fun k i a b => f k 0 i (h2 k i a b)
  exact ⟨(f 11 0 22 (h1 22 (by omega))).trans m1, (f 11 0 24 (h1 24 (by omega))).trans m2, (f 11 0 26 (h1 26 (by omega))).trans m3, (f 11 0 28 (h1 28 (by omega))).trans m4, (f 11 0 30 (h1 30 (by omega))).trans m5, (r 49 0 (by omega) (by omega)).trans m6, (r 49 1 (by omega) (by omega)).trans m7,
    fun i hi => ⟨(r 50 _ (by omega) (by omega)).trans (m8 i hi).1, (r 50 _ (by omega) (by omega)).trans (m8 i hi).2.1, (r 50 _ (by omega) (by omega)).trans (m8 i hi).2.2⟩,
    fun i hi => ⟨(r 51 _ (by omega) (by omega)).trans (m9 i hi).1, (r 51 _ (by omega) (by omega)).trans (m9 i hi).2.1, (r 51 _ (by omega) (by omega)).trans (m9 i hi).2.2⟩,
    fun i hi => (r 52 _ (by omega) (by omega)).trans (m10 i hi), fun i hi => ⟨(r 53 _ (by omega) (by omega)).trans (m11 i hi).1, (r 53 _ (by omega) (by omega)).trans (m11 i hi).2⟩, mb⟩
theorem mrd.no {h h' : HF} {N : Nat → Nat} {T : Tv} (f : Fs sNo h h') (c : mrd h N T) : mrd h' N T := c.fs f (fun i hi => by rcases hi with rfl | rfl | rfl | rfl | rfl <;> rfl) (fun k i _ _ => by simp [sNo]; omega)
theorem mrd.p50 {h : HF} {N : Nat → Nat} {T : Tv} {i : Nat} {x : Int32} (hi : 3 * N 0 ≤ i) (c : mrd h N T) : mrd (put h 50 0 i x) N T := by
  obtain ⟨m1, m2, m3, m4, m5, m6, m7, m8, m9, m10, m11, mb⟩ := c
  exact ⟨m1, m2, m3, m4, m5, m6, m7, fun j hj => ⟨by rw [put_i (by omega)]; exact (m8 j hj).1, by rw [put_i (by omega)]; exact (m8 j hj).2.1, by rw [put_i (by omega)]; exact (m8 j hj).2.2⟩, m9, m10, m11, mb⟩
theorem mrd.p51 {h : HF} {N : Nat → Nat} {T : Tv} {i : Nat} {x : Int32} (hi : 3 * N 1 ≤ i) (c : mrd h N T) : mrd (put h 51 0 i x) N T := by
  obtain ⟨m1, m2, m3, m4, m5, m6, m7, m8, m9, m10, m11, mb⟩ := c
  exact ⟨m1, m2, m3, m4, m5, m6, m7, m8, fun j hj => ⟨by rw [put_i (by omega)]; exact (m9 j hj).1, by rw [put_i (by omega)]; exact (m9 j hj).2.1, by rw [put_i (by omega)]; exact (m9 j hj).2.2⟩, m10, m11, mb⟩
theorem mrd.p53 {h : HF} {N : Nat → Nat} {T : Tv} {i : Nat} {x : Int32} (hi : 2 * N 3 ≤ i) (c : mrd h N T) : mrd (put h 53 0 i x) N T := by
  obtain ⟨m1, m2, m3, m4, m5, m6, m7, m8, m9, m10, m11, mb⟩ := c
  exact ⟨m1, m2, m3, m4, m5, m6, m7, m8, m9, m10, fun j hj => ⟨by rw [put_i (by omega)]; exact (m11 j hj).1, by rw [put_i (by omega)]; exact (m11 j hj).2⟩, mb⟩
theorem mrd.a1 {h : HF} {N : Nat → Nat} {T : Tv} {V : Nat → Int32} (hr : N 0 < 5) (hv : ∀ j, j < 3 → h 50 0 (3 * N 0 + j) = V j) (c : mrd h N T) : mrd (put h 11 0 24 (nI (N 0 + 1))) (addN N 1) (addT N T V 1) := by
  obtain ⟨m1, m2, m3, m4, m5, m6, m7, m8, m9, m10, m11, b0, b1, b2, b3, b4⟩ := c
  refine ⟨m1, put_same, m3, m4, m5, m6, m7, fun i hi => ?_, m9, m10, m11, hr, b1, b2, b3, b4⟩
  have hi : i < N 0 + 1 := hi
  rw [put_k (by decide)]
  by_cases e : i = N 0
  · subst e
    exact ⟨by rw [show 3 * N 0 = 3 * N 0 + 0 from rfl, hv 0 (by decide)]; simp [addT, tup], by rw [hv 1 (by decide)]; simp [addT, tup], by rw [hv 2 (by decide)]; simp [addT, tup]⟩
  · obtain ⟨c1, c2, c3⟩ := m8 i (by omega)
    exact ⟨by rw [c1]; simp [addT, tup, e], by rw [c2]; simp [addT, tup, e], by rw [c3]; simp [addT, tup, e]⟩
theorem mrd.a2 {h : HF} {N : Nat → Nat} {T : Tv} {V : Nat → Int32} (hr : N 1 < 4) (hv : ∀ j, j < 3 → h 51 0 (3 * N 1 + j) = V j) (c : mrd h N T) : mrd (put h 11 0 26 (nI (N 1 + 1))) (addN N 2) (addT N T V 2) := by
  obtain ⟨m1, m2, m3, m4, m5, m6, m7, m8, m9, m10, m11, b0, b1, b2, b3, b4⟩ := c
  refine ⟨m1, m2, put_same, m4, m5, m6, m7, m8, fun i hi => ?_, m10, m11, b0, hr, b2, b3, b4⟩
  have hi : i < N 1 + 1 := hi
  rw [put_k (by decide)]
  by_cases e : i = N 1
  · subst e
    exact ⟨by rw [show 3 * N 1 = 3 * N 1 + 0 from rfl, hv 0 (by decide)]; simp [addT, tup], by rw [hv 1 (by decide)]; simp [addT, tup], by rw [hv 2 (by decide)]; simp [addT, tup]⟩
  · obtain ⟨c1, c2, c3⟩ := m9 i (by omega)
    exact ⟨by rw [c1]; simp [addT, tup, e], by rw [c2]; simp [addT, tup, e], by rw [c3]; simp [addT, tup, e]⟩
theorem mrd.a3 {h : HF} {N : Nat → Nat} {T : Tv} {V : Nat → Int32} {x : Int32} (hr : N 2 < 6) (hv : x = V 0) (c : mrd h N T) : mrd (put (put h 52 0 (N 2) x) 11 0 28 (nI (N 2 + 1))) (addN N 3) (addT N T V 3) := by
  subst hv
  obtain ⟨m1, m2, m3, m4, m5, m6, m7, m8, m9, m10, m11, b0, b1, b2, b3, b4⟩ := c
  refine ⟨m1, m2, m3, put_same, m5, m6, m7, m8, m9, fun i hi => ?_, m11, b0, b1, hr, b3, b4⟩
  have hi : i < N 2 + 1 := hi
  rw [put_k (by decide)]
  by_cases e : i = N 2
  · subst e
    simp [put, addT, tup]
  · rw [put_i e, m10 i (by omega)]
    simp [addT, tup, e]
theorem mrd.a4 {h : HF} {N : Nat → Nat} {T : Tv} {V : Nat → Int32} (hr : N 3 < 4) (hv : ∀ j, j < 2 → h 53 0 (2 * N 3 + j) = V j) (c : mrd h N T) : mrd (put h 11 0 30 (nI (N 3 + 1))) (addN N 4) (addT N T V 4) := by
  obtain ⟨m1, m2, m3, m4, m5, m6, m7, m8, m9, m10, m11, b0, b1, b2, b3, b4⟩ := c
  refine ⟨m1, m2, m3, m4, put_same, m6, m7, m8, m9, m10, fun i hi => ?_, b0, b1, b2, hr, b4⟩
  have hi : i < N 3 + 1 := hi
  rw [put_k (by decide)]
  by_cases e : i = N 3
  · subst e
    exact ⟨by rw [show 2 * N 3 = 2 * N 3 + 0 from rfl, hv 0 (by decide)]; simp [addT, tup], by rw [hv 1 (by decide)]; simp [addT, tup]⟩
  · obtain ⟨c1, c2⟩ := m11 i (by omega)
    exact ⟨by rw [c1]; simp [addT, tup, e], by rw [c2]; simp [addT, tup, e]⟩
def clQ (a b : Nat) (h : HF) (X : Nat → Int32) (n cl p : Nat) (N : Nat → Nat) (T : Tv) : Option AV → RF → HF → Prop := fun v R' h' => R' = Rs a b ∧ ((ffF X n cl p (nosF cl) 0).1 = 0 → v = some (aI (nI 1)) ∧ h' 11 0 17 = nI (rpF X n cl p (nosF cl)) ∧ mrd h' (addN N cl) (addT N T (fun i => (rrF X n cl p i).2.1) cl) ∧ Fs sRo h h') ∧ ((ffF X n cl p (nosF cl) 0).1 ≠ 0 → v = some (aI (nI 0)) ∧ h' 11 0 20 = nI (ffF X n cl p (nosF cl) 0).1 ∧ h' 11 0 21 = nI (ffF X n cl p (nosF cl) 0).2 ∧ Fs sRm h h')
theorem cl_no {a b n cl p ft : Nat} {h h' : HF} {X : Nat → Int32} {N : Nat → Nat} {T : Tv} {r : Nat × Nat} (hr : ffF X n cl p (nosF cl) 0 = r) (hz : r.1 ≠ 0) (h1 : h' 11 0 20 = nI r.1) (h2 : h' 11 0 21 = nI r.2) (h3 : Fs sRm h h') : clQ a b h X n cl p N T (some (aI (nI 0))) (Rs a b) h' := by
  subst hr
  exact ⟨rfl, fun z => absurd z hz, fun _ => ⟨rfl, h1, h2, h3⟩⟩
theorem cl_ok {a b n cl p : Nat} {h h' : HF} {X : Nat → Int32} {N : Nat → Nat} {T : Tv} (hr : (ffF X n cl p (nosF cl) 0).1 = 0) (h1 : h' 11 0 17 = nI (rpF X n cl p (nosF cl))) (h2 : mrd h' (addN N cl) (addT N T (fun i => (rrF X n cl p i).2.1) cl)) (h3 : Fs sRo h h') : clQ a b h X n cl p N T (some (aI (nI 1))) (Rs a b) h' :=
  ⟨rfl, fun _ => ⟨rfl, h1, h2, h3⟩, fun z => absurd hr z⟩
set_option maxRecDepth 100000 in
set_option maxHeartbeats 4000000 in
theorem m_takesCompany {E : Ev} {a b n p : Nat} {h : HF} {X : Nat → Int32} {N : Nat → Nat} {T : Tv} (hx : mtx h n X) (ha : h 11 0 17 = nI p) (hp : p ≤ n) (hm : mrd h N T) (hr : N 0 < 5) : Ct E 3 yX11_takesCompany cX11_takesCompany 2 (some .boolean) [aR 11 0] 243 (Rs a b) h 243 (clQ a b h X n 1 p N T) := by
  refine Ct.of 1 (L0 := [some (aR 11 0), none]) (by decide) ⟨Nat.le_refl _, Nat.le_refl _⟩ rfl rfl ?_
  intro G C hg hrt hnm
  have hN : gn G ≤ 243 ∧ 243 ≤ 243 ∧ 243 ≤ 243 := ⟨by omega, by decide, by decide⟩
  refine r_iconst (v := (nI 0)) C dX11_takesCompany_0 (by decide) ?_
  refine r_istore_n C dX11_takesCompany_1 st1 ?_
  have loop : ∀ r i hh, i + r = 3 → hh 11 0 17 = nI (rpF X n 1 p i) → mrd hh N T → (∀ j, j < i → hh 50 0 (3 * N 0 + j) = (rrF X n 1 p j).2.1) → ffF X n 1 p r i = ffF X n 1 p 3 0 → Fs sRo h hh → Wa E G 243 (Rs a b) hh (QQ E G 243 (clQ a b h X n 1 p N T)) 2 [some (aR 11 0), some (aI (nI i))] [] := by
    intro r
    induction r with
    | zero =>
      intro i hh hi g1 g2 g3 g4 g5
      have e : i = 3 := by omega
      subst e
      refine r_iload_n C dX11_takesCompany_2 rfl ?_
      refine r_iconst (v := (nI 3)) C dX11_takesCompany_3 (by decide) ?_
      refine r_icmpN_ge C dX11_takesCompany_4 (by omega) (by omega) (fun _ => ?_) (fun cc => absurd cc (by omega))
      refine r_aload_n C dX11_takesCompany_51 rfl ?_
      refine r_dup C dX11_takesCompany_52 rfl ?_
      refine q_getV C flX11_138 dX11_takesCompany_53 ok11 rfl g2.2.1 ?_
      refine r_iconst (v := (nI 1)) C dX11_takesCompany_56 (by decide) ?_
      first | refine r_iaddN C dX11_takesCompany_57 ?_ | refine r_iadd C dX11_takesCompany_57 ?_
      refine r_putI C flX11_138 dX11_takesCompany_58 ok11 rfl ⟨rfl, rfl⟩ ?_
      refine r_iconst (v := (nI 1)) C dX11_takesCompany_61 (by decide) ?_
      refine r_zret C hrt dX11_takesCompany_62 (by decide) ?_
      refine cl_ok (by show (ffF X n 1 p 3 0).1 = 0; rw [← g4]; rfl) ?_ (mrd.a1 hr g3 g2) (g5.put rfl)
      rw [put_i (by decide)]
      exact g1
    | succ r ih =>
      intro i hh hi g1 g2 g3 g4 g5
      rw [ffF] at g4
      have rb := (rpF_b (X := X) (cl := 1) hp i).2
      have step : ∀ lo hi, rrF X n 1 p i = rdn X n (rpF X n 1 p i) lo hi → Wa E G 243 (Rs a b) hh (QQ E G 243 (clQ a b h X n 1 p N T)) 20 [some (aR 11 0), some (aI (nI i))] [aI hi, aI lo, aR 11 0] := by
        intro lo hi hrr
        refine r_callV C (m_takesNumber (hx.rm (g5.wk sRo_sRm)) g1 rb) dX11_takesCompany_20 cw_X11_takesNumber cvX11_135 (by omega) ok11 rfl hN rfl (Nat.le_of_ble_eq_true rfl) ?_
        rintro v R' h2 ⟨rfl, ok, no⟩
        rw [← hrr] at ok no
        by_cases hz : (rrF X n 1 p i).2.2.1 = 0
        · obtain ⟨rfl, o1, o2, o3⟩ := ok hz
          rw [if_pos hz] at g4
          have g2' := mrd.no o3 g2
          refine r_if_ne C dX11_takesCompany_23 (fun _ => ?_) (fun cc => absurd cc (by decide))
          refine r_aload_n C dX11_takesCompany_28 rfl ?_
          refine r_getR C flX11_48 dX11_takesCompany_29 ok11 rfl rfl ?_
          refine r_iconst (v := (nI 3)) C dX11_takesCompany_32 (by decide) ?_
          refine r_aload_n C dX11_takesCompany_33 rfl ?_
          refine q_getV C flX11_138 dX11_takesCompany_34 ok11 rfl g2'.2.1 ?_
          first | refine r_imulN C dX11_takesCompany_37 ?_ | refine r_imul C dX11_takesCompany_37 ?_
          refine r_iload_n C dX11_takesCompany_38 rfl ?_
          first | refine r_iaddN C dX11_takesCompany_39 ?_ | refine r_iadd C dX11_takesCompany_39 ?_
          refine r_aload_n C dX11_takesCompany_40 rfl ?_
          refine q_getV C flX11_129 dX11_takesCompany_41 ok11 rfl o2 ?_
          refine q_iast (m := 15) C dX11_takesCompany_44 ok50 rfl rfl (by omega) ?_
          first | refine r_iincN C dX11_takesCompany_45 rfl st1 ?_ | refine r_iinc C dX11_takesCompany_45 rfl rfl st1 ?_
          refine r_goto C dX11_takesCompany_48 ?_
          refine ih (i + 1) _ (by omega) ?_ (mrd.p50 (by omega) g2') (fun j hj => ?_) g4 ((g5.tr (o3.wk sNo_sRo)).put rfl)
          · rw [put_k (by decide)]; exact o1
          · by_cases e : j = i
            · subst e; exact put_same
            · rw [put_i (by omega), o3 50 0 _ rfl]
              exact g3 j (by omega)
        · obtain ⟨rfl, o1, o2, o3⟩ := no hz
          rw [if_neg hz] at g4
          refine r_if_ne C dX11_takesCompany_23 (fun cc => absurd cc (by exact fun z => z rfl)) (fun _ => ?_)
          refine r_iconst (v := (nI 0)) C dX11_takesCompany_26 (by decide) ?_
          refine r_zret C hrt dX11_takesCompany_27 (by decide) ?_
          exact cl_no (ft := 0) g4.symm hz o1 o2 ((g5.wk sRo_sRm).tr o3)
      refine r_iload_n C dX11_takesCompany_2 rfl ?_
      refine r_iconst (v := (nI 3)) C dX11_takesCompany_3 (by decide) ?_
      refine r_icmpN_ge C dX11_takesCompany_4 (by omega) (by omega) (fun cc => absurd cc (by omega)) (fun _ => ?_)
      rcases (show i = 0 ∨ i = 1 ∨ i = 2 by omega) with rfl | rfl | rfl
      · refine r_aload_n C dX11_takesCompany_7 rfl ?_
        refine r_iconst (v := (nI 0)) C dX11_takesCompany_8 (by decide) ?_
        refine r_iload_n C dX11_takesCompany_9 rfl ?_
        refine r_if_ne C dX11_takesCompany_10 (fun cc => absurd cc (by exact fun z => z rfl)) (fun _ => ?_)
        refine r_bipush (v := (nI 99)) C dX11_takesCompany_13 (by decide) ?_
        refine r_goto C dX11_takesCompany_15 ?_
        exact step _ _ rfl
      · refine r_aload_n C dX11_takesCompany_7 rfl ?_
        refine r_iconst (v := (nI 0)) C dX11_takesCompany_8 (by decide) ?_
        refine r_iload_n C dX11_takesCompany_9 rfl ?_
        refine r_if_ne C dX11_takesCompany_10 (fun _ => ?_) (fun cc => absurd cc (by decide))
        refine r_bipush (v := (nI 9)) C dX11_takesCompany_18 (by decide) ?_
        exact step _ _ rfl
      · refine r_aload_n C dX11_takesCompany_7 rfl ?_
        refine r_iconst (v := (nI 0)) C dX11_takesCompany_8 (by decide) ?_
        refine r_iload_n C dX11_takesCompany_9 rfl ?_
        refine r_if_ne C dX11_takesCompany_10 (fun _ => ?_) (fun cc => absurd cc (by decide))
        refine r_bipush (v := (nI 9)) C dX11_takesCompany_18 (by decide) ?_
        exact step _ _ rfl
  exact loop 3 0 h rfl ha hm (fun j hj => by omega) rfl Fs.rf
set_option maxRecDepth 100000 in
set_option maxHeartbeats 4000000 in
theorem m_takesKind {E : Ev} {a b n p : Nat} {h : HF} {X : Nat → Int32} {N : Nat → Nat} {T : Tv} (hx : mtx h n X) (ha : h 11 0 17 = nI p) (hp : p ≤ n) (hm : mrd h N T) (hr : N 1 < 4) : Ct E 3 yX11_takesKind cX11_takesKind 2 (some .boolean) [aR 11 0] 243 (Rs a b) h 243 (clQ a b h X n 2 p N T) := by
  refine Ct.of 1 (L0 := [some (aR 11 0), none]) (by decide) ⟨Nat.le_refl _, Nat.le_refl _⟩ rfl rfl ?_
  intro G C hg hrt hnm
  have hN : gn G ≤ 243 ∧ 243 ≤ 243 ∧ 243 ≤ 243 := ⟨by omega, by decide, by decide⟩
  refine r_iconst (v := (nI 0)) C dX11_takesKind_0 (by decide) ?_
  refine r_istore_n C dX11_takesKind_1 st1 ?_
  have loop : ∀ r i hh, i + r = 3 → hh 11 0 17 = nI (rpF X n 2 p i) → mrd hh N T → (∀ j, j < i → hh 51 0 (3 * N 1 + j) = (rrF X n 2 p j).2.1) → ffF X n 2 p r i = ffF X n 2 p 3 0 → Fs sRo h hh → Wa E G 243 (Rs a b) hh (QQ E G 243 (clQ a b h X n 2 p N T)) 2 [some (aR 11 0), some (aI (nI i))] [] := by
    intro r
    induction r with
    | zero =>
      intro i hh hi g1 g2 g3 g4 g5
      have e : i = 3 := by omega
      subst e
      refine r_iload_n C dX11_takesKind_2 rfl ?_
      refine r_iconst (v := (nI 3)) C dX11_takesKind_3 (by decide) ?_
      refine r_icmpN_ge C dX11_takesKind_4 (by omega) (by omega) (fun _ => ?_) (fun cc => absurd cc (by omega))
      refine r_aload_n C dX11_takesKind_61 rfl ?_
      refine r_dup C dX11_takesKind_62 rfl ?_
      refine q_getV C flX11_141 dX11_takesKind_63 ok11 rfl g2.2.2.1 ?_
      refine r_iconst (v := (nI 1)) C dX11_takesKind_66 (by decide) ?_
      first | refine r_iaddN C dX11_takesKind_67 ?_ | refine r_iadd C dX11_takesKind_67 ?_
      refine r_putI C flX11_141 dX11_takesKind_68 ok11 rfl ⟨rfl, rfl⟩ ?_
      refine r_iconst (v := (nI 1)) C dX11_takesKind_71 (by decide) ?_
      refine r_zret C hrt dX11_takesKind_72 (by decide) ?_
      refine cl_ok (by show (ffF X n 2 p 3 0).1 = 0; rw [← g4]; rfl) ?_ (mrd.a2 hr g3 g2) (g5.put rfl)
      rw [put_i (by decide)]
      exact g1
    | succ r ih =>
      intro i hh hi g1 g2 g3 g4 g5
      rw [ffF] at g4
      have rb := (rpF_b (X := X) (cl := 2) hp i).2
      have step : ∀ lo hi, rrF X n 2 p i = rdn X n (rpF X n 2 p i) lo hi → Wa E G 243 (Rs a b) hh (QQ E G 243 (clQ a b h X n 2 p N T)) 30 [some (aR 11 0), some (aI (nI i))] [aI hi, aI lo, aR 11 0] := by
        intro lo hi hrr
        refine r_callV C (m_takesNumber (hx.rm (g5.wk sRo_sRm)) g1 rb) dX11_takesKind_30 cw_X11_takesNumber cvX11_135 (by omega) ok11 rfl hN rfl (Nat.le_of_ble_eq_true rfl) ?_
        rintro v R' h2 ⟨rfl, ok, no⟩
        rw [← hrr] at ok no
        by_cases hz : (rrF X n 2 p i).2.2.1 = 0
        · obtain ⟨rfl, o1, o2, o3⟩ := ok hz
          rw [if_pos hz] at g4
          have g2' := mrd.no o3 g2
          refine r_if_ne C dX11_takesKind_33 (fun _ => ?_) (fun cc => absurd cc (by decide))
          refine r_aload_n C dX11_takesKind_38 rfl ?_
          refine r_getR C flX11_51 dX11_takesKind_39 ok11 rfl rfl ?_
          refine r_iconst (v := (nI 3)) C dX11_takesKind_42 (by decide) ?_
          refine r_aload_n C dX11_takesKind_43 rfl ?_
          refine q_getV C flX11_141 dX11_takesKind_44 ok11 rfl g2'.2.2.1 ?_
          first | refine r_imulN C dX11_takesKind_47 ?_ | refine r_imul C dX11_takesKind_47 ?_
          refine r_iload_n C dX11_takesKind_48 rfl ?_
          first | refine r_iaddN C dX11_takesKind_49 ?_ | refine r_iadd C dX11_takesKind_49 ?_
          refine r_aload_n C dX11_takesKind_50 rfl ?_
          refine q_getV C flX11_129 dX11_takesKind_51 ok11 rfl o2 ?_
          refine q_iast (m := 12) C dX11_takesKind_54 ok51 rfl rfl (by omega) ?_
          first | refine r_iincN C dX11_takesKind_55 rfl st1 ?_ | refine r_iinc C dX11_takesKind_55 rfl rfl st1 ?_
          refine r_goto C dX11_takesKind_58 ?_
          refine ih (i + 1) _ (by omega) ?_ (mrd.p51 (by omega) g2') (fun j hj => ?_) g4 ((g5.tr (o3.wk sNo_sRo)).put rfl)
          · rw [put_k (by decide)]; exact o1
          · by_cases e : j = i
            · subst e; exact put_same
            · rw [put_i (by omega), o3 51 0 _ rfl]
              exact g3 j (by omega)
        · obtain ⟨rfl, o1, o2, o3⟩ := no hz
          rw [if_neg hz] at g4
          refine r_if_ne C dX11_takesKind_33 (fun cc => absurd cc (by exact fun z => z rfl)) (fun _ => ?_)
          refine r_iconst (v := (nI 0)) C dX11_takesKind_36 (by decide) ?_
          refine r_zret C hrt dX11_takesKind_37 (by decide) ?_
          exact cl_no (ft := 0) g4.symm hz o1 o2 ((g5.wk sRo_sRm).tr o3)
      refine r_iload_n C dX11_takesKind_2 rfl ?_
      refine r_iconst (v := (nI 3)) C dX11_takesKind_3 (by decide) ?_
      refine r_icmpN_ge C dX11_takesKind_4 (by omega) (by omega) (fun cc => absurd cc (by omega)) (fun _ => ?_)
      rcases (show i = 0 ∨ i = 1 ∨ i = 2 by omega) with rfl | rfl | rfl
      · refine r_aload_n C dX11_takesKind_7 rfl ?_
        refine r_iload_n C dX11_takesKind_8 rfl ?_
        refine r_iconst (v := (nI 1)) C dX11_takesKind_9 (by decide) ?_
        refine r_icmp_ne C dX11_takesKind_10 (fun _ => ?_) (fun cc => absurd cc (by decide))
        refine r_iconst (v := (nI 0)) C dX11_takesKind_17 (by decide) ?_
        refine r_iload_n C dX11_takesKind_18 rfl ?_
        refine r_if_ne C dX11_takesKind_19 (fun cc => absurd cc (by exact fun z => z rfl)) (fun _ => ?_)
        refine r_sipush (v := (nI 999)) C dX11_takesKind_22 (by decide) ?_
        refine r_goto C dX11_takesKind_25 ?_
        exact step _ _ rfl
      · refine r_aload_n C dX11_takesKind_7 rfl ?_
        refine r_iload_n C dX11_takesKind_8 rfl ?_
        refine r_iconst (v := (nI 1)) C dX11_takesKind_9 (by decide) ?_
        refine r_icmp_ne C dX11_takesKind_10 (fun cc => absurd cc (by exact fun z => z rfl)) (fun _ => ?_)
        refine r_iconst (v := (nI 1)) C dX11_takesKind_13 (by decide) ?_
        refine r_goto C dX11_takesKind_14 ?_
        refine r_iload_n C dX11_takesKind_18 rfl ?_
        refine r_if_ne C dX11_takesKind_19 (fun _ => ?_) (fun cc => absurd cc (by decide))
        refine r_bipush (v := (nI 99)) C dX11_takesKind_28 (by decide) ?_
        exact step _ _ rfl
      · refine r_aload_n C dX11_takesKind_7 rfl ?_
        refine r_iload_n C dX11_takesKind_8 rfl ?_
        refine r_iconst (v := (nI 1)) C dX11_takesKind_9 (by decide) ?_
        refine r_icmp_ne C dX11_takesKind_10 (fun _ => ?_) (fun cc => absurd cc (by decide))
        refine r_iconst (v := (nI 0)) C dX11_takesKind_17 (by decide) ?_
        refine r_iload_n C dX11_takesKind_18 rfl ?_
        refine r_if_ne C dX11_takesKind_19 (fun _ => ?_) (fun cc => absurd cc (by decide))
        refine r_bipush (v := (nI 99)) C dX11_takesKind_28 (by decide) ?_
        exact step _ _ rfl
  exact loop 3 0 h rfl ha hm (fun j hj => by omega) rfl Fs.rf
set_option maxRecDepth 100000 in
set_option maxHeartbeats 4000000 in
theorem m_takesHorse {E : Ev} {a b n p : Nat} {h : HF} {X : Nat → Int32} {N : Nat → Nat} {T : Tv} (hx : mtx h n X) (ha : h 11 0 17 = nI p) (hp : p ≤ n) (hm : mrd h N T) (hr : N 3 < 4) : Ct E 3 yX11_takesHorse cX11_takesHorse 2 (some .boolean) [aR 11 0] 243 (Rs a b) h 243 (clQ a b h X n 4 p N T) := by
  refine Ct.of 1 (L0 := [some (aR 11 0), none]) (by decide) ⟨Nat.le_refl _, Nat.le_refl _⟩ rfl rfl ?_
  intro G C hg hrt hnm
  have hN : gn G ≤ 243 ∧ 243 ≤ 243 ∧ 243 ≤ 243 := ⟨by omega, by decide, by decide⟩
  refine r_iconst (v := (nI 0)) C dX11_takesHorse_0 (by decide) ?_
  refine r_istore_n C dX11_takesHorse_1 st1 ?_
  have loop : ∀ r i hh, i + r = 2 → hh 11 0 17 = nI (rpF X n 4 p i) → mrd hh N T → (∀ j, j < i → hh 53 0 (2 * N 3 + j) = (rrF X n 4 p j).2.1) → ffF X n 4 p r i = ffF X n 4 p 2 0 → Fs sRo h hh → Wa E G 243 (Rs a b) hh (QQ E G 243 (clQ a b h X n 4 p N T)) 2 [some (aR 11 0), some (aI (nI i))] [] := by
    intro r
    induction r with
    | zero =>
      intro i hh hi g1 g2 g3 g4 g5
      have e : i = 2 := by omega
      subst e
      refine r_iload_n C dX11_takesHorse_2 rfl ?_
      refine r_iconst (v := (nI 2)) C dX11_takesHorse_3 (by decide) ?_
      refine r_icmpN_ge C dX11_takesHorse_4 (by omega) (by omega) (fun _ => ?_) (fun cc => absurd cc (by omega))
      refine r_aload_n C dX11_takesHorse_42 rfl ?_
      refine r_dup C dX11_takesHorse_43 rfl ?_
      refine q_getV C flX11_147 dX11_takesHorse_44 ok11 rfl g2.2.2.2.2.1 ?_
      refine r_iconst (v := (nI 1)) C dX11_takesHorse_47 (by decide) ?_
      first | refine r_iaddN C dX11_takesHorse_48 ?_ | refine r_iadd C dX11_takesHorse_48 ?_
      refine r_putI C flX11_147 dX11_takesHorse_49 ok11 rfl ⟨rfl, rfl⟩ ?_
      refine r_iconst (v := (nI 1)) C dX11_takesHorse_52 (by decide) ?_
      refine r_zret C hrt dX11_takesHorse_53 (by decide) ?_
      refine cl_ok (by show (ffF X n 4 p 2 0).1 = 0; rw [← g4]; rfl) ?_ (mrd.a4 hr g3 g2) (g5.put rfl)
      rw [put_i (by decide)]
      exact g1
    | succ r ih =>
      intro i hh hi g1 g2 g3 g4 g5
      rw [ffF] at g4
      have rb := (rpF_b (X := X) (cl := 4) hp i).2
      have step : ∀ lo hi, rrF X n 4 p i = rdn X n (rpF X n 4 p i) lo hi → Wa E G 243 (Rs a b) hh (QQ E G 243 (clQ a b h X n 4 p N T)) 11 [some (aR 11 0), some (aI (nI i))] [aI hi, aI lo, aR 11 0] := by
        intro lo hi hrr
        refine r_callV C (m_takesNumber (hx.rm (g5.wk sRo_sRm)) g1 rb) dX11_takesHorse_11 cw_X11_takesNumber cvX11_135 (by omega) ok11 rfl hN rfl (Nat.le_of_ble_eq_true rfl) ?_
        rintro v R' h2 ⟨rfl, ok, no⟩
        rw [← hrr] at ok no
        by_cases hz : (rrF X n 4 p i).2.2.1 = 0
        · obtain ⟨rfl, o1, o2, o3⟩ := ok hz
          rw [if_pos hz] at g4
          have g2' := mrd.no o3 g2
          refine r_if_ne C dX11_takesHorse_14 (fun _ => ?_) (fun cc => absurd cc (by decide))
          refine r_aload_n C dX11_takesHorse_19 rfl ?_
          refine r_getR C flX11_57 dX11_takesHorse_20 ok11 rfl rfl ?_
          refine r_iconst (v := (nI 2)) C dX11_takesHorse_23 (by decide) ?_
          refine r_aload_n C dX11_takesHorse_24 rfl ?_
          refine q_getV C flX11_147 dX11_takesHorse_25 ok11 rfl g2'.2.2.2.2.1 ?_
          first | refine r_imulN C dX11_takesHorse_28 ?_ | refine r_imul C dX11_takesHorse_28 ?_
          refine r_iload_n C dX11_takesHorse_29 rfl ?_
          first | refine r_iaddN C dX11_takesHorse_30 ?_ | refine r_iadd C dX11_takesHorse_30 ?_
          refine r_aload_n C dX11_takesHorse_31 rfl ?_
          refine q_getV C flX11_129 dX11_takesHorse_32 ok11 rfl o2 ?_
          refine q_iast (m := 8) C dX11_takesHorse_35 ok53 rfl rfl (by omega) ?_
          first | refine r_iincN C dX11_takesHorse_36 rfl st1 ?_ | refine r_iinc C dX11_takesHorse_36 rfl rfl st1 ?_
          refine r_goto C dX11_takesHorse_39 ?_
          refine ih (i + 1) _ (by omega) ?_ (mrd.p53 (by omega) g2') (fun j hj => ?_) g4 ((g5.tr (o3.wk sNo_sRo)).put rfl)
          · rw [put_k (by decide)]; exact o1
          · by_cases e : j = i
            · subst e; exact put_same
            · rw [put_i (by omega), o3 53 0 _ rfl]
              exact g3 j (by omega)
        · obtain ⟨rfl, o1, o2, o3⟩ := no hz
          rw [if_neg hz] at g4
          refine r_if_ne C dX11_takesHorse_14 (fun cc => absurd cc (by exact fun z => z rfl)) (fun _ => ?_)
          refine r_iconst (v := (nI 0)) C dX11_takesHorse_17 (by decide) ?_
          refine r_zret C hrt dX11_takesHorse_18 (by decide) ?_
          exact cl_no (ft := 0) g4.symm hz o1 o2 ((g5.wk sRo_sRm).tr o3)
      refine r_iload_n C dX11_takesHorse_2 rfl ?_
      refine r_iconst (v := (nI 2)) C dX11_takesHorse_3 (by decide) ?_
      refine r_icmpN_ge C dX11_takesHorse_4 (by omega) (by omega) (fun cc => absurd cc (by omega)) (fun _ => ?_)
      rcases (show i = 0 ∨ i = 1 by omega) with rfl | rfl
      · refine r_aload_n C dX11_takesHorse_7 rfl ?_
        refine r_iload_n C dX11_takesHorse_8 rfl ?_
        refine r_bipush (v := (nI 99)) C dX11_takesHorse_9 (by decide) ?_
        exact step _ _ rfl
      · refine r_aload_n C dX11_takesHorse_7 rfl ?_
        refine r_iload_n C dX11_takesHorse_8 rfl ?_
        refine r_bipush (v := (nI 99)) C dX11_takesHorse_9 (by decide) ?_
        exact step _ _ rfl
  exact loop 2 0 h rfl ha hm (fun j hj => by omega) rfl Fs.rf
set_option maxRecDepth 100000 in
set_option maxHeartbeats 4000000 in
theorem m_takesGood {E : Ev} {a b n p : Nat} {h : HF} {X : Nat → Int32} {N : Nat → Nat} {T : Tv} (hx : mtx h n X) (ha : h 11 0 17 = nI p) (hp : p ≤ n) (hm : mrd h N T) (hr : N 2 < 6) : Ct E 3 yX11_takesGood cX11_takesGood 1 (some .boolean) [aR 11 0] 243 (Rs a b) h 243 (clQ a b h X n 3 p N T) := by
  refine Ct.of 0 (L0 := [some (aR 11 0)]) (by decide) ⟨Nat.le_refl _, Nat.le_refl _⟩ rfl rfl ?_
  intro G C hg hrt hnm
  have hN : gn G ≤ 243 ∧ 243 ≤ 243 ∧ 243 ≤ 243 := ⟨by omega, by decide, by decide⟩
  have er : rrF X n 3 p 0 = rdn X n p (nI 1) (nI 99) := rfl
  have ef : ffF X n 3 p (nosF 3) 0 = if (rrF X n 3 p 0).2.2.1 = 0 then (0, 0) else (rrF X n 3 p 0).2.2 := rfl
  refine r_aload_n C dX11_takesGood_0 rfl ?_
  refine r_iconst (v := (nI 1)) C dX11_takesGood_1 (by decide) ?_
  refine r_bipush (v := (nI 99)) C dX11_takesGood_2 (by decide) ?_
  refine r_callV C (m_takesNumber hx ha hp) dX11_takesGood_4 cw_X11_takesNumber cvX11_135 (by omega) ok11 rfl hN rfl (Nat.le_of_ble_eq_true rfl) ?_
  rintro v R' h2 ⟨rfl, ok, no⟩
  rw [← er] at ok no
  by_cases hz : (rrF X n 3 p 0).2.2.1 = 0
  · obtain ⟨rfl, o1, o2, o3⟩ := ok hz
    rw [if_pos hz] at ef
    have g2 := mrd.no o3 hm
    refine r_if_ne C dX11_takesGood_7 (fun _ => ?_) (fun cc => absurd cc (by decide))
    refine r_aload_n C dX11_takesGood_12 rfl ?_
    refine r_getR C flX11_54 dX11_takesGood_13 ok11 rfl rfl ?_
    refine r_aload_n C dX11_takesGood_16 rfl ?_
    refine q_getV C flX11_144 dX11_takesGood_17 ok11 rfl g2.2.2.2.1 ?_
    refine r_aload_n C dX11_takesGood_20 rfl ?_
    refine q_getV C flX11_129 dX11_takesGood_21 ok11 rfl o2 ?_
    refine q_iast (m := 6) C dX11_takesGood_24 ok52 rfl rfl (by omega) ?_
    refine r_aload_n C dX11_takesGood_25 rfl ?_
    refine r_dup C dX11_takesGood_26 rfl ?_
    refine q_getV C flX11_144 dX11_takesGood_27 ok11 rfl (show _ = nI (N 2) by rw [put_k (by decide)]; exact g2.2.2.2.1) ?_
    refine r_iconst (v := (nI 1)) C dX11_takesGood_30 (by decide) ?_
    first | refine r_iaddN C dX11_takesGood_31 ?_ | refine r_iadd C dX11_takesGood_31 ?_
    refine r_putI C flX11_144 dX11_takesGood_32 ok11 rfl ⟨rfl, rfl⟩ ?_
    refine r_iconst (v := (nI 1)) C dX11_takesGood_35 (by decide) ?_
    refine r_zret C hrt dX11_takesGood_36 (by decide) ?_
    refine cl_ok (by rw [ef]) ?_ (mrd.a3 hr rfl g2) (((o3.wk sNo_sRo).put rfl).put rfl)
    rw [put_i (by decide), put_k (by decide)]
    exact o1
  · obtain ⟨rfl, o1, o2, o3⟩ := no hz
    rw [if_neg hz] at ef
    refine r_if_ne C dX11_takesGood_7 (fun cc => absurd cc (by exact fun z => z rfl)) (fun _ => ?_)
    refine r_iconst (v := (nI 0)) C dX11_takesGood_10 (by decide) ?_
    refine r_zret C hrt dX11_takesGood_11 (by decide) ?_
    exact cl_no (ft := 0) ef hz o1 o2 o3
theorem mrd.t0 {h : HF} {N : Nat → Nat} {T : Tv} {x : Int32} (c : mrd h N T) : mrd (put h 49 0 0 x) N (tup T 9 0 x) := by
  obtain ⟨m1, m2, m3, m4, m5, m6, m7, m8, m9, m10, m11, mb⟩ := c
  exact ⟨m1, m2, m3, m4, m5, by simp [put, tup], by rw [put_i (by decide), m7]; simp [tup], fun i hi => by rw [put_k (by decide)]; simp [tup]; exact m8 i hi, fun i hi => by rw [put_k (by decide)]; simp [tup]; exact m9 i hi, fun i hi => by rw [put_k (by decide)]; simp [tup]; exact m10 i hi, fun i hi => by rw [put_k (by decide)]; simp [tup]; exact m11 i hi, mb⟩
theorem mrd.t1 {h : HF} {N : Nat → Nat} {T : Tv} {x : Int32} (c : mrd h N T) : mrd (put h 49 0 1 x) N (tup T 9 1 x) := by
  obtain ⟨m1, m2, m3, m4, m5, m6, m7, m8, m9, m10, m11, mb⟩ := c
  exact ⟨m1, m2, m3, m4, m5, by rw [put_i (by decide), m6]; simp [tup], by simp [put, tup], fun i hi => by rw [put_k (by decide)]; simp [tup]; exact m8 i hi, fun i hi => by rw [put_k (by decide)]; simp [tup]; exact m9 i hi, fun i hi => by rw [put_k (by decide)]; simp [tup]; exact m10 i hi, fun i hi => by rw [put_k (by decide)]; simp [tup]; exact m11 i hi, mb⟩
theorem mrd.h1 {h : HF} {N : Nat → Nat} {T : Tv} (c : mrd h N T) : mrd (put h 11 0 22 (nI 1)) (va_up N 4 1) T := by
  obtain ⟨m1, m2, m3, m4, m5, m6, m7, m8, m9, m10, m11, b0, b1, b2, b3, b4⟩ := c
  exact ⟨put_same, m2, m3, m4, m5, m6, m7, m8, m9, m10, m11, b0, b1, b2, b3, (show (1 : Nat) ≤ 1 from Nat.le_refl 1)⟩
set_option maxRecDepth 100000 in
set_option maxHeartbeats 4000000 in
theorem m_takesTown {E : Ev} {a b n p : Nat} {h : HF} {X : Nat → Int32} {N : Nat → Nat} {T : Tv} (hx : mtx h n X) (ha : h 11 0 17 = nI p) (hp : p ≤ n) (hm : mrd h N T) : Ct E 3 yX11_takesTown cX11_takesTown 1 (some .boolean) [aR 11 0] 243 (Rs a b) h 243 (clQ a b h X n 0 p N T) := by
  refine Ct.of 0 (L0 := [some (aR 11 0)]) (by decide) ⟨Nat.le_refl _, Nat.le_refl _⟩ rfl rfl ?_
  intro G C hg hrt hnm
  have hN : gn G ≤ 243 ∧ 243 ≤ 243 ∧ 243 ≤ 243 := ⟨by omega, by decide, by decide⟩
  have er : rrF X n 0 p 0 = rdn X n p (nI 0) (nI 999) := rfl
  have er1 : rrF X n 0 p 1 = rdn X n (rpF X n 0 p 1) (nI 0) (nI 99) := rfl
  have ep1 : rpF X n 0 p 1 = (rrF X n 0 p 0).1 := rfl
  have ef : ffF X n 0 p (nosF 0) 0 = if (rrF X n 0 p 0).2.2.1 = 0 then (if (rrF X n 0 p 1).2.2.1 = 0 then (0, 0) else (rrF X n 0 p 1).2.2) else (rrF X n 0 p 0).2.2 := rfl
  have f0 : Fs sRo h (put h 11 0 22 (nI 1)) := Fs.rf.put rfl
  refine r_aload_n C dX11_takesTown_0 rfl ?_
  refine r_iconst (v := (nI 1)) C dX11_takesTown_1 (by decide) ?_
  refine r_putI C flX11_132 dX11_takesTown_2 ok11 rfl ⟨rfl, rfl⟩ ?_
  refine r_aload_n C dX11_takesTown_5 rfl ?_
  refine r_iconst (v := (nI 0)) C dX11_takesTown_6 (by decide) ?_
  refine r_sipush (v := (nI 999)) C dX11_takesTown_7 (by decide) ?_
  refine r_callV C (m_takesNumber (hx.rm (f0.wk sRo_sRm)) (by rw [put_i (by decide)]; exact ha) hp) dX11_takesTown_10 cw_X11_takesNumber cvX11_135 (by omega) ok11 rfl hN rfl (Nat.le_of_ble_eq_true rfl) ?_
  rintro v R' h2 ⟨rfl, ok, no⟩
  rw [← er] at ok no
  by_cases hz : (rrF X n 0 p 0).2.2.1 = 0
  · obtain ⟨rfl, o1, o2, o3⟩ := ok hz
    rw [if_pos hz] at ef
    have g2 := mrd.t0 (x := (rrF X n 0 p 0).2.1) (mrd.no o3 (mrd.h1 hm))
    have f2 : Fs sRo h (put h2 49 0 0 (rrF X n 0 p 0).2.1) := (f0.tr (o3.wk sNo_sRo)).put rfl
    have rb := (rpF_b (X := X) (cl := 0) hp 1).2
    refine r_if_ne C dX11_takesTown_13 (fun _ => ?_) (fun cc => absurd cc (by decide))
    refine r_aload_n C dX11_takesTown_18 rfl ?_
    refine r_getR C flX11_45 dX11_takesTown_19 ok11 rfl rfl ?_
    refine r_iconst (v := (nI 0)) C dX11_takesTown_22 (by decide) ?_
    refine r_aload_n C dX11_takesTown_23 rfl ?_
    refine q_getV C flX11_129 dX11_takesTown_24 ok11 rfl o2 ?_
    refine q_iast (m := 2) C dX11_takesTown_27 ok49 rfl rfl (by omega) ?_
    refine r_aload_n C dX11_takesTown_28 rfl ?_
    refine r_iconst (v := (nI 0)) C dX11_takesTown_29 (by decide) ?_
    refine r_bipush (v := (nI 99)) C dX11_takesTown_30 (by decide) ?_
    refine r_callV C (m_takesNumber (hx.rm (f2.wk sRo_sRm)) (by rw [put_k (by decide), ep1]; exact o1) rb) dX11_takesTown_32 cw_X11_takesNumber cvX11_135 (by omega) ok11 rfl hN rfl (Nat.le_of_ble_eq_true rfl) ?_
    rintro v R' h3 ⟨rfl, ok1, no1⟩
    rw [← er1] at ok1 no1
    by_cases hz1 : (rrF X n 0 p 1).2.2.1 = 0
    · obtain ⟨rfl, q1, q2, q3⟩ := ok1 hz1
      rw [if_pos hz1] at ef
      refine r_if_ne C dX11_takesTown_35 (fun _ => ?_) (fun cc => absurd cc (by decide))
      refine r_aload_n C dX11_takesTown_40 rfl ?_
      refine r_getR C flX11_45 dX11_takesTown_41 ok11 rfl rfl ?_
      refine r_iconst (v := (nI 1)) C dX11_takesTown_44 (by decide) ?_
      refine r_aload_n C dX11_takesTown_45 rfl ?_
      refine q_getV C flX11_129 dX11_takesTown_46 ok11 rfl q2 ?_
      refine q_iast (m := 2) C dX11_takesTown_49 ok49 rfl rfl (by omega) ?_
      refine r_iconst (v := (nI 1)) C dX11_takesTown_50 (by decide) ?_
      refine r_zret C hrt dX11_takesTown_51 (by decide) ?_
      refine cl_ok (by rw [ef]) ?_ (mrd.t1 (mrd.no q3 g2)) ((f2.tr (q3.wk sNo_sRo)).put rfl)
      rw [put_k (by decide)]
      exact q1
    · obtain ⟨rfl, q1, q2, q3⟩ := no1 hz1
      rw [if_neg hz1] at ef
      refine r_if_ne C dX11_takesTown_35 (fun cc => absurd cc (by exact fun z => z rfl)) (fun _ => ?_)
      refine r_iconst (v := (nI 0)) C dX11_takesTown_38 (by decide) ?_
      refine r_zret C hrt dX11_takesTown_39 (by decide) ?_
      exact cl_no (ft := 0) ef hz1 q1 q2 ((f2.wk sRo_sRm).tr q3)
  · obtain ⟨rfl, o1, o2, o3⟩ := no hz
    rw [if_neg hz] at ef
    refine r_if_ne C dX11_takesTown_13 (fun cc => absurd cc (by exact fun z => z rfl)) (fun _ => ?_)
    refine r_iconst (v := (nI 0)) C dX11_takesTown_16 (by decide) ?_
    refine r_zret C hrt dX11_takesTown_17 (by decide) ?_
    exact cl_no (ft := 0) ef hz o1 o2 ((f0.wk sRo_sRm).tr o3)
theorem cc_inv {x : Int32} : (ccF x = 0 → x = nI 116) ∧ (ccF x = 1 → x = nI 99) ∧ (ccF x = 2 → x = nI 109) ∧ (ccF x = 3 → x = nI 103) ∧ (ccF x = 4 → x = nI 104) := by
  by_cases a0 : x = nI 116
  · have e : ccF x = 0 := by rw [ccF, if_pos a0]
    exact ⟨fun _ => a0, fun h => by omega, fun h => by omega, fun h => by omega, fun h => by omega⟩
  · skip
    by_cases a1 : x = nI 99
    · have e : ccF x = 1 := by rw [ccF, if_neg a0, if_pos a1]
      exact ⟨fun h => by omega, fun _ => a1, fun h => by omega, fun h => by omega, fun h => by omega⟩
    · skip
      by_cases a2 : x = nI 109
      · have e : ccF x = 2 := by rw [ccF, if_neg a0, if_neg a1, if_pos a2]
        exact ⟨fun h => by omega, fun h => by omega, fun _ => a2, fun h => by omega, fun h => by omega⟩
      · skip
        by_cases a3 : x = nI 103
        · have e : ccF x = 3 := by rw [ccF, if_neg a0, if_neg a1, if_neg a2, if_pos a3]
          exact ⟨fun h => by omega, fun h => by omega, fun h => by omega, fun _ => a3, fun h => by omega⟩
        · skip
          by_cases a4 : x = nI 104
          · have e : ccF x = 4 := by rw [ccF, if_neg a0, if_neg a1, if_neg a2, if_neg a3, if_pos a4]
            exact ⟨fun h => by omega, fun h => by omega, fun h => by omega, fun h => by omega, fun _ => a4⟩
          · skip
            have e : ccF x = 5 := by rw [ccF, if_neg a0, if_neg a1, if_neg a2, if_neg a3, if_neg a4]
            exact ⟨fun h => by omega, fun h => by omega, fun h => by omega, fun h => by omega, fun h => by omega⟩
set_option maxRecDepth 100000 in
set_option maxHeartbeats 4000000 in
theorem m_takesWords {E : Ev} {a b n p cl : Nat} {h : HF} {X : Nat → Int32} {N : Nat → Nat} {T : Tv} {x : Int32} (hx : mtx h n X) (ha : h 11 0 17 = nI p) (hp : p ≤ n) (hm : mrd h N T) (hcl : cl < 5) (hcc : ccF x = cl) (hr : ¬ fulF N cl = true) : Ct E 4 yX11_takesWords cX11_takesWords 2 (some .boolean) [aR 11 0, aI x] 243 (Rs a b) h 243 (clQ a b h X n cl p N T) := by
  refine Ct.of 0 (L0 := [some (aR 11 0), some (aI x)]) (by decide) ⟨Nat.le_refl _, Nat.le_refl _⟩ rfl rfl ?_
  intro G C hg hrt hnm
  have hN : gn G ≤ 243 ∧ 243 ≤ 243 ∧ 243 ≤ 243 := ⟨by omega, by decide, by decide⟩
  obtain ⟨i0, i1, i2, i3, i4⟩ := cc_inv (x := x)
  have hz : ∀ {v : Option AV} {R' : RF} {h' : HF}, clQ a b h X n cl p N T v R' h' → ∃ y, v = some (aI y) ∧ narrow .boolean (.int y) = .int y := by
    intro v R' h' q
    by_cases z : (ffF X n cl p (nosF cl) 0).1 = 0
    · exact ⟨nI 1, (q.2.1 z).1, by decide⟩
    · exact ⟨nI 0, (q.2.2 z).1, by decide⟩
  refine r_iload_n C dX11_takesWords_0 rfl ?_
  rcases (show cl = 0 ∨ cl = 1 ∨ cl = 2 ∨ cl = 3 ∨ cl = 4 by omega) with rfl | rfl | rfl | rfl | rfl
  · rw [i0 hcc]
    refine r_look (off := 43) (tgt := 44) C ⟨dX11_takesWords_1, rfl, by decide⟩ (by decide) (by decide) ?_
    refine r_aload_n C dX11_takesWords_44 rfl ?_
    refine r_callV C (m_takesTown hx ha hp hm) dX11_takesWords_45 cw_X11_takesTown cvX11_150 (by omega) ok11 rfl hN rfl (Nat.le_of_ble_eq_true rfl) ?_
    intro v R' h1 q
    obtain ⟨y, rfl, hy⟩ := hz q
    refine r_zret C hrt dX11_takesWords_48 hy ?_
    exact q
  · rw [i1 hcc]
    refine r_look (off := 48) (tgt := 49) C ⟨dX11_takesWords_1, rfl, by decide⟩ (by decide) (by decide) ?_
    refine r_aload_n C dX11_takesWords_49 rfl ?_
    refine r_callV C (m_takesCompany hx ha hp hm (by simp [fulF] at hr; omega)) dX11_takesWords_50 cw_X11_takesCompany cvX11_154 (by omega) ok11 rfl hN rfl (Nat.le_of_ble_eq_true rfl) ?_
    intro v R' h1 q
    obtain ⟨y, rfl, hy⟩ := hz q
    refine r_zret C hrt dX11_takesWords_53 hy ?_
    exact q
  · rw [i2 hcc]
    refine r_look (off := 53) (tgt := 54) C ⟨dX11_takesWords_1, rfl, by decide⟩ (by decide) (by decide) ?_
    refine r_aload_n C dX11_takesWords_54 rfl ?_
    refine r_callV C (m_takesKind hx ha hp hm (by simp [fulF] at hr; omega)) dX11_takesWords_55 cw_X11_takesKind cvX11_157 (by omega) ok11 rfl hN rfl (Nat.le_of_ble_eq_true rfl) ?_
    intro v R' h1 q
    obtain ⟨y, rfl, hy⟩ := hz q
    refine r_zret C hrt dX11_takesWords_58 hy ?_
    exact q
  · rw [i3 hcc]
    refine r_look (off := 58) (tgt := 59) C ⟨dX11_takesWords_1, rfl, by decide⟩ (by decide) (by decide) ?_
    refine r_aload_n C dX11_takesWords_59 rfl ?_
    refine r_callV C (m_takesGood hx ha hp hm (by simp [fulF] at hr; omega)) dX11_takesWords_60 cw_X11_takesGood cvX11_160 (by omega) ok11 rfl hN rfl (Nat.le_of_ble_eq_true rfl) ?_
    intro v R' h1 q
    obtain ⟨y, rfl, hy⟩ := hz q
    refine r_zret C hrt dX11_takesWords_63 hy ?_
    exact q
  · rw [i4 hcc]
    refine r_look (off := 63) (tgt := 64) C ⟨dX11_takesWords_1, rfl, by decide⟩ (by decide) (by decide) ?_
    refine r_aload_n C dX11_takesWords_64 rfl ?_
    refine r_callV C (m_takesHorse hx ha hp hm (by simp [fulF] at hr; omega)) dX11_takesWords_65 cw_X11_takesHorse cvX11_163 (by omega) ok11 rfl hN rfl (Nat.le_of_ble_eq_true rfl) ?_
    intro v R' h1 q
    obtain ⟨y, rfl, hy⟩ := hz q
    refine r_zret C hrt dX11_takesWords_68 hy ?_
    exact q
