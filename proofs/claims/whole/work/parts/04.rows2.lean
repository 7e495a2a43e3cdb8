/-- the facts of a class: its fields as the tables lay them -/
def CF (k : Nat) (Cn : String) (T : u_T) (N : Nat) : Prop := vwCl[k]? = some (Cn, T, N) ∧ nf k = N ∧ (∀ w ∈ u_ws Cn T N, w ∈ tb) ∧ (∀ i, i < N → parseFieldDescriptor (T i).2.2.1 = some (fty k i)) ∧ (∀ a, a < N → ∀ b, b < N → a ≠ b → (T a).2.1 ≠ (T b).2.1) ∧ (∀ i, i < N → (T i).1 = Cn) ∧ shp k = 0 ∧ k < 12
/-- entry idx of class own is field i of class k -/
def FL (own : String) (idx k i : Nat) (fin : Bool) : Prop := ∃ Cn T N, CF k Cn T N ∧ i < N ∧ Cond.fieldLink own idx Cn (T i).2.1 (T i).2.2.1 ∈ tb ∧ (T i).2.2.2 = fin
/-- the cell is made: of n -/
def Ok (n k j : Nat) : Prop := k < 60 ∧ j < cnt k ∧ pos k j < n ∧ n ≤ 243
theorem Ok.full {k j : Nat} (hk : k < 60) (hj : j < cnt k) : Ok 243 k j := ⟨hk, hj, (pos_all k hk j hj).1, Nat.le_refl _⟩
theorem Ok.lit {n k j : Nat} (h : (decide (k < 60) && decide (j < cnt k) && decide (pos k j < n) && decide (n ≤ 243)) = true) : Ok n k j := by
  simp only [Bool.and_eq_true, decide_eq_true_eq] at h
  exact ⟨h.1.1.1, h.1.1.2, h.1.2, h.2⟩
theorem ent_obj {E : Ev} {k : Nat} {Rr : Nat → Option (Nat × Nat)} {hr : Nat → Int32} (h : shp k = 0) : ent E k Rr hr = .inr (k, (List.range (nf k)).map (fun i => if isr k i = true then va_rf ((Rr i).map (lcq E)) else .int (hr i))) := by
  simp [ent, h]
theorem ent_int {E : Ev} {k : Nat} {Rr : Nat → Option (Nat × Nat)} {hr : Nat → Int32} (h : shp k = 1) : ent E k Rr hr = .inl (ca E 0, nf k, .inl hr) := by
  simp [ent, h]
theorem ent_bool {E : Ev} {k : Nat} {Rr : Nat → Option (Nat × Nat)} {hr : Nat → Int32} (h : shp k = 2) : ent E k Rr hr = .inl (ca E 1, nf k, .inl hr) := by
  simp [ent, h]
theorem ent_ref {E : Ev} {k t : Nat} {Rr : Nat → Option (Nat × Nat)} {hr : Nat → Int32} (h : shp k = t + 3) : ent E k Rr hr = .inl (ca E (t + 2), nf k, .inr (.inr (.inr (.inr (fun i => (Rr i).map (lcq E)))))) := by
  simp [ent, h]
section RW2
variable {E : Ev} {G : Gv} {n d nm pc pc' : Nat} {R : RF} {h : HF} {Q : State → Prop} {L L' : List (Option AV)} {st : List AV} {cc : ByteArray} {own : String} {k j i idx : Nat}
theorem r_getI (C : Cx E G d cc own nm) {fin : Bool} (hf : FL own idx k i fin) (hd : Dc cc pc (.getfield idx) 3 pc') (ho : Ok n k j) (hr : isr k i = false) (kk : Wa E G n R h Q pc' L (aI (h k j i) :: st)) : Wa E G n R h Q pc L (aR k j :: st) := by
  obtain ⟨hd, rfl⟩ := hd
  obtain ⟨Cn, T, N, ⟨hc, hN, hin, -, -, hcl, hsh, -⟩, hi, hlink, -⟩ := hf
  intro H locs ls hP hS hl
  have he : (wsl E n R h)[pos k j]? = some (lcq E (k, j), .inr (k, (List.range (nf k)).map (fun i => if isr k i = true then va_rf ((R k j i).map (lcq E)) else .int (h k j i)))) := by rw [wsl_at ho.1 ho.2.1 ho.2.2.1, ent_obj hsh]
  exact va_get C.1 C.2.1 C.2.2.2.1 hin C.2.2.1 C.2.2.2.2.1.1 hP (pos k j) he hc i hi (C.2.2.2.1 _ hlink) (fun x hx => by rw [hcl i hi] at hx; exact hx) (v := .int (h k j i)) (by simp [hN, hi, hr]) hd (kk H locs ls hP hS hl)
theorem r_getR (C : Cx E G d cc own nm) {fin : Bool} (hf : FL own idx k i fin) (hd : Dc cc pc (.getfield idx) 3 pc') (ho : Ok n k j) (hr : isr k i = true) {a b : Nat} (hR : R k j i = some (a, b)) (kk : Wa E G n R h Q pc' L (aR a b :: st)) : Wa E G n R h Q pc L (aR k j :: st) := by
  obtain ⟨hd, rfl⟩ := hd
  obtain ⟨Cn, T, N, ⟨hc, hN, hin, -, -, hcl, hsh, -⟩, hi, hlink, -⟩ := hf
  intro H locs ls hP hS hl
  have he : (wsl E n R h)[pos k j]? = some (lcq E (k, j), .inr (k, (List.range (nf k)).map (fun i => if isr k i = true then va_rf ((R k j i).map (lcq E)) else .int (h k j i)))) := by rw [wsl_at ho.1 ho.2.1 ho.2.2.1, ent_obj hsh]
  exact va_get C.1 C.2.1 C.2.2.2.1 hin C.2.2.1 C.2.2.2.2.1.1 hP (pos k j) he hc i hi (C.2.2.2.1 _ hlink) (fun x hx => by rw [hcl i hi] at hx; exact hx) (v := .ref (lcq E (a, b))) (by simp [hN, hi, hr, hR, va_rf]) hd (kk H locs ls hP hS hl)
/-- writing one field: the list of cells behind it -/
theorem wsl_put {E : Ev} {n k j i : Nat} {R R' : RF} {h h' : HF} {v : Value} (ho : Ok n k j) (hsh : shp k = 0) (hi : i < nf k) (hoff : ∀ k' j', ¬ (k' = k ∧ j' = j) → R' k' j' = R k' j' ∧ h' k' j' = h k' j')
    (hrow : ∀ a, (if isr k a = true then va_rf ((R' k j a).map (lcq E)) else Value.int (h' k j a)) = if a = i then v else (if isr k a = true then va_rf ((R k j a).map (lcq E)) else Value.int (h k j a))) :
    (wsl E n R h).set (pos k j) (lcq E (k, j), .inr (k, ((List.range (nf k)).map (fun i => if isr k i = true then va_rf ((R k j i).map (lcq E)) else .int (h k j i))).set i v)) = wsl E n R' h' := by
  rw [← wsl_set ho.1 ho.2.1 ho.2.2.1 ho.2.2.2 hoff, ent_obj hsh]
  refine congrArg (fun z => List.set (wsl E n R h) (pos k j) (lcq E (k, j), (.inr (k, z) : va_E))) ?_
  apply List.ext_getElem?
  intro a
  by_cases ha : a < nf k
  · by_cases e : a = i
    · subst e
      rw [List.getElem?_set_self (by simpa using ha)]
      simp [ha, hrow]
    · rw [List.getElem?_set_ne (fun z => e z.symm)]
      simp [ha, hrow, e]
  · rw [List.getElem?_eq_none (by simp; omega), List.getElem?_eq_none (by simp; omega)]
theorem r_putI (C : Cx E G d cc own nm) (hf : FL own idx k i false) (hd : Dc cc pc (.putfield idx) 3 pc') (ho : Ok n k j) (hr : isr k i = false) {x : Int32} (hn : narrow (fty k i) (.int x) = .int x ∧ fits (fty k i) (.int x) = true) (kk : Wa E G n R (put h k j i x) Q pc' L st) : Wa E G n R h Q pc L (aI x :: aR k j :: st) := by
  obtain ⟨hd, rfl⟩ := hd
  obtain ⟨Cn, T, N, ⟨hc, hN, hin, hty, hnm, hcl, hsh, -⟩, hi, hlink, hfin⟩ := hf
  intro H locs ls hP hS hl
  have he : (wsl E n R h)[pos k j]? = some (lcq E (k, j), .inr (k, (List.range (nf k)).map (fun i => if isr k i = true then va_rf ((R k j i).map (lcq E)) else .int (h k j i)))) := by rw [wsl_at ho.1 ho.2.1 ho.2.2.1, ent_obj hsh]
  refine va_put C.1 C.2.1 C.2.2.2.1 hin (fty k) hty hnm C.2.2.1 C.2.2.2.2.1.1 hP wsl_D hS (pos k j) he hc i hi (C.2.2.2.1 _ hlink) (fun x hx => by rw [hcl i hi] at hx; exact hx) hfin (hty i hi) hn.1 hn.2 (by simp [hN, hi]) hd (fun H1 locs1 hP1 hD1 hS1 => ?_)
  rw [wsl_put (R' := R) (h' := put h k j i x) ho hsh (by rw [hN]; exact hi) (fun k' j' hne => ⟨rfl, put_off hne⟩) (fun a => by
    by_cases e : a = i
    · subst e
      simp [hr, put, cv]
    · simp [put, e])] at hP1
  exact kk H1 locs1 ls hP1 hS1 hl
theorem r_putR (C : Cx E G d cc own nm) (hf : FL own idx k i false) (hd : Dc cc pc (.putfield idx) 3 pc') (ho : Ok n k j) (hr : isr k i = true) {a b : Nat} (hn : ∀ q, narrow (fty k i) (.ref q) = .ref q ∧ fits (fty k i) (.ref q) = true) (kk : Wa E G n (putR R k j i (some (a, b))) h Q pc' L st) : Wa E G n R h Q pc L (aR a b :: aR k j :: st) := by
  obtain ⟨hd, rfl⟩ := hd
  obtain ⟨Cn, T, N, ⟨hc, hN, hin, hty, hnm, hcl, hsh, -⟩, hi, hlink, hfin⟩ := hf
  intro H locs ls hP hS hl
  have he : (wsl E n R h)[pos k j]? = some (lcq E (k, j), .inr (k, (List.range (nf k)).map (fun i => if isr k i = true then va_rf ((R k j i).map (lcq E)) else .int (h k j i)))) := by rw [wsl_at ho.1 ho.2.1 ho.2.2.1, ent_obj hsh]
  refine va_put C.1 C.2.1 C.2.2.2.1 hin (fty k) hty hnm C.2.2.1 C.2.2.2.2.1.1 hP wsl_D hS (pos k j) he hc i hi (C.2.2.2.1 _ hlink) (fun x hx => by rw [hcl i hi] at hx; exact hx) hfin (hty i hi) (hn (lcq E (a, b))).1 (hn (lcq E (a, b))).2 (by simp [hN, hi]) hd (fun H1 locs1 hP1 hD1 hS1 => ?_)
  rw [wsl_put (R' := putR R k j i (some (a, b))) (h' := h) ho hsh (by rw [hN]; exact hi) (fun k' j' hne => ⟨putR_off hne, rfl⟩) (fun a => by
    by_cases e : a = i
    · subst e
      simp [hr, putR, va_rf, cv]
    · simp [putR, e])] at hP1
  exact kk H1 locs1 ls hP1 hS1 hl
theorem r_putF (C : Cx E G d cc own nm) (hm : (gme G).name = "<init>") (hf : FL own idx k i true) (hw : vwCl[k]?.map (fun q => q.1) = some own) (hd : Dc cc pc (.putfield idx) 3 pc') (ho : Ok n k j) (hr : isr k i = true) {a b : Nat} (hn : ∀ q, narrow (fty k i) (.ref q) = .ref q ∧ fits (fty k i) (.ref q) = true) (kk : Wa E G n (putR R k j i (some (a, b))) h Q pc' L st) : Wa E G n R h Q pc L (aR a b :: aR k j :: st) := by
  obtain ⟨hd, rfl⟩ := hd
  obtain ⟨Cn, T, N, ⟨hc, hN, hin, hty, hnm, hcl, hsh, -⟩, hi, hlink, hfin⟩ := hf
  have hown : Cn = own := by rw [hc] at hw; exact Option.some.inj hw
  intro H locs ls hP hS hl
  have he : (wsl E n R h)[pos k j]? = some (lcq E (k, j), .inr (k, (List.range (nf k)).map (fun i => if isr k i = true then va_rf ((R k j i).map (lcq E)) else .int (h k j i)))) := by rw [wsl_at ho.1 ho.2.1 ho.2.2.1, ent_obj hsh]
  refine va_putF C.1 C.2.1 C.2.2.2.1 hin (fty k) hty hnm C.2.2.1 C.2.2.2.2.1.1 hP wsl_D hS (pos k j) he hc i hi (C.2.2.2.1 _ hlink) (fun x hx => by rw [hcl i hi] at hx; exact hx) hfin hm ((hcl i hi).trans hown) (hty i hi) (hn (lcq E (a, b))).1 (hn (lcq E (a, b))).2 (by simp [hN, hi]) hd (fun H1 locs1 hP1 hD1 hS1 => ?_)
  rw [wsl_put (R' := putR R k j i (some (a, b))) (h' := h) ho hsh (by rw [hN]; exact hi) (fun k' j' hne => ⟨putR_off hne, rfl⟩) (fun a => by
    by_cases e : a = i
    · subst e
      simp [hr, putR, va_rf, cv]
    · simp [putR, e])] at hP1
  exact kk H1 locs1 ls hP1 hS1 hl
theorem r_iald (C : Cx E G d cc own nm) {x : Nat} {v : Int32} (hd : Dc cc pc .iaload 1 pc') (ho : Ok n k j) (hs : shp k = 1) (hv : v = nI x) (hx : x < nf k) (hb : nf k < 2 ^ 31) (kk : Wa E G n R h Q pc' L (aI (h k j x) :: st)) : Wa E G n R h Q pc L (aI v :: aR k j :: st) := by
  obtain ⟨hd, rfl⟩ := hd
  subst hv
  intro H locs ls hP hS hl
  have he : (wsl E n R h)[pos k j]? = some (lcq E (k, j), .inl (ca E 0, nf k, .inl (h k j))) := by rw [wsl_at ho.1 ho.2.1 ho.2.2.1, ent_int hs]
  have e := nI_clamp (n := x) (by omega)
  refine va_iald C.1 C.2.1 C.2.2.2.2.1.1 hP (pos k j) 0 he rfl (vp_in_nI hx hb) hd ?_
  rw [e]
  exact kk H locs ls hP hS hl
theorem r_zald (C : Cx E G d cc own nm) {x : Nat} {v : Int32} (hd : Dc cc pc .baload 1 pc') (ho : Ok n k j) (hs : shp k = 2) (hv : v = nI x) (hx : x < nf k) (hb : nf k < 2 ^ 31) (kk : Wa E G n R h Q pc' L (aI (h k j x) :: st)) : Wa E G n R h Q pc L (aI v :: aR k j :: st) := by
  obtain ⟨hd, rfl⟩ := hd
  subst hv
  intro H locs ls hP hS hl
  have he : (wsl E n R h)[pos k j]? = some (lcq E (k, j), .inl (ca E 1, nf k, .inl (h k j))) := by rw [wsl_at ho.1 ho.2.1 ho.2.2.1, ent_bool hs]
  have e := nI_clamp (n := x) (by omega)
  refine va_zald C.1 C.2.1 C.2.2.2.2.1.1 hP (pos k j) 1 he rfl (vp_in_nI hx hb) hd ?_
  rw [e]
  exact kk H locs ls hP hS hl
theorem r_aald (C : Cx E G d cc own nm) {x t a b : Nat} {v : Int32} (hd : Dc cc pc .aaload 1 pc') (ho : Ok n k j) (hs : shp k = t + 3) (ht : t < 3) (hv : v = nI x) (hx : x < nf k) (hb : nf k < 2 ^ 31) (hR : R k j x = some (a, b)) (kk : Wa E G n R h Q pc' L (aR a b :: st)) : Wa E G n R h Q pc L (aI v :: aR k j :: st) := by
  obtain ⟨hd, rfl⟩ := hd
  subst hv
  intro H locs ls hP hS hl
  have he : (wsl E n R h)[pos k j]? = some (lcq E (k, j), .inl (ca E (t + 2), nf k, .inr (.inr (.inr (.inr (fun i => (R k j i).map (lcq E))))))) := by rw [wsl_at ho.1 ho.2.1 ho.2.2.1, ent_ref hs]
  have e := nI_clamp (n := x) (by omega)
  have hty : ∃ Cn, (tys E)[t + 2]? = some (ca E (t + 2), .object Cn) := by
    rcases (show t = 0 ∨ t = 1 ∨ t = 2 by omega) with rfl | rfl | rfl <;> exact ⟨_, rfl⟩
  obtain ⟨Cn, hty⟩ := hty
  refine va_aldq C.1 C.2.1 C.2.2.2.2.1.1 hP (pos k j) (t + 2) he hty (vp_in_nI hx hb) hd ?_
  rw [e, hR]
  exact kk H locs ls hP hS hl
theorem wsl_row {E : Ev} {n k j : Nat} {R : RF} {h h' : HF} {e : va_E} (ho : Ok n k j) (hoff : ∀ k' j', ¬ (k' = k ∧ j' = j) → h' k' j' = h k' j') (he : ent E k (R k j) (h' k j) = e) : (wsl E n R h).set (pos k j) (lcq E (k, j), e) = wsl E n R h' := by
  rw [← wsl_set (R := R) (R' := R) ho.1 ho.2.1 ho.2.2.1 ho.2.2.2 (fun k' j' hne => ⟨rfl, hoff k' j' hne⟩), he]
theorem r_iast (C : Cx E G d cc own nm) {x : Nat} {v y : Int32} (hd : Dc cc pc .iastore 1 pc') (ho : Ok n k j) (hs : shp k = 1) (hv : v = nI x) (hx : x < nf k) (hb : nf k < 2 ^ 31) (kk : Wa E G n R (put h k j x y) Q pc' L st) : Wa E G n R h Q pc L (aI y :: aI v :: aR k j :: st) := by
  obtain ⟨hd, rfl⟩ := hd
  subst hv
  intro H locs ls hP hS hl
  have he : (wsl E n R h)[pos k j]? = some (lcq E (k, j), .inl (ca E 0, nf k, .inl (h k j))) := by rw [wsl_at ho.1 ho.2.1 ho.2.2.1, ent_int hs]
  have e := nI_clamp (n := x) (by omega)
  refine va_iast C.1 C.2.1 C.2.2.2.2.1.1 hP wsl_D hS (pos k j) 0 he rfl (vp_in_nI hx hb) hd (fun H1 locs1 hP1 hD1 hS1 => ?_)
  rw [e, wsl_row (h' := put h k j x y) ho (fun k' j' hne => put_off hne) (by rw [ent_int hs, put_on])] at hP1
  exact kk H1 locs1 ls hP1 hS1 hl
theorem r_zast (C : Cx E G d cc own nm) {x : Nat} {v y : Int32} (hd : Dc cc pc .bastore 1 pc') (ho : Ok n k j) (hs : shp k = 2) (hv : v = nI x) (hx : x < nf k) (hb : nf k < 2 ^ 31) (hy : vp_nar .boolean y = y) (kk : Wa E G n R (put h k j x y) Q pc' L st) : Wa E G n R h Q pc L (aI y :: aI v :: aR k j :: st) := by
  obtain ⟨hd, rfl⟩ := hd
  subst hv
  intro H locs ls hP hS hl
  have he : (wsl E n R h)[pos k j]? = some (lcq E (k, j), .inl (ca E 1, nf k, .inl (h k j))) := by rw [wsl_at ho.1 ho.2.1 ho.2.2.1, ent_bool hs]
  have e := nI_clamp (n := x) (by omega)
  refine va_zast C.1 C.2.1 C.2.2.2.2.1.1 hP wsl_D hS (pos k j) 1 he rfl (vp_in_nI hx hb) hd (fun H1 locs1 hP1 hD1 hS1 => ?_)
  rw [e, hy, wsl_row (h' := put h k j x y) ho (fun k' j' hne => put_off hne) (by rw [ent_bool hs, put_on])] at hP1
  exact kk H1 locs1 ls hP1 hS1 hl
theorem r_aast (C : Cx E G d cc own nm) {x t a b : Nat} {v : Int32} {q : vw_C} (hd : Dc cc pc .aastore 1 pc') (ho : Ok n k j) (hs : shp k = t + 3) (hv : v = nI x) (hx : x < nf k) (hb : nf k < 2 ^ 31) (hq : vwCl[a]? = some q) (ht : (tys E)[t + 2]? = some (ca E (t + 2), .object q.1)) (ho2 : Ok n a b) (hs2 : shp a = 0) (kk : Wa E G n (putR R k j x (some (a, b))) h Q pc' L st) : Wa E G n R h Q pc L (aR a b :: aI v :: aR k j :: st) := by
  obtain ⟨hd, rfl⟩ := hd
  subst hv
  intro H locs ls hP hS hl
  have he : (wsl E n R h)[pos k j]? = some (lcq E (k, j), .inl (ca E (t + 2), nf k, .inr (.inr (.inr (.inr (fun i => (R k j i).map (lcq E))))))) := by rw [wsl_at ho.1 ho.2.1 ho.2.2.1, ent_ref hs]
  have he2 : (wsl E n R h)[pos a b]? = some (lcq E (a, b), .inr (a, (List.range (nf a)).map (fun i => if isr a i = true then va_rf ((R a b i).map (lcq E)) else .int (h a b i)))) := by rw [wsl_at ho2.1 ho2.2.1 ho2.2.2.1, ent_obj hs2]
  have e := nI_clamp (n := x) (by omega)
  refine va_astq C.1 C.2.1 C.2.2.2.2.1.1 hP wsl_D hS (pos k j) (t + 2) (pos a b) a he ht he2 hq (vp_in_nI hx hb) hd (fun H1 locs1 hP1 hD1 hS1 => ?_)
  rw [e] at hP1
  have hset := wsl_set (E := E) (R := R) (R' := putR R k j x (some (a, b))) (h := h) (h' := h) ho.1 ho.2.1 ho.2.2.1 ho.2.2.2 (fun k' j' hne => ⟨putR_off hne, rfl⟩)
  rw [ent_ref hs, putR_on] at hset
  have hfun : (fun i => (va_up (R k j) x (some (a, b)) i).map (lcq E)) = va_up (fun i => (R k j i).map (lcq E)) x (some (lcq E (a, b))) := by
    funext i
    by_cases z : i = x <;> simp [va_up, z]
  rw [hfun] at hset
  rw [hset] at hP1
  exact kk H1 locs1 ls hP1 hS1 hl
end RW2
