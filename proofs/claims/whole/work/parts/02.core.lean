-- kinds of cells 0..11: objects of class k of vwCl; 12..59: rows (arrays), one kind for each field that holds one
abbrev AV : Type := Int32 ⊕ (Int64 ⊕ Option (Nat × Nat))
abbrev RF : Type := Nat → Nat → Nat → Option (Nat × Nat)
abbrev HF : Type := Nat → Nat → Nat → Int32
abbrev aI (x : Int32) : AV := Sum.inl x
abbrev aL (x : Int64) : AV := Sum.inr (Sum.inl x)
abbrev aR (k j : Nat) : AV := Sum.inr (Sum.inr (some (k, j)))
abbrev aN : AV := Sum.inr (Sum.inr none)
/-- the cells in the order in which the constructors make them -/
def ids : List (Nat × Nat) := [(10, 0), (7, 0), (26, 0), (4, 0), (17, 0), (8, 0), (27, 0), (28, 0), (29, 0), (30, 0), (31, 0), (32, 0), (33, 0), (34, 0), (35, 0), (8, 1), (27, 1), (28, 1), (29, 1), (30, 1), (31, 1), (32, 1), (33, 1), (34, 1), (35, 1), (6, 0), (1, 0), (14, 0), (15, 0), (23, 0), (24, 0), (25, 0), (3, 0), (16, 0), (6, 1), (1, 1), (14, 1), (15, 1), (23, 1), (24, 1), (25, 1), (6, 2), (1, 2), (14, 2), (15, 2), (23, 2), (24, 2), (25, 2), (6, 3), (1, 3), (14, 3), (15, 3), (23, 3), (24, 3), (25, 3), (6, 4), (1, 4), (14, 4), (15, 4), (23, 4), (24, 4), (25, 4), (6, 5), (1, 5), (14, 5), (15, 5), (23, 5), (24, 5), (25, 5), (6, 6), (1, 6), (14, 6), (15, 6), (23, 6), (24, 6), (25, 6), (6, 7), (1, 7), (14, 7), (15, 7), (23, 7), (24, 7), (25, 7), (6, 8), (1, 8), (14, 8), (15, 8), (23, 8), (24, 8), (25, 8), (6, 9), (1, 9), (14, 9), (15, 9), (23, 9), (24, 9), (25, 9), (6, 10), (1, 10), (14, 10), (15, 10), (23, 10), (24, 10), (25, 10), (6, 11), (1, 11), (14, 11), (15, 11), (23, 11), (24, 11), (25, 11), (6, 12), (1, 12), (14, 12), (15, 12), (23, 12), (24, 12), (25, 12), (6, 13), (1, 13), (14, 13), (15, 13), (23, 13), (24, 13), (25, 13), (6, 14), (1, 14), (14, 14), (15, 14), (23, 14), (24, 14), (25, 14), (6, 15), (1, 15), (14, 15), (15, 15), (23, 15), (24, 15), (25, 15), (6, 16), (1, 16), (14, 16), (15, 16), (23, 16), (24, 16), (25, 16), (6, 17), (1, 17), (14, 17), (15, 17), (23, 17), (24, 17), (25, 17), (6, 18), (1, 18), (14, 18), (15, 18), (23, 18), (24, 18), (25, 18), (6, 19), (1, 19), (14, 19), (15, 19), (23, 19), (24, 19), (25, 19), (6, 20), (1, 20), (14, 20), (15, 20), (23, 20), (24, 20), (25, 20), (38, 0), (9, 0), (36, 0), (37, 0), (1, 23), (14, 23), (15, 23), (1, 24), (14, 24), (15, 24), (1, 25), (14, 25), (15, 25), (1, 26), (14, 26), (15, 26), (1, 27), (14, 27), (15, 27), (1, 28), (14, 28), (15, 28), (5, 0), (18, 0), (19, 0), (20, 0), (21, 0), (22, 0), (0, 0), (12, 0), (13, 0), (2, 0), (6, 21), (1, 21), (14, 21), (15, 21), (23, 21), (24, 21), (25, 21), (2, 1), (6, 22), (1, 22), (14, 22), (15, 22), (23, 22), (24, 22), (25, 22), (11, 0), (39, 0), (40, 0), (41, 0), (42, 0), (43, 0), (44, 0), (45, 0), (46, 0), (47, 0), (48, 0), (49, 0), (50, 0), (51, 0), (52, 0), (53, 0), (54, 0), (55, 0), (56, 0), (57, 0), (58, 0), (59, 0)]
/-- fields of an object, places of a row -/
def nf : Nat → Nat := fun k => match k with
  | 0 => 3
  | 1 => 6
  | 2 => 3
  | 3 => 3
  | 4 => 4
  | 5 => 6
  | 6 => 7
  | 7 => 2
  | 8 => 16
  | 9 => 5
  | 10 => 12
  | 11 => 41
  | 12 => 15
  | 13 => 15
  | 14 => 5
  | 15 => 5
  | 16 => 20
  | 17 => 3
  | 18 => 8
  | 19 => 8
  | 20 => 8
  | 21 => 8
  | 22 => 4
  | 23 => 4
  | 24 => 5
  | 25 => 20
  | 26 => 240
  | 27 => 5
  | 28 => 5
  | 29 => 5
  | 30 => 4
  | 31 => 4
  | 32 => 4
  | 33 => 6
  | 34 => 4
  | 35 => 4
  | 36 => 6
  | 37 => 5
  | 38 => 2
  | 39 => 1080
  | 40 => 2
  | 41 => 5
  | 42 => 5
  | 43 => 4
  | 44 => 4
  | 45 => 6
  | 46 => 4
  | 47 => 4
  | 48 => 240
  | 49 => 2
  | 50 => 15
  | 51 => 12
  | 52 => 6
  | 53 => 8
  | 54 => 8
  | 55 => 8
  | 56 => 8
  | 57 => 8
  | 58 => 15
  | 59 => 15
  | _ => 0
/-- how many there are of a kind -/
def cnt : Nat → Nat := fun k => match k with
  | 0 => 1
  | 1 => 29
  | 2 => 2
  | 3 => 1
  | 4 => 1
  | 5 => 1
  | 6 => 23
  | 7 => 1
  | 8 => 2
  | 9 => 1
  | 10 => 1
  | 11 => 1
  | 12 => 1
  | 13 => 1
  | 14 => 29
  | 15 => 29
  | 16 => 1
  | 17 => 1
  | 18 => 1
  | 19 => 1
  | 20 => 1
  | 21 => 1
  | 22 => 1
  | 23 => 23
  | 24 => 23
  | 25 => 23
  | 26 => 1
  | 27 => 2
  | 28 => 2
  | 29 => 2
  | 30 => 2
  | 31 => 2
  | 32 => 2
  | 33 => 2
  | 34 => 2
  | 35 => 2
  | 36 => 1
  | 37 => 1
  | 38 => 1
  | 39 => 1
  | 40 => 1
  | 41 => 1
  | 42 => 1
  | 43 => 1
  | 44 => 1
  | 45 => 1
  | 46 => 1
  | 47 => 1
  | 48 => 1
  | 49 => 1
  | 50 => 1
  | 51 => 1
  | 52 => 1
  | 53 => 1
  | 54 => 1
  | 55 => 1
  | 56 => 1
  | 57 => 1
  | 58 => 1
  | 59 => 1
  | _ => 0
/-- 0 object, 1 ints, 2 booleans, 3 Sieges, 4 Camps, 5 Images -/
def shp : Nat → Nat := fun k => match k with
  | 0 => 0
  | 1 => 0
  | 2 => 0
  | 3 => 0
  | 4 => 0
  | 5 => 0
  | 6 => 0
  | 7 => 0
  | 8 => 0
  | 9 => 0
  | 10 => 0
  | 11 => 0
  | 16 => 3
  | 36 => 4
  | 38 => 5
  | 40 => 2
  | _ => 1
/-- the type of a field -/
def fty : Nat → (Nat → FieldType) := fun k => match k with
  | 0 => tyX0
  | 1 => tyX1
  | 2 => tyX2
  | 3 => tyX3
  | 4 => tyX4
  | 5 => tyX5
  | 6 => tyX6
  | 7 => tyX7
  | 8 => tyX8
  | 9 => tyX9
  | 10 => tyX10
  | 11 => tyX11
  | _ => fun _ => .int
/-- which fields are references -/
def isr : Nat → (Nat → Bool) := fun k => match k with
  | 0 => fun i => match i with | 0 => true | 1 => true | _ => false
  | 1 => fun i => match i with | 2 => true | 3 => true | _ => false
  | 2 => fun i => match i with | 0 => true | _ => false
  | 3 => fun i => match i with | 0 => true | _ => false
  | 4 => fun i => match i with | 0 => true | _ => false
  | 5 => fun i => match i with | 0 => true | 1 => true | 2 => true | 3 => true | 4 => true | _ => false
  | 6 => fun i => match i with | 0 => true | 4 => true | 5 => true | 6 => true | _ => false
  | 7 => fun i => match i with | 0 => true | _ => false
  | 8 => fun i => match i with | 7 => true | 8 => true | 9 => true | 10 => true | 11 => true | 12 => true | 13 => true | 14 => true | 15 => true | _ => false
  | 9 => fun i => match i with | 0 => true | 1 => true | _ => false
  | 10 => fun i => match i with | 0 => true | 1 => true | 2 => true | 3 => true | 4 => true | 5 => true | 6 => true | 7 => true | 8 => true | 9 => true | _ => false
  | 11 => fun i => match i with | 0 => true | 1 => true | 5 => true | 6 => true | 8 => true | 9 => true | 11 => true | 13 => true | 14 => true | 15 => true | 23 => true | 25 => true | 27 => true | 29 => true | 31 => true | 34 => true | 35 => true | 36 => true | 37 => true | 39 => true | 40 => true | _ => false
  | _ => fun _ => false
/-- which cell a reference leads to, once all is made: theTown is town a, draft town b -/
def Rs (a b : Nat) : RF := fun k j i => match k with
  | 0 => (match i with | 0 => some (12, 0) | 1 => some (13, 0) | _ => none)
  | 1 => (match i with | 2 => some (14, j) | 3 => some (15, j) | _ => none)
  | 2 => (match i with | 0 => some (6, 21 + j) | _ => none)
  | 3 => (match i with | 0 => some (16, 0) | _ => none)
  | 4 => (match i with | 0 => some (17, 0) | _ => none)
  | 5 => (match i with | 0 => some (18, 0) | 1 => some (19, 0) | 2 => some (20, 0) | 3 => some (21, 0) | 4 => some (22, 0) | _ => none)
  | 6 => (match i with | 0 => some (1, j) | 4 => some (23, j) | 5 => some (24, j) | 6 => some (25, j) | _ => none)
  | 7 => (match i with | 0 => some (26, 0) | _ => none)
  | 8 => (match i with | 7 => some (27, j) | 8 => some (28, j) | 9 => some (29, j) | 10 => some (30, j) | 11 => some (31, j) | 12 => some (32, j) | 13 => some (33, j) | 14 => some (34, j) | 15 => some (35, j) | _ => none)
  | 9 => (match i with | 0 => some (36, 0) | 1 => some (37, 0) | _ => none)
  | 10 => (match i with | 0 => some (7, 0) | 1 => some (4, 0) | 2 => some (8, a) | 3 => some (8, b) | 4 => some (6, 0) | 5 => some (3, 0) | 6 => some (38, 0) | 7 => some (9, 0) | 8 => some (5, 0) | 9 => some (0, 0) | _ => none)
  | 11 => (match i with | 0 => some (39, 0) | 1 => some (40, 0) | 5 => some (41, 0) | 6 => some (42, 0) | 8 => some (43, 0) | 9 => some (44, 0) | 11 => some (45, 0) | 13 => some (46, 0) | 14 => some (47, 0) | 15 => some (48, 0) | 23 => some (49, 0) | 25 => some (50, 0) | 27 => some (51, 0) | 29 => some (52, 0) | 31 => some (53, 0) | 34 => some (54, 0) | 35 => some (55, 0) | 36 => some (56, 0) | 37 => some (57, 0) | 39 => some (58, 0) | 40 => some (59, 0) | _ => none)
  | 16 => some (6, i + 1)
  | 36 => some (1, 23 + i)
  | 38 => some (2, i)
  | _ => none
/-- the launch, the first cell's address, slots and classes, the classes of rows, the addresses of the given rows (60 .. 63), the script -/
abbrev Ev : Type := Launch × Nat × va_G × (Nat → ClassId) × (Nat → Nat) × Nat × (Nat → Int32)
def ixq : List (Nat × Nat) → Nat × Nat → Nat
  | [], _ => 0
  | q :: r, p => if q = p then 0 else ixq r p + 1
def pos (k j : Nat) : Nat := ixq ids (k, j)
def idq (i : Nat) : Nat × Nat := ids.getD i (0, 0)
def lcq (E : Ev) (q : Nat × Nat) : Nat := if q.1 < 60 then E.2.1 + pos q.1 q.2 else E.2.2.2.2.1 q.1
def cv (E : Ev) : AV → Value
  | .inl x => .int x
  | .inr (.inl x) => .long x
  | .inr (.inr none) => .null
  | .inr (.inr (some q)) => .ref (lcq E q)
def ca (E : Ev) (t : Nat) : ClassId := E.2.2.2.1 t
/-- what a cell holds: of its row of references and its row of ints -/
def ent (E : Ev) (k : Nat) (Rr : Nat → Option (Nat × Nat)) (hr : Nat → Int32) : va_E := match shp k with
  | 0 => .inr (k, (List.range (nf k)).map (fun i => if isr k i = true then va_rf ((Rr i).map (lcq E)) else .int (hr i)))
  | 1 => .inl (ca E 0, nf k, .inl hr)
  | 2 => .inl (ca E 1, nf k, .inl hr)
  | t + 3 => .inl (ca E (t + 2), nf k, .inr (.inr (.inr (.inr (fun i => (Rr i).map (lcq E))))))
def wsl (E : Ev) (n : Nat) (R : RF) (h : HF) : va_W := (List.range n).map (fun i => (E.2.1 + i, ent E (idq i).1 (R (idq i).1 (idq i).2) (h (idq i).1 (idq i).2)))
def Rp (E : Ev) (n : Nat) (R : RF) (h : HF) (H : Heap) : Prop := va_P E.2.2.1 vwCl (wsl E n R h) H
def fA (E : Ev) : Nat → Prop := fun q => E.2.1 ≤ q
theorem pos_all : ∀ k, k < 60 → ∀ j, j < cnt k → pos k j < 243 ∧ idq (pos k j) = (k, j) := by decide +kernel
theorem pos_idq : ∀ i, i < 243 → pos (idq i).1 (idq i).2 = i ∧ (idq i).1 < 60 := by decide +kernel
theorem wsl_get {E : Ev} {n i : Nat} {R : RF} {h : HF} (hi : i < n) : (wsl E n R h)[i]? = some (E.2.1 + i, ent E (idq i).1 (R (idq i).1 (idq i).2) (h (idq i).1 (idq i).2)) := by
  simp [wsl, hi]
theorem wsl_lt {E : Ev} {n i : Nat} {R : RF} {h : HF} {q : Nat × va_E} (hq : (wsl E n R h)[i]? = some q) : i < n ∧ q.1 = E.2.1 + i := by
  have hi : i < n := by
    have h1 := (List.getElem?_eq_some_iff.mp hq).1
    simpa [wsl] using h1
  rw [wsl_get hi] at hq
  cases hq
  exact ⟨hi, rfl⟩
theorem wsl_D {E : Ev} {n : Nat} {R : RF} {h : HF} : va_D (fA E) (wsl E n R h) := by
  refine ⟨fun i j p q hp hq e => ?_, fun k q hq => ?_⟩
  · have a := (wsl_lt hp).2
    have b := (wsl_lt hq).2
    omega
  · show E.2.1 ≤ q.1
    rw [(wsl_lt hq).2]
    omega
/-- a cell that there is, at its place -/
theorem wsl_at {E : Ev} {n k j : Nat} {R : RF} {h : HF} (hk : k < 60) (hj : j < cnt k) (hn : pos k j < n) : (wsl E n R h)[pos k j]? = some (lcq E (k, j), ent E k (R k j) (h k j)) := by
  rw [wsl_get hn, (pos_all k hk j hj).2]
  simp [lcq, hk]
theorem wsl_set {E : Ev} {n k j : Nat} {R R' : RF} {h h' : HF} (hk : k < 60) (hj : j < cnt k) (hn : pos k j < n) (hN : n ≤ 243) (ho : ∀ k' j', ¬ (k' = k ∧ j' = j) → R' k' j' = R k' j' ∧ h' k' j' = h k' j') :
    (wsl E n R h).set (pos k j) (lcq E (k, j), ent E k (R' k j) (h' k j)) = wsl E n R' h' := by
  apply List.ext_getElem?
  intro i
  by_cases hi : i < n
  · by_cases e : i = pos k j
    · subst e
      rw [List.getElem?_set_self (by simpa [wsl] using hi), wsl_at hk hj hn]
    · rw [List.getElem?_set_ne (fun z => e z.symm), wsl_get hi, wsl_get hi]
      have hne : ¬ ((idq i).1 = k ∧ (idq i).2 = j) := fun z => e (by rw [← (pos_idq i (by omega)).1, z.1, z.2])
      rw [(ho _ _ hne).1, (ho _ _ hne).2]
  · rw [List.getElem?_eq_none (by simp [wsl]; omega), List.getElem?_eq_none (by simp [wsl]; omega)]
/-- how many slots the first n cells have -/
def sl : Nat → Nat
  | 0 => 0
  | n + 1 => sl n + nf (idq n).1
theorem sl_mono {a b : Nat} (h : a ≤ b) : sl a ≤ sl b := by
  induction h with
  | refl => exact Nat.le_refl _
  | step _ ih => exact Nat.le_trans ih (Nat.le_add_right _ _)
def put (h : HF) (k j i : Nat) (v : Int32) : HF := fun k' j' i' => if k' = k then (if i' = i then (if j' = j then v else h k' j' i') else h k' j' i') else h k' j' i'
def putR (R : RF) (k j i : Nat) (v : Option (Nat × Nat)) : RF := fun k' j' i' => if k' = k then (if i' = i then (if j' = j then v else R k' j' i') else R k' j' i') else R k' j' i'
theorem put_off {h : HF} {k j i k' j' : Nat} {v : Int32} (hn : ¬ (k' = k ∧ j' = j)) : put h k j i v k' j' = h k' j' := by
  funext i'
  simp only [put]
  by_cases a : k' = k
  · have b : ¬ j' = j := fun z => hn ⟨a, z⟩
    simp [a, b]
  · simp [a]
theorem put_on {h : HF} {k j i : Nat} {v : Int32} : put h k j i v k j = upd (h k j) i v := by
  funext i'
  simp only [put, upd]
  by_cases a : i' = i <;> simp [a]
theorem putR_off {R : RF} {k j i k' j' : Nat} {v : Option (Nat × Nat)} (hn : ¬ (k' = k ∧ j' = j)) : putR R k j i v k' j' = R k' j' := by
  funext i'
  simp only [putR]
  by_cases a : k' = k
  · have b : ¬ j' = j := fun z => hn ⟨a, z⟩
    simp [a, b]
  · simp [a]
theorem putR_on {R : RF} {k j i : Nat} {v : Option (Nat × Nat)} : putR R k j i v k j = va_up (R k j) i v := by
  funext i'
  simp only [putR, va_up]
  by_cases a : i' = i <;> simp [a]
/-- the words that hold however far the tables are warm -/
def tb : List Cond := lw_tbl.filter goodWord
theorem tb_good : ∀ w ∈ tb, (w.onTables && w.keeps) = true ∨ ∃ ty, w = .arrayClass ty := fun w h => good_of_word (List.mem_filter.mp h).2
/-- links of private constructors, and the rows of objects: they are carried beside -/
def nestW : List Cond := tables_1.filter (fun w => match w with | .methodLinkNest _ _ _ _ => true | _ => false)
def numV : List Int32 := [2, 3, 3, 1, 2]
def lowV : List Int32 := [0, 0, 0, 0, 0, 0, 0, 1, 0, 1, 0, 0, 0, 1, 0]
def higV : List Int32 := [999, 99, 0, 99, 9, 9, 999, 99, 99, 99, 0, 0, 99, 99, 0]
def tys (E : Ev) : List (ClassId × FieldType) := [(ca E 0, .int), (ca E 1, .boolean), (ca E 2, .object "SiegePlate$Siege"), (ca E 3, .object "SiegePlate$Camp"), (ca E 4, .object "SiegePlate$Image")]
/-- a given row of ints: a static's, which is a reference to it -/
def Gr (E : Ev) (nm : String) (k : Nat) (xs : List Int32) (U : State) (H : Heap) : Prop := va_Z "SiegePlate$Reader" nm "[I" (.ref (E.2.2.2.2.1 k)) (fA E) U H ∧ va_T .int (E.2.2.2.2.1 k) xs.length (fun j => .int (xs.getD j 0)) (fA E) U H
/-- what holds of the tables and of the given rows, wherever a method begins -/
def En (E : Ev) (U : State) (H : Heap) : Prop := va_K E.2.2.1 vwCl (tys E) U ∧ (∀ w ∈ nestW, va_Nw w U) ∧ (va_AO "SiegePlate$Siege" U ∧ va_AO "SiegePlate$Camp" U ∧ va_AO "SiegePlate$Image" U) ∧ Gr E "NUMBERS" 60 numV U H ∧ Gr E "LOWEST" 61 lowV U H ∧ Gr E "HIGHEST" 62 higV U H
theorem nest_is {w : Cond} (h : w ∈ nestW) : ∃ a i x b, w = .methodLinkNest a i x b := by
  have h2 := (List.mem_filter.mp h).2
  cases w <;> first | exact ⟨_, _, _, _, rfl⟩ | cases h2
theorem Gr.go {E : Ev} {nm : String} {k : Nat} {xs : List Int32} {u U : State} {H H1 : Heap} (hvm : u.vm.Alike U.vm) (hq : ∀ a : Nat, a < H.size → ¬ fA E a → H1[a]? = H[a]?) (h : Gr E nm k xs u H) : Gr E nm k xs U H1 := ⟨(h.1.kept hq).moved hvm, (h.2.kept hq).moved hvm⟩
theorem En.warm {E : Ev} {u U : State} {H H1 : Heap} (hW : u.WarmedH U.vm) (hq : ∀ a : Nat, a < H.size → ¬ fA E a → H1[a]? = H[a]?) (h : En E u H) : En E U H1 := by
  obtain ⟨h1, h2, ⟨h3, h4, h5⟩, h6, h7, h8⟩ := h
  have hA := hW.alike
  refine ⟨h1.moved hA, fun w hw => ?_, ⟨h3.moved hA, h4.moved hA, h5.moved hA⟩, h6.go hA hq, h7.go hA hq, h8.go hA hq⟩
  obtain ⟨a, i, x, b, rfl⟩ := nest_is hw
  exact va_Nw.warmM hW (h2 _ hw)
theorem En.same {E : Ev} {u U : State} {H : Heap} (hv : u.vm = U.vm) (h : En E u H) : En E U H := by
  obtain ⟨h1, h2, ⟨h3, h4, h5⟩, h6, h7, h8⟩ := h
  have hA : u.vm.Alike U.vm := by rw [hv]; exact Vm.Alike.refl _
  refine ⟨h1.moved hA, fun w hw => ?_, ⟨h3.moved hA, h4.moved hA, h5.moved hA⟩, h6.go hA (fun _ _ _ => rfl), h7.go hA (fun _ _ _ => rfl), h8.go hA (fun _ _ _ => rfl)⟩
  obtain ⟨a, i, x, b, rfl⟩ := nest_is hw
  exact va_Nw.same rfl hv (h2 _ hw)
