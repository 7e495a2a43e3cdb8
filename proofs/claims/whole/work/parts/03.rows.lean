/-- program, env, room, start, method, arguments, below, method's record, code, cells that stood at the start -/
abbrev Gv : Type := Program × Env × Room × State × MethodId × Array Value × List Frame × Method × Code × Nat
abbrev gp (G : Gv) : Program := G.1
abbrev ge (G : Gv) : Env := G.2.1
abbrev gR (G : Gv) : Room := G.2.2.1
abbrev gs (G : Gv) : State := G.2.2.2.1
abbrev gm (G : Gv) : MethodId := G.2.2.2.2.1
abbrev ga (G : Gv) : Array Value := G.2.2.2.2.2.1
abbrev gb (G : Gv) : List Frame := G.2.2.2.2.2.2.1
abbrev gme (G : Gv) : Method := G.2.2.2.2.2.2.2.1
abbrev gc (G : Gv) : Code := G.2.2.2.2.2.2.2.2.1
abbrev gn (G : Gv) : Nat := G.2.2.2.2.2.2.2.2.2
def lvl (E : Ev) : Nat → List (Option AV) → List (Nat × Value)
  | _, [] => []
  | i, none :: r => lvl E (i + 1) r
  | i, some v :: r => (i, cv E v) :: lvl E (i + 1) r
theorem lvl_mem {E : Ev} {q : Nat × Value} : ∀ {b : Nat} {L : List (Option AV)}, q ∈ lvl E b L ↔ ∃ i v, L[i]? = some (some v) ∧ q = (b + i, cv E v)
  | b, [] => by simp [lvl]
  | b, none :: r => by
    rw [lvl, lvl_mem (b := b + 1) (L := r)]
    constructor
    · rintro ⟨i, v, h1, h2⟩
      exact ⟨i + 1, v, by simpa using h1, by rw [h2]; congr 1; omega⟩
    · rintro ⟨i, v, h1, h2⟩
      cases i with
      | zero => simp at h1
      | succ i => exact ⟨i, v, by simpa using h1, by rw [h2]; congr 1; omega⟩
  | b, some w :: r => by
    rw [lvl, List.mem_cons, lvl_mem (b := b + 1) (L := r)]
    constructor
    · rintro (h | ⟨i, v, h1, h2⟩)
      · exact ⟨0, w, by simp, by rw [h]; rfl⟩
      · exact ⟨i + 1, v, by simpa using h1, by rw [h2]; congr 1; omega⟩
    · rintro ⟨i, v, h1, h2⟩
      cases i with
      | zero =>
        left
        have e : w = v := by simpa using h1
        rw [h2, e]; rfl
      | succ i => exact Or.inr ⟨i, v, by simpa using h1, by rw [h2]; congr 1; omega⟩
def lok (E : Ev) (c : Code) (ls : Array Slot) (L : List (Option AV)) : Prop := L.length ≤ c.maxLocals ∧ lv_has ls c.maxLocals (lvl E 0 L)
theorem lok_at {E : Ev} {c : Code} {ls : Array Slot} {L : List (Option AV)} {i : Nat} {v : AV} (h : lok E c ls L) (hv : L[i]? = some (some v)) : ls[i]? = some (.val (cv E v)) :=
  h.2.2.2 (i, cv E v) (lvl_mem.mpr ⟨i, v, hv, by rw [Nat.zero_add]⟩)
/-- L' is L with v at i, which kills no long ahead of it -/
def SL (L : List (Option AV)) (i : Nat) (v : AV) (L' : List (Option AV)) : Prop := L' = L.set i (some v) ∧ i < L.length ∧ ∀ w j, i = j + 1 → L[j]? = some (some w) → ∀ y, w ≠ aL y
/-- L' is L with the long v at i -/
def SL2 (L : List (Option AV)) (i : Nat) (v : AV) (L' : List (Option AV)) : Prop := L' = (L.set i (some v)).set (i + 1) none ∧ i + 1 < L.length ∧ ∀ w j, i = j + 1 → L[j]? = some (some w) → ∀ y, w ≠ aL y
def nlg : Option AV → Bool
  | some (.inr (.inl _)) => false
  | _ => true
theorem nlg_ne {w : AV} (h : nlg (some w) = true) (y : Int64) : w ≠ aL y := by
  intro e
  subst e
  cases h
theorem cv_cat {E : Ev} {v : AV} (h : ∀ y, v ≠ aL y) : (cv E v).category = 1 := by
  match v, h with
  | .inl x, _ => rfl
  | .inr (.inl x), h => exact absurd rfl (h x)
  | .inr (.inr none), _ => rfl
  | .inr (.inr (some q)), _ => rfl
theorem lok_set {E : Ev} {c : Code} {ls : Array Slot} {L L' : List (Option AV)} {i : Nat} {v : AV} (h : lok E c ls L) (hs : SL L i v L') (hv : ∀ y, v ≠ aL y) : ∃ ls', storeLocals ls i (cv E v) = some ls' ∧ lok E c ls' L' := by
  obtain ⟨e, hi, hn⟩ := hs
  obtain ⟨ls', a, b⟩ := lv_store1 (v := cv E v) h.2 (Nat.lt_of_lt_of_le hi h.1) (cv_cat hv)
  refine ⟨ls', a, by rw [e, List.length_set]; exact h.1, b.1, b.2.1, fun q hq => b.2.2 q ?_⟩
  obtain ⟨j, w, h1, h2⟩ := lvl_mem.mp hq
  rw [Nat.zero_add] at h2
  subst h2
  rw [e] at h1
  by_cases hj : j = i
  · subst hj
    rw [List.getElem?_set_self hi] at h1
    cases h1
    exact List.mem_cons_self
  · rw [List.getElem?_set_ne (fun z => hj z.symm)] at h1
    refine List.mem_cons_of_mem _ (List.mem_filter.mpr ⟨lvl_mem.mpr ⟨j, w, h1, by rw [Nat.zero_add]⟩, ?_⟩)
    simp only [Bool.and_eq_true, Bool.not_eq_true', beq_eq_false_iff_ne, ne_eq, Bool.and_eq_false_iff]
    refine ⟨hj, ?_⟩
    by_cases hz : j + 1 = i
    · right
      rw [cv_cat (hn w j hz.symm h1)]
      omega
    · left
      exact hz
theorem lok_set2 {E : Ev} {c : Code} {ls : Array Slot} {L L' : List (Option AV)} {i : Nat} {x : Int64} (h : lok E c ls L) (hs : SL2 L i (aL x) L') : ∃ ls', storeLocals ls i (.long x) = some ls' ∧ lok E c ls' L' := by
  obtain ⟨e, hi, hn⟩ := hs
  obtain ⟨ls', a, b⟩ := lv_store2 (v := .long x) h.2 (Nat.lt_of_lt_of_le hi h.1) rfl
  refine ⟨ls', a, by rw [e, List.length_set, List.length_set]; exact h.1, b.1, b.2.1, fun q hq => b.2.2 q ?_⟩
  obtain ⟨j, w, h1, h2⟩ := lvl_mem.mp hq
  rw [Nat.zero_add] at h2
  subst h2
  rw [e] at h1
  by_cases hj1 : j = i + 1
  · subst hj1
    rw [List.getElem?_set_self (by rw [List.length_set]; exact hi)] at h1
    cases h1
  · rw [List.getElem?_set_ne (fun z => hj1 z.symm)] at h1
    by_cases hj : j = i
    · subst hj
      rw [List.getElem?_set_self (by omega)] at h1
      cases h1
      exact List.mem_cons_self
    · rw [List.getElem?_set_ne (fun z => hj z.symm)] at h1
      refine List.mem_cons_of_mem _ (List.mem_filter.mpr ⟨lvl_mem.mpr ⟨j, w, h1, by rw [Nat.zero_add]⟩, ?_⟩)
      simp only [Bool.and_eq_true, Bool.not_eq_true', beq_eq_false_iff_ne, ne_eq, Bool.and_eq_false_iff]
      refine ⟨hj, hj1, ?_⟩
      by_cases hz : j + 1 = i
      · right
        rw [cv_cat (hn w j hz.symm h1)]
        omega
      · left
        exact hz
theorem st0 {a0 : Option AV} {r : List (Option AV)} {v : AV} : SL (a0 :: r) 0 v (some v :: r) := ⟨rfl, Nat.zero_lt_succ _, fun _ _ h => by cases h⟩
theorem st1 {a0 a1 : Option AV} {r : List (Option AV)} {v : AV} (hn : nlg a0 = true := by rfl) : SL (a0 :: a1 :: r) 1 v (a0 :: some v :: r) := ⟨rfl, by simp, fun w j h h1 => by
  have e : j = 0 := by omega
  subst e
  have e2 : a0 = some w := by simpa using h1
  subst e2
  exact nlg_ne hn⟩
theorem st2 {a0 a1 a2 : Option AV} {r : List (Option AV)} {v : AV} (hn : nlg a1 = true := by rfl) : SL (a0 :: a1 :: a2 :: r) 2 v (a0 :: a1 :: some v :: r) := ⟨rfl, by simp, fun w j h h1 => by
  have e : j = 1 := by omega
  subst e
  have e2 : a1 = some w := by simpa using h1
  subst e2
  exact nlg_ne hn⟩
theorem st3 {a0 a1 a2 a3 : Option AV} {r : List (Option AV)} {v : AV} (hn : nlg a2 = true := by rfl) : SL (a0 :: a1 :: a2 :: a3 :: r) 3 v (a0 :: a1 :: a2 :: some v :: r) := ⟨rfl, by simp, fun w j h h1 => by
  have e : j = 2 := by omega
  subst e
  have e2 : a2 = some w := by simpa using h1
  subst e2
  exact nlg_ne hn⟩
theorem st4 {a0 a1 a2 a3 a4 : Option AV} {r : List (Option AV)} {v : AV} (hn : nlg a3 = true := by rfl) : SL (a0 :: a1 :: a2 :: a3 :: a4 :: r) 4 v (a0 :: a1 :: a2 :: a3 :: some v :: r) := ⟨rfl, by simp, fun w j h h1 => by
  have e : j = 3 := by omega
  subst e
  have e2 : a3 = some w := by simpa using h1
  subst e2
  exact nlg_ne hn⟩
theorem st5 {a0 a1 a2 a3 a4 a5 : Option AV} {r : List (Option AV)} {v : AV} (hn : nlg a4 = true := by rfl) : SL (a0 :: a1 :: a2 :: a3 :: a4 :: a5 :: r) 5 v (a0 :: a1 :: a2 :: a3 :: a4 :: some v :: r) := ⟨rfl, by simp, fun w j h h1 => by
  have e : j = 4 := by omega
  subst e
  have e2 : a4 = some w := by simpa using h1
  subst e2
  exact nlg_ne hn⟩
theorem st6 {a0 a1 a2 a3 a4 a5 a6 : Option AV} {r : List (Option AV)} {v : AV} (hn : nlg a5 = true := by rfl) : SL (a0 :: a1 :: a2 :: a3 :: a4 :: a5 :: a6 :: r) 6 v (a0 :: a1 :: a2 :: a3 :: a4 :: a5 :: some v :: r) := ⟨rfl, by simp, fun w j h h1 => by
  have e : j = 5 := by omega
  subst e
  have e2 : a5 = some w := by simpa using h1
  subst e2
  exact nlg_ne hn⟩
theorem st7 {a0 a1 a2 a3 a4 a5 a6 a7 : Option AV} {r : List (Option AV)} {v : AV} (hn : nlg a6 = true := by rfl) : SL (a0 :: a1 :: a2 :: a3 :: a4 :: a5 :: a6 :: a7 :: r) 7 v (a0 :: a1 :: a2 :: a3 :: a4 :: a5 :: a6 :: some v :: r) := ⟨rfl, by simp, fun w j h h1 => by
  have e : j = 6 := by omega
  subst e
  have e2 : a6 = some w := by simpa using h1
  subst e2
  exact nlg_ne hn⟩
theorem st8 {a0 a1 a2 a3 a4 a5 a6 a7 a8 : Option AV} {r : List (Option AV)} {v : AV} (hn : nlg a7 = true := by rfl) : SL (a0 :: a1 :: a2 :: a3 :: a4 :: a5 :: a6 :: a7 :: a8 :: r) 8 v (a0 :: a1 :: a2 :: a3 :: a4 :: a5 :: a6 :: a7 :: some v :: r) := ⟨rfl, by simp, fun w j h h1 => by
  have e : j = 7 := by omega
  subst e
  have e2 : a7 = some w := by simpa using h1
  subst e2
  exact nlg_ne hn⟩
theorem st9 {a0 a1 a2 a3 a4 a5 a6 a7 a8 a9 : Option AV} {r : List (Option AV)} {v : AV} (hn : nlg a8 = true := by rfl) : SL (a0 :: a1 :: a2 :: a3 :: a4 :: a5 :: a6 :: a7 :: a8 :: a9 :: r) 9 v (a0 :: a1 :: a2 :: a3 :: a4 :: a5 :: a6 :: a7 :: a8 :: some v :: r) := ⟨rfl, by simp, fun w j h h1 => by
  have e : j = 8 := by omega
  subst e
  have e2 : a8 = some w := by simpa using h1
  subst e2
  exact nlg_ne hn⟩
theorem sl0 {a0 a1 : Option AV} {r : List (Option AV)} {v : AV} : SL2 (a0 :: a1 :: r) 0 v (some v :: none :: r) := ⟨rfl, by simp, fun _ _ h => by cases h⟩
theorem sl1 {a0 a1 a2 : Option AV} {r : List (Option AV)} {v : AV} (hn : nlg a0 = true := by rfl) : SL2 (a0 :: a1 :: a2 :: r) 1 v (a0 :: some v :: none :: r) := ⟨rfl, by simp, fun w j h h1 => by
  have e : j = 0 := by omega
  subst e
  have e2 : a0 = some w := by simpa using h1
  subst e2
  exact nlg_ne hn⟩
theorem sl2 {a0 a1 a2 a3 : Option AV} {r : List (Option AV)} {v : AV} (hn : nlg a1 = true := by rfl) : SL2 (a0 :: a1 :: a2 :: a3 :: r) 2 v (a0 :: a1 :: some v :: none :: r) := ⟨rfl, by simp, fun w j h h1 => by
  have e : j = 1 := by omega
  subst e
  have e2 : a1 = some w := by simpa using h1
  subst e2
  exact nlg_ne hn⟩
theorem sl3 {a0 a1 a2 a3 a4 : Option AV} {r : List (Option AV)} {v : AV} (hn : nlg a2 = true := by rfl) : SL2 (a0 :: a1 :: a2 :: a3 :: a4 :: r) 3 v (a0 :: a1 :: a2 :: some v :: none :: r) := ⟨rfl, by simp, fun w j h h1 => by
  have e : j = 2 := by omega
  subst e
  have e2 : a2 = some w := by simpa using h1
  subst e2
  exact nlg_ne hn⟩
theorem sl4 {a0 a1 a2 a3 a4 a5 : Option AV} {r : List (Option AV)} {v : AV} (hn : nlg a3 = true := by rfl) : SL2 (a0 :: a1 :: a2 :: a3 :: a4 :: a5 :: r) 4 v (a0 :: a1 :: a2 :: a3 :: some v :: none :: r) := ⟨rfl, by simp, fun w j h h1 => by
  have e : j = 3 := by omega
  subst e
  have e2 : a3 = some w := by simpa using h1
  subst e2
  exact nlg_ne hn⟩
theorem sl5 {a0 a1 a2 a3 a4 a5 a6 : Option AV} {r : List (Option AV)} {v : AV} (hn : nlg a4 = true := by rfl) : SL2 (a0 :: a1 :: a2 :: a3 :: a4 :: a5 :: a6 :: r) 5 v (a0 :: a1 :: a2 :: a3 :: a4 :: some v :: none :: r) := ⟨rfl, by simp, fun w j h h1 => by
  have e : j = 4 := by omega
  subst e
  have e2 : a4 = some w := by simpa using h1
  subst e2
  exact nlg_ne hn⟩
theorem sl6 {a0 a1 a2 a3 a4 a5 a6 a7 : Option AV} {r : List (Option AV)} {v : AV} (hn : nlg a5 = true := by rfl) : SL2 (a0 :: a1 :: a2 :: a3 :: a4 :: a5 :: a6 :: a7 :: r) 6 v (a0 :: a1 :: a2 :: a3 :: a4 :: a5 :: some v :: none :: r) := ⟨rfl, by simp, fun w j h h1 => by
  have e : j = 5 := by omega
  subst e
  have e2 : a5 = some w := by simpa using h1
  subst e2
  exact nlg_ne hn⟩
theorem sl7 {a0 a1 a2 a3 a4 a5 a6 a7 a8 : Option AV} {r : List (Option AV)} {v : AV} (hn : nlg a6 = true := by rfl) : SL2 (a0 :: a1 :: a2 :: a3 :: a4 :: a5 :: a6 :: a7 :: a8 :: r) 7 v (a0 :: a1 :: a2 :: a3 :: a4 :: a5 :: a6 :: some v :: none :: r) := ⟨rfl, by simp, fun w j h h1 => by
  have e : j = 6 := by omega
  subst e
  have e2 : a6 = some w := by simpa using h1
  subst e2
  exact nlg_ne hn⟩
theorem sl8 {a0 a1 a2 a3 a4 a5 a6 a7 a8 a9 : Option AV} {r : List (Option AV)} {v : AV} (hn : nlg a7 = true := by rfl) : SL2 (a0 :: a1 :: a2 :: a3 :: a4 :: a5 :: a6 :: a7 :: a8 :: a9 :: r) 8 v (a0 :: a1 :: a2 :: a3 :: a4 :: a5 :: a6 :: a7 :: some v :: none :: r) := ⟨rfl, by simp, fun w j h h1 => by
  have e : j = 7 := by omega
  subst e
  have e2 : a7 = some w := by simpa using h1
  subst e2
  exact nlg_ne hn⟩
/-- at pc, with these locals, this stack, n cells made, references R and ints h: the machine comes to Q -/
def Wa (E : Ev) (G : Gv) (n : Nat) (R : RF) (h : HF) (Q : State → Prop) (pc : Nat) (L : List (Option AV)) (st : List AV) : Prop :=
  ∀ (H : Heap) (locs : List Loc) (ls : Array Slot), Rp E n R h H → va_S (fA E) (gs G).heap H locs → lok E (gc G) ls L →
    W (gp G) E.1 (ge G) (gR G) (gs G) (gm G) (ga G) (gb G) (gme G) (gc G) H locs (n - gn G) (sl n - sl (gn G)) Q (F0 (gm G) pc ls (st.map (cv E)))
/-- what a method's walk may use -/
def Cx (E : Ev) (G : Gv) (d : Nat) (cc : ByteArray) (own : String) (nm : Nat) : Prop :=
  (gp G).tables.exec = Jvm.exec ∧ (gc G).code = cc ∧ (gs G).vm.findClass own = some (gm G).cls ∧ (∀ w ∈ tb, w.before (ga G) (gs G) = true) ∧ En E (gs G) (gs G).heap ∧ (gs G).heap.size = E.2.1 + gn G ∧
  (d ≤ (gR G).frames ∧ 30 * d ≤ (gR G).locals) ∧ (nm - gn G ≤ (gR G).cells ∧ sl nm - sl (gn G) ≤ (gR G).slots) ∧ (gn G ≤ nm ∧ nm ≤ 243) ∧ (gme G).locks = false
def Dc (cc : ByteArray) (pc : Nat) (i : Instr) (len pc' : Nat) : Prop := decode cc pc = .ok (i, len) ∧ pc + len = pc'
def Dj (cc : ByteArray) (pc : Nat) (i : Instr) (len pc' : Nat) (off : Int) (tgt : Nat) : Prop := decode cc pc = .ok (i, len) ∧ pc + len = pc' ∧ (pc : Int) + off = (tgt : Int)
section RW1
variable {E : Ev} {G : Gv} {n d nm pc pc' : Nat} {R : RF} {h : HF} {Q : State → Prop} {L L' : List (Option AV)} {st : List AV} {cc : ByteArray} {own : String}
theorem r_iload_n (C : Cx E G d cc own nm) {k : Fin 4} {x : Int32} (hd : Dc cc pc (.iload_n k) 1 pc') (hv : L[(k : Nat)]? = some (some (aI x))) (kk : Wa E G n R h Q pc' L (aI x :: st)) : Wa E G n R h Q pc L (st) := by
  obtain ⟨hd, rfl⟩ := hd
  intro H locs ls hP hS hl
  exact lv_iload_n C.1 C.2.1 hd rfl (lok_at hl hv) (kk H locs ls hP hS hl)
theorem r_iload (C : Cx E G d cc own nm) {i : Nat} {x : Int32} (hd : Dc cc pc (.iload i) 2 pc') (hv : L[i]? = some (some (aI x))) (kk : Wa E G n R h Q pc' L (aI x :: st)) : Wa E G n R h Q pc L (st) := by
  obtain ⟨hd, rfl⟩ := hd
  intro H locs ls hP hS hl
  exact lv_iload C.1 C.2.1 hd (lok_at hl hv) (kk H locs ls hP hS hl)
theorem r_lload_n (C : Cx E G d cc own nm) {k : Fin 4} {x : Int64} (hd : Dc cc pc (.lload_n k) 1 pc') (hv : L[(k : Nat)]? = some (some (aL x))) (kk : Wa E G n R h Q pc' L (aL x :: st)) : Wa E G n R h Q pc L (st) := by
  obtain ⟨hd, rfl⟩ := hd
  intro H locs ls hP hS hl
  exact lv_lload_n C.1 C.2.1 hd rfl (lok_at hl hv) (kk H locs ls hP hS hl)
theorem r_lload (C : Cx E G d cc own nm) {i : Nat} {x : Int64} (hd : Dc cc pc (.lload i) 2 pc') (hv : L[i]? = some (some (aL x))) (kk : Wa E G n R h Q pc' L (aL x :: st)) : Wa E G n R h Q pc L (st) := by
  obtain ⟨hd, rfl⟩ := hd
  intro H locs ls hP hS hl
  exact lv_lload C.1 C.2.1 hd (lok_at hl hv) (kk H locs ls hP hS hl)
theorem r_aload_n (C : Cx E G d cc own nm) {k : Fin 4} {a b : Nat} (hd : Dc cc pc (.aload_n k) 1 pc') (hv : L[(k : Nat)]? = some (some (aR a b))) (kk : Wa E G n R h Q pc' L (aR a b :: st)) : Wa E G n R h Q pc L (st) := by
  obtain ⟨hd, rfl⟩ := hd
  intro H locs ls hP hS hl
  exact lv_aload_n C.1 C.2.1 hd rfl (lok_at hl hv) (kk H locs ls hP hS hl)
theorem r_aload (C : Cx E G d cc own nm) {i a b : Nat} (hd : Dc cc pc (.aload i) 2 pc') (hv : L[i]? = some (some (aR a b))) (kk : Wa E G n R h Q pc' L (aR a b :: st)) : Wa E G n R h Q pc L (st) := by
  obtain ⟨hd, rfl⟩ := hd
  intro H locs ls hP hS hl
  exact lv_aload C.1 C.2.1 hd (lok_at hl hv) (kk H locs ls hP hS hl)
theorem r_iconst (C : Cx E G d cc own nm) {i : Int} {v : Int32} (hd : Dc cc pc (.iconst i) 1 pc') (hv : Int32.ofInt i = v) (kk : Wa E G n R h Q pc' L (aI v :: st)) : Wa E G n R h Q pc L (st) := by
  obtain ⟨hd, rfl⟩ := hd
  intro H locs ls hP hS hl
  exact lv_iconst C.1 C.2.1 hd hv (kk H locs ls hP hS hl)
theorem r_bipush (C : Cx E G d cc own nm) {i : Int} {v : Int32} (hd : Dc cc pc (.bipush i) 2 pc') (hv : (Int8.ofInt i).toInt32 = v) (kk : Wa E G n R h Q pc' L (aI v :: st)) : Wa E G n R h Q pc L (st) := by
  obtain ⟨hd, rfl⟩ := hd
  intro H locs ls hP hS hl
  exact lv_bipush C.1 C.2.1 hd hv (kk H locs ls hP hS hl)
theorem r_sipush (C : Cx E G d cc own nm) {i : Int} {v : Int32} (hd : Dc cc pc (.sipush i) 3 pc') (hv : (Int16.ofInt i).toInt32 = v) (kk : Wa E G n R h Q pc' L (aI v :: st)) : Wa E G n R h Q pc L (st) := by
  obtain ⟨hd, rfl⟩ := hd
  intro H locs ls hP hS hl
  exact lv_sipush C.1 C.2.1 hd hv (kk H locs ls hP hS hl)
theorem r_lconst (C : Cx E G d cc own nm) {i : Fin 2} {v : Int64} (hd : Dc cc pc (.lconst i) 1 pc') (hv : Int64.ofNat (i : Nat) = v) (kk : Wa E G n R h Q pc' L (aL v :: st)) : Wa E G n R h Q pc L (st) := by
  obtain ⟨hd, rfl⟩ := hd
  intro H locs ls hP hS hl
  exact lv_lconst C.1 C.2.1 hd hv (kk H locs ls hP hS hl)
theorem r_ldc (C : Cx E G d cc own nm) {i : Nat} {v : Int32} (hd : Dc cc pc (.ldc i) 2 pc') (hv : Cond.constant own i v ∈ tb) (kk : Wa E G n R h Q pc' L (aI v :: st)) : Wa E G n R h Q pc L (st) := by
  obtain ⟨hd, rfl⟩ := hd
  intro H locs ls hP hS hl
  exact lv_ldc C.1 C.2.1 C.2.2.1 (C.2.2.2.1 _ hv) hd (kk H locs ls hP hS hl)
theorem r_ldcw (C : Cx E G d cc own nm) {i : Nat} {v : Int32} (hd : Dc cc pc (.ldc_w i) 3 pc') (hv : Cond.constant own i v ∈ tb) (kk : Wa E G n R h Q pc' L (aI v :: st)) : Wa E G n R h Q pc L (st) := by
  obtain ⟨hd, rfl⟩ := hd
  intro H locs ls hP hS hl
  exact lv_ldcw C.1 C.2.1 C.2.2.1 (C.2.2.2.1 _ hv) hd (kk H locs ls hP hS hl)
theorem r_ldc2 (C : Cx E G d cc own nm) {i : Nat} {v : Int64} (hd : Dc cc pc (.ldc2_w i) 3 pc') (hv : Cond.constantLong own i v ∈ tb) (kk : Wa E G n R h Q pc' L (aL v :: st)) : Wa E G n R h Q pc L (st) := by
  obtain ⟨hd, rfl⟩ := hd
  intro H locs ls hP hS hl
  exact lv_ldc2 C.1 C.2.1 C.2.2.1 (C.2.2.2.1 _ hv) hd (kk H locs ls hP hS hl)
theorem r_iadd (C : Cx E G d cc own nm) {x y : Int32} (hd : Dc cc pc (.iadd) 1 pc')  (kk : Wa E G n R h Q pc' L (aI (x + y) :: st)) : Wa E G n R h Q pc L (aI y :: aI x :: st) := by
  obtain ⟨hd, rfl⟩ := hd
  intro H locs ls hP hS hl
  exact lv_iadd C.1 C.2.1 hd (kk H locs ls hP hS hl)
theorem r_isub (C : Cx E G d cc own nm) {x y : Int32} (hd : Dc cc pc (.isub) 1 pc')  (kk : Wa E G n R h Q pc' L (aI (x - y) :: st)) : Wa E G n R h Q pc L (aI y :: aI x :: st) := by
  obtain ⟨hd, rfl⟩ := hd
  intro H locs ls hP hS hl
  exact lv_isub C.1 C.2.1 hd (kk H locs ls hP hS hl)
theorem r_imul (C : Cx E G d cc own nm) {x y : Int32} (hd : Dc cc pc (.imul) 1 pc')  (kk : Wa E G n R h Q pc' L (aI (x * y) :: st)) : Wa E G n R h Q pc L (aI y :: aI x :: st) := by
  obtain ⟨hd, rfl⟩ := hd
  intro H locs ls hP hS hl
  exact lv_imul C.1 C.2.1 hd (kk H locs ls hP hS hl)
theorem r_iand (C : Cx E G d cc own nm) {x y : Int32} (hd : Dc cc pc (.iand) 1 pc')  (kk : Wa E G n R h Q pc' L (aI (x &&& y) :: st)) : Wa E G n R h Q pc L (aI y :: aI x :: st) := by
  obtain ⟨hd, rfl⟩ := hd
  intro H locs ls hP hS hl
  exact lv_iand C.1 C.2.1 hd (kk H locs ls hP hS hl)
theorem r_ior (C : Cx E G d cc own nm) {x y : Int32} (hd : Dc cc pc (.ior) 1 pc')  (kk : Wa E G n R h Q pc' L (aI (x ||| y) :: st)) : Wa E G n R h Q pc L (aI y :: aI x :: st) := by
  obtain ⟨hd, rfl⟩ := hd
  intro H locs ls hP hS hl
  exact lv_ior C.1 C.2.1 hd (kk H locs ls hP hS hl)
theorem r_ishl (C : Cx E G d cc own nm) {x y : Int32} (hd : Dc cc pc (.ishl) 1 pc')  (kk : Wa E G n R h Q pc' L (aI (x <<< (y &&& 31)) :: st)) : Wa E G n R h Q pc L (aI y :: aI x :: st) := by
  obtain ⟨hd, rfl⟩ := hd
  intro H locs ls hP hS hl
  exact lv_ishl C.1 C.2.1 hd (kk H locs ls hP hS hl)
theorem r_ishr (C : Cx E G d cc own nm) {x y : Int32} (hd : Dc cc pc (.ishr) 1 pc')  (kk : Wa E G n R h Q pc' L (aI (x >>> (y &&& 31)) :: st)) : Wa E G n R h Q pc L (aI y :: aI x :: st) := by
  obtain ⟨hd, rfl⟩ := hd
  intro H locs ls hP hS hl
  exact lv_ishr C.1 C.2.1 hd (kk H locs ls hP hS hl)
theorem r_idiv (C : Cx E G d cc own nm) {x y : Int32} (hd : Dc cc pc (.idiv) 1 pc') (hy : ¬ y = 0) (kk : Wa E G n R h Q pc' L (aI (x / y) :: st)) : Wa E G n R h Q pc L (aI y :: aI x :: st) := by
  obtain ⟨hd, rfl⟩ := hd
  intro H locs ls hP hS hl
  exact lv_idiv C.1 C.2.1 hd hy (kk H locs ls hP hS hl)
theorem r_irem (C : Cx E G d cc own nm) {x y : Int32} (hd : Dc cc pc (.irem) 1 pc') (hy : ¬ y = 0) (kk : Wa E G n R h Q pc' L (aI (x - x / y * y) :: st)) : Wa E G n R h Q pc L (aI y :: aI x :: st) := by
  obtain ⟨hd, rfl⟩ := hd
  intro H locs ls hP hS hl
  exact lv_irem C.1 C.2.1 hd hy (kk H locs ls hP hS hl)
theorem r_ladd (C : Cx E G d cc own nm) {x y : Int64} (hd : Dc cc pc (.ladd) 1 pc')  (kk : Wa E G n R h Q pc' L (aL (x + y) :: st)) : Wa E G n R h Q pc L (aL y :: aL x :: st) := by
  obtain ⟨hd, rfl⟩ := hd
  intro H locs ls hP hS hl
  exact lv_ladd C.1 C.2.1 hd (kk H locs ls hP hS hl)
theorem r_lsub (C : Cx E G d cc own nm) {x y : Int64} (hd : Dc cc pc (.lsub) 1 pc')  (kk : Wa E G n R h Q pc' L (aL (x - y) :: st)) : Wa E G n R h Q pc L (aL y :: aL x :: st) := by
  obtain ⟨hd, rfl⟩ := hd
  intro H locs ls hP hS hl
  exact lv_lsub C.1 C.2.1 hd (kk H locs ls hP hS hl)
theorem r_lmul (C : Cx E G d cc own nm) {x y : Int64} (hd : Dc cc pc (.lmul) 1 pc')  (kk : Wa E G n R h Q pc' L (aL (x * y) :: st)) : Wa E G n R h Q pc L (aL y :: aL x :: st) := by
  obtain ⟨hd, rfl⟩ := hd
  intro H locs ls hP hS hl
  exact lv_lmul C.1 C.2.1 hd (kk H locs ls hP hS hl)
theorem r_ldiv (C : Cx E G d cc own nm) {x y : Int64} (hd : Dc cc pc (.ldiv) 1 pc') (hy : ¬ y = 0) (kk : Wa E G n R h Q pc' L (aL (x / y) :: st)) : Wa E G n R h Q pc L (aL y :: aL x :: st) := by
  obtain ⟨hd, rfl⟩ := hd
  intro H locs ls hP hS hl
  exact lv_ldiv C.1 C.2.1 hd hy (kk H locs ls hP hS hl)
theorem r_lrem (C : Cx E G d cc own nm) {x y : Int64} (hd : Dc cc pc (.lrem) 1 pc') (hy : ¬ y = 0) (kk : Wa E G n R h Q pc' L (aL (x - x / y * y) :: st)) : Wa E G n R h Q pc L (aL y :: aL x :: st) := by
  obtain ⟨hd, rfl⟩ := hd
  intro H locs ls hP hS hl
  exact lv_lrem C.1 C.2.1 hd hy (kk H locs ls hP hS hl)
theorem r_i2l (C : Cx E G d cc own nm) {x : Int32} (hd : Dc cc pc (.i2l) 1 pc')  (kk : Wa E G n R h Q pc' L (aL x.toInt64 :: st)) : Wa E G n R h Q pc L (aI x :: st) := by
  obtain ⟨hd, rfl⟩ := hd
  intro H locs ls hP hS hl
  exact lv_i2l C.1 C.2.1 hd rfl (kk H locs ls hP hS hl)
theorem r_l2i (C : Cx E G d cc own nm) {x : Int64} (hd : Dc cc pc (.l2i) 1 pc')  (kk : Wa E G n R h Q pc' L (aI x.toInt32 :: st)) : Wa E G n R h Q pc L (aL x :: st) := by
  obtain ⟨hd, rfl⟩ := hd
  intro H locs ls hP hS hl
  exact lv_l2i C.1 C.2.1 hd rfl (kk H locs ls hP hS hl)
theorem r_lcmp (C : Cx E G d cc own nm) {x y : Int64} (hd : Dc cc pc (.lcmp) 1 pc')  (kk : Wa E G n R h Q pc' L (aI (lg_cmp x y) :: st)) : Wa E G n R h Q pc L (aL y :: aL x :: st) := by
  obtain ⟨hd, rfl⟩ := hd
  intro H locs ls hP hS hl
  exact W.lcmp C.1 C.2.1 hd (kk H locs ls hP hS hl)
theorem r_dup (C : Cx E G d cc own nm) {v : AV} (hd : Dc cc pc (.dup) 1 pc') (hv : nlg (some v) = true) (kk : Wa E G n R h Q pc' L (v :: v :: st)) : Wa E G n R h Q pc L (v :: st) := by
  obtain ⟨hd, rfl⟩ := hd
  intro H locs ls hP hS hl
  exact lv_dup C.1 C.2.1 hd (cv_cat (nlg_ne hv)) (kk H locs ls hP hS hl)
theorem r_dup2 (C : Cx E G d cc own nm) {v w : AV} (hd : Dc cc pc (.dup2) 1 pc') (hv : nlg (some v) = true) (hw : nlg (some w) = true) (kk : Wa E G n R h Q pc' L (v :: w :: v :: w :: st)) : Wa E G n R h Q pc L (v :: w :: st) := by
  obtain ⟨hd, rfl⟩ := hd
  intro H locs ls hP hS hl
  exact lv_dup2_11 C.1 C.2.1 hd (cv_cat (nlg_ne hv)) (cv_cat (nlg_ne hw)) (kk H locs ls hP hS hl)
theorem r_top {v w : AV} (e : v = w) (kk : Wa E G n R h Q pc L (w :: st)) : Wa E G n R h Q pc L (v :: st) := e ▸ kk
theorem r_iaddN (C : Cx E G d cc own nm) {a b : Nat} (hd : Dc cc pc .iadd 1 pc') (kk : Wa E G n R h Q pc' L (aI (nI (a + b)) :: st)) : Wa E G n R h Q pc L (aI (nI b) :: aI (nI a) :: st) := r_iadd C hd (by rw [nI_add]; exact kk)
theorem r_imulN (C : Cx E G d cc own nm) {a b : Nat} (hd : Dc cc pc .imul 1 pc') (kk : Wa E G n R h Q pc' L (aI (nI (a * b)) :: st)) : Wa E G n R h Q pc L (aI (nI b) :: aI (nI a) :: st) := r_imul C hd (by rw [pk_mul]; exact kk)
theorem r_isubN (C : Cx E G d cc own nm) {a b : Nat} (hd : Dc cc pc .isub 1 pc') (hb : b ≤ a) (kk : Wa E G n R h Q pc' L (aI (nI (a - b)) :: st)) : Wa E G n R h Q pc L (aI (nI b) :: aI (nI a) :: st) := r_isub C hd (by rw [pk_sub hb]; exact kk)
theorem r_istore_n (C : Cx E G d cc own nm) {k : Fin 4} {x : Int32} (hd : Dc cc pc (.istore_n k) 1 pc') (hs : SL L (k : Nat) (aI x) L') (kk : Wa E G n R h Q pc' L' st) : Wa E G n R h Q pc L (aI x :: st) := by
  obtain ⟨hd, rfl⟩ := hd
  intro H locs ls hP hS hl
  obtain ⟨ls', e, hl'⟩ := lok_set hl hs (fun y z => by cases z)
  intro T hT X
  obtain ⟨t, a1, b1⟩ := kk H locs ls' hP hS hl' T hT X
  refine ⟨t, ?_, b1⟩
  replace e : storeLocals ls (k : Nat) _ = some ls' := e
  simp only [cv] at e
  simp only [List.map_cons, cv]
  jvm_step X.here [X.here.top, ↓top_set X.here.top, C.1, C.2.1, hd, e, Value.isRef]
  exact a1
theorem r_istore (C : Cx E G d cc own nm) {i : Nat} {x : Int32} (hd : Dc cc pc (.istore i) 2 pc') (hs : SL L i (aI x) L') (kk : Wa E G n R h Q pc' L' st) : Wa E G n R h Q pc L (aI x :: st) := by
  obtain ⟨hd, rfl⟩ := hd
  intro H locs ls hP hS hl
  obtain ⟨ls', e, hl'⟩ := lok_set hl hs (fun y z => by cases z)
  intro T hT X
  obtain ⟨t, a1, b1⟩ := kk H locs ls' hP hS hl' T hT X
  refine ⟨t, ?_, b1⟩
  simp only [cv] at e
  simp only [List.map_cons, cv]
  jvm_step X.here [X.here.top, ↓top_set X.here.top, C.1, C.2.1, hd, e, Value.isRef]
  exact a1
theorem r_astore_n (C : Cx E G d cc own nm) {k : Fin 4} {a b : Nat} (hd : Dc cc pc (.astore_n k) 1 pc') (hs : SL L (k : Nat) (aR a b) L') (kk : Wa E G n R h Q pc' L' st) : Wa E G n R h Q pc L (aR a b :: st) := by
  obtain ⟨hd, rfl⟩ := hd
  intro H locs ls hP hS hl
  obtain ⟨ls', e, hl'⟩ := lok_set hl hs (fun y z => by cases z)
  intro T hT X
  obtain ⟨t, a1, b1⟩ := kk H locs ls' hP hS hl' T hT X
  refine ⟨t, ?_, b1⟩
  replace e : storeLocals ls (k : Nat) _ = some ls' := e
  simp only [cv] at e
  simp only [List.map_cons, cv]
  jvm_step X.here [X.here.top, ↓top_set X.here.top, C.1, C.2.1, hd, e, Value.isRef]
  exact a1
theorem r_astore (C : Cx E G d cc own nm) {i : Nat} {a b : Nat} (hd : Dc cc pc (.astore i) 2 pc') (hs : SL L i (aR a b) L') (kk : Wa E G n R h Q pc' L' st) : Wa E G n R h Q pc L (aR a b :: st) := by
  obtain ⟨hd, rfl⟩ := hd
  intro H locs ls hP hS hl
  obtain ⟨ls', e, hl'⟩ := lok_set hl hs (fun y z => by cases z)
  intro T hT X
  obtain ⟨t, a1, b1⟩ := kk H locs ls' hP hS hl' T hT X
  refine ⟨t, ?_, b1⟩
  simp only [cv] at e
  simp only [List.map_cons, cv]
  jvm_step X.here [X.here.top, ↓top_set X.here.top, C.1, C.2.1, hd, e, Value.isRef]
  exact a1
theorem r_lstore_n (C : Cx E G d cc own nm) {k : Fin 4} {x : Int64} (hd : Dc cc pc (.lstore_n k) 1 pc') (hs : SL2 L (k : Nat) (aL x) L') (kk : Wa E G n R h Q pc' L' st) : Wa E G n R h Q pc L (aL x :: st) := by
  obtain ⟨hd, rfl⟩ := hd
  intro H locs ls hP hS hl
  obtain ⟨ls', e, hl'⟩ := lok_set2 hl hs
  intro T hT X
  obtain ⟨t, a1, b1⟩ := kk H locs ls' hP hS hl' T hT X
  refine ⟨t, ?_, b1⟩
  simp only [List.map_cons, cv]
  jvm_step X.here [X.here.top, ↓top_set X.here.top, C.1, C.2.1, hd, e]
  exact a1
theorem r_iinc (C : Cx E G d cc own nm) {i : Nat} {m : Int} {x v : Int32} (hd : Dc cc pc (.iinc i m) 3 pc') (hx : L[i]? = some (some (aI x))) (hv : x + Int32.ofInt m = v) (hs : SL L i (aI v) L') (kk : Wa E G n R h Q pc' L' st) : Wa E G n R h Q pc L st := by
  obtain ⟨hd, rfl⟩ := hd
  subst hv
  intro H locs ls hP hS hl
  have hg := lok_at hl hx
  obtain ⟨ls', e, hl'⟩ := lok_set hl hs (fun y z => by cases z)
  intro T hT X
  obtain ⟨t, a1, b1⟩ := kk H locs ls' hP hS hl' T hT X
  refine ⟨t, ?_, b1⟩
  simp only [cv] at e hg
  jvm_step X.here [X.here.top, ↓top_set X.here.top, C.1, C.2.1, hd, hg, e]
  exact a1
theorem r_iincN (C : Cx E G d cc own nm) {i a : Nat} (hd : Dc cc pc (.iinc i 1) 3 pc') (hx : L[i]? = some (some (aI (nI a)))) (hs : SL L i (aI (nI (a + 1))) L') (kk : Wa E G n R h Q pc' L' st) : Wa E G n R h Q pc L st := r_iinc C hd hx (v := nI (a + 1)) (by rw [← nI_1]; rfl) hs kk
theorem r_if_eq (C : Cx E G d cc own nm) {x : Int32} {off : Int} {tgt : Nat} (hd : Dj cc pc (.ifCond .eq off) 3 pc' off tgt) (kt : x = 0 → Wa E G n R h Q tgt L st) (kf : ¬ x = 0 → Wa E G n R h Q pc' L st) : Wa E G n R h Q pc L (aI x :: st) := by
  obtain ⟨hd, rfl, ht⟩ := hd
  intro H locs ls hP hS hl
  exact lv_if_eq C.1 C.2.1 hd ht (fun c => kt c H locs ls hP hS hl) (fun c => kf c H locs ls hP hS hl)
theorem r_if_ne (C : Cx E G d cc own nm) {x : Int32} {off : Int} {tgt : Nat} (hd : Dj cc pc (.ifCond .ne off) 3 pc' off tgt) (kt : ¬ x = 0 → Wa E G n R h Q tgt L st) (kf : x = 0 → Wa E G n R h Q pc' L st) : Wa E G n R h Q pc L (aI x :: st) := by
  obtain ⟨hd, rfl, ht⟩ := hd
  intro H locs ls hP hS hl
  exact lv_if_ne C.1 C.2.1 hd ht (fun c => kt c H locs ls hP hS hl) (fun c => kf c H locs ls hP hS hl)
theorem r_if_lt (C : Cx E G d cc own nm) {x : Int32} {off : Int} {tgt : Nat} (hd : Dj cc pc (.ifCond .lt off) 3 pc' off tgt) (kt : x < 0 → Wa E G n R h Q tgt L st) (kf : ¬ x < 0 → Wa E G n R h Q pc' L st) : Wa E G n R h Q pc L (aI x :: st) := by
  obtain ⟨hd, rfl, ht⟩ := hd
  intro H locs ls hP hS hl
  exact lv_if_lt C.1 C.2.1 hd ht (fun c => kt c H locs ls hP hS hl) (fun c => kf c H locs ls hP hS hl)
theorem r_if_ge (C : Cx E G d cc own nm) {x : Int32} {off : Int} {tgt : Nat} (hd : Dj cc pc (.ifCond .ge off) 3 pc' off tgt) (kt : 0 ≤ x → Wa E G n R h Q tgt L st) (kf : ¬ 0 ≤ x → Wa E G n R h Q pc' L st) : Wa E G n R h Q pc L (aI x :: st) := by
  obtain ⟨hd, rfl, ht⟩ := hd
  intro H locs ls hP hS hl
  exact lv_if_ge C.1 C.2.1 hd ht (fun c => kt c H locs ls hP hS hl) (fun c => kf c H locs ls hP hS hl)
theorem r_if_gt (C : Cx E G d cc own nm) {x : Int32} {off : Int} {tgt : Nat} (hd : Dj cc pc (.ifCond .gt off) 3 pc' off tgt) (kt : 0 < x → Wa E G n R h Q tgt L st) (kf : ¬ 0 < x → Wa E G n R h Q pc' L st) : Wa E G n R h Q pc L (aI x :: st) := by
  obtain ⟨hd, rfl, ht⟩ := hd
  intro H locs ls hP hS hl
  exact lv_if_gt C.1 C.2.1 hd ht (fun c => kt c H locs ls hP hS hl) (fun c => kf c H locs ls hP hS hl)
theorem r_if_le (C : Cx E G d cc own nm) {x : Int32} {off : Int} {tgt : Nat} (hd : Dj cc pc (.ifCond .le off) 3 pc' off tgt) (kt : x ≤ 0 → Wa E G n R h Q tgt L st) (kf : ¬ x ≤ 0 → Wa E G n R h Q pc' L st) : Wa E G n R h Q pc L (aI x :: st) := by
  obtain ⟨hd, rfl, ht⟩ := hd
  intro H locs ls hP hS hl
  exact lv_if_le C.1 C.2.1 hd ht (fun c => kt c H locs ls hP hS hl) (fun c => kf c H locs ls hP hS hl)
theorem r_icmp_eq (C : Cx E G d cc own nm) {x y : Int32} {off : Int} {tgt : Nat} (hd : Dj cc pc (.if_icmp .eq off) 3 pc' off tgt) (kt : x = y → Wa E G n R h Q tgt L st) (kf : ¬ x = y → Wa E G n R h Q pc' L st) : Wa E G n R h Q pc L (aI y :: aI x :: st) := by
  obtain ⟨hd, rfl, ht⟩ := hd
  intro H locs ls hP hS hl
  exact lv_icmp_eq C.1 C.2.1 hd ht (fun c => kt c H locs ls hP hS hl) (fun c => kf c H locs ls hP hS hl)
theorem r_icmp_ne (C : Cx E G d cc own nm) {x y : Int32} {off : Int} {tgt : Nat} (hd : Dj cc pc (.if_icmp .ne off) 3 pc' off tgt) (kt : ¬ x = y → Wa E G n R h Q tgt L st) (kf : x = y → Wa E G n R h Q pc' L st) : Wa E G n R h Q pc L (aI y :: aI x :: st) := by
  obtain ⟨hd, rfl, ht⟩ := hd
  intro H locs ls hP hS hl
  exact lv_icmp_ne C.1 C.2.1 hd ht (fun c => kt c H locs ls hP hS hl) (fun c => kf c H locs ls hP hS hl)
theorem r_icmp_lt (C : Cx E G d cc own nm) {x y : Int32} {off : Int} {tgt : Nat} (hd : Dj cc pc (.if_icmp .lt off) 3 pc' off tgt) (kt : x < y → Wa E G n R h Q tgt L st) (kf : ¬ x < y → Wa E G n R h Q pc' L st) : Wa E G n R h Q pc L (aI y :: aI x :: st) := by
  obtain ⟨hd, rfl, ht⟩ := hd
  intro H locs ls hP hS hl
  exact lv_icmp_lt C.1 C.2.1 hd ht (fun c => kt c H locs ls hP hS hl) (fun c => kf c H locs ls hP hS hl)
theorem r_icmp_ge (C : Cx E G d cc own nm) {x y : Int32} {off : Int} {tgt : Nat} (hd : Dj cc pc (.if_icmp .ge off) 3 pc' off tgt) (kt : y ≤ x → Wa E G n R h Q tgt L st) (kf : ¬ y ≤ x → Wa E G n R h Q pc' L st) : Wa E G n R h Q pc L (aI y :: aI x :: st) := by
  obtain ⟨hd, rfl, ht⟩ := hd
  intro H locs ls hP hS hl
  exact lv_icmp_ge C.1 C.2.1 hd ht (fun c => kt c H locs ls hP hS hl) (fun c => kf c H locs ls hP hS hl)
theorem r_icmp_gt (C : Cx E G d cc own nm) {x y : Int32} {off : Int} {tgt : Nat} (hd : Dj cc pc (.if_icmp .gt off) 3 pc' off tgt) (kt : y < x → Wa E G n R h Q tgt L st) (kf : ¬ y < x → Wa E G n R h Q pc' L st) : Wa E G n R h Q pc L (aI y :: aI x :: st) := by
  obtain ⟨hd, rfl, ht⟩ := hd
  intro H locs ls hP hS hl
  exact lv_icmp_gt C.1 C.2.1 hd ht (fun c => kt c H locs ls hP hS hl) (fun c => kf c H locs ls hP hS hl)
theorem r_icmp_le (C : Cx E G d cc own nm) {x y : Int32} {off : Int} {tgt : Nat} (hd : Dj cc pc (.if_icmp .le off) 3 pc' off tgt) (kt : x ≤ y → Wa E G n R h Q tgt L st) (kf : ¬ x ≤ y → Wa E G n R h Q pc' L st) : Wa E G n R h Q pc L (aI y :: aI x :: st) := by
  obtain ⟨hd, rfl, ht⟩ := hd
  intro H locs ls hP hS hl
  exact lv_icmp_le C.1 C.2.1 hd ht (fun c => kt c H locs ls hP hS hl) (fun c => kf c H locs ls hP hS hl)
theorem r_icmpN_eq (C : Cx E G d cc own nm) {a b : Nat} {off : Int} {tgt : Nat} (hd : Dj cc pc (.if_icmp .eq off) 3 pc' off tgt) (ha : a < 2 ^ 31) (hb : b < 2 ^ 31) (kt : a = b → Wa E G n R h Q tgt L st) (kf : a ≠ b → Wa E G n R h Q pc' L st) : Wa E G n R h Q pc L (aI (nI b) :: aI (nI a) :: st) :=
  r_icmp_eq C hd (fun c => kt (by rw [nI_eq ha hb] at c; omega)) (fun c => kf (by rw [nI_eq ha hb] at c; omega))
theorem r_icmpN_ne (C : Cx E G d cc own nm) {a b : Nat} {off : Int} {tgt : Nat} (hd : Dj cc pc (.if_icmp .ne off) 3 pc' off tgt) (ha : a < 2 ^ 31) (hb : b < 2 ^ 31) (kt : a ≠ b → Wa E G n R h Q tgt L st) (kf : a = b → Wa E G n R h Q pc' L st) : Wa E G n R h Q pc L (aI (nI b) :: aI (nI a) :: st) :=
  r_icmp_ne C hd (fun c => kt (by rw [nI_eq ha hb] at c; omega)) (fun c => kf (by rw [nI_eq ha hb] at c; omega))
theorem r_icmpN_lt (C : Cx E G d cc own nm) {a b : Nat} {off : Int} {tgt : Nat} (hd : Dj cc pc (.if_icmp .lt off) 3 pc' off tgt) (ha : a < 2 ^ 31) (hb : b < 2 ^ 31) (kt : a < b → Wa E G n R h Q tgt L st) (kf : b ≤ a → Wa E G n R h Q pc' L st) : Wa E G n R h Q pc L (aI (nI b) :: aI (nI a) :: st) :=
  r_icmp_lt C hd (fun c => kt (by rw [nI_ltI ha hb] at c; omega)) (fun c => kf (by rw [nI_ltI ha hb] at c; omega))
theorem r_icmpN_ge (C : Cx E G d cc own nm) {a b : Nat} {off : Int} {tgt : Nat} (hd : Dj cc pc (.if_icmp .ge off) 3 pc' off tgt) (ha : a < 2 ^ 31) (hb : b < 2 ^ 31) (kt : b ≤ a → Wa E G n R h Q tgt L st) (kf : a < b → Wa E G n R h Q pc' L st) : Wa E G n R h Q pc L (aI (nI b) :: aI (nI a) :: st) :=
  r_icmp_ge C hd (fun c => kt (by rw [nI_leI hb ha] at c; omega)) (fun c => kf (by rw [nI_leI hb ha] at c; omega))
theorem r_icmpN_gt (C : Cx E G d cc own nm) {a b : Nat} {off : Int} {tgt : Nat} (hd : Dj cc pc (.if_icmp .gt off) 3 pc' off tgt) (ha : a < 2 ^ 31) (hb : b < 2 ^ 31) (kt : b < a → Wa E G n R h Q tgt L st) (kf : a ≤ b → Wa E G n R h Q pc' L st) : Wa E G n R h Q pc L (aI (nI b) :: aI (nI a) :: st) :=
  r_icmp_gt C hd (fun c => kt (by rw [nI_ltI hb ha] at c; omega)) (fun c => kf (by rw [nI_ltI hb ha] at c; omega))
theorem r_icmpN_le (C : Cx E G d cc own nm) {a b : Nat} {off : Int} {tgt : Nat} (hd : Dj cc pc (.if_icmp .le off) 3 pc' off tgt) (ha : a < 2 ^ 31) (hb : b < 2 ^ 31) (kt : a ≤ b → Wa E G n R h Q tgt L st) (kf : b < a → Wa E G n R h Q pc' L st) : Wa E G n R h Q pc L (aI (nI b) :: aI (nI a) :: st) :=
  r_icmp_le C hd (fun c => kt (by rw [nI_leI ha hb] at c; omega)) (fun c => kf (by rw [nI_leI ha hb] at c; omega))
theorem r_goto (C : Cx E G d cc own nm) {off : Int} {tgt : Nat} (hd : Dj cc pc (.goto off) 3 pc' off tgt) (kk : Wa E G n R h Q tgt L st) : Wa E G n R h Q pc L st := by
  obtain ⟨hd, rfl, ht⟩ := hd
  intro H locs ls hP hS hl
  exact lv_goto C.1 C.2.1 hd ht (kk H locs ls hP hS hl)
theorem r_tabOut (C : Cx E G d cc own nm) {x : Int32} {dflt lo hi : Int} {offs : Array Int} {len tgt : Nat} (hd : Dj cc pc (.tableswitch dflt lo hi offs) len pc' dflt tgt) (hx : x.toInt < lo ∨ hi < x.toInt) (kk : Wa E G n R h Q tgt L st) : Wa E G n R h Q pc L (aI x :: st) := by
  obtain ⟨hd, rfl, ht⟩ := hd
  intro H locs ls hP hS hl
  exact lv_tableOut C.1 C.2.1 hd hx ht (kk H locs ls hP hS hl)
theorem r_tabIn (C : Cx E G d cc own nm) {x : Int32} {dflt lo hi off : Int} {offs : Array Int} {len tgt : Nat} (hd : Dj cc pc (.tableswitch dflt lo hi offs) len pc' off tgt) (h1 : ¬ x.toInt < lo) (h2 : ¬ hi < x.toInt) (ho : offs[(x.toInt - lo).toNat]? = some off) (kk : Wa E G n R h Q tgt L st) : Wa E G n R h Q pc L (aI x :: st) := by
  obtain ⟨hd, rfl, ht⟩ := hd
  intro H locs ls hP hS hl
  exact lv_tableIn C.1 C.2.1 hd h1 h2 ho ht (kk H locs ls hP hS hl)
theorem r_look (C : Cx E G d cc own nm) {x : Int32} {dflt off : Int} {ps : Array (Int × Int)} {len tgt : Nat} (hd : Dj cc pc (.lookupswitch dflt ps) len pc' off tgt) (hp : (ps.toList.zip (ps.toList.drop 1)).all (fun (a, next) => a.1 < next.1) = true) (ho : Op.lookupswitch.offset ps.toList dflt x.toInt = off) (kk : Wa E G n R h Q tgt L st) : Wa E G n R h Q pc L (aI x :: st) := by
  obtain ⟨hd, rfl, ht⟩ := hd
  intro H locs ls hP hS hl
  exact lv_lookup C.1 C.2.1 hd hp ho ht (kk H locs ls hP hS hl)
end RW1
