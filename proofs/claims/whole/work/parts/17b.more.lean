def lsub : List (Option AV) → List (Option AV) → Prop
  | [], [] => True
  | none :: r', _ :: r => lsub r' r
  | some v :: r', w :: r => w = some v ∧ lsub r' r
  | _, _ => False
theorem lsub_at {E : Ev} : ∀ {L' L : List (Option AV)} {b : Nat} {q : Nat × Value}, lsub L' L → q ∈ lvl E b L' → q ∈ lvl E b L
  | [], [], _, _, _, h => h
  | none :: r', none :: r, b, q, hs, h => lsub_at (L' := r') (L := r) (b := b + 1) hs h
  | none :: r', some w :: r, b, q, hs, h => List.mem_cons_of_mem _ (lsub_at (L' := r') (L := r) (b := b + 1) hs h)
  | some v :: r', some w :: r, b, q, hs, h => by
    obtain ⟨e, hs⟩ := hs
    cases e
    rcases List.mem_cons.mp (show q ∈ (b, cv E v) :: lvl E (b + 1) r' from h) with z | z
    · rw [z]; exact List.mem_cons_self
    · exact List.mem_cons_of_mem _ (lsub_at (L' := r') (L := r) (b := b + 1) hs z)
  | some v :: r', none :: r, b, q, hs, h => by
    obtain ⟨e, hs⟩ := hs
    cases e
  | [], _ :: _, _, _, hs, _ => False.elim hs
  | none :: _, [], _, _, hs, _ => False.elim hs
  | some _ :: _, [], _, _, hs, _ => False.elim hs
theorem lsub_len : ∀ {L' L : List (Option AV)}, lsub L' L → L'.length = L.length
  | [], [], _ => rfl
  | none :: r', _ :: r, hs => by rw [List.length_cons, List.length_cons, lsub_len (L' := r') (L := r) hs]
  | some v :: r', w :: r, hs => by rw [List.length_cons, List.length_cons, lsub_len (L' := r') (L := r) hs.2]
  | [], _ :: _, hs => False.elim hs
  | none :: _, [], hs => False.elim hs
  | some _ :: _, [], hs => False.elim hs
/-- fewer locals are known -/
theorem wa_loc {E : Ev} {G : Gv} {n pc : Nat} {R : RF} {h : HF} {Q : State → Prop} {L L' : List (Option AV)} {st : List AV} (hs : lsub L' L) (kk : Wa E G n R h Q pc L' st) : Wa E G n R h Q pc L st :=
  fun H locs ls hP hS hl => kk H locs ls hP hS ⟨by rw [lsub_len hs]; exact hl.1, hl.2.1, hl.2.2.1, fun q hq => hl.2.2.2 q (lsub_at hs hq)⟩
