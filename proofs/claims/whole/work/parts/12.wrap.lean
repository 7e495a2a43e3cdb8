theorem ok0 : Ok 243 0 0 := Ok.full (by decide) (by decide)
theorem ok3 : Ok 243 3 0 := Ok.full (by decide) (by decide)
theorem ok4 : Ok 243 4 0 := Ok.full (by decide) (by decide)
theorem ok5 : Ok 243 5 0 := Ok.full (by decide) (by decide)
theorem ok7 : Ok 243 7 0 := Ok.full (by decide) (by decide)
theorem ok9 : Ok 243 9 0 := Ok.full (by decide) (by decide)
theorem ok10 : Ok 243 10 0 := Ok.full (by decide) (by decide)
theorem ok11 : Ok 243 11 0 := Ok.full (by decide) (by decide)
theorem ok12 : Ok 243 12 0 := Ok.full (by decide) (by decide)
theorem ok13 : Ok 243 13 0 := Ok.full (by decide) (by decide)
theorem ok16 : Ok 243 16 0 := Ok.full (by decide) (by decide)
theorem ok17 : Ok 243 17 0 := Ok.full (by decide) (by decide)
theorem ok18 : Ok 243 18 0 := Ok.full (by decide) (by decide)
theorem ok19 : Ok 243 19 0 := Ok.full (by decide) (by decide)
theorem ok20 : Ok 243 20 0 := Ok.full (by decide) (by decide)
theorem ok21 : Ok 243 21 0 := Ok.full (by decide) (by decide)
theorem ok22 : Ok 243 22 0 := Ok.full (by decide) (by decide)
theorem ok26 : Ok 243 26 0 := Ok.full (by decide) (by decide)
theorem ok36 : Ok 243 36 0 := Ok.full (by decide) (by decide)
theorem ok37 : Ok 243 37 0 := Ok.full (by decide) (by decide)
theorem ok38 : Ok 243 38 0 := Ok.full (by decide) (by decide)
theorem ok39 : Ok 243 39 0 := Ok.full (by decide) (by decide)
theorem ok40 : Ok 243 40 0 := Ok.full (by decide) (by decide)
theorem ok41 : Ok 243 41 0 := Ok.full (by decide) (by decide)
theorem ok42 : Ok 243 42 0 := Ok.full (by decide) (by decide)
theorem ok43 : Ok 243 43 0 := Ok.full (by decide) (by decide)
theorem ok44 : Ok 243 44 0 := Ok.full (by decide) (by decide)
theorem ok45 : Ok 243 45 0 := Ok.full (by decide) (by decide)
theorem ok46 : Ok 243 46 0 := Ok.full (by decide) (by decide)
theorem ok47 : Ok 243 47 0 := Ok.full (by decide) (by decide)
theorem ok48 : Ok 243 48 0 := Ok.full (by decide) (by decide)
theorem ok49 : Ok 243 49 0 := Ok.full (by decide) (by decide)
theorem ok50 : Ok 243 50 0 := Ok.full (by decide) (by decide)
theorem ok51 : Ok 243 51 0 := Ok.full (by decide) (by decide)
theorem ok52 : Ok 243 52 0 := Ok.full (by decide) (by decide)
theorem ok53 : Ok 243 53 0 := Ok.full (by decide) (by decide)
theorem ok54 : Ok 243 54 0 := Ok.full (by decide) (by decide)
theorem ok55 : Ok 243 55 0 := Ok.full (by decide) (by decide)
theorem ok56 : Ok 243 56 0 := Ok.full (by decide) (by decide)
theorem ok57 : Ok 243 57 0 := Ok.full (by decide) (by decide)
theorem ok58 : Ok 243 58 0 := Ok.full (by decide) (by decide)
theorem ok59 : Ok 243 59 0 := Ok.full (by decide) (by decide)
theorem nf_lt (k : Nat) : nf k < 2 ^ 31 := by
  unfold nf
  split <;> decide
section WR
variable {E : Ev} {G : Gv} {n d nm pc pc' : Nat} {R : RF} {h : HF} {Q : State → Prop} {L L' : List (Option AV)} {st : List AV} {cc : ByteArray} {own : String} {k j i idx m : Nat}
theorem q_getV (C : Cx E G d cc own nm) {fin : Bool} {x : Int32} (hf : FL own idx k i fin) (hd : Dc cc pc (.getfield idx) 3 pc') (ho : Ok n k j) (hr : isr k i = false) (hx : h k j i = x) (kk : Wa E G n R h Q pc' L (aI x :: st)) : Wa E G n R h Q pc L (aR k j :: st) := r_getI C hf hd ho hr (by rw [hx]; exact kk)
theorem q_iald (C : Cx E G d cc own nm) {x : Nat} (hd : Dc cc pc .iaload 1 pc') (ho : Ok n k j) (hs : shp k = 1) (hm : nf k = m) (hx : x < m) (kk : Wa E G n R h Q pc' L (aI (h k j x) :: st)) : Wa E G n R h Q pc L (aI (nI x) :: aR k j :: st) := r_iald C hd ho hs rfl (by rw [hm]; exact hx) (nf_lt k) kk
theorem q_ialdV (C : Cx E G d cc own nm) {x : Nat} {y : Int32} (hd : Dc cc pc .iaload 1 pc') (ho : Ok n k j) (hs : shp k = 1) (hm : nf k = m) (hx : x < m) (hy : h k j x = y) (kk : Wa E G n R h Q pc' L (aI y :: st)) : Wa E G n R h Q pc L (aI (nI x) :: aR k j :: st) := q_iald C hd ho hs hm hx (by rw [hy]; exact kk)
theorem q_iast (C : Cx E G d cc own nm) {x : Nat} {y : Int32} (hd : Dc cc pc .iastore 1 pc') (ho : Ok n k j) (hs : shp k = 1) (hm : nf k = m) (hx : x < m) (kk : Wa E G n R (put h k j x y) Q pc' L st) : Wa E G n R h Q pc L (aI y :: aI (nI x) :: aR k j :: st) := r_iast C hd ho hs rfl (by rw [hm]; exact hx) (nf_lt k) kk
theorem q_zald (C : Cx E G d cc own nm) {x : Nat} (hd : Dc cc pc .baload 1 pc') (ho : Ok n k j) (hs : shp k = 2) (hm : nf k = m) (hx : x < m) (kk : Wa E G n R h Q pc' L (aI (h k j x) :: st)) : Wa E G n R h Q pc L (aI (nI x) :: aR k j :: st) := r_zald C hd ho hs rfl (by rw [hm]; exact hx) (nf_lt k) kk
theorem q_zast (C : Cx E G d cc own nm) {x : Nat} {y : Int32} (hd : Dc cc pc .bastore 1 pc') (ho : Ok n k j) (hs : shp k = 2) (hm : nf k = m) (hx : x < m) (hy : vp_nar .boolean y = y) (kk : Wa E G n R (put h k j x y) Q pc' L st) : Wa E G n R h Q pc L (aI y :: aI (nI x) :: aR k j :: st) := r_zast C hd ho hs rfl (by rw [hm]; exact hx) (nf_lt k) hy kk
theorem q_aald (C : Cx E G d cc own nm) {x t a b : Nat} (hd : Dc cc pc .aaload 1 pc') (ho : Ok n k j) (hs : shp k = t + 3) (ht : t < 3) (hm : nf k = m) (hx : x < m) (hR : R k j x = some (a, b)) (kk : Wa E G n R h Q pc' L (aR a b :: st)) : Wa E G n R h Q pc L (aI (nI x) :: aR k j :: st) := r_aald C hd ho hs ht rfl (by rw [hm]; exact hx) (nf_lt k) hR kk
end WR
/-- h' differs from h at most in the cells of S -/
def Fr (S : Nat → Nat → Bool) (h h' : HF) : Prop := ∀ k j, S k j = false → h' k j = h k j
theorem Fr.rf {S : Nat → Nat → Bool} {h : HF} : Fr S h h := fun _ _ _ => rfl
theorem Fr.put {S : Nat → Nat → Bool} {h h' : HF} {k j i : Nat} {v : Int32} (f : Fr S h h') (hs : S k j = true) : Fr S h (put h' k j i v) := fun k' j' hn => by
  rw [put_off (fun z => by rw [z.1, z.2, hs] at hn; cases hn)]
  exact f k' j' hn
theorem Fr.tr {S : Nat → Nat → Bool} {h h' h2 : HF} (f : Fr S h h') (g : Fr S h' h2) : Fr S h h2 := fun k j hn => (g k j hn).trans (f k j hn)
theorem Fr.wk {S S' : Nat → Nat → Bool} {h h' : HF} (f : Fr S h h') (hs : ∀ k j, S k j = true → S' k j = true) : Fr S' h h' := fun k j hn => f k j (by
  cases z : S k j with
  | false => rfl
  | true => rw [hs k j z] at hn; cases hn)
theorem put_same {h : HF} {k j i : Nat} {v : Int32} : put h k j i v k j i = v := by simp [put]
theorem put_i {h : HF} {k j i j' i' : Nat} {v : Int32} (hi : i' ≠ i) : put h k j i v k j' i' = h k j' i' := by simp [put, hi]
theorem put_k {h : HF} {k j i k' : Nat} {v : Int32} (hk : k' ≠ k) : put h k j i v k' = h k' := by
  funext j' i'
  simp [put, hk]
theorem put_j {h : HF} {k j i j' : Nat} {v : Int32} (hj : j' ≠ j) : put h k j i v k j' = h k j' := by
  funext i'
  simp [put, hj]
