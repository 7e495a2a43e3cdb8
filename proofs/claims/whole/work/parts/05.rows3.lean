def CL (own : String) (idx k : Nat) : Prop := ∃ Cn T N, CF k Cn T N ∧ Cond.classLink own idx Cn ∈ tb ∧ Cond.instantiable Cn N ∈ tb ∧ Cond.initialized Cn ∈ tb ∧ ∀ i, i < N → defaultValue (fty k i) = if isr k i = true then .null else .int 0
theorem rp_size {E : Ev} {G : Gv} {n d nm : Nat} {R : RF} {h : HF} {cc : ByteArray} {own : String} {T : State} {H : Heap} {locs : List Loc} (C : Cx E G d cc own nm) (hP : Rp E n R h H) (hS : va_S (fA E) (gs G).heap H locs) (hT : T.heap = H) (hn : gn G ≤ n)
    (X : Stand (gp G) E.1 (ge G) (gR G) (gs G) (gm G) (ga G) (gb G) (gme G) (gc G) T locs (n - gn G) (sl n - sl (gn G))) : H.size = E.2.1 + n := by
  have h1 := X.heapSize
  have h2 := C.2.2.2.2.2.1
  rw [hT] at h1
  by_cases h0 : n = 0
  · subst h0
    have := hS.1
    omega
  · have h3 := (hP (n - 1) _ (wsl_get (by omega))).lt
    have h4 : E.2.1 + (n - 1) < H.size := h3
    omega
theorem wsl_succ {E : Ev} {n : Nat} {R : RF} {h : HF} : wsl E (n + 1) R h = wsl E n R h ++ [(E.2.1 + n, ent E (idq n).1 (R (idq n).1 (idq n).2) (h (idq n).1 (idq n).2))] := by
  simp [wsl, List.range_succ]
theorem rp_push {E : Ev} {n : Nat} {R : RF} {h : HF} {H H1 : Heap} (hP : Rp E n R h H) (hz : H.size = E.2.1 + n) (ho : ∀ q, q < E.2.1 + n → H1[q]? = H[q]?) (hn : va_at E.2.2.1 vwCl (E.2.1 + n, ent E (idq n).1 (R (idq n).1 (idq n).2) (h (idq n).1 (idq n).2)) H1) : Rp E (n + 1) R h H1 := by
  unfold Rp
  rw [wsl_succ]
  refine va_P.app (va_P.kept hP (fun k q hk => ho q.1 ?_)) (fun k q hk => ?_)
  · rw [(wsl_lt hk).2]
    have := (wsl_lt hk).1
    omega
  · have hz : k < 1 := (List.getElem?_eq_some_iff.mp hk).1
    rw [show k = 0 by omega] at hk
    cases hk
    exact hn
section RW3
variable {E : Ev} {G : Gv} {n d nm pc pc' : Nat} {R : RF} {h : HF} {Q : State → Prop} {L L' : List (Option AV)} {st : List AV} {cc : ByteArray} {own : String} {k j i idx : Nat}
theorem r_new (C : Cx E G d cc own nm) (hf : CL own idx k) (hd : Dc cc pc (.new idx) 3 pc') (hq : idq n = (k, j)) (hnm : gn G ≤ n ∧ n < nm) (hR : ∀ i, R k j i = none) (hh : ∀ i, h k j i = 0) (kk : Wa E G (n + 1) R h Q pc' L (aR k j :: st)) : Wa E G n R h Q pc L st := by
  obtain ⟨hd, rfl⟩ := hd
  obtain ⟨Cn, T0, N, ⟨hc, hN, hin, hty, hnms, hcl, hsh, hk12⟩, hlink, hinst, hini, hdef⟩ := hf
  intro H locs ls hP hS hl T hT X
  have hsz := rp_size C hP hS hT hnm.1 X
  have hKn := C.2.2.2.2.1.1.1 k _ hc
  have hsl : sl (n + 1) = sl n + N := by show sl n + nf (idq n).1 = _; rw [hq, hN]
  have hm := sl_mono hnm.1
  have hm2 := sl_mono (show n + 1 ≤ nm by omega)
  have hcs := C.2.2.2.2.2.2.2.1
  have hpos : pos k j = n := by
    have h1 := (pos_idq n (by have := C.2.2.2.2.2.2.2.2.1.2; omega)).1
    rw [hq] at h1
    exact h1
  refine W.newcK C.1 C.2.1 C.2.2.1 (C.2.2.2.1 _ hlink) (C.2.2.2.1 _ hinst) (C.2.2.2.1 _ hini) (g := F0 (gm G) pc ls (List.map (cv E) st)) rfl hd (by omega) (by omega) hKn.2.1 hsz (fun H1 kC hkC e1 z1 o1 => ?_) T hT X
  have hP1 : Rp E (n + 1) R h H1 := by
    refine rp_push hP hsz o1 ?_
    rw [hq]
    show va_at _ _ (_, ent E k (R k j) (h k j)) _
    rw [ent_obj hsh]
    refine ⟨_, hc, (u_born (fty k) C.2.2.2.1 hin hKn hkC e1 hty).to (fun i hi => ?_)⟩
    rw [hdef i hi]
    have hi2 : i < nf k := by rw [hN]; exact hi
    simp [vp_V, List.getD, hi2, hR, hh, va_rf]
  have e := kk H1 locs ls hP1 ⟨Nat.le_trans hS.1 (by omega), fun q h1 h2 => (o1 q (by have := hS.1; omega)).trans (hS.2.1 q h1 h2), hS.2.2⟩ hl
  have e1 : n + 1 - gn G = n - gn G + 1 := by omega
  have e2 : sl (n + 1) - sl (gn G) = sl n - sl (gn G) + N := by omega
  rw [e1, e2] at e
  have e3 : lcq E (k, j) = E.2.1 + n := by
    show (if k < 60 then E.2.1 + pos k j else _) = _
    rw [if_pos (by omega), hpos]
  simp only [List.map_cons, cv, e3] at e
  exact e
theorem r_newI (C : Cx E G d cc own nm) {v : Int32} (hd : Dc cc pc (.newarray .int) 2 pc') (hw : Cond.arrayClass .int ∈ tb) (hq : idq n = (k, j)) (hs : shp k = 1) (hv : v = nI (nf k)) (hb : nf k < 2 ^ 20) (hnm : gn G ≤ n ∧ n < nm) (hh : ∀ i, h k j i = 0) (kk : Wa E G (n + 1) R h Q pc' L (aR k j :: st)) : Wa E G n R h Q pc L (aI v :: st) := by
  obtain ⟨hd, rfl⟩ := hd
  subst hv
  intro H locs ls hP hS hl T hT X
  have hsz := rp_size C hP hS hT hnm.1 X
  have hsl : sl (n + 1) = sl n + nf k := by show sl n + nf (idq n).1 = _; rw [hq]
  have hm := sl_mono hnm.1
  have hm2 := sl_mono (show n + 1 ≤ nm by omega)
  have hcs := C.2.2.2.2.2.2.2.1
  have hN := C.2.2.2.2.2.2.2.2.1.2
  have hpp := pos_idq n (by omega)
  rw [hq] at hpp
  have hcl := nI_clamp (n := nf k) (by omega)
  refine va_newaK C.1 C.2.1 (atype := .int) (C.2.2.2.1 _ hw) (g := F0 (gm G) pc ls (List.map (cv E) (aI (nI (nf k)) :: st))) rfl hd rfl (nI_pos (by omega)) hcl (by show nf k * 4 ≤ _; omega) (by omega) (by omega) hsz (fun H1 cA e1 z1 o1 hAr hfc => ?_) T hT X
  have hca : cA = ca E 0 := by
    have h0 := (C.2.2.2.2.1.1.2 0 (ca E 0, .int) rfl).2
    exact Option.some.inj (hfc.symm.trans h0)
  subst hca
  have hP1 : Rp E (n + 1) R h H1 := by
    refine rp_push hP hsz o1 ?_
    rw [hq]
    show va_at _ _ (_, ent E k (R k j) (h k j)) _
    rw [ent_int hs, show h k j = fun _ => 0 from funext hh]
    exact e1
  have e := kk H1 locs ls hP1 ⟨Nat.le_trans hS.1 (by omega), fun q h1 h2 => (o1 q (by have := hS.1; omega)).trans (hS.2.1 q h1 h2), hS.2.2⟩ hl
  have e1 : n + 1 - gn G = n - gn G + 1 := by omega
  have e2 : sl (n + 1) - sl (gn G) = sl n - sl (gn G) + nf k := by omega
  rw [e1, e2] at e
  have e3 : lcq E (k, j) = E.2.1 + n := by
    show (if k < 60 then E.2.1 + pos k j else _) = _
    rw [if_pos hpp.2, hpp.1]
  simp only [List.map_cons, cv, e3] at e
  exact e
theorem r_newZ (C : Cx E G d cc own nm) {v : Int32} (hd : Dc cc pc (.newarray .boolean) 2 pc') (hw : Cond.arrayClass .boolean ∈ tb) (hq : idq n = (k, j)) (hs : shp k = 2) (hv : v = nI (nf k)) (hb : nf k < 2 ^ 20) (hnm : gn G ≤ n ∧ n < nm) (hh : ∀ i, h k j i = 0) (kk : Wa E G (n + 1) R h Q pc' L (aR k j :: st)) : Wa E G n R h Q pc L (aI v :: st) := by
  obtain ⟨hd, rfl⟩ := hd
  subst hv
  intro H locs ls hP hS hl T hT X
  have hsz := rp_size C hP hS hT hnm.1 X
  have hsl : sl (n + 1) = sl n + nf k := by show sl n + nf (idq n).1 = _; rw [hq]
  have hm := sl_mono hnm.1
  have hm2 := sl_mono (show n + 1 ≤ nm by omega)
  have hcs := C.2.2.2.2.2.2.2.1
  have hN := C.2.2.2.2.2.2.2.2.1.2
  have hpp := pos_idq n (by omega)
  rw [hq] at hpp
  have hcl := nI_clamp (n := nf k) (by omega)
  refine va_newaK C.1 C.2.1 (atype := .boolean) (C.2.2.2.1 _ hw) (g := F0 (gm G) pc ls (List.map (cv E) (aI (nI (nf k)) :: st))) rfl hd rfl (nI_pos (by omega)) hcl (by show nf k * 1 ≤ _; omega) (by omega) (by omega) hsz (fun H1 cA e1 z1 o1 hAr hfc => ?_) T hT X
  have hca : cA = ca E 1 := by
    have h0 := (C.2.2.2.2.1.1.2 1 (ca E 1, .boolean) rfl).2
    exact Option.some.inj (hfc.symm.trans h0)
  subst hca
  have hP1 : Rp E (n + 1) R h H1 := by
    refine rp_push hP hsz o1 ?_
    rw [hq]
    show va_at _ _ (_, ent E k (R k j) (h k j)) _
    rw [ent_bool hs, show h k j = fun _ => 0 from funext hh]
    exact e1
  have e := kk H1 locs ls hP1 ⟨Nat.le_trans hS.1 (by omega), fun q h1 h2 => (o1 q (by have := hS.1; omega)).trans (hS.2.1 q h1 h2), hS.2.2⟩ hl
  have e1 : n + 1 - gn G = n - gn G + 1 := by omega
  have e2 : sl (n + 1) - sl (gn G) = sl n - sl (gn G) + nf k := by omega
  rw [e1, e2] at e
  have e3 : lcq E (k, j) = E.2.1 + n := by
    show (if k < 60 then E.2.1 + pos k j else _) = _
    rw [if_pos hpp.2, hpp.1]
  simp only [List.map_cons, cv, e3] at e
  exact e
theorem r_newA (C : Cx E G d cc own nm) {v : Int32} {t : Nat} {Cn : String} (hd : Dc cc pc (.anewarray idx) 3 pc') (hw : Cond.classLink own idx Cn ∈ tb) (hao : va_AO Cn (gs G)) (ht : (tys E)[t + 2]? = some (ca E (t + 2), .object Cn)) (hq : idq n = (k, j)) (hs : shp k = t + 3) (hv : v = nI (nf k)) (hb : nf k < 2 ^ 20) (hnm : gn G ≤ n ∧ n < nm) (hh : ∀ i, R k j i = none) (kk : Wa E G (n + 1) R h Q pc' L (aR k j :: st)) : Wa E G n R h Q pc L (aI v :: st) := by
  obtain ⟨hd, rfl⟩ := hd
  subst hv
  intro H locs ls hP hS hl T hT X
  have hsz := rp_size C hP hS hT hnm.1 X
  have hsl : sl (n + 1) = sl n + nf k := by show sl n + nf (idq n).1 = _; rw [hq]
  have hm := sl_mono hnm.1
  have hm2 := sl_mono (show n + 1 ≤ nm by omega)
  have hcs := C.2.2.2.2.2.2.2.1
  have hN := C.2.2.2.2.2.2.2.2.1.2
  have hpp := pos_idq n (by omega)
  rw [hq] at hpp
  have hcl := nI_clamp (n := nf k) (by omega)
  refine W.anew C.1 C.2.1 C.2.2.1 (C.2.2.2.1 _ hw) (va_AO.use hao) (g := F0 (gm G) pc ls (List.map (cv E) (aI (nI (nf k)) :: st))) rfl hd rfl (nI_pos (by omega)) (by rw [hcl]; omega) (by omega) (by rw [hcl]; omega) (fun cA kA comp f1 f2 f3 f4 => ?_) T hT X
  have hca : cA = ca E (t + 2) := by
    obtain ⟨_, _, _, _, _, h0⟩ := (C.2.2.2.2.1.1.2 (t + 2) _ ht).2
    exact Option.some.inj (f1.symm.trans h0)
  subst hca
  generalize hH1 : H.push ({ cls := ca E (t + 2), slots := Array.replicate (nI (nf k)).toNatClampNeg .null, vm := .none } : Cell) = H1
  have z1 : H1.size = H.size + 1 := by rw [← hH1, Array.size_push]
  have e1 : H1[H.size]? = some (arrV (ca E (t + 2)) (nI (nf k)).toNatClampNeg (fun _ => .null)) := by rw [← hH1, Array.getElem?_push_size, ← arrV_new]
  have o1 : ∀ q : Nat, q < H.size → H1[q]? = H[q]? := fun q hq => by rw [← hH1, Array.getElem?_push, if_neg (Nat.ne_of_lt hq)]
  rw [hsz] at o1 e1
  rw [hcl] at e1
  have hP1 : Rp E (n + 1) R h H1 := by
    refine rp_push hP hsz o1 ?_
    rw [hq]
    show va_at _ _ (_, ent E k (R k j) (h k j)) _
    rw [ent_ref hs, show R k j = fun _ => none from funext hh]
    exact e1
  have e := kk H1 locs ls hP1 ⟨Nat.le_trans hS.1 (by omega), fun q h1 h2 => (o1 q (by have := hS.1; omega)).trans (hS.2.1 q h1 h2), hS.2.2⟩ hl
  have e1 : n + 1 - gn G = n - gn G + 1 := by omega
  have e2 : sl (n + 1) - sl (gn G) = sl n - sl (gn G) + nf k := by omega
  rw [e1, e2] at e
  have e3 : lcq E (k, j) = E.2.1 + n := by
    show (if k < 60 then E.2.1 + pos k j else _) = _
    rw [if_pos hpp.2, hpp.1]
  simp only [List.map_cons, cv, e3] at e
  rw [hsz, hcl]
  exact e
theorem r_gets (C : Cx E G d cc own nm) {nme : String} {xs : List Int32} (hd : Dc cc pc (.getstatic idx) 3 pc') (hg : Gr E nme k xs (gs G) (gs G).heap) (hk : 60 ≤ k) (hw : Cond.fieldLink own idx "SiegePlate$Reader" nme "[I" ∈ tb) (kk : Wa E G n R h Q pc' L (aR k 0 :: st)) : Wa E G n R h Q pc L st := by
  obtain ⟨hd, rfl⟩ := hd
  intro H locs ls hP hS hl
  have e := kk H locs ls hP hS hl
  have e3 : lcq E (k, 0) = E.2.2.2.2.1 k := by
    show (if k < 60 then _ else E.2.2.2.2.1 k) = _
    rw [if_neg (by omega)]
  simp only [List.map_cons, cv, e3] at e
  exact va_gets C.1 C.2.1 hg.1 hS C.2.2.1 (C.2.2.2.1 _ hw) (fun _ h => h) hd e
theorem r_sti (C : Cx E G d cc own nm) {nme : String} {xs : List Int32} {x : Nat} {v : Int32} (hd : Dc cc pc .iaload 1 pc') (hg : Gr E nme k xs (gs G) (gs G).heap) (hk : 60 ≤ k) (hv : v = nI x) (hx : x < xs.length) (hb : xs.length < 2 ^ 31) (kk : Wa E G n R h Q pc' L (aI (xs.getD x 0) :: st)) : Wa E G n R h Q pc L (aI v :: aR k 0 :: st) := by
  obtain ⟨hd, rfl⟩ := hd
  subst hv
  intro H locs ls hP hS hl
  have e3 : lcq E (k, 0) = E.2.2.2.2.1 k := by
    show (if k < 60 then _ else E.2.2.2.2.1 k) = _
    rw [if_neg (by omega)]
  simp only [List.map_cons, cv, e3]
  exact va_ti C.1 C.2.1 hg.2 hS (vp_in_nI hx hb) (by rw [nI_clamp (by omega)]; rfl) hd (kk H locs ls hP hS hl)
theorem r_sld (C : Cx E G d cc own nm) {xs : Nat → Int32} {x LL : Nat} {v : Int32} (hd : Dc cc pc .iaload 1 pc') (hX : va_X (E.2.2.2.2.1 63) LL xs (gs G) (gs G).heap) (hA : E.2.2.2.2.1 63 < E.2.1) (hv : v = nI x) (hx : x < LL) (hb : LL < 2 ^ 31) (kk : Wa E G n R h Q pc' L (aI (xs x) :: st)) : Wa E G n R h Q pc L (aI v :: aR 63 0 :: st) := by
  obtain ⟨hd, rfl⟩ := hd
  subst hv
  intro H locs ls hP hS hl
  have e3 : lcq E (63, 0) = E.2.2.2.2.1 63 := rfl
  simp only [List.map_cons, cv, e3]
  refine va_sld C.1 C.2.1 hX (by have := C.2.2.2.2.2.1; omega) (show ¬ E.2.1 ≤ _ by omega) hS (vp_in_nI hx hb) hd ?_
  rw [nI_clamp (by omega)]
  exact kk H locs ls hP hS hl
theorem r_slen (C : Cx E G d cc own nm) {xs : Nat → Int32} {LL : Nat} (hd : Dc cc pc .arraylength 1 pc') (hX : va_X (E.2.2.2.2.1 63) LL xs (gs G) (gs G).heap) (hA : E.2.2.2.2.1 63 < E.2.1) (kk : Wa E G n R h Q pc' L (aI (nI LL) :: st)) : Wa E G n R h Q pc L (aR 63 0 :: st) := by
  obtain ⟨hd, rfl⟩ := hd
  intro H locs ls hP hS hl
  have e3 : lcq E (63, 0) = E.2.2.2.2.1 63 := rfl
  simp only [List.map_cons, cv, e3]
  exact va_slen C.1 C.2.1 hX (by have := C.2.2.2.2.2.1; omega) (show ¬ E.2.1 ≤ _ by omega) hS hd (kk H locs ls hP hS hl)
theorem r_min (C : Cx E G d cc own nm) {x y : Int32} (hd : Dc cc pc (.invokestatic idx) 3 pc') (hw : Cond.methodLink own idx Lib.Math.min.name ∈ tb ∧ Cond.static Lib.Math.min.name ∈ tb ∧ Cond.initialized "java/lang/Math" ∈ tb ∧ Cond.code Lib.Math.min.name Lib.Math.min.code 2 (some .int) ∈ tb) (hd1 : 1 ≤ d) (hs : ((st.map (cv E)).map fun v => v.category).sum ≤ 8) (hn : gn G ≤ n ∧ n ≤ nm) (kk : Wa E G n R h Q pc' L (aI (if y < x then y else x) :: st)) : Wa E G n R h Q pc L (aI y :: aI x :: st) := by
  obtain ⟨hd, rfl⟩ := hd
  intro H locs ls hP hS hl
  have hm := sl_mono hn.2
  have hcs := C.2.2.2.2.2.2.2.1
  have hfr := C.2.2.2.2.2.2.1
  exact va_mmin C.1 C.2.1 hl.2.1.symm C.2.2.1 (C.2.2.2.1 _ hw.1) (C.2.2.2.1 _ hw.2.1) (C.2.2.2.1 _ hw.2.2.1) (C.2.2.2.1 _ hw.2.2.2) (by omega) (by omega) (by omega) (by omega) hd (kk H locs ls hP hS hl)
theorem r_max (C : Cx E G d cc own nm) {x y : Int32} (hd : Dc cc pc (.invokestatic idx) 3 pc') (hw : Cond.methodLink own idx Lib.Math.max.name ∈ tb ∧ Cond.static Lib.Math.max.name ∈ tb ∧ Cond.initialized "java/lang/Math" ∈ tb ∧ Cond.code Lib.Math.max.name Lib.Math.max.code 2 (some .int) ∈ tb) (hd1 : 1 ≤ d) (hs : ((st.map (cv E)).map fun v => v.category).sum ≤ 8) (hn : gn G ≤ n ∧ n ≤ nm) (kk : Wa E G n R h Q pc' L (aI (if x < y then y else x) :: st)) : Wa E G n R h Q pc L (aI y :: aI x :: st) := by
  obtain ⟨hd, rfl⟩ := hd
  intro H locs ls hP hS hl
  have hm := sl_mono hn.2
  have hcs := C.2.2.2.2.2.2.2.1
  have hfr := C.2.2.2.2.2.2.1
  exact va_mmax C.1 C.2.1 hl.2.1.symm C.2.2.1 (C.2.2.2.1 _ hw.1) (C.2.2.2.1 _ hw.2.1) (C.2.2.2.1 _ hw.2.2.1) (C.2.2.2.1 _ hw.2.2.2) (by omega) (by omega) (by omega) (by omega) hd (kk H locs ls hP hS hl)
theorem r_objI (C : Cx E G d cc own nm) (hd : Dc cc pc (.invokespecial idx) 3 pc') (hw : Cond.methodLink own idx objectInit ∈ tb ∧ Cond.instanceMethod objectInit ∈ tb ∧ Cond.code objectInit ⟨#[0xb1]⟩ 1 none ∈ tb) (hd1 : 1 ≤ d) (hs : ((st.map (cv E)).map fun v => v.category).sum ≤ 8) (kk : Wa E G n R h Q pc' L st) : Wa E G n R h Q pc L (aR k j :: st) := by
  obtain ⟨hd, rfl⟩ := hd
  intro H locs ls hP hS hl
  have hfr := C.2.2.2.2.2.2.1
  refine W.objInit C.1 C.2.1 C.2.2.1 (C.2.2.2.1 _ hw.1) (C.2.2.2.1 _ hw.2.1) (C.2.2.2.1 _ hw.2.2) rfl hl.2.1 (a := lcq E (k, j)) (rest := st.map (cv E)) rfl hd (by omega) ?_ (kk H locs ls hP hS hl)
  show 2 * 0 + _ + 12 ≤ _
  omega
end RW3
