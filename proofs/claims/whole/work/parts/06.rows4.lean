def rmd (d mc ms : Nat) : Room := { frames := d, cells := mc, slots := ms, locals := 30 * d }
def Pcn (E : Ev) (as : List AV) (n : Nat) (R : RF) (h : HF) : Array Value → State → Prop := fun a U => a = (as.map (cv E)).toArray ∧ U.heap.size = E.2.1 + n ∧ Rp E n R h U.heap ∧ En E U U.heap
def Qcn (E : Ev) (n' : Nat) (P : Option AV → RF → HF → Prop) : Array Value → State → Outcome → State → Prop := fun _ st oc t => ∃ v R' h', P v R' h' ∧ oc = .returned (v.map (cv E)) ∧ Rp E n' R' h' t.heap ∧ va_F (fA E) st t
/-- THE CONTRACT of a method: from n cells that hold R and h, with the arguments as, at most d frames deep: it returns v with n' cells that hold R' and h', and P -/
def Ct (E : Ev) (d : Nat) (y : MethodName) (cc : ByteArray) (mL : Nat) (rt : Option FieldType) (as : List AV) (n : Nat) (R : RF) (h : HF) (n' : Nat) (P : Option AV → RF → HF → Prop) : Prop :=
  Met E.1 y (.code y cc mL rt :: tb) (rmd d (n' - n) (sl n' - sl n)) (Pcn E as n R h) (Qcn E n' P) (n' - n) (sl n' - sl n) (fA E)
def QQ (E : Ev) (G : Gv) (n' : Nat) (P : Option AV → RF → HF → Prop) : State → Prop := MQ (gb G) (Qcn E n' P) (ga G) (gs G) (n' - gn G) (sl n' - sl (gn G)) (fA E)
def entL : List AV → List (Option AV)
  | [] => []
  | .inr (.inl x) :: r => some (aL x) :: none :: entL r
  | v :: r => some v :: entL r
theorem entL_mem {E : Ev} {m : Nat} : ∀ (as : List AV) (b : Nat) (q : Nat × Value), q ∈ lvl E b (entL as ++ List.replicate m none) → q ∈ lv_args b (as.map (cv E))
  | [], b, q, h => by
    obtain ⟨i, v, h1, -⟩ := lvl_mem.mp h
    simp only [entL, List.nil_append] at h1
    have := List.eq_of_mem_replicate (List.mem_of_getElem? h1)
    cases this
  | .inl x :: r, b, q, h => by
    simp only [entL, List.cons_append, lvl] at h
    simp only [List.map_cons, cv, lv_args, Value.category]
    rcases List.mem_cons.mp h with h | h
    · rw [h]; exact List.mem_cons_self
    · exact List.mem_cons_of_mem _ (entL_mem r (b + 1) q h)
  | .inr (.inr none) :: r, b, q, h => by
    simp only [entL, List.cons_append, lvl] at h
    simp only [List.map_cons, cv, lv_args, Value.category]
    rcases List.mem_cons.mp h with h | h
    · rw [h]; exact List.mem_cons_self
    · exact List.mem_cons_of_mem _ (entL_mem r (b + 1) q h)
  | .inr (.inr (some z)) :: r, b, q, h => by
    simp only [entL, List.cons_append, lvl] at h
    simp only [List.map_cons, cv, lv_args, Value.category]
    rcases List.mem_cons.mp h with h | h
    · rw [h]; exact List.mem_cons_self
    · exact List.mem_cons_of_mem _ (entL_mem r (b + 1) q h)
  | .inr (.inl x) :: r, b, q, h => by
    simp only [entL, List.cons_append, lvl] at h
    simp only [List.map_cons, cv, lv_args, Value.category]
    rcases List.mem_cons.mp h with h | h
    · rw [h]; exact List.mem_cons_self
    · exact List.mem_cons_of_mem _ (entL_mem r (b + 2) q h)
theorem entL_len {E : Ev} : ∀ (as : List AV), (lg_sl (as.map (cv E))).length = (entL as).length
  | [] => rfl
  | .inl x :: r => by
    show (Slot.val (Value.int x) :: lg_sl (r.map (cv E))).length = (some (aI x) :: entL r).length
    simp only [List.length_cons, entL_len (E := E) r]
  | .inr (.inr none) :: r => by
    show (Slot.val Value.null :: lg_sl (r.map (cv E))).length = (some aN :: entL r).length
    simp only [List.length_cons, entL_len (E := E) r]
  | .inr (.inr (some z)) :: r => by
    show (Slot.val (Value.ref (lcq E z)) :: lg_sl (r.map (cv E))).length = (some (.inr (.inr (some z))) :: entL r).length
    simp only [List.length_cons, entL_len (E := E) r]
  | .inr (.inl x) :: r => by
    show (Slot.val (Value.long x) :: Slot.second :: lg_sl (r.map (cv E))).length = (some (aL x) :: none :: entL r).length
    simp only [List.length_cons, entL_len (E := E) r]
theorem Ct.of {E : Ev} {d : Nat} {y : MethodName} {cc : ByteArray} {mL : Nat} {rt : Option FieldType} {as : List AV} {n : Nat} {R : RF} {h : HF} {n' : Nat} {P : Option AV → RF → HF → Prop} (m : Nat) {L0 : List (Option AV)} (hy : plainName y.cls = true) (hnn : n ≤ n' ∧ n' ≤ 243) (hL : entL as ++ List.replicate m none = L0) (hlen : L0.length = mL)
    (body : ∀ G : Gv, Cx E G d cc y.cls n' → gn G = n → (gme G).sig.returnType = rt → (gme G).name = y.name → Wa E G n R h (QQ E G n' P) 0 L0 []) : Ct E d y cc mL rt as n R h n' P := by
  refine Met.ofW (cc := cc) (maxL := mL) (ret := rt) hy rfl ?_
  intro p e s m0 args below meth c s₁ B hml hv
  obtain ⟨rfl, hsz, hRp, hEn⟩ := hv
  have hts := atoms_spec (ws := .code y cc mL rt :: tb) B.pre
  have hown : s.vm.findClass y.cls = some m0.cls := findClass_of_methodNamed B.named
  have hk := body (p, e, rmd d (n' - n) (sl n' - sl n), s, m0, (as.map (cv E)).toArray, below, meth, c, n)
    ⟨B.exec, B.bytes, hown, fun w hw => hts w (List.mem_cons_of_mem _ hw), hEn, hsz, ⟨Nat.le_refl _, Nat.le_refl _⟩, ⟨Nat.le_refl _, Nat.le_refl _⟩, hnn, B.notSynchronized⟩ rfl B.returns (name_of_methodNamed B.named B.method).1
  have hle : (lg_sl (as.map (cv E))).length ≤ mL := by
    rw [entL_len, ← hlen, ← hL, List.length_append]
    omega
  have hl := lv_entry (as.map (cv E)) (n := mL) hle
  rw [lg_entry_eq]
  have h2 := hk s.heap [] _ hRp va_S.rf (show lok E c _ L0 from ⟨by rw [hml, hlen]; exact Nat.le_refl _, by rw [hml]; exact ⟨hl.1, hl.2.1, fun q hq => hl.2.2 q (entL_mem (m := m) as 0 q (by rw [hL]; exact hq))⟩⟩)
  have z1 : n - n = 0 := by omega
  have z2 : sl n - sl n = 0 := by omega
  simp only [gn, z1, z2] at h2
  exact h2
theorem Ct.mono {E : Ev} {d : Nat} {y : MethodName} {cc : ByteArray} {mL : Nat} {rt : Option FieldType} {as : List AV} {n : Nat} {R : RF} {h : HF} {n' : Nat} {P P' : Option AV → RF → HF → Prop} (hc : Ct E d y cc mL rt as n R h n' P) (hp : ∀ v R' h', P v R' h' → P' v R' h') : Ct E d y cc mL rt as n R h n' P' := by
  intro p e ha hcas hclk s m args below hf happ hP hK
  obtain ⟨k, o, h1, h2, h3, ⟨⟨v, R', h', q1, q2⟩, q3⟩⟩ := hc p e ha hcas hclk s m args below hf happ hP hK
  exact ⟨k, o, h1, h2, h3, ⟨⟨v, R', h', hp v R' h' q1, q2⟩, q3⟩⟩
section RW4
variable {E : Ev} {G : Gv} {n n' d d' nm pc pc' mL : Nat} {R : RF} {h : HF} {Q : State → Prop} {L L' : List (Option AV)} {st st0 : List AV} {cc cc' : ByteArray} {own : String} {k j i idx : Nat} {P : Option AV → RF → HF → Prop} {y : MethodName} {rt : Option FieldType} {as : List AV}
theorem r_iret (C : Cx E G d cc own nm) {x : Int32} (hrt : (gme G).sig.returnType = some .int) (hd : Dc cc pc .ireturn 1 pc') (hp : P (some (aI x)) R h) : Wa E G n R h (QQ E G n P) pc L [aI x] := by
  intro H locs ls hP hS hl
  exact W.iret C.1 C.2.1 hrt (fun t ht hW => ⟨some (aI x), R, h, hp, rfl, by rw [ht]; exact hP, hS.F ht⟩) hS.2.2 hd.1 C.2.2.2.2.2.2.2.2.2
theorem r_zret (C : Cx E G d cc own nm) {x : Int32} (hrt : (gme G).sig.returnType = some .boolean) (hd : Dc cc pc .ireturn 1 pc') (hx : narrow .boolean (.int x) = .int x) (hp : P (some (aI x)) R h) : Wa E G n R h (QQ E G n P) pc L [aI x] := by
  intro H locs ls hP hS hl
  exact W.zret C.1 C.2.1 hrt hx (fun t ht hW => ⟨some (aI x), R, h, hp, rfl, by rw [ht]; exact hP, hS.F ht⟩) hS.2.2 hd.1 C.2.2.2.2.2.2.2.2.2
theorem r_vret (C : Cx E G d cc own nm) (hrt : (gme G).sig.returnType = none) (hd : Dc cc pc .return_ 1 pc') (hp : P none R h) : Wa E G n R h (QQ E G n P) pc L [] := by
  intro H locs ls hP hS hl
  exact W.vret C.1 C.2.1 hrt (fun t ht hW => ⟨none, R, h, hp, rfl, by rw [ht]; exact hP, hS.F ht⟩) hS.2.2 hd.1 C.2.2.2.2.2.2.2.2.2
theorem pcn_blind : FrameBlind (Pcn E as n R h) := by
  intro a U g mk q
  obtain ⟨q0, q1, q2, q3⟩ := q
  exact ⟨q0, q1, q2, En.same (u := U) rfl q3⟩
theorem pcn_at {H : Heap} {locs : List Loc} (C : Cx E G d cc own nm) (hP : Rp E n R h H) (hS : va_S (fA E) (gs G).heap H locs) (hz : H.size = E.2.1 + n) (U : State) (hU : U.heap = H) (hW : (gs G).WarmedH U.vm) : Pcn E as n R h (as.map (cv E)).toArray U :=
  ⟨rfl, by rw [hU]; exact hz, by rw [hU]; exact hP, En.warm hW (fun a ha hn => by rw [hU]; exact hS.2.1 a ha hn) C.2.2.2.2.1⟩
/-- behind a call -/
theorem r_after {H : Heap} {locs : List Loc} {ls : Array Slot} {T : State} {stk : List Value} {a : Array Value} (hn : gn G ≤ n ∧ n ≤ n')
    (hr : va_Run (gp G) E.1 (ge G) (gR G) (gs G) (gm G) (ga G) (gb G) (gme G) (gc G) H locs (n - gn G) (sl n - sl (gn G)) (n' - n) (sl n' - sl n) (F0 (gm G) pc ls stk) (st.map (cv E)) (Qcn E n' P a) (fA E))
    (hS : va_S (fA E) (gs G).heap H locs) (hl : lok E (gc G) ls L) (hT : T.heap = H) (X : Stand (gp G) E.1 (ge G) (gR G) (gs G) (gm G) (ga G) (gb G) (gme G) (gc G) T locs (n - gn G) (sl n - sl (gn G)))
    (kk : ∀ v R' h', P v R' h' → Wa E G n' R' h' Q (pc + 3) L (v.toList ++ st)) : ∃ t, Steps (gp G).tables (ge G) (gb G) (T.setTop (F0 (gm G) pc ls stk)) t ∧ Q t := by
  obtain ⟨v0, st₀, t, T', Lc, h0, X', hLc, e1, e2, ⟨v, R', h', hp, hv, hRp, hF⟩, go⟩ := hr T hT X
  cases hv
  have hm1 := sl_mono hn.1
  have hm2 := sl_mono hn.2
  have c1 : n - gn G + (n' - n) = n' - gn G := by omega
  have c2 : sl n - sl (gn G) + (sl n' - sl n) = sl n' - sl (gn G) := by omega
  rw [c1, c2] at X'
  have hS' : va_S (fA E) (gs G).heap T'.heap (locs ++ Lc) := by
    refine ⟨Nat.le_trans hS.1 (by rw [e1, ← h0]; exact hF.1), fun q h1 h2 => ?_, fun q hq => ?_⟩
    · rw [e1, hF.2 q (by rw [h0]; exact Nat.lt_of_lt_of_le h1 hS.1) h2, h0]
      exact hS.2.1 q h1 h2
    · rcases List.mem_append.mp hq with z | z
      · exact hS.2.2 q z
      · exact hLc q z
  obtain ⟨t2, a1, b1⟩ := kk v R' h' hp T'.heap (locs ++ Lc) ls (by rw [e1]; exact hRp) hS' hl T' rfl X'
  refine ⟨t2, go t2 ?_, b1⟩
  have e3 : List.map (cv E) (v.toList ++ st) = (v.map (cv E)).toList ++ st.map (cv E) := by cases v <;> simp
  rw [e3] at a1
  exact a1
/-- what a call's words say -/
def CW (y : MethodName) (cc' : ByteArray) (mL : Nat) (rt : Option FieldType) (na : Nat) : Prop := Cond.code y cc' mL rt ∈ tb ∧ Cond.initialized y.cls ∈ tb ∧ (y.cls ≠ "java/lang/invoke/MethodHandle" ∧ y.cls ≠ "java/lang/invoke/VarHandle" ∧ (parseMethodDescriptor y.desc).map (fun d => d.parameters.length) = some na) ∧ mL ≤ 11
theorem cw_good (hw : CW y cc' mL rt i) : GoodIn tb (.code y cc' mL rt :: tb) := by
  intro w h
  rcases List.mem_cons.mp h with rfl | h
  · exact ⟨hw.1, tb_good _ hw.1⟩
  · exact ⟨h, tb_good _ h⟩
theorem cw_callB {na : Nat} (C : Cx E G d cc own nm) (hw : CW y cc' mL rt na) (hl : Cond.methodLink own idx y ∈ tb) (hdd : d' < d) : CallB (gR G) (gs G) (ga G) own idx y cc' mL rt (.code y cc' mL rt :: tb) (rmd d' (n' - n) (sl n' - sl n)) (n' - n) (sl n' - sl n) na := by
  have hfr := C.2.2.2.2.2.2.1
  have h11 := hw.2.2.2
  exact callB_of na C.2.2.2.1 (cw_good hw) rfl rfl rfl (C.2.2.2.1 _ hw.2.1) (C.2.2.2.1 _ hl) hw.2.2.1 ⟨by show d' + 1 ≤ _; omega, by show 8 + (mL + 11) + 30 * d' ≤ _; omega⟩
def CV (own : String) (idx : Nat) (y : MethodName) (k : Nat) : Prop := Cond.methodLink own idx y ∈ tb ∧ Cond.instanceMethod y ∈ tb ∧ Cond.selects y.cls y y ∈ tb ∧ (vwCl[k]?).map (fun q => q.1) = some y.cls ∧ shp k = 0
theorem r_callV {na : Nat} (C : Cx E G d cc own nm) (hM : Ct E d' y cc' mL rt (aR k j :: as) n R h n' P) (hdg : Dc cc pc (.invokevirtual idx) 3 pc') (hw : CW y cc' mL rt na) (hv : CV own idx y k) (hdd : d' < d) (ho : Ok n k j) (hna : as.length = na) (hn : gn G ≤ n ∧ n ≤ n' ∧ n' ≤ nm) (hst : as.reverse ++ aR k j :: st = st0) (hs : ((st.map (cv E)).map fun v => v.category).sum ≤ 8)
    (kk : ∀ v R' h', P v R' h' → Wa E G n' R' h' Q pc' L (v.toList ++ st)) : Wa E G n R h Q pc L st0 := by
  obtain ⟨hdg, rfl⟩ := hdg
  subst hst
  intro H locs ls hP hS hl T hT X
  have hsz := rp_size C hP hS hT hn.1 X
  have hm1 := sl_mono hn.1
  have hm2 := sl_mono hn.2.1
  have hm3 := sl_mono hn.2.2
  have hcs := C.2.2.2.2.2.2.2.1
  obtain ⟨q, hq1, hq2⟩ : ∃ q, vwCl[k]? = some q ∧ q.1 = y.cls := by
    have h2 := hv.2.2.2.1
    cases hh : vwCl[k]? with
    | none => rw [hh] at h2; cases h2
    | some q => rw [hh] at h2; exact ⟨q, rfl, Option.some.inj h2⟩
  have he : (wsl E n R h)[pos k j]? = some (lcq E (k, j), .inr (k, (List.range (nf k)).map (fun i => if isr k i = true then va_rf ((R k j i).map (lcq E)) else .int (h k j i)))) := by rw [wsl_at ho.1 ho.2.1 ho.2.2.1, ent_obj hv.2.2.2.2]
  have hrecv := va_recv C.2.2.2.2.1.1 hP hq1 he
  rw [hq2] at hrecv
  refine r_after ⟨hn.1, hn.2.1⟩ (va_runV (C := y.cls) (b := lcq E (k, j)) (As := as.map (cv E)) (rest := st.map (cv E)) ⟨C.1, C.2.1, rfl, C.2.2.1, C.2.2.2.1⟩ hM ⟨cw_callB C hw hv.1 hdd, C.2.2.2.1 _ hv.2.1, C.2.2.2.1 _ hv.2.2.1⟩ ⟨pcn_blind, hrecv, fun U hU hW => pcn_at C hP hS hsz U hU hW⟩ rfl (by rw [List.length_map]; exact hna) hl.2.1 (by simp [cv]) (lv_room hs) hdg ⟨by omega, by omega⟩) hS hl hT X kk
theorem r_callS {na : Nat} (C : Cx E G d cc own nm) (hM : Ct E d' y cc' mL rt as n R h n' P) (hdg : Dc cc pc (.invokestatic idx) 3 pc') (hw : CW y cc' mL rt na) (hv : Cond.methodLink own idx y ∈ tb ∧ Cond.static y ∈ tb) (hdd : d' < d) (hna : as.length = na) (hn : gn G ≤ n ∧ n ≤ n' ∧ n' ≤ nm) (hst : as.reverse ++ st = st0) (hs : ((st.map (cv E)).map fun v => v.category).sum ≤ 8)
    (kk : ∀ v R' h', P v R' h' → Wa E G n' R' h' Q pc' L (v.toList ++ st)) : Wa E G n R h Q pc L st0 := by
  obtain ⟨hdg, rfl⟩ := hdg
  subst hst
  intro H locs ls hP hS hl T hT X
  have hsz := rp_size C hP hS hT hn.1 X
  have hm1 := sl_mono hn.1
  have hm2 := sl_mono hn.2.1
  have hm3 := sl_mono hn.2.2
  have hcs := C.2.2.2.2.2.2.2.1
  refine r_after ⟨hn.1, hn.2.1⟩ (va_runS (As := as.map (cv E)) (rest := st.map (cv E)) ⟨C.1, C.2.1, rfl, C.2.2.1, C.2.2.2.1⟩ hM ⟨cw_callB C hw hv.1 hdd, C.2.2.2.1 _ hv.2⟩ ⟨pcn_blind, fun U hU hW => pcn_at C hP hS hsz U hU hW⟩ rfl (by rw [List.length_map]; exact hna) hl.2.1 (by simp) (lv_room hs) hdg ⟨by omega, by omega⟩) hS hl hT X kk
theorem r_callSN {na : Nat} {host : String} (C : Cx E G d cc own nm) (hM : Ct E d' y cc' mL rt as n R h n' P) (hdg : Dc cc pc (.invokestatic idx) 3 pc') (hw : CW y cc' mL rt na) (hv : Cond.methodLinkNest own idx y host ∈ nestW ∧ Cond.static y ∈ tb) (hdd : d' < d) (hna : as.length = na) (hn : gn G ≤ n ∧ n ≤ n' ∧ n' ≤ nm) (hst : as.reverse ++ st = st0) (hs : ((st.map (cv E)).map fun v => v.category).sum ≤ 8)
    (kk : ∀ v R' h', P v R' h' → Wa E G n' R' h' Q pc' L (v.toList ++ st)) : Wa E G n R h Q pc L st0 := by
  obtain ⟨hdg, rfl⟩ := hdg
  subst hst
  intro H locs ls hP hS hl T hT X
  have hsz := rp_size C hP hS hT hn.1 X
  have hm1 := sl_mono hn.1
  have hm2 := sl_mono hn.2.1
  have hm3 := sl_mono hn.2.2
  have hcs := C.2.2.2.2.2.2.2.1
  have hfr := C.2.2.2.2.2.2.1
  have h11 := hw.2.2.2
  refine r_after ⟨hn.1, hn.2.1⟩ (va_runSN (As := as.map (cv E)) (rest := st.map (cv E)) ⟨C.1, C.2.1, rfl, C.2.2.1, C.2.2.2.1⟩ hM ⟨va_cnB na C.2.2.2.1 (cw_good hw) rfl rfl rfl (C.2.2.2.2.1.2.1 _ hv.1) (C.2.2.2.1 _ hw.2.1) hw.2.2.1 ⟨by show d' + 1 ≤ _; omega, by show 8 + (mL + 11) + 30 * d' ≤ _; omega⟩, C.2.2.2.1 _ hv.2, trivial⟩ ⟨pcn_blind, fun U hU hW => pcn_at C hP hS hsz U hU hW⟩ rfl (by rw [List.length_map]; exact hna) hl.2.1 (by simp) (lv_room hs) hdg ⟨by omega, by omega⟩) hS hl hT X kk
theorem r_callI {na : Nat} (C : Cx E G d cc own nm) (hM : Ct E d' y cc' mL none (aR k j :: as) n R h n' P) (hdg : Dc cc pc (.invokespecial idx) 3 pc') (hw : CW y cc' mL none na) (hv : Cond.methodLink own idx y ∈ tb ∧ Cond.instanceMethod y ∈ tb ∧ y.name = "<init>") (hdd : d' < d) (hna : as.length = na) (hn : gn G ≤ n ∧ n ≤ n' ∧ n' ≤ nm) (hst : as.reverse ++ aR k j :: st = st0) (hs : ((st.map (cv E)).map fun v => v.category).sum ≤ 8)
    (kk : ∀ v R' h', P v R' h' → Wa E G n' R' h' Q pc' L (v.toList ++ st)) : Wa E G n R h Q pc L st0 := by
  obtain ⟨hdg, rfl⟩ := hdg
  subst hst
  intro H locs ls hP hS hl T hT X
  have hsz := rp_size C hP hS hT hn.1 X
  have hm1 := sl_mono hn.1
  have hm2 := sl_mono hn.2.1
  have hm3 := sl_mono hn.2.2
  have hcs := C.2.2.2.2.2.2.2.1
  refine r_after ⟨hn.1, hn.2.1⟩ (va_runI (b := lcq E (k, j)) (As := as.map (cv E)) (rest := st.map (cv E)) ⟨C.1, C.2.1, rfl, C.2.2.1, C.2.2.2.1⟩ hM ⟨cw_callB C hw hv.1 hdd, hv.2.2, C.2.2.2.1 _ hv.2.1⟩ ⟨pcn_blind, fun U hU hW => pcn_at C hP hS hsz U hU hW⟩ rfl (by rw [List.length_map]; exact hna) hl.2.1 (by simp [cv]) (lv_room hs) hdg ⟨by omega, by omega⟩) hS hl hT X kk
theorem r_callIN {na : Nat} {host : String} (C : Cx E G d cc own nm) (hM : Ct E d' y cc' mL none (aR k j :: as) n R h n' P) (hdg : Dc cc pc (.invokespecial idx) 3 pc') (hw : CW y cc' mL none na) (hv : Cond.methodLinkNest own idx y host ∈ nestW ∧ Cond.instanceMethod y ∈ tb ∧ y.name = "<init>") (hdd : d' < d) (hna : as.length = na) (hn : gn G ≤ n ∧ n ≤ n' ∧ n' ≤ nm) (hst : as.reverse ++ aR k j :: st = st0) (hs : ((st.map (cv E)).map fun v => v.category).sum ≤ 8)
    (kk : ∀ v R' h', P v R' h' → Wa E G n' R' h' Q pc' L (v.toList ++ st)) : Wa E G n R h Q pc L st0 := by
  obtain ⟨hdg, rfl⟩ := hdg
  subst hst
  intro H locs ls hP hS hl T hT X
  have hsz := rp_size C hP hS hT hn.1 X
  have hm1 := sl_mono hn.1
  have hm2 := sl_mono hn.2.1
  have hm3 := sl_mono hn.2.2
  have hcs := C.2.2.2.2.2.2.2.1
  have hfr := C.2.2.2.2.2.2.1
  have h11 := hw.2.2.2
  refine r_after ⟨hn.1, hn.2.1⟩ (va_runIN (b := lcq E (k, j)) (As := as.map (cv E)) (rest := st.map (cv E)) ⟨C.1, C.2.1, rfl, C.2.2.1, C.2.2.2.1⟩ hM ⟨va_cnB na C.2.2.2.1 (cw_good hw) rfl rfl rfl (C.2.2.2.2.1.2.1 _ hv.1) (C.2.2.2.1 _ hw.2.1) hw.2.2.1 ⟨by show d' + 1 ≤ _; omega, by show 8 + (mL + 11) + 30 * d' ≤ _; omega⟩, hv.2.2, C.2.2.2.1 _ hv.2.1⟩ ⟨pcn_blind, fun U hU hW => pcn_at C hP hS hsz U hU hW⟩ rfl (by rw [List.length_map]; exact hna) hl.2.1 (by simp [cv]) (lv_room hs) hdg ⟨by omega, by omega⟩) hS hl hT X kk
end RW4
