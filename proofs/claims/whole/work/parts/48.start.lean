/-! THE CLAIM OUT OF ONE WALK OF THE LAW'S BODY. Your part is whole_start (and what it stands on); all else here is the same for every law, but numbers. -/
def R_law : String := "SiegePlateLaw"
def lw_P (b : Addr) (xs : List Int32) (args : Array Value) (s : State) : Prop := args = #[.ref b] ∧ s.IntsAt b xs ∧ xs.length ≤ 320 ∧ (Jvm.Cond.and given_1 narrow_1).before args s = true
def lw_Q (_ : Array Value) (s : State) (o : Outcome) (t : State) : Prop := o = .returned (some (.int 1)) ∧ Framed s o t [] 600000 7302250
def lw_Z (below : List Frame) (a : Array Value) (s : State) : State → Prop := fun t => ∃ o, t.status = .running ∧ Ended t below o ∧ lw_Q a s o t
/-- the law's own end, with 1 on the stack, nothing written that was there before, its room as the claim has it -/
theorem lw_ret {p : Program} {l : Launch} {e : Env} {s : State} {m : MethodId} {below : List Frame} {meth : Method} {c : Code} {b : Nat} (hx : p.tables.exec = Jvm.exec) (hb : c.code = code) (hr : meth.sig.returnType = ret) (hlocks : meth.locks = false) {pc : Nat} {H : Heap} {ls : Array Slot} (hdg : decode code pc = .ok (.ireturn, 1)) : W p l e room_1 s m #[Value.ref b] below meth c H [] 600000 7302250 (lw_Z below #[Value.ref b] s) (F0 m pc ls [.int 1]) := by
  intro T hT X
  obtain ⟨fs, hret, hrun, hended, hW, hframe⟩ := X.leave (v := some (.int 1)) (hlocks := hlocks) (fun h => by rw [hr] at h; cases h)
  have hmeth' : T.vm.method? m = some meth := X.method'
  refine ⟨T.setFrames fs, ?_, .returned (some (.int 1)), hrun, hended, rfl, ⟨_, rfl⟩, hW, hframe⟩
  jvm_step X.here [X.here.top, hx, hb, hdg, hmeth', hr, ret, narrow_b1]
  (try refine ⟨rfl, ?_⟩); (try refine ⟨rfl, ?_⟩)
  first | (intro acts; rw [hret _ acts rfl rfl rfl]) | rw [hret _ _ rfl rfl rfl]
  exact Steps.refl _
/-- what holds at the law's entry: the machine, the code, the tables' words (any of lw_tbl by 'hts w (by decide +kernel)'), the script of L ints xs at the cell b, what the Statement gives of the start (any of its parts by flat_of_before) -/
def lw_At (p : Program) (s : State) (m : MethodId) (meth : Method) (c : Code) (b L : Nat) (xs : Nat → Int32) : Prop :=
  p.tables.exec = Jvm.exec ∧ c.code = code ∧ meth.sig.returnType = ret ∧ c.maxLocals = 4 ∧ s.vm.findClass R_law = some m.cls ∧ (∀ w ∈ lw_tbl, w.before #[Value.ref b] s = true) ∧ va_X b L xs s s.heap ∧ b < s.heap.size ∧ meth.locks = false ∧ (Jvm.Cond.and given_1 narrow_1).before #[Value.ref b] s = true
theorem mem_num : ∀ j, j < 5 → Cond.eq (.elem (.static "SiegePlate$Reader" "NUMBERS" "[I") (.int (Int32.ofNat j))) (.int (numV.getD j 0)) ∈ flatC (Jvm.Cond.and given_1 narrow_1) := by decide +kernel
theorem mem_low : ∀ j, j < 15 → Cond.eq (.elem (.static "SiegePlate$Reader" "LOWEST" "[I") (.int (Int32.ofNat j))) (.int (lowV.getD j 0)) ∈ flatC (Jvm.Cond.and given_1 narrow_1) := by decide +kernel
theorem mem_hig : ∀ j, j < 15 → Cond.eq (.elem (.static "SiegePlate$Reader" "HIGHEST" "[I") (.int (Int32.ofNat j))) (.int (higV.getD j 0)) ∈ flatC (Jvm.Cond.and given_1 narrow_1) := by decide +kernel
theorem mem_oth : Cond.arrayOf (.static "SiegePlate$Reader" "NUMBERS" "[I") .int ∈ flatC (Jvm.Cond.and given_1 narrow_1) ∧ Cond.eq (.length (.static "SiegePlate$Reader" "NUMBERS" "[I")) (.int (Int32.ofNat 5)) ∈ flatC (Jvm.Cond.and given_1 narrow_1) ∧ Cond.arrayOf (.static "SiegePlate$Reader" "LOWEST" "[I") .int ∈ flatC (Jvm.Cond.and given_1 narrow_1) ∧ Cond.eq (.length (.static "SiegePlate$Reader" "LOWEST" "[I")) (.int (Int32.ofNat 15)) ∈ flatC (Jvm.Cond.and given_1 narrow_1) ∧ Cond.arrayOf (.static "SiegePlate$Reader" "HIGHEST" "[I") .int ∈ flatC (Jvm.Cond.and given_1 narrow_1) ∧ Cond.eq (.length (.static "SiegePlate$Reader" "HIGHEST" "[I")) (.int (Int32.ofNat 15)) ∈ flatC (Jvm.Cond.and given_1 narrow_1) := by decide +kernel
theorem mem_w : Cond.laysStatic "SiegePlate$Reader" "NUMBERS" "[I" ∈ lw_tbl ∧ Cond.laysStatic "SiegePlate$Reader" "LOWEST" "[I" ∈ lw_tbl ∧ Cond.laysStatic "SiegePlate$Reader" "HIGHEST" "[I" ∈ lw_tbl ∧ Cond.initialized "SiegePlate$Reader" ∈ lw_tbl ∧ Cond.arrayOver (.object "SiegePlate$Siege") ∈ lw_tbl ∧ Cond.arrayOver (.object "SiegePlate$Camp") ∈ lw_tbl ∧ Cond.arrayOver (.object "SiegePlate$Image") ∈ lw_tbl :=
  ⟨List.mem_of_getElem? (i := 461) (by decide +kernel), List.mem_of_getElem? (i := 463) (by decide +kernel), List.mem_of_getElem? (i := 465) (by decide +kernel), List.mem_of_getElem? (i := 58) (by decide +kernel), List.mem_of_getElem? (i := 270) (by decide +kernel), List.mem_of_getElem? (i := 292) (by decide +kernel), List.mem_of_getElem? (i := 284) (by decide +kernel)⟩
theorem kn_of {s : State} {args : Array Value} {own : String} {idx k : Nat} (hts : ∀ w ∈ tb, w.before args s = true) (hc : CL own idx k) : ∃ z : ClassId × (Nat → Nat), ∀ q : vw_C, vwCl[k]? = some q → u_Kn s q.1 q.2.1 q.2.2 z.1 z.2 := by
  obtain ⟨Cn, T, N, ⟨h1, h2, h3, -⟩, -, h4, -⟩ := hc
  obtain ⟨c, iS, hk⟩ := u_known hts h3 (hts _ h4)
  refine ⟨(c, iS), fun q hq => ?_⟩
  rw [h1] at hq
  cases hq
  exact hk
theorem kn_all {s : State} {args : Array Value} (hts : ∀ w ∈ tb, w.before args s = true) : ∀ k : Nat, ∃ z : ClassId × (Nat → Nat), ∀ q : vw_C, vwCl[k]? = some q → u_Kn s q.1 q.2.1 q.2.2 z.1 z.2
  | 0 => kn_of hts clX10_67
  | 1 => kn_of hts clX6_9
  | 2 => kn_of hts clX10_47
  | 3 => kn_of hts clX10_40
  | 4 => kn_of hts clX10_16
  | 5 => kn_of hts clX10_60
  | 6 => kn_of hts clX10_33
  | 7 => kn_of hts clX10_7
  | 8 => kn_of hts clX10_23
  | 9 => kn_of hts clX10_53
  | 10 => kn_of hts clL_7
  | 11 => kn_of hts clL_10
  | k + 12 => by
    obtain ⟨z, -⟩ := kn_of hts clL_10
    refine ⟨z, fun q hq => ?_⟩
    rw [List.getElem?_eq_none (by show 12 ≤ k + 12; omega)] at hq
    cases hq
theorem ar_of {s : State} {args : Array Value} {ty : FieldType} (h : (Cond.arrayClass ty).before args s = true) (hn : ∀ C, ty ≠ .object C) : ∃ c, ArrOfT s c ty ∧ va_RA s c ty := by
  obtain ⟨c, k, comp, h1, h2, h3⟩ := Cond.arrayClass_spec h
  refine ⟨c, fun n z => ⟨fun k h => (by cases h), k, h2, comp, h3⟩, ?_⟩
  cases ty <;> first | exact h1 | exact absurd rfl (hn _)
theorem ao_of {s : State} {args : Array Value} {C : String} (h : (Cond.arrayOver (.object C)).before args s = true) : ∃ c, ArrOfT s c (.object C) ∧ va_RA s c (.object C) := by
  obtain ⟨comp, c, k, h1, h2, h3, h4, h5⟩ := Cond.arrayOver_spec h
  exact ⟨c, fun n z => ⟨fun k h => (by cases h), k, h3, comp, h4⟩, k, comp, h3, h4, h1, h5⟩
theorem gr_of {s : State} {args : Array Value} {nm : String} {xs : List Int32} {A : Nat → Prop} (hN : xs.length < 2 ^ 31) (hl : (Cond.laysStatic "SiegePlate$Reader" nm "[I").before args s = true) (hini : (Cond.initialized "SiegePlate$Reader").before args s = true) (harr : (Cond.arrayOf (.static "SiegePlate$Reader" nm "[I") .int).before args s = true) (hlen : (Cond.eq (.length (.static "SiegePlate$Reader" nm "[I")) (.int (Int32.ofNat xs.length))).before args s = true) (hel : ∀ j, j < xs.length → (Cond.eq (.elem (.static "SiegePlate$Reader" nm "[I") (.int (Int32.ofNat j))) (.int (xs.getD j 0))).before args s = true) (hA : ∀ a : Nat, a < s.heap.size → ¬ A a) : ∃ t, va_Z "SiegePlate$Reader" nm "[I" (.ref t) A s s.heap ∧ va_T .int t xs.length (fun j => .int (xs.getD j 0)) A s s.heap := by
  obtain ⟨t, ht, hT⟩ := va_Tof (f := fun j => .int (xs.getD j 0)) hN harr (va_eqv hlen rfl) (fun j hj => va_eqv (hel j hj) rfl) hA
  exact ⟨t, va_Zof hl hini ht hA, hT⟩
set_option maxRecDepth 100000 in
set_option maxHeartbeats 8000000 in
theorem whole_start {p : Program} {e : Env} {s : State} {m : MethodId} {below : List Frame} {meth : Method} {c : Code} (l : Launch) (hflags : l.flags = flags0) {b L : Nat} {xs : Nat → Int32} (hL : L ≤ 320) (C0 : lw_At p s m meth c b L xs) : W p l e room_1 s m #[Value.ref b] below meth c s.heap [] 0 0 (lw_Z below #[Value.ref b] s) (entryFrame m ([Value.ref b] : List Value).toArray 4) := by
  obtain ⟨hx, hb, hr, hml, hown, hts, hX, hbl, hlocks, hgv⟩ := C0
  have htb : ∀ w ∈ tb, w.before #[Value.ref b] s = true := fun w hw => hts w (List.mem_filter.mp hw).1
  have hfl := flat_of_before _ hgv
  obtain ⟨w1, w2, w3, w4, w5, w6, w7⟩ := mem_w
  obtain ⟨o1, o2, o3, o4, o5, o6⟩ := mem_oth
  have hAout : ∀ a : Nat, a < s.heap.size → ¬ (fun q : Nat => s.heap.size ≤ q) a := fun a ha => Nat.not_le.mpr ha
  obtain ⟨t1, z1, r1⟩ := gr_of (xs := numV) (A := fun q => s.heap.size ≤ q) (by decide) (hts _ w1) (hts _ w4) (hfl _ o1) (hfl _ o2) (fun j hj => hfl _ (mem_num j hj)) hAout
  obtain ⟨t2, z2, r2⟩ := gr_of (xs := lowV) (A := fun q => s.heap.size ≤ q) (by decide) (hts _ w2) (hts _ w4) (hfl _ o3) (hfl _ o4) (fun j hj => hfl _ (mem_low j hj)) hAout
  obtain ⟨t3, z3, r3⟩ := gr_of (xs := higV) (A := fun q => s.heap.size ≤ q) (by decide) (hts _ w3) (hts _ w4) (hfl _ o5) (hfl _ o6) (fun j hj => hfl _ (mem_hig j hj)) hAout
  obtain ⟨fz, hfz⟩ := Classical.skolem.mp (kn_all htb)
  obtain ⟨c0, a0⟩ := ar_of (htb _ aw_I) (fun C => by intro z; cases z)
  obtain ⟨c1, a1⟩ := ar_of (htb _ aw_Z) (fun C => by intro z; cases z)
  obtain ⟨c2, a2⟩ := ao_of (hts _ w5)
  obtain ⟨c3, a3⟩ := ao_of (hts _ w6)
  obtain ⟨c4, a4⟩ := ao_of (hts _ w7)
  obtain ⟨E, eE⟩ : ∃ E : Ev, E = (l, s.heap.size, (fun k => (fz k).1, fun k => (fz k).2), (fun t => if t = 0 then c0 else if t = 1 then c1 else if t = 2 then c2 else if t = 3 then c3 else c4), (fun k => if k = 60 then t1 else if k = 61 then t2 else if k = 62 then t3 else b), 0, fun _ => 0) := ⟨_, rfl⟩
  obtain ⟨G, eG⟩ : ∃ G : Gv, G = (p, e, room_1, s, m, #[Value.ref b], below, meth, c, 0) := ⟨_, rfl⟩
  have hK : va_K E.2.2.1 vwCl (tys E) s := by
    subst eE
    refine ⟨fun k q hq => hfz k q hq, fun k q hq => ?_⟩
    match k, hq with
    | 0, hq => cases hq; exact a0
    | 1, hq => cases hq; exact a1
    | 2, hq => cases hq; exact a2
    | 3, hq => cases hq; exact a3
    | 4, hq => cases hq; exact a4
    | k + 5, hq => simp [tys] at hq
  have hEn : En E s s.heap := by
    refine ⟨hK, fun w hw => ?_, ⟨va_AO.of (hts _ w5), va_AO.of (hts _ w6), va_AO.of (hts _ w7)⟩, ?_, ?_, ?_⟩
    · have h1 := hts w (List.mem_append_right _ (List.mem_filter.mp hw).1)
      obtain ⟨_, _, _, _, rfl⟩ := nest_is hw
      exact va_Nw.of rfl h1
    · subst eE; exact ⟨z1, r1⟩
    · subst eE; exact ⟨z2, r2⟩
    · subst eE; exact ⟨z3, r3⟩
  have C : Cx E G 9 code RL 243 := by
    subst eG
    refine ⟨hx, hb, hown, htb, hEn, by subst eE; rfl, ⟨by show (9 : Nat) ≤ 9; exact Nat.le_refl _, by show (270 : Nat) ≤ 316; decide⟩, ⟨by show (243 : Nat) ≤ 600000; decide, ?_⟩, ⟨Nat.zero_le _, Nat.le_refl _⟩, hlocks⟩
    show sl 243 - sl 0 ≤ 7302250
    decide +kernel
  have hg : gn G = 0 := by subst eG; rfl
  have hX2 : va_X (E.2.2.2.2.1 63) L xs (gs G) (gs G).heap := by subst eE eG; exact hX
  have hA2 : E.2.2.2.2.1 63 < E.2.1 := by subst eE; exact hbl
  have fin : ∀ R h L', Wa E G 243 R h (lw_Z below #[Value.ref b] s) 951 L' [aI (nI 1)] := by
    intro R h L' H locs ls hP hS hl
    have eE1 : E.1 = l := by subst eE; rfl
    have eE2 : E.2.1 = s.heap.size := by subst eE; rfl
    rw [eE1]
    subst eG
    refine va_forget (fun q hq => by have := hS.2.2 q hq; unfold fA at this; rw [eE2] at this; exact this) ?_
    refine W.widen (k := 600000) (n := 7302250) (by show (243 : Nat) ≤ 600000; decide) (by show sl 243 - sl 0 ≤ 7302250; decide +kernel) ?_
    exact lw_ret hx hb hr hlocks dL_law_951.1
  have start : Wa E G 0 (fun _ _ _ => none) (fun _ _ _ => 0) (lw_Z below #[Value.ref b] s) 0 [some (aR 63 0), none, none, none] [] := by
    have hU : Un 0 (fun _ _ _ => none) (fun _ _ _ => 0) := fun q _ _ i => ⟨rfl, rfl⟩
    have j0 : idq 0 = (10, 0) := by decide +kernel
    have j221 : idq 221 = (11, 0) := by decide +kernel
    refine r_new C clL_7 dL_law_0 j0 ⟨by omega, by omega⟩ (fun _ => rfl) (fun _ => rfl) ?_
    refine r_dup C dL_law_3 rfl ?_
    refine r_callI C (n_10 (E := E) hU) dL_law_4 cw_X10_init ciL_9 (by omega) rfl ⟨by omega, by omega, by omega⟩ rfl (Nat.le_of_ble_eq_true rfl) ?_
    rintro v R1 h1 ⟨rfl, d1, v1, m1⟩
    have z221 := un_at v1 (q := 221) (by decide) (by decide) j221
    refine r_astore_n C dL_law_7 st1 ?_
    refine r_new C clL_10 dL_law_8 j221 ⟨by omega, by omega⟩ (fun i => (z221 i).1) (fun i => (z221 i).2) ?_
    refine r_dup C dL_law_11 rfl ?_
    refine r_callI C (k_11 (E := E) v1) dL_law_12 cw_X11_init ciL_12 (by omega) rfl ⟨by omega, by omega, by omega⟩ rfl (Nat.le_of_ble_eq_true rfl) ?_
    rintro v R2 h2 ⟨rfl, d2, v2, m2⟩
    refine wa_done (fun q hq1 hq2 => ?_) ?_
    · by_cases e : q < 221
      · exact (d1 q (by omega) (by omega)).sq (m2 q e)
      · exact d2 q (by omega) (by omega)
    · refine r_astore_n C dL_law_15 st2 ?_
      refine r_iconst (v := (nI 0)) C dL_law_16 (by decide) ?_
      refine r_istore_n C dL_law_17 st3 ?_
      exact law_loop C hg hL hX2 hA2 fin L 0 (by omega) (by omega) 0 1 H0 g0 (by decide) (by decide) (by decide) cp_0 mp_0 vp_0
  have hl := lv_entry ([.ref b]) (n := 4) (Nat.le_of_ble_eq_true rfl)
  rw [lg_entry_eq]
  have h2 := start s.heap [] ((lg_sl ([.ref b]) ++ List.replicate (4 - (lg_sl ([.ref b])).length) Slot.unset).toArray) (fun k q hk => by simp [wsl] at hk) (by subst eG; exact va_S.rf) (by
    subst eE eG
    refine ⟨by show 4 ≤ c.maxLocals; rw [hml]; exact Nat.le_refl _, ?_⟩
    show lv_has _ c.maxLocals _
    rw [hml]
    exact hl)
  subst eE eG
  exact h2
set_option maxHeartbeats 4000000 in
theorem lw_walk (l : Launch) (hflags : l.flags = flags0) (b : Addr) (xs : List Int32) : MetFree l x (headSpec (Jvm.Cond.code x code maxLocals ret :: tables_1) room_1) (lw_P b xs) (fun _ _ _ _ _ => True) lw_Q := by
  refine MetFree.of_bodyS (code := code) (maxLocals := maxLocals) (ret := ret) (by decide) ?_ ?_
  · intro args s m h hn
    obtain ⟨meth, c, h1, h2, h3, h4, h5, h6, -, -⟩ := Cond.code_spec hn (atoms_spec (ws := Jvm.Cond.code x code maxLocals ret :: tables_1) h _ List.mem_cons_self)
    exact ⟨meth, c, h1, h2, h3, h4, h5, h6⟩
  · intro p e s m args below meth c s₁ B hml0 hP _
    obtain ⟨rfl, hx, hbd, hgv⟩ := hP
    obtain ⟨scr, harrAt, hlist, hof, hsmall⟩ := hx
    obtain ⟨hcb, hkn, -, -⟩ := State.arrayAt?_spec harrAt
    have hown : s.vm.findClass R_law = some m.cls := findClass_of_methodNamed B.named
    have hts0 : ∀ c ∈ (Jvm.Cond.code x code maxLocals ret :: tables_1), c.before #[Value.ref b] s = true := atoms_spec (ws := Jvm.Cond.code x code maxLocals ret :: tables_1) B.pre
    have hts : ∀ w ∈ lw_tbl, w.before #[Value.ref b] s = true := k2_hts_sels lw_privs (fun w hw => hts0 w (List.mem_cons_of_mem _ hw)) lw_privs_ok
    have hml : c.maxLocals = 4 := B.maxLocals_eq (hts0 _ List.mem_cons_self)
    have X₀ : Stand p l e room_1 s m #[Value.ref b] below meth c s₁ [] 0 0 := Stand.of_body B
    have hh0 : s₁.heap = s.heap := by rw [B.state]; rfl
    have hsz : scr.slots.size = xs.length := by rw [← Array.length_toList, hlist, List.length_map]
    have hval : ∀ j : Nat, j < xs.length → scr.slots[j]? = some (.int (xs.getD j 0)) := fun j hj => by
      rw [← Array.getElem?_toList, hlist]
      simp [hj]
    have hbl : b < s.heap.size := (Array.getElem?_eq_some_iff.mp hcb).1
    have hX : va_X b xs.length (fun j => xs.getD j 0) s s.heap := ⟨scr, hcb, hof, hkn, hsz, hval⟩
    have K : W p l e room_1 s m #[Value.ref b] below meth c s₁.heap [] 0 0 (lw_Z below #[Value.ref b] s) (entryFrame m ([Value.ref b] : List Value).toArray 4) := by
      rw [hh0]
      exact whole_start l hflags hbd ⟨B.exec, B.bytes, B.returns, hml, hown, hts, hX, hbl, B.notSynchronized, hgv⟩
    obtain ⟨t, a1, o, b1, b2, b3⟩ := K s₁ rfl X₀
    exact ⟨t, o, a1, b1, b2, b3⟩
theorem lw_pre_spec {args : Array Value} {s : State} (h : (Jvm.Cond.and given_1 narrow_1).before args s = true) (hr : rest_1_c.before args s = true) : ∃ (b : Addr) (xs : List Int32), lw_P b xs args s := by
  have hs := flat_of_before _ h
  have hq := flat_of_before _ hr
  have hc : (Cond.count 1).before args s = true := hs _ (by decide +kernel)
  have harr : (Cond.arrayOf (.arg 0) .int).before args s = true := hs _ (by decide +kernel)
  have hle : (Cond.le (.length (.arg 0)) (.int 320)).before args s = true := hs _ (by decide +kernel)
  have hlen : (Cond.isInt (.length (.arg 0))).before args s = true := hq _ (by decide +kernel)
  have hall : (Cond.all (.arg 0) (.isInt (.elem (.arg 0) (.index 0)))).before args s = true := hq _ (by decide +kernel)
  obtain ⟨b, xs, hb, hx⟩ := State.ints_of_pre rfl harr hlen hall
  have hsm : xs.length < 2 ^ 31 := hx.choose_spec.2.2.2
  have hev : (Term.length (.arg 0)).eval args s none [] s = some (.int xs.length.toInt32) := hx.length_eval hb
  have hv := Cond.le_ints hev (show (Term.int 320).eval args s none [] s = some (.int 320) from rfl)
  have hd : xs.length.toInt32 ≤ 320 := by
    simpa [Cond.before, Cond.holds, hv] using hle
  have hN : xs.length ≤ 320 := (Int32.ofNat_le_ofNat hsm (by decide)).mp (show Int32.ofNat xs.length ≤ Int32.ofNat 320 from hd)
  exact ⟨b, xs, Cond.one_arg hc (show args[0]? = some (.ref b) from hb), hx, hN, h⟩
theorem lw_comes (l : Launch) (hflags : l.flags = flags0) : Comes l x (Jvm.Cond.code x code maxLocals ret :: tables_1) room_1 (fun tb e args s => Calls_1 tb e args s ∧ rest_1 tb e args s ∧ Pre_1 tb e args s)
    (fun _ _ args s o t => lw_Q args s o t) := by
  intro p e ha hc hk s m args below hf hfit hheap happ hpre
  obtain ⟨b, xs, hP⟩ := lw_pre_spec hpre.2.2 hpre.2.1
  obtain ⟨k, o, h1, h2, h3, hQ⟩ := lw_walk l hflags b xs p e ha hc hk s m args below hf ((Spec.applies_iff_loose hf).mp happ).1 hP trivial
  exact ⟨k, o, h1, h2, h3, hQ⟩
theorem lw_frame {s t : State} {o : Outcome} {args : Array Value} (h : Framed s o t [] 600000 7302250) :
    Framed s o t (fieldLocs frame_1_writes args s ++ arrayLocs frame_1_arrays args s ++ staticLocs frame_1_statics s) 600000 7302250 := h
theorem lw_limb (L : Cond) (hL : ∀ (args : Array Value) (s t : State), L.after args s (.returned (some (.int 1))) t = true) :
    ArmFor flags0 classFile x code maxLocals ret World_1 tables_1 room_1 Calls_1 rest_1 Pre_1
      (fun tb e a s o t => postC L tb e a s o t ∧ Framed s o t (fieldLocs frame_1_writes a s ++ arrayLocs frame_1_arrays a s ++ staticLocs frame_1_statics s) 600000 7302250) := by
  intro l hflags _ _ p e ha hc hk s m args below hf hfit hheap happ hpre
  obtain ⟨k, o, h1, h2, h3, rfl, hF⟩ := lw_comes l hflags p e ha hc hk s m args below hf hfit hheap happ hpre
  exact ⟨k, _, h1, h2, h3, hL args s _, lw_frame hF⟩
theorem i_vc : Claimed_1_1 ∧ Claimed_1_2 := ⟨lw_limb limb_1_1 (fun args s t => by simp [limb_1_1, Cond.after, Cond.holds, Cond.value]), lw_limb limb_1_2 (fun args s t => Cond.after_iff.mpr (by
  first | (rw [show limb_1_2 = Cond.eq .result (.int 1) from rfl, Cond.eq_ints (x := 1) (y := 1) rfl rfl]; simp; done) | (simp [limb_1_2, Cond.value, Term.eval]; done)))⟩

