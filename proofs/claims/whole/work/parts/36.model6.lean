/-! what is owed, what a thing costs, what a promise is worth -/
set_option maxRecDepth 100000 in
set_option maxHeartbeats 4000000 in
theorem m_owedTo {E : Ev} {a b c rd : Nat} {h : HF} {N : Nat → Nat} {T : Tv} {s : Sv} (ht : mtw h N T) (hs : mw h 0 s) (hc : c < 5) (hr : rd < 3) : Ct E 0 yX11_owedTo cX11_owedTo 5 (some .int) [aR 11 0, aI (nI c), aI (nI rd)] 243 (Rs a b) h 243 (qst a b h (owF T s c rd (N 1))) := by
  refine Ct.of 2 (L0 := [some (aR 11 0), some (aI (nI c)), some (aI (nI rd)), none, none]) (by decide) ⟨Nat.le_refl _, Nat.le_refl _⟩ rfl rfl ?_
  intro G C hg hrt hnm
  have hN : gn G ≤ 243 ∧ 243 ≤ 243 ∧ 243 ≤ 243 := ⟨by omega, by decide, by decide⟩
  have b1 := ht.2.2.2.2.2.2.2.2.2.2.1
  refine r_aload_n C dX11_owedTo_0 rfl ?_
  refine r_getR C flX11_7 dX11_owedTo_1 ok11 rfl rfl ?_
  refine r_bipush (v := (nI 15)) C dX11_owedTo_4 (by decide) ?_
  refine r_iload_n C dX11_owedTo_6 rfl ?_
  first | refine r_iaddN C dX11_owedTo_7 ?_ | refine r_iadd C dX11_owedTo_7 ?_
  refine q_ialdV (m := 1080) C dX11_owedTo_8 ok39 rfl rfl (by omega) (mw0 hs (by omega)) ?_
  refine r_istore_n C dX11_owedTo_9 st3 ?_
  refine r_iconst (v := (nI 0)) C dX11_owedTo_10 (by decide) ?_
  refine r_istore C dX11_owedTo_11 st4 ?_
  have loop : ∀ k m, m + k = N 1 → Wa E G 243 (Rs a b) h (QQ E G 243 (qst a b h (owF T s c rd (N 1)))) 13 [some (aR 11 0), some (aI (nI c)), some (aI (nI rd)), some (aI (owF T s c rd m)), some (aI (nI m))] [] := by
    intro k
    induction k with
    | zero =>
      intro m hm
      have e : m = N 1 := by omega
      subst e
      refine r_iload C dX11_owedTo_13 rfl ?_
      refine r_aload_n C dX11_owedTo_15 rfl ?_
      refine q_getV C flX11_89 dX11_owedTo_16 ok11 rfl ht.2.1 ?_
      refine r_icmpN_ge C dX11_owedTo_19 (by omega) (by omega) (fun _ => ?_) (fun cc => absurd cc (by omega))
      refine r_iload_n C dX11_owedTo_76 rfl ?_
      refine r_iret C hrt dX11_owedTo_77 ?_
      exact ⟨rfl, rfl, rfl⟩
    | succ k ih =>
      intro m hm
      have e1 : h 39 0 (24 + 4 * c + m) = s (24 + (c * 4 + m)) := by
        rw [show 24 + 4 * c + m = 24 + (c * 4 + m) by omega]
        exact mw0 hs (by omega)
      have ih2 := ih (m + 1) (by omega)
      rw [owF] at ih2
      have fin : ∀ y, y = wosF T m rd → Wa E G 243 (Rs a b) h (QQ E G 243 (qst a b h (owF T s c rd (N 1)))) 67 [some (aR 11 0), some (aI (nI c)), some (aI (nI rd)), some (aI (owF T s c rd m)), some (aI (nI m))] [aI y, aI (s (24 + (c * 4 + m))), aI (owF T s c rd m)] := by
        intro y hy
        subst hy
        refine r_imul C dX11_owedTo_67 ?_
        refine r_iadd C dX11_owedTo_68 ?_
        refine r_istore_n C dX11_owedTo_69 st3 ?_
        first | refine r_iincN C dX11_owedTo_70 rfl st4 ?_ | refine r_iinc C dX11_owedTo_70 rfl rfl st4 ?_
        refine r_goto C dX11_owedTo_73 ?_
        exact ih2
      refine r_iload C dX11_owedTo_13 rfl ?_
      refine r_aload_n C dX11_owedTo_15 rfl ?_
      refine q_getV C flX11_89 dX11_owedTo_16 ok11 rfl ht.2.1 ?_
      refine r_icmpN_ge C dX11_owedTo_19 (by omega) (by omega) (fun cc => absurd cc (by omega)) (fun _ => ?_)
      refine r_iload_n C dX11_owedTo_22 rfl ?_
      refine r_aload_n C dX11_owedTo_23 rfl ?_
      refine r_getR C flX11_7 dX11_owedTo_24 ok11 rfl rfl ?_
      refine r_bipush (v := (nI 24)) C dX11_owedTo_27 (by decide) ?_
      refine r_iconst (v := (nI 4)) C dX11_owedTo_29 (by decide) ?_
      refine r_iload_n C dX11_owedTo_30 rfl ?_
      first | refine r_imulN C dX11_owedTo_31 ?_ | refine r_imul C dX11_owedTo_31 ?_
      first | refine r_iaddN C dX11_owedTo_32 ?_ | refine r_iadd C dX11_owedTo_32 ?_
      refine r_iload C dX11_owedTo_33 rfl ?_
      first | refine r_iaddN C dX11_owedTo_35 ?_ | refine r_iadd C dX11_owedTo_35 ?_
      refine q_ialdV (m := 1080) C dX11_owedTo_36 ok39 rfl rfl (by omega) e1 ?_
      refine r_iload_n C dX11_owedTo_37 rfl ?_
      rcases (show rd = 0 ∨ rd = 1 ∨ rd = 2 by omega) with rfl | rfl | rfl
      · refine r_if_ne C dX11_owedTo_38 (fun cc => absurd cc (by exact fun z => z rfl)) (fun _ => ?_)
        refine r_aload_n C dX11_owedTo_41 rfl ?_
        refine r_getR C flX11_23 dX11_owedTo_42 ok11 rfl rfl ?_
        refine r_iload C dX11_owedTo_45 rfl ?_
        refine q_ialdV (m := 4) C dX11_owedTo_47 ok43 rfl rfl (by omega) ((ht.2.2.2.2.2.2.1 m (by omega)).1) ?_
        refine r_goto C dX11_owedTo_48 ?_
        exact fin _ rfl
      · refine r_if_ne C dX11_owedTo_38 (fun _ => ?_) (fun cc => absurd cc (by decide))
        refine r_iload_n C dX11_owedTo_51 rfl ?_
        refine r_iconst (v := (nI 1)) C dX11_owedTo_52 (by decide) ?_
        refine r_icmp_ne C dX11_owedTo_53 (fun cc => absurd cc (by exact fun z => z rfl)) (fun _ => ?_)
        refine r_aload_n C dX11_owedTo_56 rfl ?_
        refine r_getR C flX11_26 dX11_owedTo_57 ok11 rfl rfl ?_
        refine r_iload C dX11_owedTo_60 rfl ?_
        refine q_ialdV (m := 4) C dX11_owedTo_62 ok44 rfl rfl (by omega) ((ht.2.2.2.2.2.2.1 m (by omega)).2) ?_
        refine r_goto C dX11_owedTo_63 ?_
        exact fin _ rfl
      · refine r_if_ne C dX11_owedTo_38 (fun _ => ?_) (fun cc => absurd cc (by decide))
        refine r_iload_n C dX11_owedTo_51 rfl ?_
        refine r_iconst (v := (nI 1)) C dX11_owedTo_52 (by decide) ?_
        refine r_icmp_ne C dX11_owedTo_53 (fun _ => ?_) (fun cc => absurd cc (by decide))
        refine r_iconst (v := (nI 1)) C dX11_owedTo_66 (by decide) ?_
        exact fin _ rfl
  exact loop (N 1) 0 (by omega)
set_option maxRecDepth 100000 in
set_option maxHeartbeats 4000000 in
theorem m_owed {E : Ev} {a b : Nat} {h : HF} {g : Gs} {c r : Int32} (hc : MP h g) : Ct E 2 yX11_owed cX11_owed 3 (some .int) [aR 11 0, aI c, aI r] 243 (Rs a b) h 243 (qst a b h (owedF g c r)) := by
  refine Ct.of 0 (L0 := [some (aR 11 0), some (aI c), some (aI r)]) (by decide) ⟨Nat.le_refl _, Nat.le_refl _⟩ rfl rfl ?_
  intro G C hg hrt hnm
  have hN : gn G ≤ 243 ∧ 243 ≤ 243 ∧ 243 ≤ 243 := ⟨by omega, by decide, by decide⟩
  have p2 := hc.2.1
  have b0 := p2.2.2.2.2.2.2.2.2.2.1
  refine r_aload_n C dX11_owed_0 rfl ?_
  refine r_iload_n C dX11_owed_1 rfl ?_
  refine r_callV C (m_isCompany p2) dX11_owed_2 cw_X11_isCompany cvX11_191 (by omega) ok11 rfl hN rfl (Nat.le_of_ble_eq_true rfl) ?_
  rintro v R' h1 ⟨rfl, rfl, rfl⟩
  cases hx : ixO c (gNn g 0) with
  | none =>
    rw [owedF, hx, ixB_n hx]
    refine r_if_ne C dX11_owed_5 (fun cc => absurd cc (by exact fun z => z rfl)) (fun _ => ?_)
    refine r_ldc C dX11_owed_8 kX11_194 ?_
    refine r_iret C hrt dX11_owed_10 ?_
    exact ⟨rfl, rfl, rfl⟩
  | some i =>
    obtain ⟨hi, rfl⟩ := ixO_some hx
    rw [owedF, hx, ixB_s hx]
    refine r_if_ne C dX11_owed_5 (fun _ => ?_) (fun cc => absurd cc (by decide))
    refine r_iload_n C dX11_owed_11 rfl ?_
    refine r_i2l C dX11_owed_12 ?_
    refine r_lconst (v := 0) C dX11_owed_13 (by decide) ?_
    refine r_ldc2 C dX11_owed_14 klX11_263 ?_
    refine r_callS C m_in dX11_owed_17 cw_X11_in csX11_85 (by omega) rfl hN rfl (Nat.le_of_ble_eq_true rfl) ?_
    rintro v R' h2 ⟨rfl, rfl, rfl⟩
    rw [in64 (lo := nI 0) (hi := nI 2) (by decide) (by decide), show (if nI 0 ≤ r ∧ r ≤ nI 2 then nI 1 else nI 0) = ixB r 3 from ix_lit (n := 3) (by decide) (by decide)]
    cases hy : ixO r 3 with
    | none =>
      rw [ixB_n hy]
      refine r_if_eq C dX11_owed_20 (fun _ => ?_) (fun cc => absurd cc (by exact fun z => z rfl))
      refine r_ldc C dX11_owed_32 kX11_99 ?_
      refine r_iret C hrt dX11_owed_34 ?_
      exact ⟨rfl, rfl, rfl⟩
    | some k =>
      obtain ⟨hk, rfl⟩ := ixO_some hy
      rw [ixB_s hy]
      refine r_if_eq C dX11_owed_20 (fun cc => absurd cc (by decide)) (fun _ => ?_)
      refine r_aload_n C dX11_owed_23 rfl ?_
      refine r_iload_n C dX11_owed_24 rfl ?_
      refine r_iload_n C dX11_owed_25 rfl ?_
      refine r_callV C (m_owedTo p2 hc.2.2.1 (by omega) hk) dX11_owed_26 cw_X11_owedTo cvX11_265 (by omega) ok11 rfl hN rfl (Nat.le_of_ble_eq_true rfl) ?_
      rintro v R' h3 ⟨rfl, rfl, rfl⟩
      refine r_goto C dX11_owed_29 ?_
      refine r_iret C hrt dX11_owed_34 ?_
      exact ⟨rfl, rfl, rfl⟩
set_option maxRecDepth 100000 in
set_option maxHeartbeats 4000000 in
theorem m_costsBy {E : Ev} {a b i : Nat} {h : HF} {N : Nat → Nat} {T : Tv} {x : Int32} (ht : mtw h N T) (hi : i < N 2) : Ct E 0 yX11_costsBy cX11_costsBy 3 (some .int) [aR 11 0, aI (nI i), aI x] 243 (Rs a b) h 243 (qst a b h (pcF (T 4 i) x)) := by
  refine Ct.of 0 (L0 := [some (aR 11 0), some (aI (nI i)), some (aI x)]) (by decide) ⟨Nat.le_refl _, Nat.le_refl _⟩ rfl rfl ?_
  intro G C hg hrt hnm
  have hN : gn G ≤ 243 ∧ 243 ≤ 243 ∧ 243 ≤ 243 := ⟨by omega, by decide, by decide⟩
  have b2 := ht.2.2.2.2.2.2.2.2.2.2.2.1
  refine r_aload_n C dX11_costsBy_0 rfl ?_
  refine r_getR C flX11_29 dX11_costsBy_1 ok11 rfl rfl ?_
  refine r_iload_n C dX11_costsBy_4 rfl ?_
  refine q_ialdV (m := 6) C dX11_costsBy_5 ok45 rfl rfl (by omega) (ht.2.2.2.2.2.2.2.1 i hi) ?_
  refine r_bipush (v := (nI 10)) C dX11_costsBy_6 (by decide) ?_
  refine r_iconst (v := (nI 3)) C dX11_costsBy_8 (by decide) ?_
  refine r_iload_n C dX11_costsBy_9 rfl ?_
  refine r_imul C dX11_costsBy_10 ?_
  refine r_iadd C dX11_costsBy_11 ?_
  refine r_imul C dX11_costsBy_12 ?_
  refine r_bipush (v := (nI 10)) C dX11_costsBy_13 (by decide) ?_
  refine r_idiv C dX11_costsBy_15 (by decide) ?_
  refine r_iret C hrt dX11_costsBy_16 ?_
  exact ⟨rfl, rfl, rfl⟩
set_option maxRecDepth 100000 in
set_option maxHeartbeats 4000000 in
theorem m_costs {E : Ev} {a b : Nat} {h : HF} {g : Gs} {q : Int32} (hc : MP h g) : Ct E 2 yX11_costs cX11_costs 2 (some .int) [aR 11 0, aI q] 243 (Rs a b) h 243 (qst a b h (costF g q)) := by
  refine Ct.of 0 (L0 := [some (aR 11 0), some (aI q)]) (by decide) ⟨Nat.le_refl _, Nat.le_refl _⟩ rfl rfl ?_
  intro G C hg hrt hnm
  have hN : gn G ≤ 243 ∧ 243 ≤ 243 ∧ 243 ≤ 243 := ⟨by omega, by decide, by decide⟩
  have p2 := hc.2.1
  refine r_aload_n C dX11_costs_0 rfl ?_
  refine r_iload_n C dX11_costs_1 rfl ?_
  refine r_callV C (m_isGood p2) dX11_costs_2 cw_X11_isGood cvX11_243 (by omega) ok11 rfl hN rfl (Nat.le_of_ble_eq_true rfl) ?_
  rintro v R' h1 ⟨rfl, rfl, rfl⟩
  cases hx : ixO q (gNn g 2) with
  | none =>
    rw [costF, hx, ixB_n hx]
    refine r_if_eq C dX11_costs_5 (fun _ => ?_) (fun cc => absurd cc (by exact fun z => z rfl))
    refine r_ldc C dX11_costs_22 kX11_194 ?_
    refine r_iret C hrt dX11_costs_24 ?_
    exact ⟨rfl, rfl, rfl⟩
  | some i =>
    obtain ⟨hi, rfl⟩ := ixO_some hx
    rw [costF, hx, ixB_s hx]
    refine r_if_eq C dX11_costs_5 (fun cc => absurd cc (by decide)) (fun _ => ?_)
    refine r_aload_n C dX11_costs_8 rfl ?_
    refine r_iload_n C dX11_costs_9 rfl ?_
    refine r_aload_n C dX11_costs_10 rfl ?_
    refine r_getR C flX11_7 dX11_costs_11 ok11 rfl rfl ?_
    refine r_iconst (v := (nI 3)) C dX11_costs_14 (by decide) ?_
    refine q_ialdV (m := 1080) C dX11_costs_15 ok39 rfl rfl (by omega) (mw0 hc.2.2.1 (by decide)) ?_
    refine r_callV C (m_costsBy p2 hi) dX11_costs_16 cw_X11_costsBy cvX11_246 (by omega) ok11 rfl hN rfl (Nat.le_of_ble_eq_true rfl) ?_
    rintro v R' h2 ⟨rfl, rfl, rfl⟩
    refine r_goto C dX11_costs_19 ?_
    refine r_iret C hrt dX11_costs_24 ?_
    exact ⟨rfl, rfl, rfl⟩
set_option maxRecDepth 100000 in
set_option maxHeartbeats 4000000 in
theorem m_hungerFor {E : Ev} {a b m i : Nat} {h : HF} {N : Nat → Nat} {T : Tv} (ht : mtw h N T) (hm : m < N 1) (hi : i < N 2) : Ct E 1 yX11_hungerFor cX11_hungerFor 4 (some .int) [aR 11 0, aI (nI m), aI (nI i)] 243 (Rs a b) h 243 (qst a b h (lhF (T 4 i) (T 2 m) 100 0)) := by
  refine Ct.of 1 (L0 := [some (aR 11 0), some (aI (nI m)), some (aI (nI i)), none]) (by decide) ⟨Nat.le_refl _, Nat.le_refl _⟩ rfl rfl ?_
  intro G C hg hrt hnm
  have hN : gn G ≤ 243 ∧ 243 ≤ 243 ∧ 243 ≤ 243 := ⟨by omega, by decide, by decide⟩
  have b1 := ht.2.2.2.2.2.2.2.2.2.2.1
  refine r_iconst (v := (nI 0)) C dX11_hungerFor_0 (by decide) ?_
  refine r_istore_n C dX11_hungerFor_1 st3 ?_
  have loop : ∀ k x, x + k = 100 → lhF (T 4 i) (T 2 m) k x = lhF (T 4 i) (T 2 m) 100 0 → Wa E G 243 (Rs a b) h (QQ E G 243 (qst a b h (lhF (T 4 i) (T 2 m) 100 0))) 2 [some (aR 11 0), some (aI (nI m)), some (aI (nI i)), some (aI (nI x))] [] := by
    intro k
    induction k with
    | zero =>
      intro x hx he
      refine r_iload_n C dX11_hungerFor_2 rfl ?_
      refine r_bipush (v := (nI 100)) C dX11_hungerFor_3 (by decide) ?_
      refine r_icmpN_ge C dX11_hungerFor_5 (by omega) (by omega) (fun _ => ?_) (fun cc => absurd cc (by omega))
      refine r_iconst (v := (-1)) C dX11_hungerFor_31 (by decide) ?_
      refine r_iret C hrt dX11_hungerFor_32 ?_
      rw [← he]
      exact ⟨rfl, rfl, rfl⟩
    | succ k ih =>
      intro x hx he
      rw [lhF] at he
      refine r_iload_n C dX11_hungerFor_2 rfl ?_
      refine r_bipush (v := (nI 100)) C dX11_hungerFor_3 (by decide) ?_
      refine r_icmpN_ge C dX11_hungerFor_5 (by omega) (by omega) (fun cc => absurd cc (by omega)) (fun _ => ?_)
      refine r_aload_n C dX11_hungerFor_8 rfl ?_
      refine r_iload_n C dX11_hungerFor_9 rfl ?_
      refine r_iload_n C dX11_hungerFor_10 rfl ?_
      refine r_callV C (m_costsBy ht hi) dX11_hungerFor_11 cw_X11_costsBy cvX11_246 (by omega) ok11 rfl hN rfl (Nat.le_of_ble_eq_true rfl) ?_
      rintro v R' h1 ⟨rfl, rfl, rfl⟩
      refine r_aload_n C dX11_hungerFor_14 rfl ?_
      refine r_getR C flX11_23 dX11_hungerFor_15 ok11 rfl rfl ?_
      refine r_iload_n C dX11_hungerFor_18 rfl ?_
      refine q_ialdV (m := 4) C dX11_hungerFor_19 ok43 rfl rfl (by omega) ((ht.2.2.2.2.2.2.1 m hm).1) ?_
      refine r_icmp_ne C dX11_hungerFor_20 (fun c20 => ?_) (fun c20 => ?_)
      · rw [if_neg c20] at he
        first | refine r_iincN C dX11_hungerFor_25 rfl st3 ?_ | refine r_iinc C dX11_hungerFor_25 rfl rfl st3 ?_
        refine r_goto C dX11_hungerFor_28 ?_
        exact ih (x + 1) (by omega) he
      · rw [if_pos c20] at he
        refine r_iload_n C dX11_hungerFor_23 rfl ?_
        refine r_iret C hrt dX11_hungerFor_24 ?_
        rw [← he]
        exact ⟨rfl, rfl, rfl⟩
  exact loop 100 0 rfl rfl
set_option maxRecDepth 100000 in
set_option maxHeartbeats 4000000 in
theorem m_bought {E : Ev} {a b : Nat} {h : HF} {g : Gs} {m q : Int32} (hc : MP h g) : Ct E 2 yX11_bought cX11_bought 5 (some .int) [aR 11 0, aI m, aI q] 243 (Rs a b) h 243 (qst a b h (bgtF g m q)) := by
  refine Ct.of 2 (L0 := [some (aR 11 0), some (aI m), some (aI q), none, none]) (by decide) ⟨Nat.le_refl _, Nat.le_refl _⟩ rfl rfl ?_
  intro G C hg hrt hnm
  have hN : gn G ≤ 243 ∧ 243 ≤ 243 ∧ 243 ≤ 243 := ⟨by omega, by decide, by decide⟩
  have p2 := hc.2.1
  have b2 := p2.2.2.2.2.2.2.2.2.2.2.2.1
  refine r_aload_n C dX11_bought_0 rfl ?_
  refine r_iload_n C dX11_bought_1 rfl ?_
  refine r_callV C (m_isMoney p2) dX11_bought_2 cw_X11_isMoney cvX11_195 (by omega) ok11 rfl hN rfl (Nat.le_of_ble_eq_true rfl) ?_
  rintro v R' h1 ⟨rfl, rfl, rfl⟩
  cases hx : ixO m (gNn g 1) with
  | none =>
    rw [bgtF, hx, ixB_n hx]
    refine r_if_eq C dX11_bought_5 (fun _ => ?_) (fun cc => absurd cc (by exact fun z => z rfl))
    refine r_ldc C dX11_bought_21 kX11_194 ?_
    refine r_iret C hrt dX11_bought_23 ?_
    exact ⟨rfl, rfl, rfl⟩
  | some i =>
    obtain ⟨hi, rfl⟩ := ixO_some hx
    rw [bgtF, hx, ixB_s hx]
    refine r_if_eq C dX11_bought_5 (fun cc => absurd cc (by decide)) (fun _ => ?_)
    refine r_iload_n C dX11_bought_8 rfl ?_
    refine r_iconst (v := (-1)) C dX11_bought_9 (by decide) ?_
    by_cases hq : q = -1
    · subst hq
      refine r_icmp_eq C dX11_bought_10 (fun _ => ?_) (fun cc => absurd cc (by exact fun z => z rfl))
      refine r_iload_n C dX11_bought_24 rfl ?_
      refine r_iconst (v := (-1)) C dX11_bought_25 (by decide) ?_
      refine r_icmp_eq C dX11_bought_26 (fun _ => ?_) (fun cc => absurd cc (by exact fun z => z rfl))
      refine r_iconst (v := (nI 0)) C dX11_bought_36 (by decide) ?_
      refine r_istore_n C dX11_bought_37 st3 ?_
      refine r_iconst (v := (nI 0)) C dX11_bought_38 (by decide) ?_
      refine r_istore C dX11_bought_39 st4 ?_
      have loop : ∀ k j, j + k = gNn g 2 → Wa E G 243 (Rs a b) h1 (QQ E G 243 (qst a b h1 (bghF g i (gNn g 2)))) 41 [some (aR 11 0), some (aI (nI i)), some (aI (-1)), some (aI (bghF g i j)), some (aI (nI j))] [] := by
        intro k
        induction k with
        | zero =>
          intro j hj
          have e : j = gNn g 2 := by omega
          refine r_iload C dX11_bought_41 rfl ?_
          refine r_aload_n C dX11_bought_43 rfl ?_
          refine q_getV C flX11_92 dX11_bought_44 ok11 rfl p2.2.2.1 ?_
          refine r_icmpN_ge C dX11_bought_47 (by omega) (by omega) (fun _ => ?_) (fun cc => absurd cc (by omega))
          refine r_iload_n C dX11_bought_78 rfl ?_
          refine r_iret C hrt dX11_bought_79 ?_
          rw [e]
          exact ⟨rfl, rfl, rfl⟩
        | succ k ih =>
          intro j hj
          have ih2 := ih (j + 1) (by omega)
          rw [bghF] at ih2
          refine r_iload C dX11_bought_41 rfl ?_
          refine r_aload_n C dX11_bought_43 rfl ?_
          refine q_getV C flX11_92 dX11_bought_44 ok11 rfl p2.2.2.1 ?_
          refine r_icmpN_ge C dX11_bought_47 (by omega) (by omega) (fun cc => absurd cc (by omega)) (fun _ => ?_)
          refine r_iload_n C dX11_bought_50 rfl ?_
          refine r_aload_n C dX11_bought_51 rfl ?_
          refine r_iload_n C dX11_bought_52 rfl ?_
          refine r_iload C dX11_bought_53 rfl ?_
          refine r_callV C (m_hungerFor p2 hi (by omega)) dX11_bought_55 cw_X11_hungerFor cvX11_268 (by omega) ok11 rfl hN rfl (Nat.le_of_ble_eq_true rfl) ?_
          rintro v R' h2 ⟨rfl, rfl, rfl⟩
          refine r_iconst (v := (-1)) C dX11_bought_58 (by decide) ?_
          refine r_icmp_ne C dX11_bought_59 (fun c59 => ?_) (fun c59 => ?_)
          · rw [if_neg c59] at ih2
            refine r_iconst (v := (nI 1)) C dX11_bought_66 (by decide) ?_
            refine r_iload C dX11_bought_67 rfl ?_
            refine r_ishl C dX11_bought_69 ?_
            refine r_ior C dX11_bought_70 ?_
            refine r_istore_n C dX11_bought_71 st3 ?_
            first | refine r_iincN C dX11_bought_72 rfl st4 ?_ | refine r_iinc C dX11_bought_72 rfl rfl st4 ?_
            refine r_goto C dX11_bought_75 ?_
            exact ih2
          · rw [if_pos c59] at ih2
            refine r_iconst (v := (nI 0)) C dX11_bought_62 (by decide) ?_
            refine r_goto C dX11_bought_63 ?_
            refine r_ior C dX11_bought_70 ?_
            rw [show bghF g i j ||| nI 0 = bghF g i j from Int32.or_zero]
            refine r_istore_n C dX11_bought_71 st3 ?_
            first | refine r_iincN C dX11_bought_72 rfl st4 ?_ | refine r_iinc C dX11_bought_72 rfl rfl st4 ?_
            refine r_goto C dX11_bought_75 ?_
            exact ih2
      exact loop (gNn g 2) 0 (by omega)
    · refine r_icmp_eq C dX11_bought_10 (fun cc => absurd cc (by exact hq)) (fun _ => ?_)
      show Wa E G 243 (Rs a b) h1 (QQ E G 243 (qst a b h1 (if q = -1 then _ else _))) _ _ _
      rw [if_neg hq]
      refine r_aload_n C dX11_bought_13 rfl ?_
      refine r_iload_n C dX11_bought_14 rfl ?_
      refine r_callV C (m_isGood p2) dX11_bought_15 cw_X11_isGood cvX11_243 (by omega) ok11 rfl hN rfl (Nat.le_of_ble_eq_true rfl) ?_
      rintro v R' h2 ⟨rfl, rfl, rfl⟩
      cases hy : ixO q (gNn g 2) with
      | none =>
        rw [ixB_n hy]
        refine r_if_ne C dX11_bought_18 (fun cc => absurd cc (by exact fun z => z rfl)) (fun _ => ?_)
        refine r_ldc C dX11_bought_21 kX11_194 ?_
        refine r_iret C hrt dX11_bought_23 ?_
        exact ⟨rfl, rfl, rfl⟩
      | some j =>
        obtain ⟨hj, rfl⟩ := ixO_some hy
        rw [ixB_s hy]
        refine r_if_ne C dX11_bought_18 (fun _ => ?_) (fun cc => absurd cc (by decide))
        refine r_iload_n C dX11_bought_24 rfl ?_
        refine r_iconst (v := (-1)) C dX11_bought_25 (by decide) ?_
        refine r_icmp_eq C dX11_bought_26 (fun cc => absurd cc (by exact hq)) (fun _ => ?_)
        refine r_aload_n C dX11_bought_29 rfl ?_
        refine r_iload_n C dX11_bought_30 rfl ?_
        refine r_iload_n C dX11_bought_31 rfl ?_
        refine r_callV C (m_hungerFor p2 hi hj) dX11_bought_32 cw_X11_hungerFor cvX11_268 (by omega) ok11 rfl hN rfl (Nat.le_of_ble_eq_true rfl) ?_
        rintro v R' h3 ⟨rfl, rfl, rfl⟩
        refine r_iret C hrt dX11_bought_35 ?_
        exact ⟨rfl, rfl, rfl⟩
def wwN (j : Nat) : Nat → Nat
  | 0 => 1000000
  | k + 1 => wwN j k * (100 - j) / 100
theorem wwN_le {j : Nat} : ∀ k, wwN j k ≤ 1000000
  | 0 => Nat.le_refl _
  | k + 1 => by
    have h := wwN_le (j := j) k
    rw [wwN]
    have h2 : wwN j k * (100 - j) ≤ 1000000 * 100 := Nat.mul_le_mul h (by omega)
    omega
theorem ww_mul {a b j : Nat} (ha : a ≤ 1000000) (hb : b ≤ 100) : a * b ≤ 100000000 := Nat.mul_le_mul ha hb
theorem wwF_N {j : Nat} (hj : j ≤ 99) : ∀ k, wwF (nI j) k = nI (wwN j k)
  | 0 => by rw [wwF, wwN]; rfl
  | k + 1 => by
    have h := ww_mul (j := j) (wwN_le (j := j) k) (show 100 - j ≤ 100 by omega)
    rw [wwF, wwF_N hj k, pk_sub (by omega), pk_mul, pk_div (by omega) (by decide) (by decide), wwN]
theorem ww_stepL {a j : Nat} (ha : a ≤ 1000000) (hj : j ≤ 99) : lN a * (nI 100 - nI j).toInt64 / 100 = lN (a * (100 - j) / 100) := by
  have h := ww_mul (j := j) ha (show 100 - j ≤ 100 by omega)
  rw [pk_sub (by omega), nI_l (by omega), lN_mul, show (100 : Int64) = lN 100 from rfl, pk_lDiv (by omega) (by decide) (by decide)]
theorem ww_endL {a p : Nat} (ha : a ≤ 1000000) (hp : p ≤ 99) : ((nI p).toInt64 * (1000000 - lN a) / 1000).toInt32 = nI p * (1000000 - nI a) / nI 1000 := by
  have h : p * (1000000 - a) ≤ 99 * 1000000 := Nat.mul_le_mul hp (by omega)
  rw [nI_l (by omega), show (1000000 : Int64) = lN 1000000 from rfl, lN_sub ha, lN_mul, show (1000 : Int64) = lN 1000 from rfl, pk_lDiv (by omega) (by decide) (by decide), lN_i, show (1000000 : Int32) = nI 1000000 from rfl, pk_sub ha, pk_mul, pk_div (by omega) (by decide) (by decide)]
set_option maxRecDepth 100000 in
set_option maxHeartbeats 4000000 in
theorem m_worthOf {E : Ev} {a b m n j p : Nat} {h : HF} {g : Gs} (hc : MP h g) (hm : m < gNn g 1) (hn : n < 2 ^ 31) (hj : j ≤ 99) (hp : p ≤ 99) (ho : gSv g 1 = nI j) (ht : gT g 2 m = nI p) : Ct E 0 yX11_worthOf cX11_worthOf 6 (some .int) [aR 11 0, aI (nI m), aI (nI n)] 243 (Rs a b) h 243 (qst a b h (wwR g m n)) := by
  refine Ct.of 3 (L0 := [some (aR 11 0), some (aI (nI m)), some (aI (nI n)), none, none, none]) (by decide) ⟨Nat.le_refl _, Nat.le_refl _⟩ rfl rfl ?_
  intro G C hg hrt hnm
  have hN : gn G ≤ 243 ∧ 243 ≤ 243 ∧ 243 ≤ 243 := ⟨by omega, by decide, by decide⟩
  have p2 := hc.2.1
  have b1 := p2.2.2.2.2.2.2.2.2.2.2.1
  have e1 : h 39 0 1 = nI j := (mw0 hc.2.2.1 (by decide)).trans ho
  have e2 : h 43 0 m = nI p := ((p2.2.2.2.2.2.2.1 m hm).1).trans ht
  have ew : wwR g m n = nI p * (1000000 - nI (wwN j n)) / nI 1000 := by rw [wwR, ht, ho, wwF_N hj]
  rw [ew]
  refine r_ldc2 C dX11_worthOf_0 klX11_250 ?_
  refine r_lstore_n C dX11_worthOf_3 sl3 ?_
  refine r_iconst (v := (nI 0)) C dX11_worthOf_4 (by decide) ?_
  refine r_istore C dX11_worthOf_5 st5 ?_
  have loop : ∀ k i, i + k = n → Wa E G 243 (Rs a b) h (QQ E G 243 (qst a b h (nI p * (1000000 - nI (wwN j n)) / nI 1000))) 7 [some (aR 11 0), some (aI (nI m)), some (aI (nI n)), some (aL (lN (wwN j i))), none, some (aI (nI i))] [] := by
    intro k
    induction k with
    | zero =>
      intro i hi
      have e : i = n := by omega
      subst e
      refine r_iload C dX11_worthOf_7 rfl ?_
      refine r_iload_n C dX11_worthOf_9 rfl ?_
      refine r_icmpN_ge C dX11_worthOf_10 (by omega) (by omega) (fun _ => ?_) (fun cc => absurd cc (by omega))
      refine r_aload_n C dX11_worthOf_36 rfl ?_
      refine r_getR C flX11_23 dX11_worthOf_37 ok11 rfl rfl ?_
      refine r_iload_n C dX11_worthOf_40 rfl ?_
      refine q_ialdV (m := 4) C dX11_worthOf_41 ok43 rfl rfl (by omega) e2 ?_
      refine r_i2l C dX11_worthOf_42 ?_
      refine r_ldc2 C dX11_worthOf_43 klX11_250 ?_
      refine r_lload_n C dX11_worthOf_46 rfl ?_
      refine r_lsub C dX11_worthOf_47 ?_
      refine r_lmul C dX11_worthOf_48 ?_
      refine r_ldc2 C dX11_worthOf_49 klX11_254 ?_
      refine r_ldiv C dX11_worthOf_52 (by decide) ?_
      refine r_l2i C dX11_worthOf_53 ?_
      rw [ww_endL (wwN_le i) hp]
      refine r_iret C hrt dX11_worthOf_54 ?_
      exact ⟨rfl, rfl, rfl⟩
    | succ k ih =>
      intro i hi
      refine r_iload C dX11_worthOf_7 rfl ?_
      refine r_iload_n C dX11_worthOf_9 rfl ?_
      refine r_icmpN_ge C dX11_worthOf_10 (by omega) (by omega) (fun cc => absurd cc (by omega)) (fun _ => ?_)
      refine r_lload_n C dX11_worthOf_13 rfl ?_
      refine r_bipush (v := (nI 100)) C dX11_worthOf_14 (by decide) ?_
      refine r_aload_n C dX11_worthOf_16 rfl ?_
      refine r_getR C flX11_7 dX11_worthOf_17 ok11 rfl rfl ?_
      refine r_iconst (v := (nI 1)) C dX11_worthOf_20 (by decide) ?_
      refine q_ialdV (m := 1080) C dX11_worthOf_21 ok39 rfl rfl (by omega) e1 ?_
      refine r_isub C dX11_worthOf_22 ?_
      refine r_i2l C dX11_worthOf_23 ?_
      refine r_lmul C dX11_worthOf_24 ?_
      refine r_ldc2 C dX11_worthOf_25 klX11_252 ?_
      refine r_ldiv C dX11_worthOf_28 (by decide) ?_
      rw [ww_stepL (wwN_le i) hj]
      refine r_lstore_n C dX11_worthOf_29 sl3 ?_
      first | refine r_iincN C dX11_worthOf_30 rfl st5 ?_ | refine r_iinc C dX11_worthOf_30 rfl rfl st5 ?_
      refine r_goto C dX11_worthOf_33 ?_
      exact ih (i + 1) (by omega)
  exact loop n 0 (by omega)
set_option maxRecDepth 100000 in
set_option maxHeartbeats 4000000 in
theorem m_promise {E : Ev} {a b : Nat} {h : HF} {g : Gs} {m n : Int32} (hc : MP h g) (ho : ∃ j, j ≤ 99 ∧ gSv g 1 = nI j) (ht : ∀ m, m < gNn g 1 → ∃ p, p ≤ 99 ∧ gT g 2 m = nI p) : Ct E 2 yX11_promise cX11_promise 3 (some .int) [aR 11 0, aI m, aI n] 243 (Rs a b) h 243 (qst a b h (promF g m n)) := by
  refine Ct.of 0 (L0 := [some (aR 11 0), some (aI m), some (aI n)]) (by decide) ⟨Nat.le_refl _, Nat.le_refl _⟩ rfl rfl ?_
  intro G C hg hrt hnm
  have hN : gn G ≤ 243 ∧ 243 ≤ 243 ∧ 243 ≤ 243 := ⟨by omega, by decide, by decide⟩
  have p2 := hc.2.1
  obtain ⟨j, hj, ho⟩ := ho
  refine r_aload_n C dX11_promise_0 rfl ?_
  refine r_iload_n C dX11_promise_1 rfl ?_
  refine r_callV C (m_isMoney p2) dX11_promise_2 cw_X11_isMoney cvX11_195 (by omega) ok11 rfl hN rfl (Nat.le_of_ble_eq_true rfl) ?_
  rintro v R' h1 ⟨rfl, rfl, rfl⟩
  cases hx : ixO m (gNn g 1) with
  | none =>
    rw [promF, hx, ixB_n hx]
    refine r_if_ne C dX11_promise_5 (fun cc => absurd cc (by exact fun z => z rfl)) (fun _ => ?_)
    refine r_ldc C dX11_promise_8 kX11_194 ?_
    refine r_iret C hrt dX11_promise_10 ?_
    exact ⟨rfl, rfl, rfl⟩
  | some i =>
    obtain ⟨hi, rfl⟩ := ixO_some hx
    obtain ⟨p, hp, ht⟩ := ht i hi
    rw [promF, hx, ixB_s hx]
    refine r_if_ne C dX11_promise_5 (fun _ => ?_) (fun cc => absurd cc (by decide))
    refine r_iload_n C dX11_promise_11 rfl ?_
    refine r_i2l C dX11_promise_12 ?_
    refine r_lconst (v := 0) C dX11_promise_13 (by decide) ?_
    refine r_ldc2 C dX11_promise_14 klX11_256 ?_
    refine r_callS C m_in dX11_promise_17 cw_X11_in csX11_85 (by omega) rfl hN rfl (Nat.le_of_ble_eq_true rfl) ?_
    rintro v R' h2 ⟨rfl, rfl, rfl⟩
    rw [in64 (lo := nI 0) (hi := nI 60) (by decide) (by decide), show (if nI 0 ≤ n ∧ n ≤ nI 60 then nI 1 else nI 0) = ixB n 61 from ix_lit (n := 61) (by decide) (by decide)]
    cases hy : ixO n 61 with
    | none =>
      rw [ixB_n hy]
      refine r_if_eq C dX11_promise_20 (fun _ => ?_) (fun cc => absurd cc (by exact fun z => z rfl))
      refine r_ldc C dX11_promise_32 kX11_99 ?_
      refine r_iret C hrt dX11_promise_34 ?_
      exact ⟨rfl, rfl, rfl⟩
    | some k =>
      obtain ⟨hk, rfl⟩ := ixO_some hy
      rw [ixB_s hy]
      refine r_if_eq C dX11_promise_20 (fun cc => absurd cc (by decide)) (fun _ => ?_)
      refine r_aload_n C dX11_promise_23 rfl ?_
      refine r_iload_n C dX11_promise_24 rfl ?_
      refine r_iload_n C dX11_promise_25 rfl ?_
      refine r_callV C (m_worthOf hc hi (by omega) hj hp ho ht) dX11_promise_26 cw_X11_worthOf cvX11_258 (by omega) ok11 rfl hN rfl (Nat.le_of_ble_eq_true rfl) ?_
      rintro v R' h3 ⟨rfl, rfl, rfl⟩
      refine r_goto C dX11_promise_29 ?_
      refine r_iret C hrt dX11_promise_34 ?_
      exact ⟨rfl, rfl, rfl⟩
set_option maxRecDepth 100000 in
set_option maxHeartbeats 4000000 in
theorem m_offer {E : Ev} {a b : Nat} {h : HF} {g : Gs} {v x : Int32} (hc : MP h g) (ho : ∃ j, j ≤ 99 ∧ gSv g 1 = nI j) (ht : ∀ m, m < gNn g 1 → ∃ p, p ≤ 99 ∧ gT g 2 m = nI p) : Ct E 1 yX11_offer cX11_offer 3 (some .int) [aR 11 0, aI v, aI x] 243 (Rs a b) h 243 (qst a b h (offF g v x)) := by
  refine Ct.of 0 (L0 := [some (aR 11 0), some (aI v), some (aI x)]) (by decide) ⟨Nat.le_refl _, Nat.le_refl _⟩ rfl rfl ?_
  intro G C hg hrt hnm
  have hN : gn G ≤ 243 ∧ 243 ≤ 243 ∧ 243 ≤ 243 := ⟨by omega, by decide, by decide⟩
  have p2 := hc.2.1
  have b1 := p2.2.2.2.2.2.2.2.2.2.2.1
  obtain ⟨j, hj, ho⟩ := ho
  rw [offF]
  have bad : ¬ ((nI 1 ≤ v ∧ v ≤ nI 999) ∧ (nI 0 ≤ x ∧ x ≤ 99999999)) → Wa E G 243 (Rs a b) h (QQ E G 243 (qst a b h (if (nI 1 ≤ v ∧ v ≤ nI 999) ∧ (nI 0 ≤ x ∧ x ≤ 99999999) then (if gNn g 1 = 0 then cN else if x ≤ v * wwR g 0 9 then nI 0 else nI 1) else cO))) 24 [some (aR 11 0), some (aI v), some (aI x)] [] := by
    intro hn
    rw [if_neg hn]
    refine r_ldc C dX11_offer_24 kX11_99 ?_
    refine r_iret C hrt dX11_offer_26 ?_
    exact ⟨rfl, rfl, rfl⟩
  refine r_iload_n C dX11_offer_0 rfl ?_
  refine r_i2l C dX11_offer_1 ?_
  refine r_lconst (v := 1) C dX11_offer_2 (by decide) ?_
  refine r_ldc2 C dX11_offer_3 klX11_271 ?_
  refine r_callS C m_in dX11_offer_6 cw_X11_in csX11_85 (by omega) rfl hN rfl (Nat.le_of_ble_eq_true rfl) ?_
  rintro v R' h1 ⟨rfl, rfl, rfl⟩
  rw [in64 (lo := nI 1) (hi := nI 999) (by decide) (by decide)]
  by_cases q1 : nI 1 ≤ v ∧ v ≤ nI 999
  · rw [if_pos q1]
    refine r_if_eq C dX11_offer_9 (fun cc => absurd cc (by decide)) (fun _ => ?_)
    refine r_iload_n C dX11_offer_12 rfl ?_
    refine r_i2l C dX11_offer_13 ?_
    refine r_lconst (v := 0) C dX11_offer_14 (by decide) ?_
    refine r_ldc2 C dX11_offer_15 klX11_273 ?_
    refine r_callS C m_in dX11_offer_18 cw_X11_in csX11_85 (by omega) rfl hN rfl (Nat.le_of_ble_eq_true rfl) ?_
    rintro v R' h2 ⟨rfl, rfl, rfl⟩
    rw [in64 (lo := nI 0) (hi := 99999999) (by decide) (by decide)]
    by_cases q2 : nI 0 ≤ x ∧ x ≤ 99999999
    · rw [if_pos q2, if_pos ⟨q1, q2⟩]
      refine r_if_ne C dX11_offer_21 (fun _ => ?_) (fun cc => absurd cc (by decide))
      refine r_aload_n C dX11_offer_27 rfl ?_
      refine q_getV C flX11_89 dX11_offer_28 ok11 rfl p2.2.1 ?_
      by_cases hz : gNn g 1 = 0
      · rw [if_pos hz, hz]
        refine r_if_ne C dX11_offer_31 (fun cc => absurd cc (by exact fun z => z rfl)) (fun _ => ?_)
        refine r_ldc C dX11_offer_34 kX11_212 ?_
        refine r_iret C hrt dX11_offer_36 ?_
        exact ⟨rfl, rfl, rfl⟩
      · rw [if_neg hz]
        obtain ⟨p, hp, ht⟩ := ht 0 (by omega)
        refine r_if_ne C dX11_offer_31 (fun _ => ?_) (fun cc => absurd cc (nI_ne0 (by omega) (by omega)))
        refine r_iload_n C dX11_offer_37 rfl ?_
        refine r_iload_n C dX11_offer_38 rfl ?_
        refine r_aload_n C dX11_offer_39 rfl ?_
        refine r_iconst (v := (nI 0)) C dX11_offer_40 (by decide) ?_
        refine r_bipush (v := (nI 9)) C dX11_offer_41 (by decide) ?_
        refine r_callV C (m_worthOf hc (by omega) (by decide) hj hp ho ht) dX11_offer_43 cw_X11_worthOf cvX11_258 (by omega) ok11 rfl hN rfl (Nat.le_of_ble_eq_true rfl) ?_
        rintro v R' h3 ⟨rfl, rfl, rfl⟩
        refine r_imul C dX11_offer_46 ?_
        refine r_icmp_le C dX11_offer_47 (fun c47 => ?_) (fun c47 => ?_)
        · rw [if_pos c47]
          refine r_iconst (v := (nI 0)) C dX11_offer_54 (by decide) ?_
          refine r_iret C hrt dX11_offer_55 ?_
          exact ⟨rfl, rfl, rfl⟩
        · rw [if_neg c47]
          refine r_iconst (v := (nI 1)) C dX11_offer_50 (by decide) ?_
          refine r_goto C dX11_offer_51 ?_
          refine r_iret C hrt dX11_offer_55 ?_
          exact ⟨rfl, rfl, rfl⟩
    · rw [if_neg q2]
      refine r_if_ne C dX11_offer_21 (fun cc => absurd cc (by exact fun z => z rfl)) (fun _ => ?_)
      exact bad (fun z => q2 z.2)
  · rw [if_neg q1]
    refine r_if_eq C dX11_offer_9 (fun _ => ?_) (fun cc => absurd cc (by exact fun z => z rfl))
    exact bad (fun z => q1 z.1)
theorem nI_mod31 (a : Nat) : (nI a).toBitVec.toNat % 2 ^ 31 = a % 2147483648 := by
  show a % 2 ^ 32 % 2 ^ 31 = _
  omega
theorem draw_eq {j : Nat} (hj : j < 2 ^ 31) : ((nI j).toInt64 * 1103515245 + 12345 - ((nI j).toInt64 * 1103515245 + 12345) / 2147483648 * 2147483648).toInt32 = ndF (nI j) := by
  have h : j * 1103515245 ≤ 2147483648 * 1103515245 := Nat.mul_le_mul_right _ (by omega)
  rw [nI_l hj, show (1103515245 : Int64) = lN 1103515245 from rfl, lN_mul, show (12345 : Int64) = lN 12345 from rfl, lN_add, show (2147483648 : Int64) = lN 2147483648 from rfl, pk_lRem (by omega) (by decide) (by decide), lN_i, ndF, show (1103515245 : Int32) = nI 1103515245 from rfl, pk_mul, nI_add, pk_and _ 31 (by decide)]
  exact congrArg nI (nI_mod31 _).symm
set_option maxRecDepth 100000 in
set_option maxHeartbeats 4000000 in
theorem m_draw {E : Ev} {a b : Nat} {h : HF} {s : Sv} {n : Int32} (hs : mw h 0 s) (h0 : 0 ≤ (s 44).toInt) (hn : ¬ n = 0) : Ct E 0 yX11_draw cX11_draw 2 (some .int) [aR 11 0, aI n] 243 (Rs a b) h 243 (fun v R' h' => v = some (aI (drwF (s 44) n)) ∧ R' = Rs a b ∧ mw h' 0 (va_up s 44 (ndF (s 44))) ∧ Fs (sE 0) h h') := by
  refine Ct.of 0 (L0 := [some (aR 11 0), some (aI n)]) (by decide) ⟨Nat.le_refl _, Nat.le_refl _⟩ rfl rfl ?_
  intro G C hg hrt hnm
  have hN : gn G ≤ 243 ∧ 243 ≤ 243 ∧ 243 ≤ 243 := ⟨by omega, by decide, by decide⟩
  obtain ⟨j, hj, ej⟩ := nI_of (x := s 44) (fun z => by
    rw [Int32.lt_iff_toInt_lt] at z
    have z2 : (s 44).toInt < 0 := z
    omega)
  rw [ej]
  refine r_aload_n C dX11_draw_0 rfl ?_
  refine r_getR C flX11_7 dX11_draw_1 ok11 rfl rfl ?_
  refine r_bipush (v := (nI 44)) C dX11_draw_4 (by decide) ?_
  refine r_aload_n C dX11_draw_6 rfl ?_
  refine r_getR C flX11_7 dX11_draw_7 ok11 rfl rfl ?_
  refine r_bipush (v := (nI 44)) C dX11_draw_10 (by decide) ?_
  refine q_ialdV (m := 1080) C dX11_draw_12 ok39 rfl rfl (by omega) ((mw0 hs (by decide)).trans ej) ?_
  refine r_i2l C dX11_draw_13 ?_
  refine r_ldc2 C dX11_draw_14 klX11_233 ?_
  refine r_lmul C dX11_draw_17 ?_
  refine r_ldc2 C dX11_draw_18 klX11_235 ?_
  refine r_ladd C dX11_draw_21 ?_
  refine r_ldc2 C dX11_draw_22 klX11_237 ?_
  refine r_lrem C dX11_draw_25 (by decide) ?_
  refine r_l2i C dX11_draw_26 ?_
  rw [draw_eq hj]
  refine q_iast (m := 1080) C dX11_draw_27 ok39 rfl rfl (by omega) ?_
  refine r_aload_n C dX11_draw_28 rfl ?_
  refine r_getR C flX11_7 dX11_draw_29 ok11 rfl rfl ?_
  refine r_bipush (v := (nI 44)) C dX11_draw_32 (by decide) ?_
  refine q_ialdV (m := 1080) C dX11_draw_34 ok39 rfl rfl (by omega) put_same ?_
  refine r_ldc C dX11_draw_35 kX11_239 ?_
  refine r_idiv C dX11_draw_37 (by decide) ?_
  refine r_iload_n C dX11_draw_38 rfl ?_
  refine r_irem C dX11_draw_39 hn ?_
  refine r_iret C hrt dX11_draw_40 ?_
  exact ⟨rfl, rfl, mw_put rfl hs, Fs.rf.put (sE_in (by decide))⟩
