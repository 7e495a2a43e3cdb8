def lhF (c p : Int32) : Nat → Nat → Int32
  | 0, _ => -1
  | k + 1, x => if pcF c (nI x) = p then nI x else lhF c p k (x + 1)
set_option maxRecDepth 100000 in
set_option maxHeartbeats 4000000 in
theorem c_leastHungerAt {E : Ev} {a b : Nat} {h : HF} {c p : Int32} : Ct E 1 yX10_leastHungerAt cX10_leastHungerAt 3 (some .int) [aI c, aI p] 243 (Rs a b) h 243 (qst a b h (lhF c p 100 0)) := by
  refine Ct.of 1 (L0 := [some (aI c), some (aI p), none]) (by decide) ⟨Nat.le_refl _, Nat.le_refl _⟩ rfl rfl ?_
  intro G C hg hrt hnm
  have hN : gn G ≤ 243 ∧ 243 ≤ 243 ∧ 243 ≤ 243 := ⟨by omega, by decide, by decide⟩
  refine r_iconst (v := (nI 0)) C dX10_leastHungerAt_0 (by decide) ?_
  refine r_istore_n C dX10_leastHungerAt_1 st2 ?_
  have loop : ∀ k x, x + k = 100 → lhF c p k x = lhF c p 100 0 → Wa E G 243 (Rs a b) h (QQ E G 243 (qst a b h (lhF c p 100 0))) 2 [some (aI c), some (aI p), some (aI (nI x))] [] := by
    intro k
    induction k with
    | zero =>
      intro x hx he
      refine r_iload_n C dX10_leastHungerAt_2 rfl ?_
      refine r_bipush (v := (nI 99)) C dX10_leastHungerAt_3 (by decide) ?_
      refine r_icmpN_gt C dX10_leastHungerAt_5 (by omega) (by omega) (fun _ => ?_) (fun cc => absurd cc (by omega))
      refine r_iconst (v := (-1)) C dX10_leastHungerAt_25 (by decide) ?_
      refine r_iret C hrt dX10_leastHungerAt_26 ?_
      rw [← he]
      exact ⟨rfl, rfl, rfl⟩
    | succ k ih =>
      intro x hx he
      rw [lhF] at he
      refine r_iload_n C dX10_leastHungerAt_2 rfl ?_
      refine r_bipush (v := (nI 99)) C dX10_leastHungerAt_3 (by decide) ?_
      refine r_icmpN_gt C dX10_leastHungerAt_5 (by omega) (by omega) (fun cc => absurd cc (by omega)) (fun _ => ?_)
      refine r_iload_n C dX10_leastHungerAt_8 rfl ?_
      refine r_iload_n C dX10_leastHungerAt_9 rfl ?_
      refine r_callS C c_priceAt dX10_leastHungerAt_10 cw_X10_priceAt csX10_241 (by omega) rfl hN rfl (Nat.le_of_ble_eq_true rfl) ?_
      rintro v R' h1 ⟨rfl, rfl, rfl⟩
      refine r_iload_n C dX10_leastHungerAt_13 rfl ?_
      refine r_icmp_ne C dX10_leastHungerAt_14 (fun c14 => ?_) (fun c14 => ?_)
      · rw [if_neg c14] at he
        first | refine r_iincN C dX10_leastHungerAt_19 rfl st2 ?_ | refine r_iinc C dX10_leastHungerAt_19 rfl rfl st2 ?_
        refine r_goto C dX10_leastHungerAt_22 ?_
        exact ih (x + 1) (by omega) he
      · rw [if_pos c14] at he
        refine r_iload_n C dX10_leastHungerAt_17 rfl ?_
        refine r_iret C hrt dX10_leastHungerAt_18 ?_
        rw [← he]
        exact ⟨rfl, rfl, rfl⟩
  exact loop 100 0 rfl rfl
def bghF (g : Gs) (m : Nat) : Nat → Int32
  | 0 => nI 0
  | i + 1 => if lhF (gT g 4 i) (gT g 2 m) 100 0 = -1 then bghF g m i else bghF g m i ||| (nI 1 <<< (nI i &&& 31))
def bgtF (g : Gs) (m q : Int32) : Int32 := match ixO m (gNn g 1) with
  | none => cU
  | some i => if q = -1 then bghF g i (gNn g 2) else (match ixO q (gNn g 2) with | none => cU | some k => lhF (gT g 4 k) (gT g 2 i) 100 0)
set_option maxRecDepth 100000 in
set_option maxHeartbeats 4000000 in
theorem c_bought {E : Ev} {a b : Nat} {h : HF} {g : Gs} {m q : Int32} (ha : a < 2) (hc : CP h a g) : Ct E 2 yX10_bought cX10_bought 5 (some .int) [aR 10 0, aI m, aI q] 243 (Rs a b) h 243 (qry a b g h (bgtF g m q)) := by
  refine Ct.of 2 (L0 := [some (aR 10 0), some (aI m), some (aI q), none, none]) (by decide) ⟨Nat.le_refl _, Nat.le_refl _⟩ rfl rfl ?_
  intro G C hg hrt hnm
  have hN : gn G ≤ 243 ∧ 243 ≤ 243 ∧ 243 ≤ 243 := ⟨by omega, by decide, by decide⟩
  have p2 := hc.2.1
  have hT : a < 2 := ha
  have b1 := p2.2.2.2.2.2.2.2.2.2.2.1
  have b2 := p2.2.2.2.2.2.2.2.2.2.2.2.1
  refine r_aload_n C dX10_bought_0 rfl ?_
  refine r_iload_n C dX10_bought_1 rfl ?_
  refine r_callV C (c_isMoney hT p2) dX10_bought_2 cw_X10_isMoney cvX10_185 (by omega) ok10 rfl hN rfl (Nat.le_of_ble_eq_true rfl) ?_
  rintro v R' h1 ⟨rfl, rfl, rfl⟩
  cases hx : ixO m (gNn g 1) with
  | none =>
    rw [bgtF, hx, ixB_n hx]
    refine r_if_eq C dX10_bought_5 (fun _ => ?_) (fun cc => absurd cc (by exact fun z => z rfl))
    refine r_ldc C dX10_bought_21 kX10_168 ?_
    refine r_iret C hrt dX10_bought_23 ?_
    exact ⟨rfl, rfl, hc, Fr.rf⟩
  | some i =>
    obtain ⟨hi, rfl⟩ := ixO_some hx
    rw [bgtF, hx, ixB_s hx]
    refine r_if_eq C dX10_bought_5 (fun cc => absurd cc (by decide)) (fun _ => ?_)
    refine r_iload_n C dX10_bought_8 rfl ?_
    refine r_iconst (v := (-1)) C dX10_bought_9 (by decide) ?_
    by_cases hq : q = -1
    · subst hq
      refine r_icmp_eq C dX10_bought_10 (fun _ => ?_) (fun cc => absurd cc (by exact fun z => z rfl))
      refine r_iload_n C dX10_bought_24 rfl ?_
      refine r_iconst (v := (-1)) C dX10_bought_25 (by decide) ?_
      refine r_icmp_eq C dX10_bought_26 (fun _ => ?_) (fun cc => absurd cc (by exact fun z => z rfl))
      refine r_iconst (v := (nI 0)) C dX10_bought_51 (by decide) ?_
      refine r_istore_n C dX10_bought_52 st3 ?_
      refine r_iconst (v := (nI 0)) C dX10_bought_53 (by decide) ?_
      refine r_istore C dX10_bought_54 st4 ?_
      have loop : ∀ k j, j + k = gNn g 2 → Wa E G 243 (Rs a b) h1 (QQ E G 243 (qry a b g h1 (bghF g i (gNn g 2)))) 56 [some (aR 10 0), some (aI (nI i)), some (aI (-1)), some (aI (bghF g i j)), some (aI (nI j))] [] := by
        intro k
        induction k with
        | zero =>
          intro j hj
          have e : j = gNn g 2 := by omega
          refine r_iload C dX10_bought_56 rfl ?_
          refine r_aload_n C dX10_bought_58 rfl ?_
          refine r_getR C flX10_26 dX10_bought_59 ok10 rfl rfl ?_
          refine q_getV C flX10_141 dX10_bought_62 (Ok.full (by decide) hT) rfl p2.2.2.1 ?_
          refine r_icmpN_ge C dX10_bought_65 (by omega) (by omega) (fun _ => ?_) (fun cc => absurd cc (by omega))
          refine r_iload_n C dX10_bought_107 rfl ?_
          refine r_iret C hrt dX10_bought_108 ?_
          rw [e]
          exact ⟨rfl, rfl, hc, Fr.rf⟩
        | succ k ih =>
          intro j hj
          have ih2 := ih (j + 1) (by omega)
          rw [bghF] at ih2
          refine r_iload C dX10_bought_56 rfl ?_
          refine r_aload_n C dX10_bought_58 rfl ?_
          refine r_getR C flX10_26 dX10_bought_59 ok10 rfl rfl ?_
          refine q_getV C flX10_141 dX10_bought_62 (Ok.full (by decide) hT) rfl p2.2.2.1 ?_
          refine r_icmpN_ge C dX10_bought_65 (by omega) (by omega) (fun cc => absurd cc (by omega)) (fun _ => ?_)
          refine r_aload_n C dX10_bought_68 rfl ?_
          refine r_getR C flX10_26 dX10_bought_69 ok10 rfl rfl ?_
          refine r_getR C flX10_238 dX10_bought_72 (Ok.full (by decide) hT) rfl rfl ?_
          refine r_iload C dX10_bought_75 rfl ?_
          refine q_ialdV (m := 6) C dX10_bought_77 (Ok.full (by decide) hT) rfl rfl (by omega) (p2.2.2.2.2.2.2.2.1 j (by omega)) ?_
          refine r_aload_n C dX10_bought_78 rfl ?_
          refine r_getR C flX10_26 dX10_bought_79 ok10 rfl rfl ?_
          refine r_getR C flX10_191 dX10_bought_82 (Ok.full (by decide) hT) rfl rfl ?_
          refine r_iload_n C dX10_bought_85 rfl ?_
          refine q_ialdV (m := 4) C dX10_bought_86 (Ok.full (by decide) hT) rfl rfl (by omega) ((p2.2.2.2.2.2.2.1 i hi).1) ?_
          refine r_callS C c_leastHungerAt dX10_bought_87 cw_X10_leastHungerAt csX10_280 (by omega) rfl hN rfl (Nat.le_of_ble_eq_true rfl) ?_
          rintro v R' h2 ⟨rfl, rfl, rfl⟩
          refine r_iconst (v := (-1)) C dX10_bought_90 (by decide) ?_
          refine r_icmp_eq C dX10_bought_91 (fun c91 => ?_) (fun c91 => ?_)
          · rw [if_pos c91] at ih2
            first | refine r_iincN C dX10_bought_101 rfl st4 ?_ | refine r_iinc C dX10_bought_101 rfl rfl st4 ?_
            refine r_goto C dX10_bought_104 ?_
            exact ih2
          · rw [if_neg c91] at ih2
            refine r_iload_n C dX10_bought_94 rfl ?_
            refine r_iconst (v := (nI 1)) C dX10_bought_95 (by decide) ?_
            refine r_iload C dX10_bought_96 rfl ?_
            refine r_ishl C dX10_bought_98 ?_
            refine r_ior C dX10_bought_99 ?_
            refine r_istore_n C dX10_bought_100 st3 ?_
            first | refine r_iincN C dX10_bought_101 rfl st4 ?_ | refine r_iinc C dX10_bought_101 rfl rfl st4 ?_
            refine r_goto C dX10_bought_104 ?_
            exact ih2
      exact loop (gNn g 2) 0 (by omega)
    · refine r_icmp_eq C dX10_bought_10 (fun cc => absurd cc (by exact hq)) (fun _ => ?_)
      show Wa E G 243 (Rs a b) h1 (QQ E G 243 (qry a b g h1 (if q = -1 then _ else _))) _ _ _
      rw [if_neg hq]
      refine r_aload_n C dX10_bought_13 rfl ?_
      refine r_iload_n C dX10_bought_14 rfl ?_
      refine r_callV C (c_isGood hT p2) dX10_bought_15 cw_X10_isGood cvX10_235 (by omega) ok10 rfl hN rfl (Nat.le_of_ble_eq_true rfl) ?_
      rintro v R' h2 ⟨rfl, rfl, rfl⟩
      cases hy : ixO q (gNn g 2) with
      | none =>
        rw [ixB_n hy]
        refine r_if_ne C dX10_bought_18 (fun cc => absurd cc (by exact fun z => z rfl)) (fun _ => ?_)
        refine r_ldc C dX10_bought_21 kX10_168 ?_
        refine r_iret C hrt dX10_bought_23 ?_
        exact ⟨rfl, rfl, hc, Fr.rf⟩
      | some j =>
        obtain ⟨hj, rfl⟩ := ixO_some hy
        rw [ixB_s hy]
        refine r_if_ne C dX10_bought_18 (fun _ => ?_) (fun cc => absurd cc (by decide))
        refine r_iload_n C dX10_bought_24 rfl ?_
        refine r_iconst (v := (-1)) C dX10_bought_25 (by decide) ?_
        refine r_icmp_eq C dX10_bought_26 (fun cc => absurd cc (by exact hq)) (fun _ => ?_)
        refine r_aload_n C dX10_bought_29 rfl ?_
        refine r_getR C flX10_26 dX10_bought_30 ok10 rfl rfl ?_
        refine r_getR C flX10_238 dX10_bought_33 (Ok.full (by decide) hT) rfl rfl ?_
        refine r_iload_n C dX10_bought_36 rfl ?_
        refine q_ialdV (m := 6) C dX10_bought_37 (Ok.full (by decide) hT) rfl rfl (by omega) (p2.2.2.2.2.2.2.2.1 j hj) ?_
        refine r_aload_n C dX10_bought_38 rfl ?_
        refine r_getR C flX10_26 dX10_bought_39 ok10 rfl rfl ?_
        refine r_getR C flX10_191 dX10_bought_42 (Ok.full (by decide) hT) rfl rfl ?_
        refine r_iload_n C dX10_bought_45 rfl ?_
        refine q_ialdV (m := 4) C dX10_bought_46 (Ok.full (by decide) hT) rfl rfl (by omega) ((p2.2.2.2.2.2.2.1 i hi).1) ?_
        refine r_callS C c_leastHungerAt dX10_bought_47 cw_X10_leastHungerAt csX10_280 (by omega) rfl hN rfl (Nat.le_of_ble_eq_true rfl) ?_
        rintro v R' h3 ⟨rfl, rfl, rfl⟩
        refine r_iret C hrt dX10_bought_50 ?_
        exact ⟨rfl, rfl, hc, Fr.rf⟩
/-- what an entry of the debts beyond the companies holds doesn't matter -/
theorem giF_cong {D D' : Nat → Int32} : ∀ k, (∀ i, i ≤ k → D i = D' i) → giF D k = giF D' k
  | 0, _ => rfl
  | k + 1, h => by
    have h1 := giF_cong k (fun i hi => h i (by omega))
    have h2 := giF_le D' k
    rw [giF, giF, h1, h (giF D' k) (by omega), h (k + 1) (by omega)]
theorem lpF_cong {nc : Nat} : ∀ k (D D' : Nat → Int32) (sum : Int32), (∀ i, i < nc → D i = D' i) → lpF nc k D sum = lpF nc k D' sum
  | 0, _, _, _, _ => rfl
  | k + 1, D, D', sum, h => by
    rw [lpF, lpF]
    by_cases h0 : nc = 0
    · subst h0
      rw [stkV, stkV, if_neg (by omega), if_neg (by omega)]
      exact lpF_cong k _ _ _ (fun i hi => by omega)
    · have hg := giF_cong (D := D) (D' := D') (nc - 1) (fun i hi => h i (by omega))
      have hle := giF_le D' (nc - 1)
      have hv : stkV nc D = stkV nc D' := by rw [stkV, stkV, if_pos (by omega), if_pos (by omega), hg, h _ (by omega)]
      rw [hv]
      refine lpF_cong k _ _ _ (fun i hi => ?_)
      unfold stkD
      rw [hg]
      by_cases e : i = giF D' (nc - 1)
      · rw [e, va_up_self, va_up_self]
      · rw [va_up_ne _ _ e, va_up_ne _ _ e]
        exact h i hi
def leaF (g : Gs) (k r : Int32) : Int32 := match ixO k 6, ixO r 3 with
  | some i, some j => lpF (gNn g 0) i (fun c => owF (gT g) (gSv g) c j (gNn g 1)) (osum (gT g) (gNn g) (gSv g) j (gNn g 0))
  | _, _ => cO
set_option maxRecDepth 100000 in
set_option maxHeartbeats 4000000 in
theorem c_least {E : Ev} {a b : Nat} {h : HF} {g : Gs} {k r : Int32} (ha : a < 2) (hc : CP h a g) : Ct E 3 yX10_least cX10_least 3 (some .int) [aR 10 0, aI k, aI r] 243 (Rs a b) h 243 (qry a b g h (leaF g k r)) := by
  refine Ct.of 0 (L0 := [some (aR 10 0), some (aI k), some (aI r)]) (by decide) ⟨Nat.le_refl _, Nat.le_refl _⟩ rfl rfl ?_
  intro G C hg hrt hnm
  have hN : gn G ≤ 243 ∧ 243 ≤ 243 ∧ 243 ≤ 243 := ⟨by omega, by decide, by decide⟩
  have p2 := hc.2.1
  have p3 := hc.2.2.1.1
  have hT : a < 2 := ha
  refine r_iload_n C dX10_least_0 rfl ?_
  refine r_iconst (v := (nI 0)) C dX10_least_1 (by decide) ?_
  refine r_iconst (v := (nI 5)) C dX10_least_2 (by decide) ?_
  refine r_callS C c_isWithin dX10_least_3 cw_X10_isWithin csX10_82 (by omega) rfl hN rfl (Nat.le_of_ble_eq_true rfl) ?_
  rintro v R' h1 ⟨rfl, rfl, rfl⟩
  rw [show nI 5 = nI (6 - 1) from rfl, ix_lit (by decide) (by decide)]
  cases hx : ixO k 6 with
  | none =>
    rw [leaF, hx, ixB_n hx]
    refine r_if_eq C dX10_least_6 (fun _ => ?_) (fun cc => absurd cc (by exact fun z => z rfl))
    refine r_ldc C dX10_least_16 kX10_86 ?_
    refine r_iret C hrt dX10_least_18 ?_
    exact ⟨rfl, rfl, hc, Fr.rf⟩
  | some i =>
    obtain ⟨hi, rfl⟩ := ixO_some hx
    rw [ixB_s hx]
    refine r_if_eq C dX10_least_6 (fun cc => absurd cc (by decide)) (fun _ => ?_)
    refine r_iload_n C dX10_least_9 rfl ?_
    refine r_callS C c_isReading dX10_least_10 cw_X10_isReading csX10_269 (by omega) rfl hN rfl (Nat.le_of_ble_eq_true rfl) ?_
    rintro v R' h2 ⟨rfl, rfl, rfl⟩
    cases hy : ixO r 3 with
    | none =>
      rw [leaF, hx, hy, ixB_n hy]
      refine r_if_ne C dX10_least_13 (fun cc => absurd cc (by exact fun z => z rfl)) (fun _ => ?_)
      refine r_ldc C dX10_least_16 kX10_86 ?_
      refine r_iret C hrt dX10_least_18 ?_
      exact ⟨rfl, rfl, hc, Fr.rf⟩
    | some j =>
      obtain ⟨hj, rfl⟩ := ixO_some hy
      rw [leaF, hx, hy, ixB_s hy]
      refine r_if_ne C dX10_least_13 (fun _ => ?_) (fun cc => absurd cc (by decide))
      refine r_aload_n C dX10_least_19 rfl ?_
      refine r_getR C flX10_56 dX10_least_20 ok10 rfl rfl ?_
      refine r_aload_n C dX10_least_23 rfl ?_
      refine r_getR C flX10_26 dX10_least_24 ok10 rfl rfl ?_
      refine r_aload_n C dX10_least_27 rfl ?_
      refine r_getR C flX10_36 dX10_least_28 ok10 rfl rfl ?_
      refine r_iload_n C dX10_least_31 rfl ?_
      refine r_iload_n C dX10_least_32 rfl ?_
      refine r_callV C (c_leastToPay hT p2 p3 (by omega) hj) dX10_least_33 cw_X9_leastToPay cvX10_276 (by omega) ok9 rfl hN rfl (Nat.le_of_ble_eq_true rfl) ?_
      rintro v R' h3 ⟨rfl, rfl, hf⟩
      refine r_iret C hrt dX10_least_36 ?_
      refine ⟨?_, rfl, hc.q (hf.wk s37_sQ), hf.wk (fun k j z => sQ_sXc k j (s37_sQ k j z))⟩
      show some (aI (lpF _ _ _ _)) = some (aI (lpF _ _ _ _))
      rw [lpF_cong i _ (fun c => owF (gT g) (gSv g) c j (gNn g 1)) _ (fun c hc => by show (if c < gNn g 0 then _ else _) = _; rw [if_pos hc])]
theorem pow4p {n : Nat} (hn : n ≤ 5) : 1 ≤ 4 ^ n := by
  rcases (show n = 0 ∨ n = 1 ∨ n = 2 ∨ n = 3 ∨ n = 4 ∨ n = 5 by omega) with rfl | rfl | rfl | rfl | rfl | rfl <;> decide
/-- the best row, once men are counted from 0 -/
theorem bst_row {N : Nat → Nat} {T : Tv} {n : Nat} {s : Sv} {x y : Int32} (hp : ∀ r, -1 < msum (rowS N T n r s n) 5) : ∀ r, 1 ≤ r → (∃ q, q < r ∧ (bstF N T n s (-1, x, y) r).2.1 = nI q) ∧ bstF N T n s (-1, x, y) r = bstF N T n s (-1, nI 0, -1) r
  | 0, h => absurd h (by omega)
  | 1, _ => by
    have e : ∀ z w : Int32, bstF N T n s (-1, z, w) 1 = (msum (rowS N T n 0 s n) 5, nI 0, rowS N T n 0 s n 0) := fun z w => by
      rw [bstF, bstF, cmpF, if_pos (Or.inl (hp 0))]
    rw [e, e]
    exact ⟨⟨0, by omega, rfl⟩, rfl⟩
  | r + 2, _ => by
    obtain ⟨⟨q, hq, h1⟩, h2⟩ := bst_row (x := x) (y := y) hp (r + 1) (by omega)
    rw [show bstF N T n s (-1, x, y) (r + 2) = cmpF (msum (rowS N T n (r + 1) s n) 5) (rowS N T n (r + 1) s n 0) (nI (r + 1)) (bstF N T n s (-1, x, y) (r + 1)) from rfl, show bstF N T n s (-1, nI 0, -1) (r + 2) = cmpF (msum (rowS N T n (r + 1) s n) 5) (rowS N T n (r + 1) s n 0) (nI (r + 1)) (bstF N T n s (-1, nI 0, -1) (r + 1)) from rfl, ← h2]
    refine ⟨?_, rfl⟩
    unfold cmpF
    split
    · exact ⟨r + 1, by omega, rfl⟩
    · exact ⟨q, by omega, h1⟩
def ratB (g : Gs) (n : Nat) : Int32 × Int32 × Int32 := bstF (gNn g) (gT g) n (gSv g) (-1, nI 0, -1) (4 ^ n)
def ratF (g : Gs) (n i : Int32) : Int32 := if nI 1 ≤ n ∧ n ≤ nI 5 then (if gNn g 4 = 0 then cN else if i = -1 then (ratB g n.toInt.toNat).1 else (match ixO i n.toInt.toNat with | none => -1 | some d => nI (dg n.toInt.toNat (ratB g n.toInt.toNat).2.1.toInt.toNat d))) else cO
set_option maxRecDepth 100000 in
set_option maxHeartbeats 4000000 in
theorem c_rations {E : Ev} {a b : Nat} {h : HF} {g : Gs} {n i : Int32} (ha : a < 2) (hc : CP h a g) (hp : gNn g 4 ≠ 0 → ∀ n r, -1 < msum (rowS (gNn g) (gT g) n r (gSv g) n) 5) : Ct E 4 yX10_rations cX10_rations 3 (some .int) [aR 10 0, aI n, aI i] 243 (Rs a b) h 243 (qry a b g h (ratF g n i)) := by
  refine Ct.of 0 (L0 := [some (aR 10 0), some (aI n), some (aI i)]) (by decide) ⟨Nat.le_refl _, Nat.le_refl _⟩ rfl rfl ?_
  intro G C hg hrt hnm
  have hN : gn G ≤ 243 ∧ 243 ≤ 243 ∧ 243 ≤ 243 := ⟨by omega, by decide, by decide⟩
  have p2 := hc.2.1
  have p3 := hc.2.2.1.1
  have hT : a < 2 := ha
  have hS : 0 < 23 := by decide
  have hC : 0 < 29 := by decide
  have b4 := p2.2.2.2.2.2.2.2.2.2.2.2.2.2
  refine r_iload_n C dX10_rations_0 rfl ?_
  refine r_iconst (v := (nI 1)) C dX10_rations_1 (by decide) ?_
  refine r_iconst (v := (nI 5)) C dX10_rations_2 (by decide) ?_
  refine r_callS C c_isWithin dX10_rations_3 cw_X10_isWithin csX10_82 (by omega) rfl hN rfl (Nat.le_of_ble_eq_true rfl) ?_
  rintro v R' h1 ⟨rfl, rfl, rfl⟩
  by_cases hn : nI 1 ≤ n ∧ n ≤ nI 5
  · rw [if_pos hn, ratF, if_pos hn]
    obtain ⟨k, hk1, hk5, rfl⟩ := within_nat (by decide) (by decide) hn
    have ek : (nI k).toInt.toNat = k := by rw [nI_toInt (by omega)]; rfl
    rw [ek]
    refine r_if_ne C dX10_rations_6 (fun _ => ?_) (fun cc => absurd cc (by decide))
    refine r_aload_n C dX10_rations_12 rfl ?_
    refine r_getR C flX10_26 dX10_rations_13 ok10 rfl rfl ?_
    refine q_getV C flX10_161 dX10_rations_16 (Ok.full (by decide) hT) rfl p2.2.2.2.2.1 ?_
    by_cases h4 : gNn g 4 = 0
    · have h42 : gNn g 4 = 0 := h4
      rw [if_pos h4, h42]
      refine r_if_ne C dX10_rations_19 (fun cc => absurd cc (by exact fun z => z rfl)) (fun _ => ?_)
      refine r_ldc C dX10_rations_22 kX10_213 ?_
      refine r_iret C hrt dX10_rations_24 ?_
      exact ⟨rfl, rfl, hc, Fr.rf⟩
    · rw [if_neg h4]
      refine r_if_ne C dX10_rations_19 (fun _ => ?_) (fun cc => absurd cc (by exact fun z => nI_ne0 (by omega) (by omega) z))
      have hpr := hp h4
      refine r_iload_n C dX10_rations_25 rfl ?_
      refine r_iconst (v := (-1)) C dX10_rations_26 (by decide) ?_
      refine r_iload_n C dX10_rations_27 rfl ?_
      refine r_iconst (v := (nI 1)) C dX10_rations_28 (by decide) ?_
      refine r_isubN C dX10_rations_29 hk1 ?_
      refine r_callS C c_isWithin dX10_rations_30 cw_X10_isWithin csX10_82 (by omega) rfl hN rfl (Nat.le_of_ble_eq_true rfl) ?_
      rintro v R' h2 ⟨rfl, rfl, rfl⟩
      have hb := bst_row (N := gNn g) (T := gT g) (s := gSv g) (x := h2 9 0 3) (y := h2 9 0 4) (hpr k) (4 ^ k) (pow4p hk5)
      obtain ⟨⟨q, hq, hrow⟩, hbe⟩ := hb
      have hp4 := pow4 hk5
      have tail : (i = -1 ∨ ∃ d, d < k ∧ i = nI d) → Wa E G 243 (Rs a b) h2 (QQ E G 243 (qry a b g h2 (if i = -1 then (ratB g k).1 else (match ixO i k with | none => -1 | some d => nI (dg k (ratB g k).2.1.toInt.toNat d))))) 38 [some (aR 10 0), some (aI (nI k)), some (aI i)] [] := by
        intro hi
        refine r_aload_n C dX10_rations_38 rfl ?_
        refine r_getR C flX10_56 dX10_rations_39 ok10 rfl rfl ?_
        refine r_aload_n C dX10_rations_42 rfl ?_
        refine r_getR C flX10_26 dX10_rations_43 ok10 rfl rfl ?_
        refine r_aload_n C dX10_rations_46 rfl ?_
        refine r_getR C flX10_36 dX10_rations_47 ok10 rfl rfl ?_
        refine r_getR C flX10_126 dX10_rations_50 (Ok.full (by decide) hS) rfl rfl ?_
        refine r_iload_n C dX10_rations_53 rfl ?_
        refine r_callV C (c_tryAllRows hT p2 p3.1 hk1 hk5) dX10_rations_54 cw_X9_tryAllRows cvX10_248 (by omega) ok9 rfl hN rfl (Nat.le_of_ble_eq_true rfl) ?_
        rintro v R' h3 ⟨rfl, rfl, hb3, hf3⟩
        have f3 := hf3.wk sTr_sQ
        have hc3 := hc.q f3
        have fx3 := f3.wk sQ_sXc
        rw [hbe] at hb3 hrow
        refine r_iload_n C dX10_rations_57 rfl ?_
        refine r_iconst (v := (-1)) C dX10_rations_58 (by decide) ?_
        rcases hi with rfl | ⟨d, hd, rfl⟩
        · rw [if_pos rfl]
          refine r_icmp_ne C dX10_rations_59 (fun cc => absurd cc (by exact fun z => z rfl)) (fun _ => ?_)
          refine r_aload_n C dX10_rations_62 rfl ?_
          refine r_getR C flX10_56 dX10_rations_63 ok10 rfl rfl ?_
          refine q_getV C flX10_252 dX10_rations_66 ok9 rfl hb3.1 ?_
          refine r_goto C dX10_rations_69 ?_
          refine r_iret C hrt dX10_rations_84 ?_
          exact ⟨rfl, rfl, hc3, fx3⟩
        · rw [if_neg (nI_nem1 (by omega)), ixO_nI hd (by omega)]
          refine r_icmp_ne C dX10_rations_59 (fun _ => ?_) (fun cc => absurd cc (by exact nI_nem1 (by omega)))
          have hrow' : (ratB g k).2.1 = nI q := hrow
          refine r_aload_n C dX10_rations_72 rfl ?_
          refine r_getR C flX10_56 dX10_rations_73 ok10 rfl rfl ?_
          refine q_getV C flX10_255 dX10_rations_76 ok9 rfl (show _ = nI q from hb3.2.1.trans hrow) ?_
          refine r_iload_n C dX10_rations_79 rfl ?_
          refine r_iload_n C dX10_rations_80 rfl ?_
          refine r_callS C (c_rationOf (by omega) hk5 hd) dX10_rations_81 cw_X9_rationOf csX10_258 (by omega) rfl hN rfl (Nat.le_of_ble_eq_true rfl) ?_
          rintro v R' h4 ⟨rfl, rfl, rfl⟩
          refine r_iret C hrt dX10_rations_84 ?_
          show qry a b g h2 (nI (dg k (ratB g k).2.1.toInt.toNat d)) _ _ _
          rw [hrow', nI_toInt (by omega)]
          exact ⟨rfl, rfl, hc3, fx3⟩
      by_cases hi : (-1 : Int32) ≤ i ∧ i ≤ nI (k - 1)
      · rw [if_pos hi]
        refine r_if_ne C dX10_rations_33 (fun _ => ?_) (fun cc => absurd cc (by decide))
        refine tail ?_
        by_cases hm : i = -1
        · exact Or.inl hm
        · right
          obtain ⟨h1, h2⟩ := hi
          have hm2 : i.toInt ≠ (-1 : Int32).toInt := fun z => hm (Int32.toInt_inj.mp z)
          rw [Int32.le_iff_toInt_le] at h1 h2
          have e1 : (-1 : Int32).toInt = -1 := by decide
          rw [e1] at h1 hm2
          rw [nI_toInt (by omega)] at h2
          refine ⟨i.toInt.toNat, by omega, ?_⟩
          apply Int32.toInt_inj.mp
          rw [nI_toInt (by omega)]
          omega
      · rw [if_neg hi]
        refine r_if_ne C dX10_rations_33 (fun cc => absurd cc (by exact fun z => z rfl)) (fun _ => ?_)
        refine r_iconst (v := (-1)) C dX10_rations_36 (by decide) ?_
        refine r_iret C hrt dX10_rations_37 ?_
        have hm : ¬ i = -1 := fun z => hi (by subst z; exact ⟨by decide, by rw [Int32.le_iff_toInt_le, nI_toInt (by omega)]; rw [show (-1 : Int32).toInt = -1 from by decide]; omega⟩)
        have hno : ixO i k = none := by
          cases hx : ixO i k with
          | none => rfl
          | some d =>
            obtain ⟨hd, rfl⟩ := ixO_some hx
            exact absurd ⟨by rw [Int32.le_iff_toInt_le, nI_toInt (by omega)]; rw [show (-1 : Int32).toInt = -1 from by decide]; omega, nI_le (by omega) (by omega)⟩ hi
        rw [if_neg hm, hno]
        exact ⟨rfl, rfl, hc, Fr.rf⟩
  · rw [if_neg hn, ratF, if_neg hn]
    refine r_if_ne C dX10_rations_6 (fun cc => absurd cc (by exact fun z => z rfl)) (fun _ => ?_)
    refine r_ldc C dX10_rations_9 kX10_86 ?_
    refine r_iret C hrt dX10_rations_11 ?_
    exact ⟨rfl, rfl, hc, Fr.rf⟩
