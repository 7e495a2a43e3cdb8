/-! days -/
theorem SVd.days {N : Nat → Nat} {D D' : Nat} {s : Sv} (h : SVd N D s) (hd : (s 2).toInt ≤ D') : SVd N D' s := by
  obtain ⟨m1, m2, m3, m4⟩ := h
  exact ⟨m1, m2, ⟨m3.1, m3.2.1, hd⟩, m4⟩
theorem SVd.up {N : Nat → Nat} {D : Nat} {s : Sv} {k : Nat} {x : Int32} (h : SVd N D s) (hk : k = 0 ∨ k = 4 ∨ (10 ≤ k ∧ k < 15)) : SVd N D (va_up s k x) := by
  obtain ⟨m1, m2, m3, m4, m5, m6⟩ := h
  refine ⟨m1.up (by omega), ?_, ?_, fun c hc => ?_, fun c m hc hm => ?_, ?_⟩
  · rw [va_up_ne _ _ (by omega)]; exact m2
  · rw [va_up_ne _ _ (by omega), va_up_ne _ _ (by omega)]; exact m3
  · rw [va_up_ne _ _ (by omega), va_up_ne _ _ (by omega)]; exact m4 c hc
  · rw [va_up_ne _ _ (by omega), va_up_ne _ _ (by omega)]; exact m5 c m hc hm
  · rw [va_up_ne _ _ (by omega)]; exact m6
theorem SVd.seed {N : Nat → Nat} {D : Nat} {s : Sv} {x : Int32} (h : SVd N D s) (hx : 0 ≤ x.toInt) : SVd N D (va_up s 44 x) := by
  obtain ⟨m1, m2, m3, m4, m5, m6⟩ := h
  refine ⟨m1.up (by omega), ?_, ?_, fun c hc => ?_, fun c m hc hm => ?_, ?_⟩
  · rw [va_up_ne _ _ (by omega)]; exact m2
  · rw [va_up_ne _ _ (by omega), va_up_ne _ _ (by omega)]; exact m3
  · rw [va_up_ne _ _ (by omega), va_up_ne _ _ (by omega)]; exact m4 c hc
  · rw [va_up_ne _ _ (by omega), va_up_ne _ _ (by omega)]; exact m5 c m hc hm
  · rw [va_up_self]; exact hx
theorem SVd.odds {N : Nat → Nat} {D : Nat} {s : Sv} {x : Int32} (h : SVd N D s) (hx : 0 ≤ x.toInt ∧ x.toInt ≤ 99) : SVd N D (va_up s 1 x) := by
  obtain ⟨m1, m2, m3, m4, m5, m6⟩ := h
  refine ⟨m1.up (by omega), ?_, ?_, fun c hc => ?_, fun c m hc hm => ?_, ?_⟩
  · rw [va_up_self]; exact hx
  · rw [va_up_ne _ _ (by omega), va_up_ne _ _ (by omega)]; exact m3
  · rw [va_up_ne _ _ (by omega), va_up_ne _ _ (by omega)]; exact m4 c hc
  · rw [va_up_ne _ _ (by omega), va_up_ne _ _ (by omega)]; exact m5 c m hc hm
  · rw [va_up_ne _ _ (by omega)]; exact m6
theorem rod_SV {N : Nat → Nat} {D : Nat} {s : Sv} {x : Int32} (h : SVd N D s) (hx : 0 ≤ x.toInt ∧ x.toInt ≤ 99) : SVd N D (rodF x s) := by
  refine h.odds ?_
  have e := fb_addI (x := s 1) (y := x) (by have := h.2.1; omega) (by have := h.2.1; omega)
  have z : (nI 99).toInt = 99 := by decide
  have h1 := h.2.1
  split
  · next c =>
    rw [Int32.lt_iff_toInt_lt, z] at c
    omega
  · rw [z]; omega
theorem rod_0 {s : Sv} (h : (s 1).toInt ≤ 99) : rodF (nI 0) s = s := by
  have z : (nI 99).toInt = 99 := by decide
  rw [rodF, show s 1 + nI 0 = s 1 from Int32.add_zero _]
  refine up_same ?_
  split
  · rfl
  · next c =>
    refine Int32.toInt_inj.mp ?_
    rw [Int32.lt_iff_toInt_lt, z] at c
    rw [z]
    omega
theorem nd_pos (x : Int32) : 0 ≤ (ndF x).toInt := by
  rw [ndF, pk_and _ 31 (by decide), nI_toInt (Nat.mod_lt _ (by decide))]
  omega
theorem gun_4 {x : Int32} {s : Sv} : gunS x s 4 = s 4 := by
  unfold gunS
  split
  · exact va_up_ne _ _ (by decide)
  · rfl
theorem gun_SV {N : Nat → Nat} {D : Nat} {s : Sv} {x : Int32} (h : SVd N D s) : SVd N D (gunS x s) := by
  unfold gunS
  split
  · exact rod_SV h (by decide)
  · exact h
theorem pbd_SV {N : Nat → Nat} {T : Tv} {q : Int32} {s : Sv} {D : Nat} (h0 : N 0 ≤ 5) (h1 : N 1 ≤ 4) (hD : D ≤ 100000) (hT : TVd N T) (h : SVd N D s) : SVd N (D + 1) (pbdF N T q s) := by
  unfold pbdF
  split
  · have h2 := pass_SV (q := q) h0 h1 hD hT (gun_SV (x := ndF (s 44)) (h.seed (nd_pos (ndF (s 44)))))
    unfold fatS
    split
    · exact h2.up (by omega)
    · exact h2
  · exact ((h.seed (nd_pos _)).up (by omega)).le (by omega)
theorem dyF_SV {N : Nat → Nat} {T : Tv} {q : Int32} (h0 : N 0 ≤ 5) (h1 : N 1 ≤ 4) (hT : TVd N T) : ∀ k s D, D + k ≤ 100000 → SVd N D s → SVd N (D + k) (dyF N T q k s)
  | 0, s, D, _, h => h
  | k + 1, s, D, hD, h => by
    rw [dyF]
    split
    · exact h.le (by omega)
    · have := dyF_SV h0 h1 hT (q := q) k _ (D + 1) (by omega) (pass_SV (q := q) h0 h1 (by omega) hT h)
      rw [show D + 1 + k = D + (k + 1) by omega] at this
      exact this
theorem drF_SV {N : Nat → Nat} {T : Tv} {q : Int32} (h0 : N 0 ≤ 5) (h1 : N 1 ≤ 4) (hT : TVd N T) : ∀ k s D, D + k ≤ 100000 → SVd N D s → SVd N (D + k) (drF N T q k s)
  | 0, s, D, _, h => h
  | k + 1, s, D, hD, h => by
    rw [drF]
    split
    · have := drF_SV h0 h1 hT (q := q) k _ (D + 1) (by omega) (pbd_SV (q := q) h0 h1 (by omega) hT h)
      rw [show D + 1 + k = D + (k + 1) by omega] at this
      exact this
    · exact h.le (by omega)
theorem m_pass {E : Ev} {a b o D : Nat} {h : HF} {s : Sv} {N : Nat → Nat} {T : Tv} {q : Int32} (ho : o ≤ 1035) (ht : mtw h N T) (hs : mw h o s) (hT : TVd N T) (hv : SVd N D s) : Ct E 1 yX11_passes cX11_passes 5 none [aR 11 0, aI (nI o), aI q] 243 (Rs a b) h 243 (psP a b o h (passF N T q s) (edayF N T q s).2.2) :=
  m_passes ho ht hs (fun c hc => le0n (hT.1 c hc).2.2) (fun c hc => le0 (hv.1.1 c (by have := ht.2.2.2.2.2.2.2.2.2.1; omega)).1) (le0 hv.2.2.1.1)
set_option maxRecDepth 100000 in
set_option maxHeartbeats 4000000 in
theorem m_day {E : Ev} {a b : Nat} {h : HF} {g : Gs} {q n : Int32} (hc : MP h g) (hT : TVd (gNn g) (gT g)) (hv : SVd (gNn g) 9030 (gSv g)) : Ct E 2 yX11_day cX11_day 4 (some .int) [aR 11 0, aI q, aI n] 243 (Rs a b) h 243 (mqr a b (dayF g q n).2 h (dayF g q n).1) := by
  refine Ct.of 1 (L0 := [some (aR 11 0), some (aI q), some (aI n), none]) (by decide) ⟨Nat.le_refl _, Nat.le_refl _⟩ rfl rfl ?_
  intro G C hg hrt hnm
  have hN : gn G ≤ 243 ∧ 243 ≤ 243 ∧ 243 ≤ 243 := ⟨by omega, by decide, by decide⟩
  have b0 := hc.2.1.2.2.2.2.2.2.2.2.2.1
  have b1 := hc.2.1.2.2.2.2.2.2.2.2.2.2.1
  refine r_iload_n C dX11_day_0 rfl ?_
  refine r_callS C m_isRation dX11_day_1 cw_X11_isRation csX11_213 (by omega) rfl hN rfl (Nat.le_of_ble_eq_true rfl) ?_
  rintro v R' h1 ⟨rfl, rfl, rfl⟩
  cases hx : ixO q 4 with
  | none =>
    have e : rfdF g q n = cO := by rw [rfdF, if_neg (fun z => by rw [hx] at z; exact absurd z.1 (by decide))]
    rw [ixB_n hx, dayF, if_neg (by rw [e]; decide), e]
    refine r_if_eq C dX11_day_4 (fun _ => ?_) (fun cc => absurd cc (by exact fun z => z rfl))
    refine r_ldc C dX11_day_19 kX11_99 ?_
    refine r_iret C hrt dX11_day_21 ?_
    exact ⟨rfl, rfl, hc, Fs.rf⟩
  | some i =>
    obtain ⟨hi, rfl⟩ := ixO_some hx
    rw [ixB_s hx]
    refine r_if_eq C dX11_day_4 (fun cc => absurd cc (by decide)) (fun _ => ?_)
    refine r_iload_n C dX11_day_7 rfl ?_
    refine r_i2l C dX11_day_8 ?_
    refine r_lconst (v := 1) C dX11_day_9 (by decide) ?_
    refine r_ldc2 C dX11_day_10 klX11_216 ?_
    refine r_callS C m_in dX11_day_13 cw_X11_in csX11_85 (by omega) rfl hN rfl (Nat.le_of_ble_eq_true rfl) ?_
    rintro v R' h2 ⟨rfl, rfl, rfl⟩
    rw [in64 (lo := nI 1) (hi := nI 30) (by decide) (by decide)]
    by_cases hn : nI 1 ≤ n ∧ n ≤ nI 30
    · rw [if_pos hn]
      refine r_if_ne C dX11_day_16 (fun _ => ?_) (fun cc => absurd cc (by decide))
      refine r_aload_n C dX11_day_22 rfl ?_
      refine r_callV C (m_isOver hc.2.1 hc.2.2.1) dX11_day_23 cw_X11_isOver cvX11_218 (by omega) ok11 rfl hN rfl (Nat.le_of_ble_eq_true rfl) ?_
      rintro v R' h3 ⟨rfl, rfl, rfl⟩
      by_cases hb : bsB (gNn g) (gSv g) = true
      · rw [if_pos hb]
        refine r_if_eq C dX11_day_26 (fun _ => ?_) (fun cc => absurd cc (by exact fun z => z rfl))
        refine r_aload_n C dX11_day_32 rfl ?_
        refine r_getR C flX11_7 dX11_day_33 ok11 rfl rfl ?_
        refine r_iconst (v := (nI 2)) C dX11_day_36 (by decide) ?_
        refine q_ialdV (m := 1080) C dX11_day_37 ok39 rfl rfl (by omega) (mw0 hc.2.2.1 (by decide)) ?_
        refine r_sipush (v := (nI 9000)) C dX11_day_38 (by decide) ?_
        by_cases hd : gSv g 2 ≤ nI 9000
        · have e : rfdF g (nI i) n = 0 := by rw [rfdF, if_pos ⟨by rw [hx]; rfl, hn⟩, if_pos hb, if_pos hd]; rfl
          rw [dayF, if_pos e]
          refine r_icmp_le C dX11_day_41 (fun _ => ?_) (fun cc => absurd cc (by exact fun z => z hd))
          obtain ⟨k, hk1, hk2, rfl⟩ := within_nat (by decide) (by decide) hn
          have ek : (nI k).toInt.toNat = k := by rw [nI_toInt (by omega)]; rfl
          have hv0 : SVd (gNn g) (9000 + 0) (gSv g) := hv.days (by
            rw [Int32.le_iff_toInt_le] at hd
            have z : (nI 9000).toInt = 9000 := by decide
            omega)
          rw [ek]
          refine r_aload_n C dX11_day_47 rfl ?_
          refine r_callV C (m_minds hc.2.2.1 hc.2.2.2.1) dX11_day_48 cw_X11_minds cvX11_221 (by omega) ok11 rfl hN rfl (Nat.le_of_ble_eq_true rfl) ?_
          rintro v R' h4 ⟨rfl, rfl, hl4, f4⟩
          have hc4 := hc.minds f4 hl4
          have ht4 : mtw h4 (gNn g) (gT g) := hc4.2.1
          refine r_iconst (v := (nI 0)) C dX11_day_51 (by decide) ?_
          refine r_istore_n C dX11_day_52 st3 ?_
          have loop : ∀ m j s' hh, j + m = k → mw hh 0 s' → SVd (gNn g) (9000 + j) s' → dyF (gNn g) (gT g) (nI i) m s' = dyF (gNn g) (gT g) (nI i) k (gSv g) → Fs (sE 0) h4 hh →
              Wa E G 243 (Rs a b) hh (QQ E G 243 (mqr a b (pushd g (dyF (gNn g) (gT g) (nI i) k (gSv g))) h3 (msum (dyF (gNn g) (gT g) (nI i) k (gSv g)) 5))) 53 [some (aR 11 0), some (aI (nI i)), some (aI (nI k)), some (aI (nI j))] [] := by
            have done : ∀ s' hh L4, mw hh 0 s' → MV (gNn g) s' → s' = dyF (gNn g) (gT g) (nI i) k (gSv g) → Fs (sE 0) h4 hh → Wa E G 243 (Rs a b) hh (QQ E G 243 (mqr a b (pushd g (dyF (gNn g) (gT g) (nI i) k (gSv g))) h3 (msum (dyF (gNn g) (gT g) (nI i) k (gSv g)) 5))) 78 [some (aR 11 0), some (aI (nI i)), some (aI (nI k)), L4] [] := by
              intro s' hh L4 hs hmv he hf
              subst he
              refine r_aload_n C dX11_day_78 rfl ?_
              refine r_iconst (v := (nI 0)) C dX11_day_79 (by decide) ?_
              refine r_callV C (m_menIn (by decide) (ht4.sE hf) hs) dX11_day_80 cw_X11_menIn cvX11_188 (by omega) ok11 rfl hN rfl (Nat.le_of_ble_eq_true rfl) ?_
              rintro v R' h5 ⟨rfl, rfl, rfl⟩
              rw [msum_5 hmv b0]
              refine r_iret C hrt dX11_day_83 ?_
              exact ⟨rfl, rfl, MP.now (g := setS g (gSv g) (pushN (gU g).1, pushU (gU g).1 (gU g).2 (gSv g))) hf hs hc4, (f4.wk sMn_sXm).tr (hf.wk sE_sXm)⟩
            intro m
            induction m with
            | zero =>
              intro j s' hh hj hs hv' he hf
              refine r_iload_n C dX11_day_53 rfl ?_
              refine r_iload_n C dX11_day_54 rfl ?_
              refine r_icmpN_ge C dX11_day_55 (by omega) (by omega) (fun _ => ?_) (fun cc => absurd cc (by omega))
              exact done s' hh _ hs hv'.1 he hf
            | succ m ih =>
              intro j s' hh hj hs hv' he hf
              rw [dyF] at he
              refine r_iload_n C dX11_day_53 rfl ?_
              refine r_iload_n C dX11_day_54 rfl ?_
              refine r_icmpN_ge C dX11_day_55 (by omega) (by omega) (fun cc => absurd cc (by omega)) (fun _ => ?_)
              refine r_aload_n C dX11_day_58 rfl ?_
              refine r_iconst (v := (nI 0)) C dX11_day_59 (by decide) ?_
              refine r_callV C (m_menIn (by decide) (ht4.sE hf) hs) dX11_day_60 cw_X11_menIn cvX11_188 (by omega) ok11 rfl hN rfl (Nat.le_of_ble_eq_true rfl) ?_
              rintro v R' h5 ⟨rfl, rfl, rfl⟩
              rw [msum_5 hv'.1 b0]
              refine r_if_le C dX11_day_63 (fun c63 => ?_) (fun c63 => ?_)
              · rw [if_pos c63] at he
                exact done s' h5 _ hs hv'.1 he hf
              · rw [if_neg c63] at he
                refine r_aload_n C dX11_day_66 rfl ?_
                refine r_iconst (v := (nI 0)) C dX11_day_67 (by decide) ?_
                refine r_iload_n C dX11_day_68 rfl ?_
                refine r_callV C (m_pass (by decide) (ht4.sE hf) hs hT hv') dX11_day_69 cw_X11_passes cvX11_224 (by omega) ok11 rfl hN rfl (Nat.le_of_ble_eq_true rfl) ?_
                rintro v R' h6 ⟨rfl, rfl, hs6, d6, f6⟩
                first | refine r_iincN C dX11_day_72 rfl st3 ?_ | refine r_iinc C dX11_day_72 rfl rfl st3 ?_
                refine r_goto C dX11_day_75 ?_
                exact ih (j + 1) _ h6 (by omega) hs6 (pass_SV b0 b1 (show 9000 + j ≤ 100000 by omega) hT hv') he (hf.tr f6)
          exact loop k 0 (gSv g) h4 (by omega) hc4.2.2.1 hv0 rfl Fs.rf
        · have e : rfdF g (nI i) n = cF := by rw [rfdF, if_pos ⟨by rw [hx]; rfl, hn⟩, if_pos hb, if_neg hd]
          rw [dayF, if_neg (by rw [e]; decide), e]
          refine r_icmp_le C dX11_day_41 (fun cc => absurd cc (hd)) (fun _ => ?_)
          refine r_ldc C dX11_day_44 kX11_103 ?_
          refine r_iret C hrt dX11_day_46 ?_
          exact ⟨rfl, rfl, hc, Fs.rf⟩
      · have e : rfdF g (nI i) n = cN := by rw [rfdF, if_pos ⟨by rw [hx]; rfl, hn⟩, if_neg hb]
        rw [if_neg hb, dayF, if_neg (by rw [e]; decide), e]
        refine r_if_eq C dX11_day_26 (fun cc => absurd cc (by decide)) (fun _ => ?_)
        refine r_ldc C dX11_day_29 kX11_212 ?_
        refine r_iret C hrt dX11_day_31 ?_
        exact ⟨rfl, rfl, hc, Fs.rf⟩
    · have e : rfdF g (nI i) n = cO := by rw [rfdF, if_neg (fun z => hn z.2)]
      rw [if_neg hn, dayF, if_neg (by rw [e]; decide), e]
      refine r_if_ne C dX11_day_16 (fun cc => absurd cc (by exact fun z => z rfl)) (fun _ => ?_)
      refine r_ldc C dX11_day_19 kX11_99 ?_
      refine r_iret C hrt dX11_day_21 ?_
      exact ⟨rfl, rfl, hc, Fs.rf⟩
set_option maxRecDepth 100000 in
set_option maxHeartbeats 4000000 in
theorem m_drift {E : Ev} {a b : Nat} {h : HF} {g : Gs} {q n : Int32} (hc : MP h g) (hT : TVd (gNn g) (gT g)) (hv : SVd (gNn g) 9030 (gSv g)) : Ct E 2 yX11_drift cX11_drift 4 (some .int) [aR 11 0, aI q, aI n] 243 (Rs a b) h 243 (mqr a b (driF g q n).2 h (driF g q n).1) := by
  refine Ct.of 1 (L0 := [some (aR 11 0), some (aI q), some (aI n), none]) (by decide) ⟨Nat.le_refl _, Nat.le_refl _⟩ rfl rfl ?_
  intro G C hg hrt hnm
  have hN : gn G ≤ 243 ∧ 243 ≤ 243 ∧ 243 ≤ 243 := ⟨by omega, by decide, by decide⟩
  have b0 := hc.2.1.2.2.2.2.2.2.2.2.2.1
  have b1 := hc.2.1.2.2.2.2.2.2.2.2.2.2.1
  refine r_iload_n C dX11_drift_0 rfl ?_
  refine r_callS C m_isRation dX11_drift_1 cw_X11_isRation csX11_213 (by omega) rfl hN rfl (Nat.le_of_ble_eq_true rfl) ?_
  rintro v R' h1 ⟨rfl, rfl, rfl⟩
  cases hx : ixO q 4 with
  | none =>
    have e : rfdF g q n = cO := by rw [rfdF, if_neg (fun z => by rw [hx] at z; exact absurd z.1 (by decide))]
    rw [ixB_n hx, driF, if_neg (by rw [e]; decide), e]
    refine r_if_eq C dX11_drift_4 (fun _ => ?_) (fun cc => absurd cc (by exact fun z => z rfl))
    refine r_ldc C dX11_drift_19 kX11_99 ?_
    refine r_iret C hrt dX11_drift_21 ?_
    exact ⟨rfl, rfl, hc, Fs.rf⟩
  | some i =>
    obtain ⟨hi, rfl⟩ := ixO_some hx
    rw [ixB_s hx]
    refine r_if_eq C dX11_drift_4 (fun cc => absurd cc (by decide)) (fun _ => ?_)
    refine r_iload_n C dX11_drift_7 rfl ?_
    refine r_i2l C dX11_drift_8 ?_
    refine r_lconst (v := 1) C dX11_drift_9 (by decide) ?_
    refine r_ldc2 C dX11_drift_10 klX11_216 ?_
    refine r_callS C m_in dX11_drift_13 cw_X11_in csX11_85 (by omega) rfl hN rfl (Nat.le_of_ble_eq_true rfl) ?_
    rintro v R' h2 ⟨rfl, rfl, rfl⟩
    rw [in64 (lo := nI 1) (hi := nI 30) (by decide) (by decide)]
    by_cases hn : nI 1 ≤ n ∧ n ≤ nI 30
    · rw [if_pos hn]
      refine r_if_ne C dX11_drift_16 (fun _ => ?_) (fun cc => absurd cc (by decide))
      refine r_aload_n C dX11_drift_22 rfl ?_
      refine r_callV C (m_isOver hc.2.1 hc.2.2.1) dX11_drift_23 cw_X11_isOver cvX11_218 (by omega) ok11 rfl hN rfl (Nat.le_of_ble_eq_true rfl) ?_
      rintro v R' h3 ⟨rfl, rfl, rfl⟩
      by_cases hb : bsB (gNn g) (gSv g) = true
      · rw [if_pos hb]
        refine r_if_eq C dX11_drift_26 (fun _ => ?_) (fun cc => absurd cc (by exact fun z => z rfl))
        refine r_aload_n C dX11_drift_32 rfl ?_
        refine r_getR C flX11_7 dX11_drift_33 ok11 rfl rfl ?_
        refine r_iconst (v := (nI 2)) C dX11_drift_36 (by decide) ?_
        refine q_ialdV (m := 1080) C dX11_drift_37 ok39 rfl rfl (by omega) (mw0 hc.2.2.1 (by decide)) ?_
        refine r_sipush (v := (nI 9000)) C dX11_drift_38 (by decide) ?_
        by_cases hd : gSv g 2 ≤ nI 9000
        · have e : rfdF g (nI i) n = 0 := by rw [rfdF, if_pos ⟨by rw [hx]; rfl, hn⟩, if_pos hb, if_pos hd]; rfl
          rw [driF, if_pos e]
          refine r_icmp_le C dX11_drift_41 (fun _ => ?_) (fun cc => absurd cc (by exact fun z => z hd))
          obtain ⟨k, hk1, hk2, rfl⟩ := within_nat (by decide) (by decide) hn
          have ek : (nI k).toInt.toNat = k := by rw [nI_toInt (by omega)]; rfl
          have hv0 : SVd (gNn g) (9000 + 0) (gSv g) := hv.days (by
            rw [Int32.le_iff_toInt_le] at hd
            have z : (nI 9000).toInt = 9000 := by decide
            omega)
          rw [ek]
          refine r_aload_n C dX11_drift_47 rfl ?_
          refine r_callV C (m_minds hc.2.2.1 hc.2.2.2.1) dX11_drift_48 cw_X11_minds cvX11_221 (by omega) ok11 rfl hN rfl (Nat.le_of_ble_eq_true rfl) ?_
          rintro v R' h4 ⟨rfl, rfl, hl4, f4⟩
          have hc4 := hc.minds f4 hl4
          have ht4 : mtw h4 (gNn g) (gT g) := hc4.2.1
          refine r_iconst (v := (nI 0)) C dX11_drift_51 (by decide) ?_
          refine r_istore_n C dX11_drift_52 st3 ?_
          have loop : ∀ m j s' hh, j + m = k → mw hh 0 s' → SVd (gNn g) (9000 + j) s' → drF (gNn g) (gT g) (nI i) m s' = drF (gNn g) (gT g) (nI i) k (gSv g) → Fs (sE 0) h4 hh →
              Wa E G 243 (Rs a b) hh (QQ E G 243 (mqr a b (pushd g (drF (gNn g) (gT g) (nI i) k (gSv g))) h3 (drF (gNn g) (gT g) (nI i) k (gSv g) 4))) 53 [some (aR 11 0), some (aI (nI i)), some (aI (nI k)), some (aI (nI j))] [] := by
            have done : ∀ s' hh L4, mw hh 0 s' → s' = drF (gNn g) (gT g) (nI i) k (gSv g) → Fs (sE 0) h4 hh → Wa E G 243 (Rs a b) hh (QQ E G 243 (mqr a b (pushd g (drF (gNn g) (gT g) (nI i) k (gSv g))) h3 (drF (gNn g) (gT g) (nI i) k (gSv g) 4))) 141 [some (aR 11 0), some (aI (nI i)), some (aI (nI k)), L4] [] := by
              intro s' hh L4 hs he hf
              subst he
              refine r_aload_n C dX11_drift_141 rfl ?_
              refine r_getR C flX11_7 dX11_drift_142 ok11 rfl rfl ?_
              refine r_iconst (v := (nI 4)) C dX11_drift_145 (by decide) ?_
              refine q_ialdV (m := 1080) C dX11_drift_146 ok39 rfl rfl (by omega) (mw0 hs (by decide)) ?_
              refine r_iret C hrt dX11_drift_147 ?_
              exact ⟨rfl, rfl, MP.now (g := setS g (gSv g) (pushN (gU g).1, pushU (gU g).1 (gU g).2 (gSv g))) hf hs hc4, (f4.wk sMn_sXm).tr (hf.wk sE_sXm)⟩
            intro m
            induction m with
            | zero =>
              intro j s' hh hj hs hv' he hf
              refine r_iload_n C dX11_drift_53 rfl ?_
              refine r_iload_n C dX11_drift_54 rfl ?_
              refine r_icmpN_ge C dX11_drift_55 (by omega) (by omega) (fun _ => ?_) (fun cc => absurd cc (by omega))
              exact done s' hh _ hs he hf
            | succ m ih =>
              intro j s' hh hj hs hv' he hf
              rw [drF] at he
              refine r_iload_n C dX11_drift_53 rfl ?_
              refine r_iload_n C dX11_drift_54 rfl ?_
              refine r_icmpN_ge C dX11_drift_55 (by omega) (by omega) (fun cc => absurd cc (by omega)) (fun _ => ?_)
              refine r_aload_n C dX11_drift_58 rfl ?_
              refine r_getR C flX11_7 dX11_drift_59 ok11 rfl rfl ?_
              refine r_iconst (v := (nI 4)) C dX11_drift_62 (by decide) ?_
              refine q_ialdV (m := 1080) C dX11_drift_63 ok39 rfl rfl (by omega) (mw0 hs (by decide)) ?_
              refine r_if_ne C dX11_drift_64 (fun c64 => ?_) (fun c64 => ?_)
              · rw [if_neg c64] at he
                exact done s' hh _ hs he hf
              · rw [if_pos c64] at he
                have hvn := pbd_SV (q := nI i) b0 b1 (show 9000 + j ≤ 100000 by omega) hT hv'
                refine r_aload_n C dX11_drift_67 rfl ?_
                refine r_bipush (v := (nI 100)) C dX11_drift_68 (by decide) ?_
                refine r_callV C (m_draw hs hv'.2.2.2.2.2 (by decide)) dX11_drift_70 cw_X11_draw cvX11_240 (by omega) ok11 rfl hN rfl (Nat.le_of_ble_eq_true rfl) ?_
                rintro v R' h5 ⟨rfl, rfl, hs5, f5⟩
                refine r_aload_n C dX11_drift_73 rfl ?_
                refine r_getR C flX11_7 dX11_drift_74 ok11 rfl rfl ?_
                refine r_iconst (v := (nI 1)) C dX11_drift_77 (by decide) ?_
                refine q_ialdV (m := 1080) C dX11_drift_78 ok39 rfl rfl (by omega) ((mw0 hs5 (by decide)).trans (va_up_ne _ _ (by decide))) ?_
                refine r_icmp_ge C dX11_drift_79 (fun c79 => ?_) (fun c79 => ?_)
                · have hs5b : mw h5 0 (va_up s' 44 (ndF (s' 44))) := hs5
                  refine r_aload_n C dX11_drift_92 rfl ?_
                  refine r_aload_n C dX11_drift_93 rfl ?_
                  refine r_bipush (v := (nI 6)) C dX11_drift_94 (by decide) ?_
                  refine r_callV C (m_draw hs5b (by rw [va_up_self]; exact nd_pos _) (by decide)) dX11_drift_96 cw_X11_draw cvX11_240 (by omega) ok11 rfl hN rfl (Nat.le_of_ble_eq_true rfl) ?_
                  rintro v R' h6 ⟨rfl, rfl, hs6, f6⟩
                  rw [va_up_self, up_twice] at hs6
                  rw [va_up_self]
                  have cont : ∀ y, rodF y (va_up s' 44 (ndF (ndF (s' 44)))) = gunS (ndF (s' 44)) (va_up s' 44 (ndF (ndF (s' 44)))) → Wa E G 243 (Rs a b) h6 (QQ E G 243 (mqr a b (pushd g (drF (gNn g) (gT g) (nI i) k (gSv g))) h3 (drF (gNn g) (gT g) (nI i) k (gSv g) 4))) 107 [some (aR 11 0), some (aI (nI i)), some (aI (nI k)), some (aI (nI j))] [aI y, aR 11 0] := by
                    intro y hy
                    have ff6 := hf.tr (f5.tr f6)
                    refine r_callV C (m_hears hs6) dX11_drift_107 cw_X11_hears cvX11_227 (by omega) ok11 rfl hN rfl (Nat.le_of_ble_eq_true rfl) ?_
                    rintro v R' h7 ⟨rfl, rfl, hs7, f7⟩
                    rw [hy] at hs7
                    have ff7 := ff6.tr f7
                    have hv7 : SVd (gNn g) (9000 + j) (gunS (ndF (s' 44)) (va_up s' 44 (ndF (ndF (s' 44))))) := gun_SV (hv'.seed (nd_pos _))
                    refine r_aload_n C dX11_drift_110 rfl ?_
                    refine r_iconst (v := (nI 0)) C dX11_drift_111 (by decide) ?_
                    refine r_iload_n C dX11_drift_112 rfl ?_
                    refine r_callV C (m_pass (by decide) (ht4.sE ff7) hs7 hT hv7) dX11_drift_113 cw_X11_passes cvX11_224 (by omega) ok11 rfl hN rfl (Nat.le_of_ble_eq_true rfl) ?_
                    rintro v R' h8 ⟨rfl, rfl, hs8, d8, f8⟩
                    have ff8 := ff7.tr f8
                    have hv8 := pass_SV (q := nI i) b0 b1 (show 9000 + j ≤ 100000 by omega) hT hv7
                    refine r_aload_n C dX11_drift_116 rfl ?_
                    refine r_getR C flX11_7 dX11_drift_117 ok11 rfl rfl ?_
                    refine r_iconst (v := (nI 4)) C dX11_drift_120 (by decide) ?_
                    refine r_aload_n C dX11_drift_121 rfl ?_
                    refine r_iconst (v := (nI 0)) C dX11_drift_122 (by decide) ?_
                    refine r_callV C (m_menIn (by decide) (ht4.sE ff8) hs8) dX11_drift_123 cw_X11_menIn cvX11_188 (by omega) ok11 rfl hN rfl (Nat.le_of_ble_eq_true rfl) ?_
                    rintro v R' h9 ⟨rfl, rfl, rfl⟩
                    rw [msum_5 hv8.1 b0]
                    have e4 : passF (gNn g) (gT g) (nI i) (gunS (ndF (s' 44)) (va_up s' 44 (ndF (ndF (s' 44))))) 4 = nI 0 := by
                      rw [passF_off b0 b1 (by omega), gun_4, va_up_ne _ _ (by decide), c64]
                      rfl
                    have fin : ∀ y, va_up (passF (gNn g) (gT g) (nI i) (gunS (ndF (s' 44)) (va_up s' 44 (ndF (ndF (s' 44)))))) 4 y = pbdF (gNn g) (gT g) (nI i) s' → Wa E G 243 (Rs a b) h9 (QQ E G 243 (mqr a b (pushd g (drF (gNn g) (gT g) (nI i) k (gSv g))) h3 (drF (gNn g) (gT g) (nI i) k (gSv g) 4))) 134 [some (aR 11 0), some (aI (nI i)), some (aI (nI k)), some (aI (nI j))] [aI y, aI (nI 4), aR 39 0] := by
                      intro y hy
                      have hs9 := mw_put (p := 4) (k := 4) (x := y) rfl hs8
                      rw [hy] at hs9
                      refine q_iast (m := 1080) C dX11_drift_134 ok39 rfl rfl (by omega) ?_
                      first | refine r_iincN C dX11_drift_135 rfl st3 ?_ | refine r_iinc C dX11_drift_135 rfl rfl st3 ?_
                      refine r_goto C dX11_drift_138 ?_
                      exact ih (j + 1) _ _ (by omega) hs9 hvn he (ff8.put (sE_in (by decide)))
                    refine r_if_ne C dX11_drift_126 (fun c126 => ?_) (fun c126 => ?_)
                    · refine r_iconst (v := (nI 0)) C dX11_drift_133 (by decide) ?_
                      exact fin _ (by rw [pbdF, if_pos c79, fatS, if_neg c126, up_same e4.symm])
                    · refine r_iconst (v := (nI 2)) C dX11_drift_129 (by decide) ?_
                      refine r_goto C dX11_drift_130 ?_
                      exact fin _ (by rw [pbdF, if_pos c79, fatS, if_pos c126])
                  refine r_if_ne C dX11_drift_99 (fun c99 => ?_) (fun c99 => ?_)
                  · refine r_iconst (v := (nI 0)) C dX11_drift_106 (by decide) ?_
                    exact cont _ (by rw [gunS, if_neg c99]; exact rod_0 (by rw [va_up_ne _ _ (by decide)]; exact hv'.2.1.2))
                  · refine r_iconst (v := (nI 5)) C dX11_drift_102 (by decide) ?_
                    refine r_goto C dX11_drift_103 ?_
                    exact cont _ (by rw [gunS, if_pos c99])
                · refine r_aload_n C dX11_drift_82 rfl ?_
                  refine r_getR C flX11_7 dX11_drift_83 ok11 rfl rfl ?_
                  refine r_iconst (v := (nI 4)) C dX11_drift_86 (by decide) ?_
                  refine r_iconst (v := (nI 1)) C dX11_drift_87 (by decide) ?_
                  refine q_iast (m := 1080) C dX11_drift_88 ok39 rfl rfl (by omega) ?_
                  refine r_goto C dX11_drift_89 ?_
                  first | refine r_iincN C dX11_drift_135 rfl st3 ?_ | refine r_iinc C dX11_drift_135 rfl rfl st3 ?_
                  refine r_goto C dX11_drift_138 ?_
                  have hs6 := mw_put (p := 4) (k := 4) (x := nI 1) rfl hs5
                  have ep : va_up (va_up s' 44 (ndF (s' 44))) 4 (nI 1) = pbdF (gNn g) (gT g) (nI i) s' := by rw [pbdF, if_neg c79]
                  rw [ep] at hs6
                  exact ih (j + 1) _ _ (by omega) hs6 hvn he ((hf.tr f5).put (sE_in (by decide)))
          exact loop k 0 (gSv g) h4 (by omega) hc4.2.2.1 hv0 rfl Fs.rf
        · have e : rfdF g (nI i) n = cF := by rw [rfdF, if_pos ⟨by rw [hx]; rfl, hn⟩, if_pos hb, if_neg hd]
          rw [driF, if_neg (by rw [e]; decide), e]
          refine r_icmp_le C dX11_drift_41 (fun cc => absurd cc (hd)) (fun _ => ?_)
          refine r_ldc C dX11_drift_44 kX11_103 ?_
          refine r_iret C hrt dX11_drift_46 ?_
          exact ⟨rfl, rfl, hc, Fs.rf⟩
      · have e : rfdF g (nI i) n = cN := by rw [rfdF, if_pos ⟨by rw [hx]; rfl, hn⟩, if_neg hb]
        rw [if_neg hb, driF, if_neg (by rw [e]; decide), e]
        refine r_if_eq C dX11_drift_26 (fun cc => absurd cc (by decide)) (fun _ => ?_)
        refine r_ldc C dX11_drift_29 kX11_212 ?_
        refine r_iret C hrt dX11_drift_31 ?_
        exact ⟨rfl, rfl, hc, Fs.rf⟩
    · have e : rfdF g (nI i) n = cO := by rw [rfdF, if_neg (fun z => hn z.2)]
      rw [if_neg hn, driF, if_neg (by rw [e]; decide), e]
      refine r_if_ne C dX11_drift_16 (fun cc => absurd cc (by exact fun z => z rfl)) (fun _ => ?_)
      refine r_ldc C dX11_drift_19 kX11_99 ?_
      refine r_iret C hrt dX11_drift_21 ?_
      exact ⟨rfl, rfl, hc, Fs.rf⟩
