/-! days tried by the model -/
theorem MP.tried {h h' : HF} {g : Gs} (f : Fs (sE 45) h h') (c : MP h g) : MP h' g :=
  c.fs f (fun i hi => sE_11 (by omega)) (fun i hi => sE_out (by omega)) (fun k i hk => sE_rows (by omega) (by omega))
theorem sW45_sE : ∀ k i, sW 45 k i = true → sE 45 k i = true := sW_sE
set_option maxRecDepth 100000 in
set_option maxHeartbeats 4000000 in
theorem m_firstToDesert {E : Ev} {a b : Nat} {h : HF} {g : Gs} {q : Int32} (hc : MP h g) (hT : TVd (gNn g) (gT g)) (hv : SVd (gNn g) 9030 (gSv g)) : Ct E 2 yX11_firstToDesert cX11_firstToDesert 3 (some .int) [aR 11 0, aI q] 243 (Rs a b) h 243 (mqr a b g h (fdesF g q)) := by
  refine Ct.of 1 (L0 := [some (aR 11 0), some (aI q), none]) (by decide) ⟨Nat.le_refl _, Nat.le_refl _⟩ rfl rfl ?_
  intro G C hg hrt hnm
  have hN : gn G ≤ 243 ∧ 243 ≤ 243 ∧ 243 ≤ 243 := ⟨by omega, by decide, by decide⟩
  have ht : mtw h (gNn g) (gT g) := hc.2.1
  have b0 := ht.2.2.2.2.2.2.2.2.2.1
  have b1 := ht.2.2.2.2.2.2.2.2.2.2.1
  have b4 := ht.2.2.2.2.2.2.2.2.2.2.2.2.2
  refine r_iload_n C dX11_firstToDesert_0 rfl ?_
  refine r_callS C m_isRation dX11_firstToDesert_1 cw_X11_isRation csX11_213 (by omega) rfl hN rfl (Nat.le_of_ble_eq_true rfl) ?_
  rintro v R' h1 ⟨rfl, rfl, rfl⟩
  cases hx : ixO q 4 with
  | none =>
    rw [fdesF, hx, ixB_n hx]
    refine r_if_ne C dX11_firstToDesert_4 (fun cc => absurd cc (by exact fun z => z rfl)) (fun _ => ?_)
    refine r_ldc C dX11_firstToDesert_7 kX11_99 ?_
    refine r_iret C hrt dX11_firstToDesert_9 ?_
    exact ⟨rfl, rfl, hc, Fs.rf⟩
  | some i =>
    obtain ⟨hi, rfl⟩ := ixO_some hx
    have ef : fdesF g (nI i) = if gNn g 4 = 0 then cN else fdsF (gNn g) (gT g) (nI i) 60 (gSv g) := by rw [fdesF, hx]
    rw [ef, ixB_s hx]
    refine r_if_ne C dX11_firstToDesert_4 (fun _ => ?_) (fun cc => absurd cc (by decide))
    refine r_aload_n C dX11_firstToDesert_10 rfl ?_
    refine q_getV C flX11_78 dX11_firstToDesert_11 ok11 rfl ht.2.2.2.2.1 ?_
    by_cases hz4 : gNn g 4 = 0
    · rw [if_pos hz4, hz4]
      refine r_if_ne C dX11_firstToDesert_14 (fun cc => absurd cc (by exact fun z => z rfl)) (fun _ => ?_)
      refine r_ldc C dX11_firstToDesert_17 kX11_212 ?_
      refine r_iret C hrt dX11_firstToDesert_19 ?_
      exact ⟨rfl, rfl, hc, Fs.rf⟩
    · rw [if_neg hz4]
      refine r_if_ne C dX11_firstToDesert_14 (fun _ => ?_) (fun cc => absurd cc (nI_ne0 (by omega) (by omega)))
      refine r_aload_n C dX11_firstToDesert_20 rfl ?_
      refine r_iconst (v := (nI 0)) C dX11_firstToDesert_21 (by decide) ?_
      refine r_bipush (v := (nI 45)) C dX11_firstToDesert_22 (by decide) ?_
      refine r_callV C (m_copy (by decide) (by decide) (by decide) hc.2.2.1) dX11_firstToDesert_24 cw_X11_copy cvX11_209 (by omega) ok11 rfl hN rfl (Nat.le_of_ble_eq_true rfl) ?_
      rintro v R' h2 ⟨rfl, rfl, c1, c2⟩
      refine r_iconst (v := (nI 0)) C dX11_firstToDesert_27 (by decide) ?_
      refine r_istore_n C dX11_firstToDesert_28 st2 ?_
      have loop : ∀ k j s' s2 hh, j + k = 60 → mw hh 45 s' → CE s' s2 → SVd (gNn g) (9030 + j) s' → fdsF (gNn g) (gT g) (nI i) k s2 = fdsF (gNn g) (gT g) (nI i) 60 (gSv g) → Fs (sE 45) h1 hh →
          Wa E G 243 (Rs a b) hh (QQ E G 243 (mqr a b g h1 (fdsF (gNn g) (gT g) (nI i) 60 (gSv g)))) 29 [some (aR 11 0), some (aI (nI i)), some (aI (nI j))] [] := by
        intro k
        induction k with
        | zero =>
          intro j s' s2 hh hj hs hce hv' he hf
          refine r_iload_n C dX11_firstToDesert_29 rfl ?_
          refine r_bipush (v := (nI 60)) C dX11_firstToDesert_30 (by decide) ?_
          refine r_icmpN_ge C dX11_firstToDesert_32 (by omega) (by omega) (fun _ => ?_) (fun cc => absurd cc (by omega))
          refine r_iconst (v := (-1)) C dX11_firstToDesert_61 (by decide) ?_
          refine r_iret C hrt dX11_firstToDesert_62 ?_
          rw [← he]
          exact ⟨rfl, rfl, hc.tried hf, hf.wk sE_sXm⟩
        | succ k ih =>
          intro j s' s2 hh hj hs hce hv' he hf
          obtain ⟨q1, q2⟩ := eday_CE (T := gT g) (q := nI i) b0 hce
          rw [fdsF, ← q2] at he
          refine r_iload_n C dX11_firstToDesert_29 rfl ?_
          refine r_bipush (v := (nI 60)) C dX11_firstToDesert_30 (by decide) ?_
          refine r_icmpN_ge C dX11_firstToDesert_32 (by omega) (by omega) (fun cc => absurd cc (by omega)) (fun _ => ?_)
          refine r_aload_n C dX11_firstToDesert_35 rfl ?_
          refine r_bipush (v := (nI 45)) C dX11_firstToDesert_36 (by decide) ?_
          refine r_iload_n C dX11_firstToDesert_38 rfl ?_
          refine r_callV C (m_pass (by decide) (ht.sE hf) hs hT hv') dX11_firstToDesert_39 cw_X11_passes cvX11_224 (by omega) ok11 rfl hN rfl (Nat.le_of_ble_eq_true rfl) ?_
          rintro v R' h3 ⟨rfl, rfl, hs3, d3, f3⟩
          refine r_aload_n C dX11_firstToDesert_42 rfl ?_
          refine q_getV C flX11_198 dX11_firstToDesert_43 ok11 rfl d3 ?_
          refine r_iconst (v := (-1)) C dX11_firstToDesert_46 (by decide) ?_
          refine r_icmp_eq C dX11_firstToDesert_47 (fun c47 => ?_) (fun c47 => ?_)
          · rw [if_pos c47] at he
            first | refine r_iincN C dX11_firstToDesert_55 rfl st2 ?_ | refine r_iinc C dX11_firstToDesert_55 rfl rfl st2 ?_
            refine r_goto C dX11_firstToDesert_58 ?_
            exact ih (j + 1) _ _ h3 (by omega) hs3 ((pass_CE b0 b1).tr q1) (pass_SV b0 b1 (show 9030 + j ≤ 100000 by omega) hT hv') he (hf.tr f3)
          · rw [if_neg c47] at he
            refine r_aload_n C dX11_firstToDesert_50 rfl ?_
            refine q_getV C flX11_198 dX11_firstToDesert_51 ok11 rfl d3 ?_
            refine r_iret C hrt dX11_firstToDesert_54 ?_
            rw [← he]
            exact ⟨rfl, rfl, hc.tried (hf.tr f3), (hf.tr f3).wk sE_sXm⟩
      exact loop 60 0 (gSv g) (gSv g) h2 rfl c1 CE.rf hv rfl (c2.wk sW_sE)
set_option maxRecDepth 100000 in
set_option maxHeartbeats 4000000 in
theorem m_holds {E : Ev} {a b : Nat} {h : HF} {g : Gs} {q : Int32} (hc : MP h g) (hT : TVd (gNn g) (gT g)) (hv : SVd (gNn g) 9030 (gSv g)) : Ct E 2 yX11_holds cX11_holds 3 (some .int) [aR 11 0, aI q] 243 (Rs a b) h 243 (mqr a b g h (holdF g q)) := by
  refine Ct.of 1 (L0 := [some (aR 11 0), some (aI q), none]) (by decide) ⟨Nat.le_refl _, Nat.le_refl _⟩ rfl rfl ?_
  intro G C hg hrt hnm
  have hN : gn G ≤ 243 ∧ 243 ≤ 243 ∧ 243 ≤ 243 := ⟨by omega, by decide, by decide⟩
  have ht : mtw h (gNn g) (gT g) := hc.2.1
  have b0 := ht.2.2.2.2.2.2.2.2.2.1
  have b1 := ht.2.2.2.2.2.2.2.2.2.2.1
  have b4 := ht.2.2.2.2.2.2.2.2.2.2.2.2.2
  refine r_iload_n C dX11_holds_0 rfl ?_
  refine r_callS C m_isRation dX11_holds_1 cw_X11_isRation csX11_213 (by omega) rfl hN rfl (Nat.le_of_ble_eq_true rfl) ?_
  rintro v R' h1 ⟨rfl, rfl, rfl⟩
  cases hx : ixO q 4 with
  | none =>
    rw [holdF, hx, ixB_n hx]
    refine r_if_ne C dX11_holds_4 (fun cc => absurd cc (by exact fun z => z rfl)) (fun _ => ?_)
    refine r_ldc C dX11_holds_7 kX11_99 ?_
    refine r_iret C hrt dX11_holds_9 ?_
    exact ⟨rfl, rfl, hc, Fs.rf⟩
  | some i =>
    obtain ⟨hi, rfl⟩ := ixO_some hx
    have ef : holdF g (nI i) = if gNn g 4 = 0 then cN else nI (hdF (gNn g) (gT g) (nI i) 60 (gSv g)) := by rw [holdF, hx]
    rw [ef, ixB_s hx]
    refine r_if_ne C dX11_holds_4 (fun _ => ?_) (fun cc => absurd cc (by decide))
    refine r_aload_n C dX11_holds_10 rfl ?_
    refine q_getV C flX11_78 dX11_holds_11 ok11 rfl ht.2.2.2.2.1 ?_
    by_cases hz4 : gNn g 4 = 0
    · rw [if_pos hz4, hz4]
      refine r_if_ne C dX11_holds_14 (fun cc => absurd cc (by exact fun z => z rfl)) (fun _ => ?_)
      refine r_ldc C dX11_holds_17 kX11_212 ?_
      refine r_iret C hrt dX11_holds_19 ?_
      exact ⟨rfl, rfl, hc, Fs.rf⟩
    · rw [if_neg hz4]
      refine r_if_ne C dX11_holds_14 (fun _ => ?_) (fun cc => absurd cc (nI_ne0 (by omega) (by omega)))
      refine r_aload_n C dX11_holds_20 rfl ?_
      refine r_iconst (v := (nI 0)) C dX11_holds_21 (by decide) ?_
      refine r_bipush (v := (nI 45)) C dX11_holds_22 (by decide) ?_
      refine r_callV C (m_copy (by decide) (by decide) (by decide) hc.2.2.1) dX11_holds_24 cw_X11_copy cvX11_209 (by omega) ok11 rfl hN rfl (Nat.le_of_ble_eq_true rfl) ?_
      rintro v R' h2 ⟨rfl, rfl, c1, c2⟩
      refine r_iconst (v := (nI 0)) C dX11_holds_27 (by decide) ?_
      refine r_istore_n C dX11_holds_28 st2 ?_
      have loop : ∀ k j s' s2 hh, j + k = 60 → mw hh 45 s' → CE s' s2 → SVd (gNn g) (9030 + j) s' → j + hdF (gNn g) (gT g) (nI i) k s2 = hdF (gNn g) (gT g) (nI i) 60 (gSv g) → Fs (sE 45) h1 hh →
          Wa E G 243 (Rs a b) hh (QQ E G 243 (mqr a b g h1 (nI (hdF (gNn g) (gT g) (nI i) 60 (gSv g))))) 29 [some (aR 11 0), some (aI (nI i)), some (aI (nI j))] [] := by
        intro k
        induction k with
        | zero =>
          intro j s' s2 hh hj hs hce hv' he hf
          refine r_iload_n C dX11_holds_29 rfl ?_
          refine r_bipush (v := (nI 60)) C dX11_holds_30 (by decide) ?_
          refine r_icmpN_ge C dX11_holds_32 (by omega) (by omega) (fun _ => ?_) (fun cc => absurd cc (by omega))
          refine r_iload_n C dX11_holds_57 rfl ?_
          refine r_iret C hrt dX11_holds_58 ?_
          rw [← he]
          exact ⟨rfl, rfl, hc.tried hf, hf.wk sE_sXm⟩
        | succ k ih =>
          intro j s' s2 hh hj hs hce hv' he hf
          obtain ⟨q1, q2⟩ := eday_CE (T := gT g) (q := nI i) b0 hce
          rw [hdF, ← msum_CE hce 5 (by decide)] at he
          refine r_iload_n C dX11_holds_29 rfl ?_
          refine r_bipush (v := (nI 60)) C dX11_holds_30 (by decide) ?_
          refine r_icmpN_ge C dX11_holds_32 (by omega) (by omega) (fun cc => absurd cc (by omega)) (fun _ => ?_)
          refine r_aload_n C dX11_holds_35 rfl ?_
          refine r_bipush (v := (nI 45)) C dX11_holds_36 (by decide) ?_
          refine r_callV C (m_menIn (by decide) (ht.sE hf) hs) dX11_holds_38 cw_X11_menIn cvX11_188 (by omega) ok11 rfl hN rfl (Nat.le_of_ble_eq_true rfl) ?_
          rintro v R' h3 ⟨rfl, rfl, rfl⟩
          rw [msum_5 hv'.1 b0]
          refine r_if_le C dX11_holds_41 (fun c41 => ?_) (fun c41 => ?_)
          · rw [if_pos c41] at he
            refine r_iload_n C dX11_holds_57 rfl ?_
            refine r_iret C hrt dX11_holds_58 ?_
            rw [← he]
            exact ⟨rfl, rfl, hc.tried hf, hf.wk sE_sXm⟩
          · rw [if_neg c41] at he
            refine r_aload_n C dX11_holds_44 rfl ?_
            refine r_bipush (v := (nI 45)) C dX11_holds_45 (by decide) ?_
            refine r_iload_n C dX11_holds_47 rfl ?_
            refine r_callV C (m_pass (by decide) (ht.sE hf) hs hT hv') dX11_holds_48 cw_X11_passes cvX11_224 (by omega) ok11 rfl hN rfl (Nat.le_of_ble_eq_true rfl) ?_
            rintro v R' h4 ⟨rfl, rfl, hs4, d4, f4⟩
            first | refine r_iincN C dX11_holds_51 rfl st2 ?_ | refine r_iinc C dX11_holds_51 rfl rfl st2 ?_
            refine r_goto C dX11_holds_54 ?_
            exact ih (j + 1) _ _ h4 (by omega) hs4 ((pass_CE b0 b1).tr q1) (pass_SV b0 b1 (show 9030 + j ≤ 100000 by omega) hT hv') (by omega) (hf.tr f4)
      exact loop 60 0 (gSv g) (gSv g) h2 rfl c1 CE.rf hv (by omega) (c2.wk sW_sE)
/-- the model's days of a row, with pay -/
def rowP (N : Nat → Nat) (T : Tv) (n row : Nat) (s : Sv) : Nat → Sv
  | 0 => s
  | d + 1 => passF N T (nI (dg n row d)) (rowP N T n row s d)
theorem rowP_CE {N : Nat → Nat} {T : Tv} {n row : Nat} {s : Sv} (h0 : N 0 ≤ 5) (h1 : N 1 ≤ 4) : ∀ d, CE (rowP N T n row s d) (rowS N T n row s d)
  | 0 => CE.rf
  | d + 1 => (pass_CE h0 h1).tr (eday_CE h0 (rowP_CE h0 h1 d)).1
theorem rowP_SV {N : Nat → Nat} {T : Tv} {n row : Nat} {s : Sv} {D : Nat} (h0 : N 0 ≤ 5) (h1 : N 1 ≤ 4) (hT : TVd N T) (hv : SVd N D s) : ∀ d, D + d ≤ 100000 → SVd N (D + d) (rowP N T n row s d)
  | 0, _ => hv
  | d + 1, hd => pass_SV h0 h1 (show D + d ≤ 100000 by omega) hT (rowP_SV h0 h1 hT hv d (by omega))
def rv : Nat → Int32
  | 0 => -1
  | r + 1 => nI r
theorem rv_dec : ∀ r, nI r + Int32.ofInt (-1) = rv r
  | 0 => by decide
  | r + 1 => pk_m1 r
set_option maxRecDepth 100000 in
set_option maxHeartbeats 8000000 in
theorem m_rations {E : Ev} {a b : Nat} {h : HF} {g : Gs} {n i : Int32} (hc : MP h g) (hT : TVd (gNn g) (gT g)) (hv : SVd (gNn g) 9030 (gSv g)) : Ct E 2 yX11_rations cX11_rations 9 (some .int) [aR 11 0, aI n, aI i] 243 (Rs a b) h 243 (mqr a b g h (ratF g n i)) := by
  refine Ct.of 6 (L0 := [some (aR 11 0), some (aI n), some (aI i), none, none, none, none, none, none]) (by decide) ⟨Nat.le_refl _, Nat.le_refl _⟩ rfl rfl ?_
  intro G C hg hrt hnm
  have hN : gn G ≤ 243 ∧ 243 ≤ 243 ∧ 243 ≤ 243 := ⟨by omega, by decide, by decide⟩
  have ht : mtw h (gNn g) (gT g) := hc.2.1
  have b0 := ht.2.2.2.2.2.2.2.2.2.1
  have b1 := ht.2.2.2.2.2.2.2.2.2.2.1
  have b4 := ht.2.2.2.2.2.2.2.2.2.2.2.2.2
  rw [ratF]
  refine r_iload_n C dX11_rations_0 rfl ?_
  refine r_i2l C dX11_rations_1 ?_
  refine r_lconst (v := 1) C dX11_rations_2 (by decide) ?_
  refine r_ldc2 C dX11_rations_3 klX11_261 ?_
  refine r_callS C m_in dX11_rations_6 cw_X11_in csX11_85 (by omega) rfl hN rfl (Nat.le_of_ble_eq_true rfl) ?_
  rintro v R' h1 ⟨rfl, rfl, rfl⟩
  rw [in64 (lo := nI 1) (hi := nI 5) (by decide) (by decide)]
  by_cases hn : nI 1 ≤ n ∧ n ≤ nI 5
  · rw [if_pos hn, if_pos hn]
    obtain ⟨k, hk1, hk2, rfl⟩ := within_nat (by decide) (by decide) hn
    have ek : (nI k).toInt.toNat = k := by rw [nI_toInt (by omega)]; rfl
    rw [ek]
    have hp4 := pow4 hk2
    refine r_if_ne C dX11_rations_9 (fun _ => ?_) (fun cc => absurd cc (by decide))
    refine r_aload_n C dX11_rations_15 rfl ?_
    refine q_getV C flX11_78 dX11_rations_16 ok11 rfl ht.2.2.2.2.1 ?_
    by_cases hz4 : gNn g 4 = 0
    · rw [if_pos hz4, hz4]
      refine r_if_ne C dX11_rations_19 (fun cc => absurd cc (by exact fun z => z rfl)) (fun _ => ?_)
      refine r_ldc C dX11_rations_22 kX11_212 ?_
      refine r_iret C hrt dX11_rations_24 ?_
      exact ⟨rfl, rfl, hc, Fs.rf⟩
    · rw [if_neg hz4]
      refine r_if_ne C dX11_rations_19 (fun _ => ?_) (fun cc => absurd cc (nI_ne0 (by omega) (by omega)))
      refine r_iconst (v := (nI 0)) C dX11_rations_25 (by decide) ?_
      refine r_istore_n C dX11_rations_26 st3 ?_
      refine r_iconst (v := (-1)) C dX11_rations_27 (by decide) ?_
      refine r_istore C dX11_rations_28 st4 ?_
      refine r_iconst (v := (-1)) C dX11_rations_30 (by decide) ?_
      refine r_istore C dX11_rations_31 st5 ?_
      refine r_iconst (v := (nI 0)) C dX11_rations_33 (by decide) ?_
      refine r_istore C dX11_rations_34 st6 ?_
      have fin : ∀ hh l6 l7 l8, Fs (sE 45) h1 hh → Wa E G 243 (Rs a b) hh (QQ E G 243 (mqr a b g h1 (if i = -1 then (ratB g k).1 else (match ixO i k with | none => -1 | some d => nI (dg k (ratB g k).2.1.toInt.toNat d))))) 176 [some (aR 11 0), some (aI (nI k)), some (aI i), some (aI (ratB g k).2.1), some (aI (ratB g k).1), some (aI (ratB g k).2.2), l6, l7, l8] [] := by
        intro hh l6 l7 l8 hf
        obtain ⟨⟨z, hz, ez⟩, -⟩ := bst_row (N := gNn g) (T := gT g) (n := k) (s := gSv g) (x := nI 0) (y := -1) (fun r => rowS_pos hv.1 k r) (4 ^ k) (pow4p hk2)
        have ez2 : (ratB g k).2.1 = nI z := ez
        have ez3 : (nI z).toInt.toNat = z := by rw [nI_toInt (by omega)]; rfl
        rw [ez2, ez3]
        refine r_iload_n C dX11_rations_176 rfl ?_
        refine r_iconst (v := (-1)) C dX11_rations_177 (by decide) ?_
        by_cases hi : i = -1
        · rw [if_pos hi]
          refine r_icmp_ne C dX11_rations_178 (fun cc => absurd cc (by exact fun z => z hi)) (fun _ => ?_)
          refine r_iload C dX11_rations_181 rfl ?_
          refine r_goto C dX11_rations_183 ?_
          refine r_iret C hrt dX11_rations_214 ?_
          exact ⟨rfl, rfl, hc.tried hf, hf.wk sE_sXm⟩
        · rw [if_neg hi]
          refine r_icmp_ne C dX11_rations_178 (fun _ => ?_) (fun cc => absurd cc (hi))
          refine r_iload_n C dX11_rations_186 rfl ?_
          refine r_i2l C dX11_rations_187 ?_
          refine r_lconst (v := 0) C dX11_rations_188 (by decide) ?_
          refine r_iload_n C dX11_rations_189 rfl ?_
          refine r_iconst (v := (nI 1)) C dX11_rations_190 (by decide) ?_
          refine r_isubN C dX11_rations_191 hk1 ?_
          refine r_i2l C dX11_rations_192 ?_
          refine r_callS C m_in dX11_rations_193 cw_X11_in csX11_85 (by omega) rfl hN rfl (Nat.le_of_ble_eq_true rfl) ?_
          rintro v R' h2 ⟨rfl, rfl, rfl⟩
          rw [in64 (lo := nI 0) (hi := nI (k - 1)) (by decide) rfl, ix_lit hk1 (by omega)]
          cases hx : ixO i k with
          | none =>
            rw [ixB_n hx]
            refine r_if_eq C dX11_rations_196 (fun _ => ?_) (fun cc => absurd cc (by exact fun z => z rfl))
            refine r_iconst (v := (-1)) C dX11_rations_213 (by decide) ?_
            refine r_iret C hrt dX11_rations_214 ?_
            exact ⟨rfl, rfl, hc.tried hf, hf.wk sE_sXm⟩
          | some d =>
            obtain ⟨hd, rfl⟩ := ixO_some hx
            rw [ixB_s hx]
            refine r_if_eq C dX11_rations_196 (fun cc => absurd cc (by decide)) (fun _ => ?_)
            refine r_iload_n C dX11_rations_199 rfl ?_
            refine r_iconst (v := (nI 2)) C dX11_rations_200 (by decide) ?_
            refine r_iload_n C dX11_rations_201 rfl ?_
            refine r_iconst (v := (nI 1)) C dX11_rations_202 (by decide) ?_
            refine r_isubN C dX11_rations_203 hk1 ?_
            refine r_iload_n C dX11_rations_204 rfl ?_
            refine r_isubN C dX11_rations_205 (by omega) ?_
            first | refine r_imulN C dX11_rations_206 ?_ | refine r_imul C dX11_rations_206 ?_
            refine r_ishr C dX11_rations_207 ?_
            rw [shr4 (by omega) (by omega)]
            refine r_iconst (v := (nI 3)) C dX11_rations_208 (by decide) ?_
            refine r_iand C dX11_rations_209 ?_
            refine r_goto C dX11_rations_210 ?_
            rw [pk_andN (Nat.lt_of_le_of_lt (Nat.div_le_self _ _) (by omega)) 2 (by decide)]
            refine r_iret C hrt dX11_rations_214 ?_
            exact ⟨rfl, rfl, hc.tried hf, hf.wk sE_sXm⟩
      have outer : ∀ m r hh, r + m = 4 ^ k → Fs (sE 45) h1 hh → Wa E G 243 (Rs a b) hh (QQ E G 243 (mqr a b g h1 (if i = -1 then (ratB g k).1 else (match ixO i k with | none => -1 | some d => nI (dg k (ratB g k).2.1.toInt.toNat d))))) 36 [some (aR 11 0), some (aI (nI k)), some (aI i), some (aI (bstF (gNn g) (gT g) k (gSv g) (-1, nI 0, -1) r).2.1), some (aI (bstF (gNn g) (gT g) k (gSv g) (-1, nI 0, -1) r).1), some (aI (bstF (gNn g) (gT g) k (gSv g) (-1, nI 0, -1) r).2.2), some (aI (nI r)), none, none] [] := by
        intro m
        induction m with
        | zero =>
          intro r hh hr hf
          have e : r = 4 ^ k := by omega
          subst e
          refine r_iload C dX11_rations_36 rfl ?_
          refine r_iconst (v := (nI 1)) C dX11_rations_38 (by decide) ?_
          refine r_iconst (v := (nI 2)) C dX11_rations_39 (by decide) ?_
          refine r_iload_n C dX11_rations_40 rfl ?_
          first | refine r_imulN C dX11_rations_41 ?_ | refine r_imul C dX11_rations_41 ?_
          refine r_ishl C dX11_rations_42 ?_
          rw [shl4 hk2]
          refine r_icmpN_ge C dX11_rations_43 (by omega) (by omega) (fun _ => ?_) (fun cc => absurd cc (by omega))
          exact fin hh _ _ _ hf
        | succ m ih =>
          intro r hh hr hf
          have ih2 := ih (r + 1)
          rw [show bstF (gNn g) (gT g) k (gSv g) (-1, nI 0, -1) (r + 1) = cmpF (msum (rowS (gNn g) (gT g) k r (gSv g) k) 5) (rowS (gNn g) (gT g) k r (gSv g) k 0) (nI r) (bstF (gNn g) (gT g) k (gSv g) (-1, nI 0, -1) r) from rfl] at ih2
          refine r_iload C dX11_rations_36 rfl ?_
          refine r_iconst (v := (nI 1)) C dX11_rations_38 (by decide) ?_
          refine r_iconst (v := (nI 2)) C dX11_rations_39 (by decide) ?_
          refine r_iload_n C dX11_rations_40 rfl ?_
          first | refine r_imulN C dX11_rations_41 ?_ | refine r_imul C dX11_rations_41 ?_
          refine r_ishl C dX11_rations_42 ?_
          rw [shl4 hk2]
          refine r_icmpN_ge C dX11_rations_43 (by omega) (by omega) (fun cc => absurd cc (by omega)) (fun _ => ?_)
          refine r_aload_n C dX11_rations_46 rfl ?_
          refine r_iconst (v := (nI 0)) C dX11_rations_47 (by decide) ?_
          refine r_bipush (v := (nI 45)) C dX11_rations_48 (by decide) ?_
          refine r_callV C (m_copy (by decide) (by decide) (by decide) (hc.tried hf).2.2.1) dX11_rations_50 cw_X11_copy cvX11_209 (by omega) ok11 rfl hN rfl (Nat.le_of_ble_eq_true rfl) ?_
          rintro v R' h2 ⟨rfl, rfl, c1, c2⟩
          refine r_iload_n C dX11_rations_53 rfl ?_
          refine r_iconst (v := (nI 1)) C dX11_rations_54 (by decide) ?_
          refine r_isubN C dX11_rations_55 hk1 ?_
          refine r_istore C dX11_rations_56 st7 ?_
          have inner : ∀ q h3, q ≤ k → mw h3 45 (rowP (gNn g) (gT g) k r (gSv g) (k - q)) → Fs (sE 45) h1 h3 → Wa E G 243 (Rs a b) h3 (QQ E G 243 (mqr a b g h1 (if i = -1 then (ratB g k).1 else (match ixO i k with | none => -1 | some d => nI (dg k (ratB g k).2.1.toInt.toNat d))))) 58 [some (aR 11 0), some (aI (nI k)), some (aI i), some (aI (bstF (gNn g) (gT g) k (gSv g) (-1, nI 0, -1) r).2.1), some (aI (bstF (gNn g) (gT g) k (gSv g) (-1, nI 0, -1) r).1), some (aI (bstF (gNn g) (gT g) k (gSv g) (-1, nI 0, -1) r).2.2), some (aI (nI r)), some (aI (rv q)), none] [] := by
            intro q
            induction q with
            | zero =>
              intro h3 hq hs3 hf3
              rw [Nat.sub_zero] at hs3
              have hce := rowP_CE (T := gT g) (n := k) (row := r) (s := gSv g) b0 b1 k
              have hv3 := rowP_SV (n := k) (row := r) b0 b1 hT hv k (by omega)
              have e45 : h3 39 0 45 = rowS (gNn g) (gT g) k r (gSv g) k 0 := (hs3 0 (by decide)).trans hce.1
              refine r_iload C dX11_rations_58 rfl ?_
              refine r_if_lt C dX11_rations_60 (fun _ => ?_) (fun cc => absurd cc (by decide))
              refine r_aload_n C dX11_rations_84 rfl ?_
              refine r_bipush (v := (nI 45)) C dX11_rations_85 (by decide) ?_
              refine r_callV C (m_menIn (by decide) (ht.sE hf3) hs3) dX11_rations_87 cw_X11_menIn cvX11_188 (by omega) ok11 rfl hN rfl (Nat.le_of_ble_eq_true rfl) ?_
              rintro v R' h4 ⟨rfl, rfl, rfl⟩
              rw [msum_5 hv3.1 b0, msum_CE hce 5 (by decide)]
              have yes : ((bstF (gNn g) (gT g) k (gSv g) (-1, nI 0, -1) r).1 < msum (rowS (gNn g) (gT g) k r (gSv g) k) 5 ∨ (msum (rowS (gNn g) (gT g) k r (gSv g) k) 5 = (bstF (gNn g) (gT g) k (gSv g) (-1, nI 0, -1) r).1 ∧ (bstF (gNn g) (gT g) k (gSv g) (-1, nI 0, -1) r).2.2 < rowS (gNn g) (gT g) k r (gSv g) k 0)) → Wa E G 243 (Rs a b) h4 (QQ E G 243 (mqr a b g h1 (if i = -1 then (ratB g k).1 else (match ixO i k with | none => -1 | some d => nI (dg k (ratB g k).2.1.toInt.toNat d))))) 118 [some (aR 11 0), some (aI (nI k)), some (aI i), some (aI (bstF (gNn g) (gT g) k (gSv g) (-1, nI 0, -1) r).2.1), some (aI (bstF (gNn g) (gT g) k (gSv g) (-1, nI 0, -1) r).1), some (aI (bstF (gNn g) (gT g) k (gSv g) (-1, nI 0, -1) r).2.2), some (aI (nI r)), some (aI (msum (rowS (gNn g) (gT g) k r (gSv g) k) 5)), none] [] := by
                intro hb
                have ih3 := ih2 h4 (by omega) hf3
                rw [cmpF, if_pos hb] at ih3
                refine r_iconst (v := (nI 1)) C dX11_rations_118 (by decide) ?_
                refine r_goto C dX11_rations_119 ?_
                refine r_istore C dX11_rations_123 st8 ?_
                refine r_iload C dX11_rations_125 rfl ?_
                refine r_if_eq C dX11_rations_127 (fun cc => absurd cc (by decide)) (fun _ => ?_)
                refine r_iload C dX11_rations_130 rfl ?_
                refine r_goto C dX11_rations_132 ?_
                refine r_istore_n C dX11_rations_136 st3 ?_
                refine r_iload C dX11_rations_137 rfl ?_
                refine r_if_eq C dX11_rations_139 (fun cc => absurd cc (by decide)) (fun _ => ?_)
                refine r_aload_n C dX11_rations_142 rfl ?_
                refine r_getR C flX11_7 dX11_rations_143 ok11 rfl rfl ?_
                refine r_bipush (v := (nI 45)) C dX11_rations_146 (by decide) ?_
                refine q_ialdV (m := 1080) C dX11_rations_148 ok39 rfl rfl (by omega) e45 ?_
                refine r_goto C dX11_rations_149 ?_
                refine r_istore C dX11_rations_154 st5 ?_
                refine r_iload C dX11_rations_156 rfl ?_
                refine r_if_eq C dX11_rations_158 (fun cc => absurd cc (by decide)) (fun _ => ?_)
                refine r_iload C dX11_rations_161 rfl ?_
                refine r_goto C dX11_rations_163 ?_
                refine r_istore C dX11_rations_168 st4 ?_
                first | refine r_iincN C dX11_rations_170 rfl st6 ?_ | refine r_iinc C dX11_rations_170 rfl rfl st6 ?_
                refine r_goto C dX11_rations_173 ?_
                exact wa_loc (by simp [lsub]) ih3
              have no : ¬ ((bstF (gNn g) (gT g) k (gSv g) (-1, nI 0, -1) r).1 < msum (rowS (gNn g) (gT g) k r (gSv g) k) 5 ∨ (msum (rowS (gNn g) (gT g) k r (gSv g) k) 5 = (bstF (gNn g) (gT g) k (gSv g) (-1, nI 0, -1) r).1 ∧ (bstF (gNn g) (gT g) k (gSv g) (-1, nI 0, -1) r).2.2 < rowS (gNn g) (gT g) k r (gSv g) k 0)) → Wa E G 243 (Rs a b) h4 (QQ E G 243 (mqr a b g h1 (if i = -1 then (ratB g k).1 else (match ixO i k with | none => -1 | some d => nI (dg k (ratB g k).2.1.toInt.toNat d))))) 122 [some (aR 11 0), some (aI (nI k)), some (aI i), some (aI (bstF (gNn g) (gT g) k (gSv g) (-1, nI 0, -1) r).2.1), some (aI (bstF (gNn g) (gT g) k (gSv g) (-1, nI 0, -1) r).1), some (aI (bstF (gNn g) (gT g) k (gSv g) (-1, nI 0, -1) r).2.2), some (aI (nI r)), some (aI (msum (rowS (gNn g) (gT g) k r (gSv g) k) 5)), none] [] := by
                intro hb
                have ih3 := ih2 h4 (by omega) hf3
                rw [cmpF, if_neg hb] at ih3
                refine r_iconst (v := (nI 0)) C dX11_rations_122 (by decide) ?_
                refine r_istore C dX11_rations_123 st8 ?_
                refine r_iload C dX11_rations_125 rfl ?_
                refine r_if_eq C dX11_rations_127 (fun _ => ?_) (fun cc => absurd cc (by exact fun z => z rfl))
                refine r_iload_n C dX11_rations_135 rfl ?_
                refine r_istore_n C dX11_rations_136 st3 ?_
                refine r_iload C dX11_rations_137 rfl ?_
                refine r_if_eq C dX11_rations_139 (fun _ => ?_) (fun cc => absurd cc (by exact fun z => z rfl))
                refine r_iload C dX11_rations_152 rfl ?_
                refine r_istore C dX11_rations_154 st5 ?_
                refine r_iload C dX11_rations_156 rfl ?_
                refine r_if_eq C dX11_rations_158 (fun _ => ?_) (fun cc => absurd cc (by exact fun z => z rfl))
                refine r_iload C dX11_rations_166 rfl ?_
                refine r_istore C dX11_rations_168 st4 ?_
                first | refine r_iincN C dX11_rations_170 rfl st6 ?_ | refine r_iinc C dX11_rations_170 rfl rfl st6 ?_
                refine r_goto C dX11_rations_173 ?_
                exact wa_loc (by simp [lsub]) ih3
              refine r_istore C dX11_rations_90 st7 ?_
              refine r_iload C dX11_rations_92 rfl ?_
              refine r_iload C dX11_rations_94 rfl ?_
              refine r_icmp_gt C dX11_rations_96 (fun c96 => ?_) (fun c96 => ?_)
              · exact yes (Or.inl c96)
              · refine r_iload C dX11_rations_99 rfl ?_
                refine r_iload C dX11_rations_101 rfl ?_
                refine r_icmp_ne C dX11_rations_103 (fun c103 => ?_) (fun c103 => ?_)
                · exact no (fun z => z.elim c96 (fun z => c103 z.1))
                · refine r_aload_n C dX11_rations_106 rfl ?_
                  refine r_getR C flX11_7 dX11_rations_107 ok11 rfl rfl ?_
                  refine r_bipush (v := (nI 45)) C dX11_rations_110 (by decide) ?_
                  refine q_ialdV (m := 1080) C dX11_rations_112 ok39 rfl rfl (by omega) e45 ?_
                  refine r_iload C dX11_rations_113 rfl ?_
                  refine r_icmp_le C dX11_rations_115 (fun c115 => ?_) (fun c115 => ?_)
                  · exact no (fun z => z.elim c96 (fun z => absurd c115 (Int32.not_le.mpr z.2)))
                  · exact yes (Or.inr ⟨c103, Int32.not_le.mp c115⟩)
            | succ q ihq =>
              intro h3 hq hs3 hf3
              have hv3 := rowP_SV (n := k) (row := r) b0 b1 hT hv (k - (q + 1)) (by omega)
              have edg : dg k r (k - (q + 1)) = r / 4 ^ q % 4 := by rw [dg, show k - 1 - (k - (q + 1)) = q by omega]
              show Wa E G 243 _ _ _ _ [_, _, _, _, _, _, _, some (aI (nI q)), none] _
              refine r_iload C dX11_rations_58 rfl ?_
              refine r_if_lt C dX11_rations_60 (fun cc => absurd cc (nI_pos (by omega))) (fun _ => ?_)
              refine r_aload_n C dX11_rations_63 rfl ?_
              refine r_bipush (v := (nI 45)) C dX11_rations_64 (by decide) ?_
              refine r_iload C dX11_rations_66 rfl ?_
              refine r_iconst (v := (nI 2)) C dX11_rations_68 (by decide) ?_
              refine r_iload C dX11_rations_69 rfl ?_
              first | refine r_imulN C dX11_rations_71 ?_ | refine r_imul C dX11_rations_71 ?_
              refine r_ishr C dX11_rations_72 ?_
              rw [shr4 (by omega) (by omega)]
              refine r_iconst (v := (nI 3)) C dX11_rations_73 (by decide) ?_
              refine r_iand C dX11_rations_74 ?_
              rw [pk_andN (Nat.lt_of_le_of_lt (Nat.div_le_self _ _) (by omega)) 2 (by decide), show r / 4 ^ q % 2 ^ 2 = dg k r (k - (q + 1)) from edg.symm]
              refine r_callV C (m_pass (by decide) (ht.sE hf3) hs3 hT hv3) dX11_rations_75 cw_X11_passes cvX11_224 (by omega) ok11 rfl hN rfl (Nat.le_of_ble_eq_true rfl) ?_
              rintro v R' h4 ⟨rfl, rfl, hs4, d4, f4⟩
              refine r_iinc (v := rv q) C dX11_rations_78 rfl (rv_dec q) st7 ?_
              refine r_goto C dX11_rations_81 ?_
              refine ihq h4 (by omega) ?_ (hf3.tr f4)
              rw [show k - q = (k - (q + 1)) + 1 by omega]
              exact hs4
          have hi0 := inner k h2 (Nat.le_refl _) (by rw [Nat.sub_self]; exact c1) (hf.tr (c2.wk sW_sE))
          rw [show rv k = nI (k - 1) by obtain ⟨k', rfl⟩ : ∃ k', k = k' + 1 := ⟨k - 1, by omega⟩; rfl] at hi0
          exact hi0
      exact outer (4 ^ k) 0 h1 (by omega) Fs.rf
  · rw [if_neg hn, if_neg hn]
    refine r_if_ne C dX11_rations_9 (fun cc => absurd cc (by exact fun z => z rfl)) (fun _ => ?_)
    refine r_ldc C dX11_rations_12 kX11_99 ?_
    refine r_iret C hrt dX11_rations_14 ?_
    exact ⟨rfl, rfl, hc, Fs.rf⟩
