/-! debts -/
def giF (D : Nat → Int32) : Nat → Nat
  | 0 => 0
  | k + 1 => if D (giF D k) < D (k + 1) then k + 1 else giF D k
theorem giF_le (D : Nat → Int32) : ∀ k, giF D k ≤ k
  | 0 => Nat.le_refl _
  | k + 1 => by
    unfold giF
    split
    · exact Nat.le_refl _
    · exact Nat.le_succ_of_le (giF_le D k)
def stkV (nc : Nat) (D : Nat → Int32) : Int32 := if 0 < nc then D (giF D (nc - 1)) else nI 0
def stkD (nc : Nat) (D : Nat → Int32) : Nat → Int32 := va_up D (giF D (nc - 1)) (nI 0)
def lpF (nc : Nat) : Nat → (Nat → Int32) → Int32 → Int32
  | 0, _, sum => sum
  | k + 1, D, sum => lpF nc k (stkD nc D) (sum - stkV nc D)
def osum (T : Tv) (N : Nat → Nat) (s : Sv) (rd : Nat) : Nat → Int32
  | 0 => nI 0
  | c + 1 => osum T N s rd c + owF T s c rd (N 1)
def s37 : Nat → Nat → Bool := fun k _ => k == 37
set_option maxRecDepth 100000 in
set_option maxHeartbeats 4000000 in
theorem c_strike {E : Ev} {a b nc : Nat} {h : HF} {D : Nat → Int32} (hn : nc ≤ 5) (hD : ∀ i, i < 5 → h 37 0 i = D i) : Ct E 0 yX9_strikeGreatestDebt cX9_strikeGreatestDebt 4 (some .int) [aR 9 0, aI (nI nc)] 243 (Rs a b) h 243 (fun v R' h' => v = some (aI (stkV nc D)) ∧ R' = Rs a b ∧ (∀ i, i < 5 → h' 37 0 i = stkD nc D i) ∧ Fr s37 h h') := by
  refine Ct.of 2 (L0 := [some (aR 9 0), some (aI (nI nc)), none, none]) (by decide) ⟨Nat.le_refl _, Nat.le_refl _⟩ rfl rfl ?_
  intro G C hg hrt hnm
  have hN : gn G ≤ 243 ∧ 243 ≤ 243 ∧ 243 ≤ 243 := ⟨by omega, by decide, by decide⟩
  have post : ∀ g, g < 5 → g = giF D (nc - 1) → Wa E G 243 (Rs a b) h (QQ E G 243 (fun v R' h' => v = some (aI (stkV nc D)) ∧ R' = Rs a b ∧ (∀ i, i < 5 → h' 37 0 i = stkD nc D i) ∧ Fr s37 h h')) 46 [some (aR 9 0), some (aI (nI nc)), some (aI (nI g)), none] [aI (stkV nc D)] := by
    intro g hg he
    refine r_istore_n C dX9_strikeGreatestDebt_46 st3 ?_
    refine r_aload_n C dX9_strikeGreatestDebt_47 rfl ?_
    refine r_getR C flX9_17 dX9_strikeGreatestDebt_48 ok9 rfl rfl ?_
    refine r_iload_n C dX9_strikeGreatestDebt_51 rfl ?_
    refine r_iconst (v := (nI 0)) C dX9_strikeGreatestDebt_52 (by decide) ?_
    refine q_iast (m := 5) C dX9_strikeGreatestDebt_53 ok37 rfl rfl (by omega) ?_
    refine r_iload_n C dX9_strikeGreatestDebt_54 rfl ?_
    refine r_iret C hrt dX9_strikeGreatestDebt_55 ?_
    refine ⟨rfl, rfl, fun i hi => ?_, Fr.put Fr.rf rfl⟩
    rw [stkD, ← he]
    by_cases e : i = g
    · subst e; rw [put_same, va_up_self]
    · rw [put_i e, va_up_ne _ _ e]; exact hD i hi
  refine r_iconst (v := (nI 0)) C dX9_strikeGreatestDebt_0 (by decide) ?_
  refine r_istore_n C dX9_strikeGreatestDebt_1 st2 ?_
  refine r_iconst (v := (nI 1)) C dX9_strikeGreatestDebt_2 (by decide) ?_
  refine r_istore_n C dX9_strikeGreatestDebt_3 st3 ?_
  have loop : ∀ k c, c + 1 + k = max nc 1 → Wa E G 243 (Rs a b) h (QQ E G 243 (fun v R' h' => v = some (aI (stkV nc D)) ∧ R' = Rs a b ∧ (∀ i, i < 5 → h' 37 0 i = stkD nc D i) ∧ Fr s37 h h')) 4 [some (aR 9 0), some (aI (nI nc)), some (aI (nI (giF D c))), some (aI (nI (c + 1)))] [] := by
    intro k
    induction k with
    | zero =>
      intro c hc
      have hg := giF_le D c
      refine r_iload_n C dX9_strikeGreatestDebt_4 rfl ?_
      refine r_iload_n C dX9_strikeGreatestDebt_5 rfl ?_
      refine r_icmpN_ge C dX9_strikeGreatestDebt_6 (by omega) (by omega) (fun _ => ?_) (fun cc => absurd cc (by omega))
      refine r_iload_n C dX9_strikeGreatestDebt_32 rfl ?_
      by_cases h0 : nc = 0
      · subst h0
        refine r_if_le C dX9_strikeGreatestDebt_33 (fun _ => ?_) (fun cc => absurd cc (by decide))
        refine r_iconst (v := (nI 0)) C dX9_strikeGreatestDebt_45 (by decide) ?_
        refine wa_loc (L' := [some (aR 9 0), some (aI (nI 0)), some (aI (nI (giF D c))), none]) (by simp [lsub]) ?_
        exact post (giF D c) (by omega) (by congr 1; omega)
      · refine r_if_le C dX9_strikeGreatestDebt_33 (fun cc => absurd cc (nI_nle (by omega) (by omega))) (fun _ => ?_)
        refine r_aload_n C dX9_strikeGreatestDebt_36 rfl ?_
        refine r_getR C flX9_17 dX9_strikeGreatestDebt_37 ok9 rfl rfl ?_
        refine r_iload_n C dX9_strikeGreatestDebt_40 rfl ?_
        refine q_ialdV (m := 5) C dX9_strikeGreatestDebt_41 ok37 rfl rfl (by omega) (hD (giF D c) (by omega)) ?_
        refine r_goto C dX9_strikeGreatestDebt_42 ?_
        refine wa_loc (L' := [some (aR 9 0), some (aI (nI nc)), some (aI (nI (giF D c))), none]) (by simp [lsub]) ?_
        have e : c = nc - 1 := by omega
        have p2 := post (giF D c) (by omega) (by rw [e])
        rw [stkV, if_pos (by omega), ← e] at p2
        rw [stkV, if_pos (by omega), ← e]
        exact p2
    | succ k ih =>
      intro c hc
      have hg := giF_le D c
      have ih2 := ih (c + 1) (by omega)
      rw [giF] at ih2
      refine r_iload_n C dX9_strikeGreatestDebt_4 rfl ?_
      refine r_iload_n C dX9_strikeGreatestDebt_5 rfl ?_
      refine r_icmpN_ge C dX9_strikeGreatestDebt_6 (by omega) (by omega) (fun cc => absurd cc (by omega)) (fun _ => ?_)
      refine r_aload_n C dX9_strikeGreatestDebt_9 rfl ?_
      refine r_getR C flX9_17 dX9_strikeGreatestDebt_10 ok9 rfl rfl ?_
      refine r_iload_n C dX9_strikeGreatestDebt_13 rfl ?_
      refine q_ialdV (m := 5) C dX9_strikeGreatestDebt_14 ok37 rfl rfl (by omega) (hD (c + 1) (by omega)) ?_
      refine r_aload_n C dX9_strikeGreatestDebt_15 rfl ?_
      refine r_getR C flX9_17 dX9_strikeGreatestDebt_16 ok9 rfl rfl ?_
      refine r_iload_n C dX9_strikeGreatestDebt_19 rfl ?_
      refine q_ialdV (m := 5) C dX9_strikeGreatestDebt_20 ok37 rfl rfl (by omega) (hD (giF D c) (by omega)) ?_
      refine r_icmp_le C dX9_strikeGreatestDebt_21 (fun c21 => ?_) (fun c21 => ?_)
      · rw [if_neg (Int32.not_lt.mpr c21)] at ih2
        first | refine r_iincN C dX9_strikeGreatestDebt_26 rfl st3 ?_ | refine r_iinc C dX9_strikeGreatestDebt_26 rfl rfl st3 ?_
        refine r_goto C dX9_strikeGreatestDebt_29 ?_
        exact ih2
      · rw [if_pos (Int32.not_le.mp c21)] at ih2
        refine r_iload_n C dX9_strikeGreatestDebt_24 rfl ?_
        refine r_istore_n C dX9_strikeGreatestDebt_25 st2 ?_
        first | refine r_iincN C dX9_strikeGreatestDebt_26 rfl st3 ?_ | refine r_iinc C dX9_strikeGreatestDebt_26 rfl rfl st3 ?_
        refine r_goto C dX9_strikeGreatestDebt_29 ?_
        exact ih2
  exact loop (max nc 1 - 1) 0 (by omega)
set_option maxRecDepth 100000 in
set_option maxHeartbeats 4000000 in
theorem c_leastToPay {E : Ev} {a b t k rd : Nat} {h : HF} {N : Nat → Nat} {T : Tv} {s : Sv} (hT : t < 2) (ht : twn h t N T) (hs : sgp h 0 s) (hk : k ≤ 5) (hr : rd < 3) : Ct E 2 yX9_leastToPay cX9_leastToPay 7 (some .int) [aR 9 0, aR 8 t, aR 6 0, aI (nI k), aI (nI rd)] 243 (Rs a b) h 243 (fun v R' h' => v = some (aI (lpF (N 0) k (fun c => if c < N 0 then owF T s c rd (N 1) else h 37 0 c) (osum T N s rd (N 0)))) ∧ R' = Rs a b ∧ Fr s37 h h') := by
  refine Ct.of 2 (L0 := [some (aR 9 0), some (aR 8 t), some (aR 6 0), some (aI (nI k)), some (aI (nI rd)), none, none]) (by decide) ⟨Nat.le_refl _, Nat.le_refl _⟩ rfl rfl ?_
  intro G C hg hrt hnm
  have hN : gn G ≤ 243 ∧ 243 ≤ 243 ∧ 243 ≤ 243 := ⟨by omega, by decide, by decide⟩
  have hN0 := ht.2.2.2.2.2.2.2.2.2.1
  have hS : 0 < 23 := by decide
  have t37 : ∀ k, (k = 8 ∨ (28 ≤ k ∧ k ≤ 35)) → s37 k t = false := fun k hk => by simp [s37]; omega
  have g37 : ∀ k, (k = 1 ∨ k = 14 ∨ k = 15 ∨ k = 6 ∨ k = 23 ∨ k = 24 ∨ k = 25) → s37 k 0 = false := fun k hk => by simp [s37]; omega
  have loop2 : ∀ m i D sum hh, i + m = k → (∀ i, i < 5 → hh 37 0 i = D i) → lpF (N 0) m D sum = lpF (N 0) k (fun c => if c < N 0 then owF T s c rd (N 1) else h 37 0 c) (osum T N s rd (N 0)) → Fr s37 h hh →
      Wa E G 243 (Rs a b) hh (QQ E G 243 (fun v R' h' => v = some (aI (lpF (N 0) k (fun c => if c < N 0 then owF T s c rd (N 1) else h 37 0 c) (osum T N s rd (N 0)))) ∧ R' = Rs a b ∧ Fr s37 h h')) 52 [some (aR 9 0), some (aR 8 t), some (aR 6 0), some (aI (nI k)), some (aI (nI rd)), some (aI sum), some (aI (nI i))] [] := by
    intro m
    induction m with
    | zero =>
      intro i D sum hh hi hD he hf
      refine r_iload C dX9_leastToPay_52 rfl ?_
      refine r_iload_n C dX9_leastToPay_54 rfl ?_
      refine r_icmpN_ge C dX9_leastToPay_55 (by omega) (by omega) (fun _ => ?_) (fun cc => absurd cc (by omega))
      refine r_iload C dX9_leastToPay_77 rfl ?_
      refine r_iret C hrt dX9_leastToPay_79 ?_
      rw [← he]
      exact ⟨rfl, rfl, hf⟩
    | succ m ih =>
      intro i D sum hh hi hD he hf
      refine r_iload C dX9_leastToPay_52 rfl ?_
      refine r_iload_n C dX9_leastToPay_54 rfl ?_
      refine r_icmpN_ge C dX9_leastToPay_55 (by omega) (by omega) (fun cc => absurd cc (by omega)) (fun _ => ?_)
      refine r_iload C dX9_leastToPay_58 rfl ?_
      refine r_aload_n C dX9_leastToPay_60 rfl ?_
      refine r_aload_n C dX9_leastToPay_61 rfl ?_
      refine q_getV C flX9_67 dX9_leastToPay_62 (Ok.full (by decide) hT) rfl (ht.fr hf t37).1 ?_
      refine r_callV C (c_strike hN0 hD) dX9_leastToPay_65 cw_X9_strikeGreatestDebt cvX9_78 (by omega) ok9 rfl hN rfl (Nat.le_of_ble_eq_true rfl) ?_
      rintro v R' h1 ⟨rfl, rfl, hD1, hf1⟩
      refine r_isub C dX9_leastToPay_68 ?_
      refine r_istore C dX9_leastToPay_69 st5 ?_
      first | refine r_iincN C dX9_leastToPay_71 rfl st6 ?_ | refine r_iinc C dX9_leastToPay_71 rfl rfl st6 ?_
      refine r_goto C dX9_leastToPay_74 ?_
      exact ih (i + 1) _ _ h1 (by omega) hD1 he (hf.tr hf1)
  refine r_iconst (v := (nI 0)) C dX9_leastToPay_0 (by decide) ?_
  refine r_istore C dX9_leastToPay_1 st5 ?_
  refine r_iconst (v := (nI 0)) C dX9_leastToPay_3 (by decide) ?_
  refine r_istore C dX9_leastToPay_4 st6 ?_
  have loop1 : ∀ m c hh, c + m = N 0 → (∀ i, i < c → hh 37 0 i = owF T s i rd (N 1)) → (∀ i, c ≤ i → hh 37 0 i = h 37 0 i) → Fr s37 h hh →
      Wa E G 243 (Rs a b) hh (QQ E G 243 (fun v R' h' => v = some (aI (lpF (N 0) k (fun c => if c < N 0 then owF T s c rd (N 1) else h 37 0 c) (osum T N s rd (N 0)))) ∧ R' = Rs a b ∧ Fr s37 h h')) 6 [some (aR 9 0), some (aR 8 t), some (aR 6 0), some (aI (nI k)), some (aI (nI rd)), some (aI (osum T N s rd c)), some (aI (nI c))] [] := by
    intro m
    induction m with
    | zero =>
      intro c hh hc h1 h2 hf
      have e : c = N 0 := by omega
      subst e
      refine r_iload C dX9_leastToPay_6 rfl ?_
      refine r_aload_n C dX9_leastToPay_8 rfl ?_
      refine q_getV C flX9_67 dX9_leastToPay_9 (Ok.full (by decide) hT) rfl (ht.fr hf t37).1 ?_
      refine r_icmpN_ge C dX9_leastToPay_12 (by omega) (by omega) (fun _ => ?_) (fun cc => absurd cc (by omega))
      refine r_iconst (v := (nI 0)) C dX9_leastToPay_49 (by decide) ?_
      refine r_istore C dX9_leastToPay_50 st6 ?_
      refine loop2 k 0 _ _ hh (by omega) (fun i hi => ?_) rfl hf
      show hh 37 0 i = if i < N 0 then _ else _
      split
      · next z => exact h1 i z
      · next z => exact h2 i (by omega)
    | succ m ih =>
      intro c hh hc h1 h2 hf
      refine r_iload C dX9_leastToPay_6 rfl ?_
      refine r_aload_n C dX9_leastToPay_8 rfl ?_
      refine q_getV C flX9_67 dX9_leastToPay_9 (Ok.full (by decide) hT) rfl (ht.fr hf t37).1 ?_
      refine r_icmpN_ge C dX9_leastToPay_12 (by omega) (by omega) (fun cc => absurd cc (by omega)) (fun _ => ?_)
      refine r_aload_n C dX9_leastToPay_15 rfl ?_
      refine r_getR C flX9_17 dX9_leastToPay_16 ok9 rfl rfl ?_
      refine r_iload C dX9_leastToPay_19 rfl ?_
      refine r_aload_n C dX9_leastToPay_21 rfl ?_
      refine r_aload_n C dX9_leastToPay_22 rfl ?_
      refine r_iload C dX9_leastToPay_23 rfl ?_
      refine r_iload C dX9_leastToPay_25 rfl ?_
      refine r_callV C (c_owedTo hS hT (ht.fr hf t37) (hs.fr hf g37) (by omega) hr) dX9_leastToPay_27 cw_X6_owedTo cvX9_72 (by omega) (Ok.full (by decide) hS) rfl hN rfl (Nat.le_of_ble_eq_true rfl) ?_
      rintro v R' h3 ⟨rfl, rfl, rfl⟩
      refine q_iast (m := 5) C dX9_leastToPay_30 ok37 rfl rfl (by omega) ?_
      refine r_iload C dX9_leastToPay_31 rfl ?_
      refine r_aload_n C dX9_leastToPay_33 rfl ?_
      refine r_getR C flX9_17 dX9_leastToPay_34 ok9 rfl rfl ?_
      refine r_iload C dX9_leastToPay_37 rfl ?_
      refine q_ialdV (m := 5) C dX9_leastToPay_39 ok37 rfl rfl (by omega) put_same ?_
      refine r_iadd C dX9_leastToPay_40 ?_
      refine r_istore C dX9_leastToPay_41 st5 ?_
      first | refine r_iincN C dX9_leastToPay_43 rfl st6 ?_ | refine r_iinc C dX9_leastToPay_43 rfl rfl st6 ?_
      refine r_goto C dX9_leastToPay_46 ?_
      refine ih (c + 1) _ (by omega) (fun i hi => ?_) (fun i hi => ?_) (Fr.put hf rfl)
      · by_cases e : i = c
        · subst e; exact put_same
        · rw [put_i e]; exact h1 i (by omega)
      · rw [put_i (by omega)]; exact h2 i (by omega)
  exact loop1 (N 0) 0 h (by omega) (fun i hi => by omega) (fun i hi => rfl) Fr.rf
/-! the squares shown -/
def shp5 (h : HF) (n : Nat) (K : Nat → Nat) (D S W : Nat → Int32) : Prop := h 5 0 5 = nI n ∧ n ≤ 8 ∧ ∀ i, i < n → h 18 0 i = nI (K i) ∧ h 19 0 i = D i ∧ h 20 0 i = S i ∧ h 21 0 i = W i
def s5 : Nat → Nat → Bool := fun k _ => k == 5 || k == 18 || k == 19 || k == 20 || k == 21 || k == 22
def s22 : Nat → Nat → Bool := fun k _ => k == 22
set_option maxRecDepth 100000 in
set_option maxHeartbeats 4000000 in
theorem c_shownAdd {E : Ev} {a b n m : Nat} {h : HF} {K : Nat → Nat} {D S W : Nat → Int32} {d0 s0 w0 : Int32} (hs : shp5 h n K D S W) (hn : n < 8) : Ct E 0 yX5_add cX5_add 5 none [aR 5 0, aI (nI m), aI d0, aI s0, aI w0] 243 (Rs a b) h 243 (fun v R' h' => v = none ∧ R' = Rs a b ∧ shp5 h' (n + 1) (va_up K n m) (va_up D n d0) (va_up S n s0) (va_up W n w0) ∧ Fr s5 h h') := by
  refine Ct.of 0 (L0 := [some (aR 5 0), some (aI (nI m)), some (aI d0), some (aI s0), some (aI w0)]) (by decide) ⟨Nat.le_refl _, Nat.le_refl _⟩ rfl rfl ?_
  intro G C hg hrt hnm
  have hN : gn G ≤ 243 ∧ 243 ≤ 243 ∧ 243 ≤ 243 := ⟨by omega, by decide, by decide⟩
  refine r_aload_n C dX5_add_0 rfl ?_
  refine q_getV C flX5_27 dX5_add_1 ok5 rfl hs.1 ?_
  refine r_bipush (v := (nI 8)) C dX5_add_4 (by decide) ?_
  refine r_icmpN_ge C dX5_add_6 (by omega) (by omega) (fun cc => absurd cc (by omega)) (fun _ => ?_)
  refine r_aload_n C dX5_add_9 rfl ?_
  refine r_getR C flX5_9 dX5_add_10 ok5 rfl rfl ?_
  refine r_aload_n C dX5_add_13 rfl ?_
  refine q_getV C flX5_27 dX5_add_14 ok5 rfl hs.1 ?_
  refine r_iload_n C dX5_add_17 rfl ?_
  refine q_iast (m := 8) C dX5_add_18 ok18 rfl rfl (by omega) ?_
  refine r_aload_n C dX5_add_19 rfl ?_
  refine r_getR C flX5_15 dX5_add_20 ok5 rfl rfl ?_
  refine r_aload_n C dX5_add_23 rfl ?_
  refine q_getV C flX5_27 dX5_add_24 ok5 rfl hs.1 ?_
  refine r_iload_n C dX5_add_27 rfl ?_
  refine q_iast (m := 8) C dX5_add_28 ok19 rfl rfl (by omega) ?_
  refine r_aload_n C dX5_add_29 rfl ?_
  refine r_getR C flX5_18 dX5_add_30 ok5 rfl rfl ?_
  refine r_aload_n C dX5_add_33 rfl ?_
  refine q_getV C flX5_27 dX5_add_34 ok5 rfl hs.1 ?_
  refine r_iload_n C dX5_add_37 rfl ?_
  refine q_iast (m := 8) C dX5_add_38 ok20 rfl rfl (by omega) ?_
  refine r_aload_n C dX5_add_39 rfl ?_
  refine r_getR C flX5_21 dX5_add_40 ok5 rfl rfl ?_
  refine r_aload_n C dX5_add_43 rfl ?_
  refine q_getV C flX5_27 dX5_add_44 ok5 rfl hs.1 ?_
  refine r_iload C dX5_add_47 rfl ?_
  refine q_iast (m := 8) C dX5_add_49 ok21 rfl rfl (by omega) ?_
  refine r_aload_n C dX5_add_50 rfl ?_
  refine r_dup C dX5_add_51 rfl ?_
  refine q_getV C flX5_27 dX5_add_52 ok5 rfl hs.1 ?_
  refine r_iconst (v := (nI 1)) C dX5_add_55 (by decide) ?_
  first | refine r_iaddN C dX5_add_56 ?_ | refine r_iadd C dX5_add_56 ?_
  refine r_putI C flX5_27 dX5_add_57 ok5 rfl ⟨rfl, rfl⟩ ?_
  refine r_vret C hrt dX5_add_60 ?_
  refine ⟨rfl, rfl, ⟨put_same, by omega, fun i hi => ?_⟩, Fr.put (Fr.put (Fr.put (Fr.put (Fr.put Fr.rf rfl) rfl) rfl) rfl) rfl⟩
  by_cases e : i = n
  · subst e
    refine ⟨?_, ?_, ?_, ?_⟩
    · rw [va_up_self, put_k (by decide), put_k (by decide), put_k (by decide), put_k (by decide), put_same]
    · rw [va_up_self, put_k (by decide), put_k (by decide), put_k (by decide), put_same]
    · rw [va_up_self, put_k (by decide), put_k (by decide), put_same]
    · rw [va_up_self, put_k (by decide), put_same]
  · obtain ⟨g1, g2, g3, g4⟩ := hs.2.2 i (by omega)
    refine ⟨?_, ?_, ?_, ?_⟩
    · rw [va_up_ne _ _ e, put_k (by decide), put_k (by decide), put_k (by decide), put_k (by decide), put_i e]; exact g1
    · rw [va_up_ne _ _ e, put_k (by decide), put_k (by decide), put_k (by decide), put_i e, put_k (by decide)]; exact g2
    · rw [va_up_ne _ _ e, put_k (by decide), put_k (by decide), put_i e, put_k (by decide), put_k (by decide)]; exact g3
    · rw [va_up_ne _ _ e, put_k (by decide), put_i e, put_k (by decide), put_k (by decide), put_k (by decide)]; exact g4
set_option maxRecDepth 100000 in
set_option maxHeartbeats 4000000 in
theorem c_bearsStamp {E : Ev} {a b n i : Nat} {h : HF} {K : Nat → Nat} {D S W : Nat → Int32} (hs : shp5 h n K D S W) (hi : i < n) : Ct E 0 yX5_bearsStampOfDead cX5_bearsStampOfDead 2 (some .boolean) [aR 5 0, aI (nI i)] 243 (Rs a b) h 243 (fun v R' h' => v = some (aI (if S i ≤ D i then nI 0 else nI 1)) ∧ R' = Rs a b ∧ h' = h) := by
  refine Ct.of 0 (L0 := [some (aR 5 0), some (aI (nI i))]) (by decide) ⟨Nat.le_refl _, Nat.le_refl _⟩ rfl rfl ?_
  intro G C hg hrt hnm
  have hN : gn G ≤ 243 ∧ 243 ≤ 243 ∧ 243 ≤ 243 := ⟨by omega, by decide, by decide⟩
  obtain ⟨g1, g2, g3, g4⟩ := hs.2.2 i hi
  have hn := hs.2.1
  refine r_aload_n C dX5_bearsStampOfDead_0 rfl ?_
  refine r_getR C flX5_18 dX5_bearsStampOfDead_1 ok5 rfl rfl ?_
  refine r_iload_n C dX5_bearsStampOfDead_4 rfl ?_
  refine q_ialdV (m := 8) C dX5_bearsStampOfDead_5 ok20 rfl rfl (by omega) g3 ?_
  refine r_aload_n C dX5_bearsStampOfDead_6 rfl ?_
  refine r_getR C flX5_15 dX5_bearsStampOfDead_7 ok5 rfl rfl ?_
  refine r_iload_n C dX5_bearsStampOfDead_10 rfl ?_
  refine q_ialdV (m := 8) C dX5_bearsStampOfDead_11 ok19 rfl rfl (by omega) g2 ?_
  refine r_icmp_le C dX5_bearsStampOfDead_12 (fun c12 => ?_) (fun c12 => ?_)
  · refine r_iconst (v := (nI 0)) C dX5_bearsStampOfDead_19 (by decide) ?_
    refine r_zret C hrt dX5_bearsStampOfDead_20 (by decide) ?_
    rw [if_pos c12]
    exact ⟨rfl, rfl, rfl⟩
  · refine r_iconst (v := (nI 1)) C dX5_bearsStampOfDead_15 (by decide) ?_
    refine r_goto C dX5_bearsStampOfDead_16 ?_
    refine r_zret C hrt dX5_bearsStampOfDead_20 (by decide) ?_
    rw [if_neg c12]
    exact ⟨rfl, rfl, rfl⟩
def fgF (T : Tv) (K : Nat → Nat) (D S W : Nat → Int32) : Nat → Int32
  | 0 => nI 0
  | i + 1 => if S i ≤ D i ∧ T 3 (K i) ≤ W i then fgF T K D S W i else fgF T K D S W i ||| (nI 1 <<< (nI i &&& 31))
set_option maxRecDepth 100000 in
set_option maxHeartbeats 4000000 in
theorem c_forgedOnes {E : Ev} {a b t n : Nat} {h : HF} {N : Nat → Nat} {T : Tv} {K : Nat → Nat} {D S W : Nat → Int32} (hT : t < 2) (ht : twn h t N T) (hs : shp5 h n K D S W) (hK : ∀ i, i < n → K i < N 1) : Ct E 1 yX5_forgedOnes cX5_forgedOnes 4 (some .int) [aR 5 0, aR 8 t] 243 (Rs a b) h 243 (fun v R' h' => v = some (aI (fgF T K D S W n)) ∧ R' = Rs a b ∧ h' = h) := by
  refine Ct.of 2 (L0 := [some (aR 5 0), some (aR 8 t), none, none]) (by decide) ⟨Nat.le_refl _, Nat.le_refl _⟩ rfl rfl ?_
  intro G C hg hrt hnm
  have hN : gn G ≤ 243 ∧ 243 ≤ 243 ∧ 243 ≤ 243 := ⟨by omega, by decide, by decide⟩
  have hN1 := ht.2.2.2.2.2.2.2.2.2.2.1
  have hn := hs.2.1
  refine r_iconst (v := (nI 0)) C dX5_forgedOnes_0 (by decide) ?_
  refine r_istore_n C dX5_forgedOnes_1 st2 ?_
  refine r_iconst (v := (nI 0)) C dX5_forgedOnes_2 (by decide) ?_
  refine r_istore_n C dX5_forgedOnes_3 st3 ?_
  have loop : ∀ k i, i + k = n → Wa E G 243 (Rs a b) h (QQ E G 243 (fun v R' h' => v = some (aI (fgF T K D S W n)) ∧ R' = Rs a b ∧ h' = h)) 4 [some (aR 5 0), some (aR 8 t), some (aI (fgF T K D S W i)), some (aI (nI i))] [] := by
    intro k
    induction k with
    | zero =>
      intro i hi
      have e : i = n := by omega
      subst e
      refine r_iload_n C dX5_forgedOnes_4 rfl ?_
      refine r_aload_n C dX5_forgedOnes_5 rfl ?_
      refine q_getV C flX5_27 dX5_forgedOnes_6 ok5 rfl hs.1 ?_
      refine r_icmpN_ge C dX5_forgedOnes_9 (by omega) (by omega) (fun _ => ?_) (fun cc => absurd cc (by omega))
      refine r_iload_n C dX5_forgedOnes_52 rfl ?_
      refine r_iret C hrt dX5_forgedOnes_53 ?_
      exact ⟨rfl, rfl, rfl⟩
    | succ k ih =>
      intro i hi
      obtain ⟨g1, g2, g3, g4⟩ := hs.2.2 i (by omega)
      have hk := hK i (by omega)
      have ih2 := ih (i + 1) (by omega)
      rw [fgF] at ih2
      refine r_iload_n C dX5_forgedOnes_4 rfl ?_
      refine r_aload_n C dX5_forgedOnes_5 rfl ?_
      refine q_getV C flX5_27 dX5_forgedOnes_6 ok5 rfl hs.1 ?_
      refine r_icmpN_ge C dX5_forgedOnes_9 (by omega) (by omega) (fun cc => absurd cc (by omega)) (fun _ => ?_)
      refine r_aload_n C dX5_forgedOnes_12 rfl ?_
      refine r_iload_n C dX5_forgedOnes_13 rfl ?_
      refine r_callV C (c_bearsStamp hs (by omega)) dX5_forgedOnes_14 cw_X5_bearsStampOfDead cvX5_31 (by omega) ok5 rfl hN rfl (Nat.le_of_ble_eq_true rfl) ?_
      rintro v R' h1 ⟨rfl, rfl, rfl⟩
      by_cases hb : S i ≤ D i
      · rw [if_pos hb]
        refine r_if_ne C dX5_forgedOnes_17 (fun cc => absurd cc (by decide)) (fun _ => ?_)
        refine r_aload_n C dX5_forgedOnes_20 rfl ?_
        refine r_getR C flX5_21 dX5_forgedOnes_21 ok5 rfl rfl ?_
        refine r_iload_n C dX5_forgedOnes_24 rfl ?_
        refine q_ialdV (m := 8) C dX5_forgedOnes_25 ok21 rfl rfl (by omega) g4 ?_
        refine r_aload_n C dX5_forgedOnes_26 rfl ?_
        refine r_getR C flX5_35 dX5_forgedOnes_27 (Ok.full (by decide) hT) rfl rfl ?_
        refine r_aload_n C dX5_forgedOnes_30 rfl ?_
        refine r_getR C flX5_9 dX5_forgedOnes_31 ok5 rfl rfl ?_
        refine r_iload_n C dX5_forgedOnes_34 rfl ?_
        refine q_ialdV (m := 8) C dX5_forgedOnes_35 ok18 rfl rfl (by omega) g1 ?_
        refine q_ialdV (m := 4) C dX5_forgedOnes_36 (Ok.full (by decide) hT) rfl rfl (by omega) ((ht.2.2.2.2.2.2.1 (K i) hk).2) ?_
        refine r_icmp_ge C dX5_forgedOnes_37 (fun c37 => ?_) (fun c37 => ?_)
        · rw [if_pos ⟨hb, c37⟩] at ih2
          first | refine r_iincN C dX5_forgedOnes_46 rfl st3 ?_ | refine r_iinc C dX5_forgedOnes_46 rfl rfl st3 ?_
          refine r_goto C dX5_forgedOnes_49 ?_
          exact ih2
        · rw [if_neg (fun z => c37 z.2)] at ih2
          refine r_iload_n C dX5_forgedOnes_40 rfl ?_
          refine r_iconst (v := (nI 1)) C dX5_forgedOnes_41 (by decide) ?_
          refine r_iload_n C dX5_forgedOnes_42 rfl ?_
          refine r_ishl C dX5_forgedOnes_43 ?_
          refine r_ior C dX5_forgedOnes_44 ?_
          refine r_istore_n C dX5_forgedOnes_45 st2 ?_
          first | refine r_iincN C dX5_forgedOnes_46 rfl st3 ?_ | refine r_iinc C dX5_forgedOnes_46 rfl rfl st3 ?_
          refine r_goto C dX5_forgedOnes_49 ?_
          exact ih2
      · rw [if_neg hb]
        refine r_if_ne C dX5_forgedOnes_17 (fun _ => ?_) (fun cc => absurd cc (by decide))
        rw [if_neg (fun z => hb z.1)] at ih2
        refine r_iload_n C dX5_forgedOnes_40 rfl ?_
        refine r_iconst (v := (nI 1)) C dX5_forgedOnes_41 (by decide) ?_
        refine r_iload_n C dX5_forgedOnes_42 rfl ?_
        refine r_ishl C dX5_forgedOnes_43 ?_
        refine r_ior C dX5_forgedOnes_44 ?_
        refine r_istore_n C dX5_forgedOnes_45 st2 ?_
        first | refine r_iincN C dX5_forgedOnes_46 rfl st3 ?_ | refine r_iinc C dX5_forgedOnes_46 rfl rfl st3 ?_
        refine r_goto C dX5_forgedOnes_49 ?_
        exact ih2
  exact loop n 0 (by omega)
/-- how many of the first i are of kind m and not stamped behind -/
def wcF (K : Nat → Nat) (D S : Nat → Int32) (m : Nat) : Nat → Nat
  | 0 => 0
  | i + 1 => if S i ≤ D i ∧ K i = m then wcF K D S m i + 1 else wcF K D S m i
theorem wcF_le (K : Nat → Nat) (D S : Nat → Int32) (m : Nat) : ∀ i, wcF K D S m i ≤ i
  | 0 => Nat.le_refl _
  | i + 1 => by
    have := wcF_le K D S m i
    unfold wcF
    split <;> omega
/-- the first kind of which most are so; none: no kind -/
def wbV (c : Nat → Nat) : Option Nat → Nat
  | none => 0
  | some x => c x
def wbF (c : Nat → Nat) : Nat → Option Nat
  | 0 => none
  | m + 1 => if wbV c (wbF c m) < c m then some m else wbF c m
theorem nI_nem1 {x : Nat} (h : x < 2 ^ 31) : ¬ nI x = -1 := fun e => by
  have e2 := congrArg Int32.toInt e
  rw [nI_toInt h] at e2
  have e3 : (-1 : Int32).toInt = -1 := by decide
  rw [e3] at e2
  omega
theorem wbF_lt (c : Nat → Nat) : ∀ m x, wbF c m = some x → x < m
  | 0, x, h => by cases h
  | m + 1, x, h => by
    rw [wbF] at h
    by_cases z : wbV c (wbF c m) < c m
    · rw [if_pos z] at h
      cases h
      omega
    · rw [if_neg z] at h
      have := wbF_lt c m x h
      omega
def opI : Option Nat → Int32
  | none => -1
  | some x => nI x
set_option maxRecDepth 100000 in
set_option maxHeartbeats 4000000 in
theorem c_kindToWeigh {E : Ev} {a b t n : Nat} {h : HF} {N : Nat → Nat} {T : Tv} {K : Nat → Nat} {D S W : Nat → Int32} (hT : t < 2) (ht : twn h t N T) (hs : shp5 h n K D S W) (hK : ∀ i, i < n → K i < N 1) : Ct E 1 yX5_kindToWeigh cX5_kindToWeigh 4 (some .int) [aR 5 0, aR 8 t] 243 (Rs a b) h 243 (fun v R' h' => v = some (aI (opI (wbF (fun m => wcF K D S m n) (N 1)))) ∧ R' = Rs a b ∧ Fr s22 h h') := by
  refine Ct.of 2 (L0 := [some (aR 5 0), some (aR 8 t), none, none]) (by decide) ⟨Nat.le_refl _, Nat.le_refl _⟩ rfl rfl ?_
  intro G C hg hrt hnm
  have hN : gn G ≤ 243 ∧ 243 ≤ 243 ∧ 243 ≤ 243 := ⟨by omega, by decide, by decide⟩
  have hN1 := ht.2.2.2.2.2.2.2.2.2.2.1
  have hn := hs.2.1
  have t22 : ∀ k, (k = 8 ∨ (28 ≤ k ∧ k ≤ 35)) → s22 k t = false := fun k hk => by simp [s22]; omega
  have sfr : ∀ hh, Fr s22 h hh → shp5 hh n K D S W := fun hh f => by
    unfold shp5
    rw [f 5 0 rfl, f 18 0 rfl, f 19 0 rfl, f 20 0 rfl, f 21 0 rfl]
    exact hs
  have loop3 : ∀ k m hh, m + k = N 1 → (∀ i, i < 4 → hh 22 0 i = nI (wcF K D S i n)) → Fr s22 h hh →
      Wa E G 243 (Rs a b) hh (QQ E G 243 (fun v R' h' => v = some (aI (opI (wbF (fun m => wcF K D S m n) (N 1)))) ∧ R' = Rs a b ∧ Fr s22 h h')) 63 [some (aR 5 0), some (aR 8 t), some (aI (opI (wbF (fun m => wcF K D S m n) m))), some (aI (nI m))] [] := by
    intro k
    induction k with
    | zero =>
      intro m hh hm hw hf
      have e : m = N 1 := by omega
      subst e
      refine r_iload_n C dX5_kindToWeigh_63 rfl ?_
      refine r_aload_n C dX5_kindToWeigh_64 rfl ?_
      refine q_getV C flX5_40 dX5_kindToWeigh_65 (Ok.full (by decide) hT) rfl (ht.fr hf t22).2.1 ?_
      refine r_icmpN_ge C dX5_kindToWeigh_68 (by omega) (by omega) (fun _ => ?_) (fun cc => absurd cc (by omega))
      refine r_iload_n C dX5_kindToWeigh_103 rfl ?_
      refine r_iret C hrt dX5_kindToWeigh_104 ?_
      exact ⟨rfl, rfl, hf⟩
    | succ k ih =>
      intro m hh hm hw hf
      have ih2 := ih (m + 1) hh (by omega) hw hf
      rw [wbF] at ih2
      have hle := wcF_le K D S m n
      refine r_iload_n C dX5_kindToWeigh_63 rfl ?_
      refine r_aload_n C dX5_kindToWeigh_64 rfl ?_
      refine q_getV C flX5_40 dX5_kindToWeigh_65 (Ok.full (by decide) hT) rfl (ht.fr hf t22).2.1 ?_
      refine r_icmpN_ge C dX5_kindToWeigh_68 (by omega) (by omega) (fun cc => absurd cc (by omega)) (fun _ => ?_)
      refine r_aload_n C dX5_kindToWeigh_71 rfl ?_
      refine r_getR C flX5_24 dX5_kindToWeigh_72 ok5 rfl rfl ?_
      refine r_iload_n C dX5_kindToWeigh_75 rfl ?_
      refine q_ialdV (m := 4) C dX5_kindToWeigh_76 ok22 rfl rfl (by omega) (hw m (by omega)) ?_
      have tail : ∀ v, v ≤ 8 → v = wbV (fun m => wcF K D S m n) (wbF (fun m => wcF K D S m n) m) → Wa E G 243 (Rs a b) hh (QQ E G 243 (fun v R' h' => v = some (aI (opI (wbF (fun m => wcF K D S m n) (N 1)))) ∧ R' = Rs a b ∧ Fr s22 h h')) 92 [some (aR 5 0), some (aR 8 t), some (aI (opI (wbF (fun m => wcF K D S m n) m))), some (aI (nI m))] [aI (nI v), aI (nI (wcF K D S m n))] := by
        intro v hv8 hv
        refine r_icmpN_le C dX5_kindToWeigh_92 (by omega) (by omega) (fun c92 => ?_) (fun c92 => ?_)
        · rw [if_neg (by rw [← hv]; show ¬ (v < wcF K D S m n); omega)] at ih2
          first | refine r_iincN C dX5_kindToWeigh_97 rfl st3 ?_ | refine r_iinc C dX5_kindToWeigh_97 rfl rfl st3 ?_
          refine r_goto C dX5_kindToWeigh_100 ?_
          exact ih2
        · rw [if_pos (by rw [← hv]; exact c92)] at ih2
          refine r_iload_n C dX5_kindToWeigh_95 rfl ?_
          refine r_istore_n C dX5_kindToWeigh_96 st2 ?_
          first | refine r_iincN C dX5_kindToWeigh_97 rfl st3 ?_ | refine r_iinc C dX5_kindToWeigh_97 rfl rfl st3 ?_
          refine r_goto C dX5_kindToWeigh_100 ?_
          exact ih2
      cases hx : wbF (fun m => wcF K D S m n) m with
      | none =>
        rw [hx] at tail
        refine r_iload_n C dX5_kindToWeigh_77 rfl ?_
        refine r_iconst (v := (-1)) C dX5_kindToWeigh_78 (by decide) ?_
        refine r_icmp_ne C dX5_kindToWeigh_79 (fun cc => absurd cc (by exact fun z => z rfl)) (fun _ => ?_)
        refine r_iconst (v := (nI 0)) C dX5_kindToWeigh_82 (by decide) ?_
        refine r_goto C dX5_kindToWeigh_83 ?_
        exact tail 0 (by omega) rfl
      | some x =>
        rw [hx] at tail
        have hlt := wbF_lt _ m x hx
        have hlx := wcF_le K D S x n
        refine r_iload_n C dX5_kindToWeigh_77 rfl ?_
        refine r_iconst (v := (-1)) C dX5_kindToWeigh_78 (by decide) ?_
        refine r_icmp_ne C dX5_kindToWeigh_79 (fun _ => ?_) (fun cc => absurd cc (by exact fun z => nI_nem1 (by omega) (show nI x = -1 from z)))
        show Wa E G 243 (Rs a b) hh _ 86 [some (aR 5 0), some (aR 8 t), some (aI (nI x)), some (aI (nI m))] _
        refine r_aload_n C dX5_kindToWeigh_86 rfl ?_
        refine r_getR C flX5_24 dX5_kindToWeigh_87 ok5 rfl rfl ?_
        refine r_iload_n C dX5_kindToWeigh_90 rfl ?_
        refine q_ialdV (m := 4) C dX5_kindToWeigh_91 ok22 rfl rfl (by omega) (hw x (by omega)) ?_
        exact tail (wcF K D S x n) (by omega) rfl
  have loop2 : ∀ k i hh, i + k = n → (∀ m, m < 4 → hh 22 0 m = nI (wcF K D S m i)) → Fr s22 h hh →
      Wa E G 243 (Rs a b) hh (QQ E G 243 (fun v R' h' => v = some (aI (opI (wbF (fun m => wcF K D S m n) (N 1)))) ∧ R' = Rs a b ∧ Fr s22 h h')) 22 [some (aR 5 0), some (aR 8 t), some (aI (nI i)), none] [] := by
    intro k
    induction k with
    | zero =>
      intro i hh hi hw hf
      have e : i = n := by omega
      subst e
      refine r_iload_n C dX5_kindToWeigh_22 rfl ?_
      refine r_aload_n C dX5_kindToWeigh_23 rfl ?_
      refine q_getV C flX5_27 dX5_kindToWeigh_24 ok5 rfl (sfr hh hf).1 ?_
      refine r_icmpN_ge C dX5_kindToWeigh_27 (by omega) (by omega) (fun _ => ?_) (fun cc => absurd cc (by omega))
      refine r_iconst (v := (-1)) C dX5_kindToWeigh_59 (by decide) ?_
      refine r_istore_n C dX5_kindToWeigh_60 st2 ?_
      refine r_iconst (v := (nI 0)) C dX5_kindToWeigh_61 (by decide) ?_
      refine r_istore_n C dX5_kindToWeigh_62 st3 ?_
      exact loop3 (N 1) 0 hh (by omega) hw hf
    | succ k ih =>
      intro i hh hi hw hf
      have hs2 := sfr hh hf
      obtain ⟨g1, g2, g3, g4⟩ := hs2.2.2 i (by omega)
      have hk := hK i (by omega)
      refine r_iload_n C dX5_kindToWeigh_22 rfl ?_
      refine r_aload_n C dX5_kindToWeigh_23 rfl ?_
      refine q_getV C flX5_27 dX5_kindToWeigh_24 ok5 rfl hs2.1 ?_
      refine r_icmpN_ge C dX5_kindToWeigh_27 (by omega) (by omega) (fun cc => absurd cc (by omega)) (fun _ => ?_)
      refine r_aload_n C dX5_kindToWeigh_30 rfl ?_
      refine r_iload_n C dX5_kindToWeigh_31 rfl ?_
      refine r_callV C (c_bearsStamp hs2 (by omega)) dX5_kindToWeigh_32 cw_X5_bearsStampOfDead cvX5_31 (by omega) ok5 rfl hN rfl (Nat.le_of_ble_eq_true rfl) ?_
      rintro v R' h1 ⟨rfl, rfl, rfl⟩
      by_cases hb : S i ≤ D i
      · rw [if_pos hb]
        refine r_if_ne C dX5_kindToWeigh_35 (fun cc => absurd cc (by decide)) (fun _ => ?_)
        refine r_aload_n C dX5_kindToWeigh_38 rfl ?_
        refine r_getR C flX5_24 dX5_kindToWeigh_39 ok5 rfl rfl ?_
        refine r_aload_n C dX5_kindToWeigh_42 rfl ?_
        refine r_getR C flX5_9 dX5_kindToWeigh_43 ok5 rfl rfl ?_
        refine r_iload_n C dX5_kindToWeigh_46 rfl ?_
        refine q_ialdV (m := 8) C dX5_kindToWeigh_47 ok18 rfl rfl (by omega) g1 ?_
        refine r_dup2 C dX5_kindToWeigh_48 rfl rfl ?_
        refine q_ialdV (m := 4) C dX5_kindToWeigh_49 ok22 rfl rfl (by omega) (hw (K i) (by omega)) ?_
        refine r_iconst (v := (nI 1)) C dX5_kindToWeigh_50 (by decide) ?_
        first | refine r_iaddN C dX5_kindToWeigh_51 ?_ | refine r_iadd C dX5_kindToWeigh_51 ?_
        refine q_iast (m := 4) C dX5_kindToWeigh_52 ok22 rfl rfl (by omega) ?_
        first | refine r_iincN C dX5_kindToWeigh_53 rfl st2 ?_ | refine r_iinc C dX5_kindToWeigh_53 rfl rfl st2 ?_
        refine r_goto C dX5_kindToWeigh_56 ?_
        refine ih (i + 1) _ (by omega) (fun m hm => ?_) (Fr.put hf rfl)
        rw [wcF]
        by_cases e : m = K i
        · subst e
          rw [put_same, if_pos ⟨hb, rfl⟩]
        · rw [put_i e, if_neg (fun z => e z.2.symm)]
          exact hw m hm
      · rw [if_neg hb]
        refine r_if_ne C dX5_kindToWeigh_35 (fun _ => ?_) (fun cc => absurd cc (by decide))
        first | refine r_iincN C dX5_kindToWeigh_53 rfl st2 ?_ | refine r_iinc C dX5_kindToWeigh_53 rfl rfl st2 ?_
        refine r_goto C dX5_kindToWeigh_56 ?_
        refine ih (i + 1) _ (by omega) (fun m hm => ?_) hf
        rw [wcF, if_neg (fun z => hb z.1)]
        exact hw m hm
  refine r_iconst (v := (nI 0)) C dX5_kindToWeigh_0 (by decide) ?_
  refine r_istore_n C dX5_kindToWeigh_1 st2 ?_
  have loop1 : ∀ k m hh, m + k = 4 → (∀ i, i < m → hh 22 0 i = nI 0) → Fr s22 h hh →
      Wa E G 243 (Rs a b) hh (QQ E G 243 (fun v R' h' => v = some (aI (opI (wbF (fun m => wcF K D S m n) (N 1)))) ∧ R' = Rs a b ∧ Fr s22 h h')) 2 [some (aR 5 0), some (aR 8 t), some (aI (nI m)), none] [] := by
    intro k
    induction k with
    | zero =>
      intro m hh hm hw hf
      refine r_iload_n C dX5_kindToWeigh_2 rfl ?_
      refine r_iconst (v := (nI 4)) C dX5_kindToWeigh_3 (by decide) ?_
      refine r_icmpN_ge C dX5_kindToWeigh_4 (by omega) (by omega) (fun _ => ?_) (fun cc => absurd cc (by omega))
      refine r_iconst (v := (nI 0)) C dX5_kindToWeigh_20 (by decide) ?_
      refine r_istore_n C dX5_kindToWeigh_21 st2 ?_
      exact loop2 n 0 hh (by omega) (fun i hi => hw i (by omega)) hf
    | succ k ih =>
      intro m hh hm hw hf
      refine r_iload_n C dX5_kindToWeigh_2 rfl ?_
      refine r_iconst (v := (nI 4)) C dX5_kindToWeigh_3 (by decide) ?_
      refine r_icmpN_ge C dX5_kindToWeigh_4 (by omega) (by omega) (fun cc => absurd cc (by omega)) (fun _ => ?_)
      refine r_aload_n C dX5_kindToWeigh_7 rfl ?_
      refine r_getR C flX5_24 dX5_kindToWeigh_8 ok5 rfl rfl ?_
      refine r_iload_n C dX5_kindToWeigh_11 rfl ?_
      refine r_iconst (v := (nI 0)) C dX5_kindToWeigh_12 (by decide) ?_
      refine q_iast (m := 4) C dX5_kindToWeigh_13 ok22 rfl rfl (by omega) ?_
      first | refine r_iincN C dX5_kindToWeigh_14 rfl st2 ?_ | refine r_iinc C dX5_kindToWeigh_14 rfl rfl st2 ?_
      refine r_goto C dX5_kindToWeigh_17 ?_
      refine ih (m + 1) _ (by omega) (fun i hi => ?_) (Fr.put hf rfl)
      by_cases e : i = m
      · subst e; exact put_same
      · rw [put_i e]; exact hw i (by omega)
  exact loop1 4 0 h rfl (fun i hi => by omega) Fr.rf
/-! the book, the text -/
def bkp (h : HF) (n : Nat) (K : Nat → Nat) (M : Nat → Int32) : Prop := h 0 0 2 = nI n ∧ n ≤ 15 ∧ ∀ i, i < n → h 12 0 i = nI (K i) ∧ h 13 0 i = M i
def s0 : Nat → Nat → Bool := fun k _ => k == 0 || k == 12 || k == 13
def bwF (s : Sv) (K : Nat → Nat) (M : Nat → Int32) : Nat → Nat → Int32
  | 0, _ => -1
  | k + 1, i => if s (5 + K i) = M i then bwF s K M k (i + 1) else nI i
set_option maxRecDepth 100000 in
set_option maxHeartbeats 4000000 in
theorem c_bookAdd {E : Ev} {a b n c : Nat} {h : HF} {K : Nat → Nat} {M : Nat → Int32} {m0 : Int32} (hs : bkp h n K M) (hn : n < 15) : Ct E 0 yX0_add cX0_add 3 none [aR 0 0, aI (nI c), aI m0] 243 (Rs a b) h 243 (fun v R' h' => v = none ∧ R' = Rs a b ∧ bkp h' (n + 1) (va_up K n c) (va_up M n m0) ∧ Fr s0 h h') := by
  refine Ct.of 0 (L0 := [some (aR 0 0), some (aI (nI c)), some (aI m0)]) (by decide) ⟨Nat.le_refl _, Nat.le_refl _⟩ rfl rfl ?_
  intro G C hg hrt hnm
  have hN : gn G ≤ 243 ∧ 243 ≤ 243 ∧ 243 ≤ 243 := ⟨by omega, by decide, by decide⟩
  refine r_aload_n C dX0_add_0 rfl ?_
  refine q_getV C flX0_18 dX0_add_1 ok0 rfl hs.1 ?_
  refine r_bipush (v := (nI 15)) C dX0_add_4 (by decide) ?_
  refine r_icmpN_ge C dX0_add_6 (by omega) (by omega) (fun cc => absurd cc (by omega)) (fun _ => ?_)
  refine r_aload_n C dX0_add_9 rfl ?_
  refine r_getR C flX0_9 dX0_add_10 ok0 rfl rfl ?_
  refine r_aload_n C dX0_add_13 rfl ?_
  refine q_getV C flX0_18 dX0_add_14 ok0 rfl hs.1 ?_
  refine r_iload_n C dX0_add_17 rfl ?_
  refine q_iast (m := 15) C dX0_add_18 ok12 rfl rfl (by omega) ?_
  refine r_aload_n C dX0_add_19 rfl ?_
  refine r_getR C flX0_15 dX0_add_20 ok0 rfl rfl ?_
  refine r_aload_n C dX0_add_23 rfl ?_
  refine q_getV C flX0_18 dX0_add_24 ok0 rfl hs.1 ?_
  refine r_iload_n C dX0_add_27 rfl ?_
  refine q_iast (m := 15) C dX0_add_28 ok13 rfl rfl (by omega) ?_
  refine r_aload_n C dX0_add_29 rfl ?_
  refine r_dup C dX0_add_30 rfl ?_
  refine q_getV C flX0_18 dX0_add_31 ok0 rfl hs.1 ?_
  refine r_iconst (v := (nI 1)) C dX0_add_34 (by decide) ?_
  first | refine r_iaddN C dX0_add_35 ?_ | refine r_iadd C dX0_add_35 ?_
  refine r_putI C flX0_18 dX0_add_36 ok0 rfl ⟨rfl, rfl⟩ ?_
  refine r_vret C hrt dX0_add_39 ?_
  refine ⟨rfl, rfl, ⟨put_same, by omega, fun i hi => ?_⟩, Fr.put (Fr.put (Fr.put Fr.rf rfl) rfl) rfl⟩
  by_cases e : i = n
  · subst e
    refine ⟨?_, ?_⟩
    · rw [va_up_self, put_k (by decide), put_k (by decide), put_same]
    · rw [va_up_self, put_k (by decide), put_same]
  · obtain ⟨g1, g2⟩ := hs.2.2 i (by omega)
    refine ⟨?_, ?_⟩
    · rw [va_up_ne _ _ e, put_k (by decide), put_k (by decide), put_i e]; exact g1
    · rw [va_up_ne _ _ e, put_k (by decide), put_i e, put_k (by decide)]; exact g2
set_option maxRecDepth 100000 in
set_option maxHeartbeats 4000000 in
theorem c_firstWrong {E : Ev} {a b j n : Nat} {h : HF} {s : Sv} {K : Nat → Nat} {M : Nat → Int32} (hC : j < 29) (hc : cmp h j s) (hs : bkp h n K M) (hK : ∀ i, i < n → K i < 5) : Ct E 0 yX0_firstWrong cX0_firstWrong 3 (some .int) [aR 0 0, aR 1 j] 243 (Rs a b) h 243 (fun v R' h' => v = some (aI (bwF s K M n 0)) ∧ R' = Rs a b ∧ h' = h) := by
  refine Ct.of 1 (L0 := [some (aR 0 0), some (aR 1 j), none]) (by decide) ⟨Nat.le_refl _, Nat.le_refl _⟩ rfl rfl ?_
  intro G C hg hrt hnm
  have hN : gn G ≤ 243 ∧ 243 ≤ 243 ∧ 243 ≤ 243 := ⟨by omega, by decide, by decide⟩
  have hn := hs.2.1
  refine r_iconst (v := (nI 0)) C dX0_firstWrong_0 (by decide) ?_
  refine r_istore_n C dX0_firstWrong_1 st2 ?_
  have loop : ∀ k i, i + k = n → bwF s K M k i = bwF s K M n 0 → Wa E G 243 (Rs a b) h (QQ E G 243 (fun v R' h' => v = some (aI (bwF s K M n 0)) ∧ R' = Rs a b ∧ h' = h)) 2 [some (aR 0 0), some (aR 1 j), some (aI (nI i))] [] := by
    intro k
    induction k with
    | zero =>
      intro i hi he
      refine r_iload_n C dX0_firstWrong_2 rfl ?_
      refine r_aload_n C dX0_firstWrong_3 rfl ?_
      refine q_getV C flX0_18 dX0_firstWrong_4 ok0 rfl hs.1 ?_
      refine r_icmpN_ge C dX0_firstWrong_7 (by omega) (by omega) (fun _ => ?_) (fun cc => absurd cc (by omega))
      refine r_iconst (v := (-1)) C dX0_firstWrong_38 (by decide) ?_
      refine r_iret C hrt dX0_firstWrong_39 ?_
      rw [← he]
      exact ⟨rfl, rfl, rfl⟩
    | succ k ih =>
      intro i hi he
      obtain ⟨g1, g2⟩ := hs.2.2 i (by omega)
      have hk := hK i (by omega)
      rw [bwF] at he
      refine r_iload_n C dX0_firstWrong_2 rfl ?_
      refine r_aload_n C dX0_firstWrong_3 rfl ?_
      refine q_getV C flX0_18 dX0_firstWrong_4 ok0 rfl hs.1 ?_
      refine r_icmpN_ge C dX0_firstWrong_7 (by omega) (by omega) (fun cc => absurd cc (by omega)) (fun _ => ?_)
      refine r_aload_n C dX0_firstWrong_10 rfl ?_
      refine r_getR C flX0_22 dX0_firstWrong_11 (Ok.full (by decide) hC) rfl rfl ?_
      refine r_aload_n C dX0_firstWrong_14 rfl ?_
      refine r_getR C flX0_9 dX0_firstWrong_15 ok0 rfl rfl ?_
      refine r_iload_n C dX0_firstWrong_18 rfl ?_
      refine q_ialdV (m := 15) C dX0_firstWrong_19 ok12 rfl rfl (by omega) g1 ?_
      refine q_ialdV (m := 5) C dX0_firstWrong_20 (Ok.full (by decide) hC) rfl rfl (by omega) (hc.2.2.1 (K i) hk) ?_
      refine r_aload_n C dX0_firstWrong_21 rfl ?_
      refine r_getR C flX0_15 dX0_firstWrong_22 ok0 rfl rfl ?_
      refine r_iload_n C dX0_firstWrong_25 rfl ?_
      refine q_ialdV (m := 15) C dX0_firstWrong_26 ok13 rfl rfl (by omega) g2 ?_
      refine r_icmp_eq C dX0_firstWrong_27 (fun c27 => ?_) (fun c27 => ?_)
      · rw [if_pos c27] at he
        first | refine r_iincN C dX0_firstWrong_32 rfl st2 ?_ | refine r_iinc C dX0_firstWrong_32 rfl rfl st2 ?_
        refine r_goto C dX0_firstWrong_35 ?_
        exact ih (i + 1) (by omega) he
      · rw [if_neg c27] at he
        refine r_iload_n C dX0_firstWrong_30 rfl ?_
        refine r_iret C hrt dX0_firstWrong_31 ?_
        rw [← he]
        exact ⟨rfl, rfl, rfl⟩
  exact loop n 0 (by omega) rfl
def txp (h : HF) (n : Nat) (X : Nat → Int32) : Prop := h 7 0 1 = nI n ∧ n ≤ 240 ∧ ∀ i, i < n → h 26 0 i = X i
def s7 : Nat → Nat → Bool := fun k _ => k == 7 || k == 26
set_option maxRecDepth 100000 in
set_option maxHeartbeats 4000000 in
theorem c_append {E : Ev} {a b n : Nat} {h : HF} {X : Nat → Int32} {x : Int32} (hs : txp h n X) (hn : n < 240) : Ct E 0 yX7_append cX7_append 2 none [aR 7 0, aI x] 243 (Rs a b) h 243 (fun v R' h' => v = none ∧ R' = Rs a b ∧ txp h' (n + 1) (va_up X n x) ∧ Fr s7 h h') := by
  refine Ct.of 0 (L0 := [some (aR 7 0), some (aI x)]) (by decide) ⟨Nat.le_refl _, Nat.le_refl _⟩ rfl rfl ?_
  intro G C hg hrt hnm
  have hN : gn G ≤ 243 ∧ 243 ≤ 243 ∧ 243 ≤ 243 := ⟨by omega, by decide, by decide⟩
  refine r_aload_n C dX7_append_0 rfl ?_
  refine q_getV C flX7_15 dX7_append_1 ok7 rfl hs.1 ?_
  refine r_sipush (v := (nI 240)) C dX7_append_4 (by decide) ?_
  refine r_icmpN_ge C dX7_append_7 (by omega) (by omega) (fun cc => absurd cc (by omega)) (fun _ => ?_)
  refine r_aload_n C dX7_append_10 rfl ?_
  refine r_getR C flX7_9 dX7_append_11 ok7 rfl rfl ?_
  refine r_aload_n C dX7_append_14 rfl ?_
  refine q_getV C flX7_15 dX7_append_15 ok7 rfl hs.1 ?_
  refine r_iload_n C dX7_append_18 rfl ?_
  refine q_iast (m := 240) C dX7_append_19 ok26 rfl rfl (by omega) ?_
  refine r_aload_n C dX7_append_20 rfl ?_
  refine r_dup C dX7_append_21 rfl ?_
  refine q_getV C flX7_15 dX7_append_22 ok7 rfl hs.1 ?_
  refine r_iconst (v := (nI 1)) C dX7_append_25 (by decide) ?_
  first | refine r_iaddN C dX7_append_26 ?_ | refine r_iadd C dX7_append_26 ?_
  refine r_putI C flX7_15 dX7_append_27 ok7 rfl ⟨rfl, rfl⟩ ?_
  refine r_vret C hrt dX7_append_30 ?_
  refine ⟨rfl, rfl, ⟨put_same, by omega, fun i hi => ?_⟩, Fr.put (Fr.put Fr.rf rfl) rfl⟩
  by_cases e : i = n
  · subst e
    rw [va_up_self, put_k (by decide), put_same]
  · rw [va_up_ne _ _ e, put_k (by decide), put_i e]
    exact hs.2.2 i (by omega)
