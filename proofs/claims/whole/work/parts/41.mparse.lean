/-! THE MODEL READS A TEXT -/
def ltF (X : Nat → Int32) (n p : Nat) : Int32 := if p < n then X p else -1
def XV (X : Nat → Int32) (n : Nat) : Prop := ∀ i, i < n → 0 ≤ (X i).toInt ∧ (X i).toInt ≤ 255
theorem lt_m1 {X : Nat → Int32} {n p : Nat} (hX : XV X n) : ltF X n p = -1 ↔ ¬ p < n := by
  unfold ltF
  split
  · next z =>
    refine ⟨fun e => ?_, fun e => absurd z e⟩
    have h1 := (hX p z).1
    rw [e] at h1
    exact absurd h1 (by decide)
  · next z => exact ⟨fun _ => z, fun _ => rfl⟩
theorem lt_eq {X : Nat → Int32} {n p : Nat} {x : Int32} (hx : x ≠ -1) : ltF X n p = x ↔ (p < n ∧ X p = x) := by
  unfold ltF
  split
  · next z => exact ⟨fun e => ⟨z, e⟩, fun e => e.2⟩
  · next z => exact ⟨fun e => absurd e.symm hx, fun e => absurd e.1 z⟩
theorem lt_in {X : Nat → Int32} {n p : Nat} (h : p < n) : ltF X n p = X p := if_pos h
set_option maxRecDepth 100000 in
set_option maxHeartbeats 4000000 in
theorem m_letterAt {E : Ev} {a b n p : Nat} {h : HF} {X : Nat → Int32} (hx : mtx h n X) (hp : p < 2 ^ 31) : Ct E 0 yX11_letterAt cX11_letterAt 2 (some .int) [aR 11 0, aI (nI p)] 243 (Rs a b) h 243 (qst a b h (ltF X n p)) := by
  refine Ct.of 0 (L0 := [some (aR 11 0), some (aI (nI p))]) (by decide) ⟨Nat.le_refl _, Nat.le_refl _⟩ rfl rfl ?_
  intro G C hg hrt hnm
  have hN : gn G ≤ 243 ∧ 243 ≤ 243 ∧ 243 ≤ 243 := ⟨by omega, by decide, by decide⟩
  have hn := hx.2.1
  refine r_iload_n C dX11_letterAt_0 rfl ?_
  refine r_aload_n C dX11_letterAt_1 rfl ?_
  refine q_getV C flX11_100 dX11_letterAt_2 ok11 rfl hx.1 ?_
  refine r_icmpN_ge C dX11_letterAt_5 (by omega) (by omega) (fun c5 => ?_) (fun c5 => ?_)
  · refine r_iconst (v := (-1)) C dX11_letterAt_17 (by decide) ?_
    refine r_iret C hrt dX11_letterAt_18 ?_
    rw [ltF, if_neg (by omega)]
    exact ⟨rfl, rfl, rfl⟩
  · refine r_aload_n C dX11_letterAt_8 rfl ?_
    refine r_getR C flX11_38 dX11_letterAt_9 ok11 rfl rfl ?_
    refine r_iload_n C dX11_letterAt_12 rfl ?_
    refine q_ialdV (m := 240) C dX11_letterAt_13 ok48 rfl rfl (by omega) (hx.2.2 p c5) ?_
    refine r_goto C dX11_letterAt_14 ?_
    refine r_iret C hrt dX11_letterAt_18 ?_
    rw [ltF, if_pos c5]
    exact ⟨rfl, rfl, rfl⟩
def sHr : Nat → Nat → Bool := fun k i => k == 11 && (i == 17 || i == 18)
def sNo : Nat → Nat → Bool := fun k i => k == 11 && (i == 17 || i == 18 || i == 19)
def sRm : Nat → Nat → Bool := fun k i => (k == 11 && (decide (17 ≤ i) && decide (i ≤ 31))) || (decide (49 ≤ k) && decide (k ≤ 53))
def sRo : Nat → Nat → Bool := fun k i => (k == 11 && (decide (17 ≤ i) && decide (i ≤ 31) && !(i == 20) && !(i == 21))) || (decide (49 ≤ k) && decide (k ≤ 53))
theorem sHr_sNo : ∀ k i, sHr k i = true → sNo k i = true := by
  intro k i z
  simp only [sHr, sNo, Bool.or_eq_true, Bool.and_eq_true, beq_iff_eq] at z ⊢
  omega
theorem sNo_sRo : ∀ k i, sNo k i = true → sRo k i = true := by
  intro k i z
  simp only [sRo, sNo, Bool.or_eq_true, Bool.and_eq_true, beq_iff_eq, decide_eq_true_eq, Bool.not_eq_true', beq_eq_false_iff_ne] at z ⊢
  omega
theorem sRo_sRm : ∀ k i, sRo k i = true → sRm k i = true := by
  intro k i z
  simp only [sRo, sRm, Bool.or_eq_true, Bool.and_eq_true, beq_iff_eq, decide_eq_true_eq, Bool.not_eq_true', beq_eq_false_iff_ne] at z ⊢
  omega
theorem sNo_sRm : ∀ k i, sNo k i = true → sRm k i = true := fun k i z => sRo_sRm k i (sNo_sRo k i z)
theorem sRm_sXm : ∀ k i, sRm k i = true → sXm k i = true := by
  intro k i z
  simp only [sRm, sXm, Bool.or_eq_true, Bool.and_eq_true, beq_iff_eq, decide_eq_true_eq] at z ⊢
  omega
theorem mtx.rm {h h' : HF} {n : Nat} {X : Nat → Int32} (f : Fs sRm h h') (c : mtx h n X) : mtx h' n X := c.fs f rfl (fun _ => rfl)
theorem skF_idem {X : Nat → Int32} : ∀ r p, skF X (p + r - skF X r p) (skF X r p) = skF X r p
  | 0, p => by
    have : p + 0 - skF X 0 p = 0 := by rw [skF]; omega
    rw [this]; rfl
  | r + 1, p => by
    rw [skF]
    split
    · next z =>
      have := skF_idem (X := X) r (p + 1)
      rw [show p + 1 + r = p + (r + 1) by omega] at this
      exact this
    · next z =>
      rw [show p + (r + 1) - p = r + 1 by omega, skF, if_neg z]
theorem skN_idem {X : Nat → Int32} {n p : Nat} (h : p ≤ n) : skN X n (skN X n p) = skN X n p := by
  have := skF_idem (X := X) (n - p) p
  rw [show p + (n - p) = n by omega] at this
  exact this
set_option maxRecDepth 100000 in
set_option maxHeartbeats 4000000 in
theorem m_here {E : Ev} {a b n p : Nat} {h : HF} {X : Nat → Int32} (hx : mtx h n X) (ha : h 11 0 17 = nI p) (hp : p ≤ n) : Ct E 1 yX11_here cX11_here 1 (some .int) [aR 11 0] 243 (Rs a b) h 243 (fun v R' h' => v = some (aI (ltF X n (skN X n p))) ∧ R' = Rs a b ∧ h' 11 0 17 = nI (skN X n p) ∧ h' 11 0 18 = nI (skN X n p) ∧ Fs sHr h h') := by
  refine Ct.of 0 (L0 := [some (aR 11 0)]) (by decide) ⟨Nat.le_refl _, Nat.le_refl _⟩ rfl rfl ?_
  intro G C hg hrt hnm
  have hN : gn G ≤ 243 ∧ 243 ≤ 243 ∧ 243 ≤ 243 := ⟨by omega, by decide, by decide⟩
  have hn := hx.2.1
  have done : ∀ q hh, hh 11 0 17 = nI q → q ≤ n → q = skN X n p → Fs sHr h hh → Wa E G 243 (Rs a b) hh (QQ E G 243 (fun v R' h' => v = some (aI (ltF X n (skN X n p))) ∧ R' = Rs a b ∧ h' 11 0 17 = nI (skN X n p) ∧ h' 11 0 18 = nI (skN X n p) ∧ Fs sHr h h')) 26 [some (aR 11 0)] [] := by
    intro q hh g1 g2 g3 g4
    refine r_aload_n C dX11_here_26 rfl ?_
    refine r_aload_n C dX11_here_27 rfl ?_
    refine q_getV C flX11_104 dX11_here_28 ok11 rfl g1 ?_
    refine r_putI C flX11_111 dX11_here_31 ok11 rfl ⟨rfl, rfl⟩ ?_
    refine r_aload_n C dX11_here_34 rfl ?_
    refine r_aload_n C dX11_here_35 rfl ?_
    refine q_getV C flX11_104 dX11_here_36 ok11 rfl (show _ = nI q by rw [put_i (by decide)]; exact g1) ?_
    have f5 : Fs sHr h (put hh 11 0 18 (nI q)) := g4.put rfl
    refine r_callV C (m_letterAt (hx.fs f5 rfl (fun _ => rfl)) (by omega)) dX11_here_39 cw_X11_letterAt cvX11_107 (by omega) ok11 rfl hN rfl (Nat.le_of_ble_eq_true rfl) ?_
    rintro v R' h2 ⟨rfl, rfl, rfl⟩
    refine r_iret C hrt dX11_here_42 ?_
    rw [← g3]
    exact ⟨rfl, rfl, by rw [put_i (by decide)]; exact g1, put_same, f5⟩
  have loop : ∀ k q hh, q + k = n → hh 11 0 17 = nI q → skF X k q = skN X n p → Fs sHr h hh → Wa E G 243 (Rs a b) hh (QQ E G 243 (fun v R' h' => v = some (aI (ltF X n (skN X n p))) ∧ R' = Rs a b ∧ h' 11 0 17 = nI (skN X n p) ∧ h' 11 0 18 = nI (skN X n p) ∧ Fs sHr h h')) 0 [some (aR 11 0)] [] := by
    intro k
    induction k with
    | zero =>
      intro q hh hq g1 he hf
      refine r_aload_n C dX11_here_0 rfl ?_
      refine r_aload_n C dX11_here_1 rfl ?_
      refine q_getV C flX11_104 dX11_here_2 ok11 rfl g1 ?_
      refine r_callV C (m_letterAt (hx.fs hf rfl (fun _ => rfl)) (by omega)) dX11_here_5 cw_X11_letterAt cvX11_107 (by omega) ok11 rfl hN rfl (Nat.le_of_ble_eq_true rfl) ?_
      rintro v R' h1 ⟨rfl, rfl, rfl⟩
      rw [show ltF X n q = -1 from if_neg (by omega)]
      refine r_bipush (v := (nI 32)) C dX11_here_8 (by decide) ?_
      refine r_icmp_ne C dX11_here_10 (fun _ => ?_) (fun cc => absurd cc (by decide))
      exact done q h1 g1 (by omega) he hf
    | succ k ih =>
      intro q hh hq g1 he hf
      rw [skF] at he
      refine r_aload_n C dX11_here_0 rfl ?_
      refine r_aload_n C dX11_here_1 rfl ?_
      refine q_getV C flX11_104 dX11_here_2 ok11 rfl g1 ?_
      refine r_callV C (m_letterAt (hx.fs hf rfl (fun _ => rfl)) (by omega)) dX11_here_5 cw_X11_letterAt cvX11_107 (by omega) ok11 rfl hN rfl (Nat.le_of_ble_eq_true rfl) ?_
      rintro v R' h1 ⟨rfl, rfl, rfl⟩
      rw [lt_in (p := q) (show q < n by omega)]
      refine r_bipush (v := (nI 32)) C dX11_here_8 (by decide) ?_
      refine r_icmp_ne C dX11_here_10 (fun c10 => ?_) (fun c10 => ?_)
      · rw [if_neg c10] at he
        exact done q h1 g1 (by omega) he hf
      · rw [if_pos c10] at he
        refine r_aload_n C dX11_here_13 rfl ?_
        refine r_dup C dX11_here_14 rfl ?_
        refine q_getV C flX11_104 dX11_here_15 ok11 rfl g1 ?_
        refine r_iconst (v := (nI 1)) C dX11_here_18 (by decide) ?_
        first | refine r_iaddN C dX11_here_19 ?_ | refine r_iadd C dX11_here_19 ?_
        refine r_putI C flX11_104 dX11_here_20 ok11 rfl ⟨rfl, rfl⟩ ?_
        refine r_goto C dX11_here_23 ?_
        exact ih (q + 1) _ (by omega) put_same he (hf.put rfl)
  exact loop (n - p) p h (by omega) ha rfl Fs.rf
set_option maxRecDepth 100000 in
set_option maxHeartbeats 4000000 in
theorem m_fails {E : Ev} {a b : Nat} {h : HF} {x y : Int32} : Ct E 0 yX11_fails cX11_fails 3 (some .boolean) [aR 11 0, aI x, aI y] 243 (Rs a b) h 243 (fun v R' h' => v = some (aI (nI 0)) ∧ R' = Rs a b ∧ h' = put (put h 11 0 20 x) 11 0 21 y) := by
  refine Ct.of 0 (L0 := [some (aR 11 0), some (aI x), some (aI y)]) (by decide) ⟨Nat.le_refl _, Nat.le_refl _⟩ rfl rfl ?_
  intro G C hg hrt hnm
  have hN : gn G ≤ 243 ∧ 243 ≤ 243 ∧ 243 ≤ 243 := ⟨by omega, by decide, by decide⟩
  refine r_aload_n C dX11_fails_0 rfl ?_
  refine r_iload_n C dX11_fails_1 rfl ?_
  refine r_putI C flX11_114 dX11_fails_2 ok11 rfl ⟨rfl, rfl⟩ ?_
  refine r_aload_n C dX11_fails_5 rfl ?_
  refine r_iload_n C dX11_fails_6 rfl ?_
  refine r_putI C flX11_41 dX11_fails_7 ok11 rfl ⟨rfl, rfl⟩ ?_
  refine r_iconst (v := (nI 0)) C dX11_fails_10 (by decide) ?_
  refine r_zret C hrt dX11_fails_11 (by decide) ?_
  exact ⟨rfl, rfl, rfl⟩
def tkP (a b : Nat) (h : HF) (r : Nat × Int32 × Nat × Nat) : Option AV → RF → HF → Prop := fun v R' h' => R' = Rs a b ∧ (r.2.2.1 = 0 → v = some (aI (nI 1)) ∧ h' 11 0 17 = nI r.1 ∧ h' 11 0 19 = r.2.1 ∧ Fs sNo h h') ∧ (r.2.2.1 ≠ 0 → v = some (aI (nI 0)) ∧ h' 11 0 20 = nI r.2.2.1 ∧ h' 11 0 21 = nI r.2.2.2 ∧ Fs sRm h h')
theorem tk_ok {a b : Nat} {h h' : HF} {p : Nat} {x : Int32} {f : Nat} (h1 : h' 11 0 17 = nI p) (h2 : h' 11 0 19 = x) (h3 : Fs sNo h h') : tkP a b h (p, x, 0, f) (some (aI (nI 1))) (Rs a b) h' := ⟨rfl, fun _ => ⟨rfl, h1, h2, h3⟩, fun z => absurd rfl z⟩
theorem tk_no {a b : Nat} {h h' : HF} {p ft pl : Nat} {x : Int32} (hft : ft ≠ 0) (h1 : h' 11 0 20 = nI ft) (h2 : h' 11 0 21 = nI pl) (h3 : Fs sRm h h') : tkP a b h (p, x, ft, pl) (some (aI (nI 0))) (Rs a b) h' := ⟨rfl, fun z => absurd z hft, fun _ => ⟨rfl, h1, h2, h3⟩⟩
set_option maxRecDepth 100000 in
set_option maxHeartbeats 4000000 in
theorem m_takesNumber {E : Ev} {a b n p : Nat} {h : HF} {X : Nat → Int32} {lo hi : Int32} (hx : mtx h n X) (ha : h 11 0 17 = nI p) (hp : p ≤ n) : Ct E 2 yX11_takesNumber cX11_takesNumber 3 (some .boolean) [aR 11 0, aI lo, aI hi] 243 (Rs a b) h 243 (tkP a b h (rdn X n p lo hi)) := by
  refine Ct.of 0 (L0 := [some (aR 11 0), some (aI lo), some (aI hi)]) (by decide) ⟨Nat.le_refl _, Nat.le_refl _⟩ rfl rfl ?_
  intro G C hg hrt hnm
  have hN : gn G ≤ 243 ∧ 243 ≤ 243 ∧ 243 ≤ 243 := ⟨by omega, by decide, by decide⟩
  have hn := hx.2.1
  have hsk := skN_b (X := X) hp
  refine r_aload_n C dX11_takesNumber_0 rfl ?_
  refine r_callV C (m_here hx ha hp) dX11_takesNumber_1 cw_X11_here cvX11_117 (by omega) ok11 rfl hN rfl (Nat.le_of_ble_eq_true rfl) ?_
  rintro v R' h1 ⟨rfl, rfl, a1, a2, f1⟩
  refine r_i2l C dX11_takesNumber_4 ?_
  refine r_ldc2 C dX11_takesNumber_5 klX11_125 ?_
  refine r_ldc2 C dX11_takesNumber_8 klX11_127 ?_
  refine r_callS C m_in dX11_takesNumber_11 cw_X11_in csX11_85 (by omega) rfl hN rfl (Nat.le_of_ble_eq_true rfl) ?_
  rintro v R' h2 ⟨rfl, rfl, rfl⟩
  rw [in64 (lo := nI 48) (hi := nI 57) (by decide) (by decide)]
  by_cases hfig : nI 48 ≤ ltF X n (skN X n p) ∧ ltF X n (skN X n p) ≤ nI 57
  · rw [if_pos hfig]
    have hlt : skN X n p < n := by
      by_cases z : skN X n p < n
      · exact z
      · rw [ltF, if_neg z] at hfig
        exact absurd hfig (by decide)
    rw [lt_in hlt] at hfig
    refine r_if_ne C dX11_takesNumber_14 (fun _ => ?_) (fun cc => absurd cc (by decide))
    refine r_aload_n C dX11_takesNumber_27 rfl ?_
    refine r_iconst (v := (nI 0)) C dX11_takesNumber_28 (by decide) ?_
    refine r_putI C flX11_129 dX11_takesNumber_29 ok11 rfl ⟨rfl, rfl⟩ ?_
    have tail : ∀ q v hh, hh 11 0 17 = nI q → hh 11 0 18 = nI (skN X n p) → hh 11 0 19 = v → skN X n p < q → q ≤ n → nmF X (skN X n p) (n - skN X n p) (skN X n p) (nI 0) = (q, v) → Fs sNo h hh → Wa E G 243 (Rs a b) hh (QQ E G 243 (tkP a b h (rdn X n p lo hi))) 109 [some (aR 11 0), some (aI lo), some (aI hi)] [] := by
      intro q v hh g1 g2 g3 g4 g5 g6 g7
      have bad : ¬ (q - skN X n p ≤ 3 ∧ lo ≤ v ∧ v ≤ hi) → Wa E G 243 (Rs a b) hh (QQ E G 243 (tkP a b h (rdn X n p lo hi))) 137 [some (aR 11 0), some (aI lo), some (aI hi)] [] := by
        intro hb
        have er : rdn X n p lo hi = (q, v, 2, skN X n p) := by
          rw [rdn, g6, if_neg (by show ¬ q = skN X n p; omega), if_neg hb]
        rw [er]
        refine r_aload_n C dX11_takesNumber_137 rfl ?_
        refine r_iconst (v := (nI 2)) C dX11_takesNumber_138 (by decide) ?_
        refine r_aload_n C dX11_takesNumber_139 rfl ?_
        refine q_getV C flX11_111 dX11_takesNumber_140 ok11 rfl g2 ?_
        refine r_callV C m_fails dX11_takesNumber_143 cw_X11_fails cvX11_121 (by omega) ok11 rfl hN rfl (Nat.le_of_ble_eq_true rfl) ?_
        rintro v R' h3 ⟨rfl, rfl, rfl⟩
        refine r_if_eq C dX11_takesNumber_146 (fun _ => ?_) (fun cc => absurd cc (by exact fun z => z rfl))
        refine r_iconst (v := (nI 0)) C dX11_takesNumber_153 (by decide) ?_
        refine r_zret C hrt dX11_takesNumber_154 (by decide) ?_
        exact tk_no (by decide) (by rw [put_i (by decide)]; exact put_same) put_same (((g7.wk sNo_sRm).put rfl).put rfl)
      refine r_aload_n C dX11_takesNumber_109 rfl ?_
      refine q_getV C flX11_104 dX11_takesNumber_110 ok11 rfl g1 ?_
      refine r_aload_n C dX11_takesNumber_113 rfl ?_
      refine q_getV C flX11_111 dX11_takesNumber_114 ok11 rfl g2 ?_
      refine r_isubN C dX11_takesNumber_117 (by omega) ?_
      refine r_iconst (v := (nI 4)) C dX11_takesNumber_118 (by decide) ?_
      refine r_icmpN_ge C dX11_takesNumber_119 (by omega) (by omega) (fun c119 => ?_) (fun c119 => ?_)
      · exact bad (fun z => by omega)
      · refine r_aload_n C dX11_takesNumber_122 rfl ?_
        refine q_getV C flX11_129 dX11_takesNumber_123 ok11 rfl g3 ?_
        refine r_i2l C dX11_takesNumber_126 ?_
        refine r_iload_n C dX11_takesNumber_127 rfl ?_
        refine r_i2l C dX11_takesNumber_128 ?_
        refine r_iload_n C dX11_takesNumber_129 rfl ?_
        refine r_i2l C dX11_takesNumber_130 ?_
        refine r_callS C m_in dX11_takesNumber_131 cw_X11_in csX11_85 (by omega) rfl hN rfl (Nat.le_of_ble_eq_true rfl) ?_
        rintro v R' h3 ⟨rfl, rfl, rfl⟩
        rw [in64 (lo := lo) (hi := hi) rfl rfl]
        by_cases hin : lo ≤ v ∧ v ≤ hi
        · rw [if_pos hin]
          have er : rdn X n p lo hi = (q, v, 0, 0) := by
            rw [rdn, g6, if_neg (by show ¬ q = skN X n p; omega), if_pos ⟨by show q - skN X n p ≤ 3; omega, hin⟩]
          rw [er]
          refine r_if_ne C dX11_takesNumber_134 (fun _ => ?_) (fun cc => absurd cc (by decide))
          refine r_iconst (v := (nI 1)) C dX11_takesNumber_149 (by decide) ?_
          refine r_goto C dX11_takesNumber_150 ?_
          refine r_zret C hrt dX11_takesNumber_154 (by decide) ?_
          exact tk_ok g1 g3 g7
        · rw [if_neg hin]
          refine r_if_ne C dX11_takesNumber_134 (fun cc => absurd cc (by exact fun z => z rfl)) (fun _ => ?_)
          exact bad (fun z => hin z.2)
    have loop : ∀ r q v hh, q + r = n → skN X n p ≤ q → hh 11 0 17 = nI q → hh 11 0 18 = nI (skN X n p) → hh 11 0 19 = v → nmF X (skN X n p) r q v = nmF X (skN X n p) (n - skN X n p) (skN X n p) (nI 0) → (q = skN X n p → nI 48 ≤ ltF X n q ∧ ltF X n q ≤ nI 57) → Fs sNo h hh → Wa E G 243 (Rs a b) hh (QQ E G 243 (tkP a b h (rdn X n p lo hi))) 32 [some (aR 11 0), some (aI lo), some (aI hi)] [] := by
      intro r
      induction r with
      | zero =>
        intro q v hh hq g0 g1 g2 g3 g4 g5 g6
        have hqs : skN X n p < q := by omega
        refine r_aload_n C dX11_takesNumber_32 rfl ?_
        refine r_aload_n C dX11_takesNumber_33 rfl ?_
        refine q_getV C flX11_104 dX11_takesNumber_34 ok11 rfl g1 ?_
        refine r_callV C (m_letterAt (hx.rm (g6.wk sNo_sRm)) (by omega)) dX11_takesNumber_37 cw_X11_letterAt cvX11_107 (by omega) ok11 rfl hN rfl (Nat.le_of_ble_eq_true rfl) ?_
        rintro v R' h3 ⟨rfl, rfl, rfl⟩
        rw [ltF, if_neg (by omega)]
        refine r_i2l C dX11_takesNumber_40 ?_
        refine r_ldc2 C dX11_takesNumber_41 klX11_125 ?_
        refine r_ldc2 C dX11_takesNumber_44 klX11_127 ?_
        refine r_callS C m_in dX11_takesNumber_47 cw_X11_in csX11_85 (by omega) rfl hN rfl (Nat.le_of_ble_eq_true rfl) ?_
        rintro v R' h4 ⟨rfl, rfl, rfl⟩
        rw [in64 (lo := nI 48) (hi := nI 57) (by decide) (by decide), if_neg (by decide)]
        refine r_if_eq C dX11_takesNumber_50 (fun _ => ?_) (fun cc => absurd cc (by exact fun z => z rfl))
        exact tail q v h4 g1 g2 g3 hqs (by omega) g4.symm g6
      | succ r ih =>
        intro q v hh hq g0 g1 g2 g3 g4 g5 g6
        rw [nmF] at g4
        refine r_aload_n C dX11_takesNumber_32 rfl ?_
        refine r_aload_n C dX11_takesNumber_33 rfl ?_
        refine q_getV C flX11_104 dX11_takesNumber_34 ok11 rfl g1 ?_
        refine r_callV C (m_letterAt (hx.rm (g6.wk sNo_sRm)) (by omega)) dX11_takesNumber_37 cw_X11_letterAt cvX11_107 (by omega) ok11 rfl hN rfl (Nat.le_of_ble_eq_true rfl) ?_
        rintro v R' h3 ⟨rfl, rfl, rfl⟩
        rw [lt_in (by omega)]
        rw [lt_in (show q < n by omega)] at g5
        refine r_i2l C dX11_takesNumber_40 ?_
        refine r_ldc2 C dX11_takesNumber_41 klX11_125 ?_
        refine r_ldc2 C dX11_takesNumber_44 klX11_127 ?_
        refine r_callS C m_in dX11_takesNumber_47 cw_X11_in csX11_85 (by omega) rfl hN rfl (Nat.le_of_ble_eq_true rfl) ?_
        rintro v R' h4 ⟨rfl, rfl, rfl⟩
        rw [in64 (lo := nI 48) (hi := nI 57) (by decide) (by decide)]
        by_cases hf : nI 48 ≤ X q ∧ X q ≤ nI 57
        · rw [if_pos hf]
          rw [if_pos hf] at g4
          refine r_if_eq C dX11_takesNumber_50 (fun cc => absurd cc (by decide)) (fun _ => ?_)
          refine r_aload_n C dX11_takesNumber_53 rfl ?_
          refine r_aload_n C dX11_takesNumber_54 rfl ?_
          refine q_getV C flX11_104 dX11_takesNumber_55 ok11 rfl g1 ?_
          refine r_aload_n C dX11_takesNumber_58 rfl ?_
          refine q_getV C flX11_111 dX11_takesNumber_59 ok11 rfl g2 ?_
          refine r_isubN C dX11_takesNumber_62 (by omega) ?_
          refine r_iconst (v := (nI 3)) C dX11_takesNumber_63 (by decide) ?_
          have nxt : ∀ y, y = (if q - skN X n p < 3 then v * nI 10 + X q - nI 48 else v) → Wa E G 243 (Rs a b) h4 (QQ E G 243 (tkP a b h (rdn X n p lo hi))) 93 [some (aR 11 0), some (aI lo), some (aI hi)] [aI y, aR 11 0] := by
            intro y hy
            rw [← hy] at g4
            refine r_putI C flX11_129 dX11_takesNumber_93 ok11 rfl ⟨rfl, rfl⟩ ?_
            refine r_aload_n C dX11_takesNumber_96 rfl ?_
            refine r_dup C dX11_takesNumber_97 rfl ?_
            refine q_getV C flX11_104 dX11_takesNumber_98 ok11 rfl (show _ = nI q by rw [put_i (by decide)]; exact g1) ?_
            refine r_iconst (v := (nI 1)) C dX11_takesNumber_101 (by decide) ?_
            first | refine r_iaddN C dX11_takesNumber_102 ?_ | refine r_iadd C dX11_takesNumber_102 ?_
            refine r_putI C flX11_104 dX11_takesNumber_103 ok11 rfl ⟨rfl, rfl⟩ ?_
            refine r_goto C dX11_takesNumber_106 ?_
            refine ih (q + 1) y _ (by omega) (by omega) put_same ?_ ?_ g4 (fun z => by omega) ((g6.put rfl).put rfl)
            · rw [put_i (by decide), put_i (by decide)]; exact g2
            · rw [put_i (by decide)]; exact put_same
          refine r_icmpN_ge C dX11_takesNumber_64 (by omega) (by omega) (fun c64 => ?_) (fun c64 => ?_)
          · refine r_aload_n C dX11_takesNumber_89 rfl ?_
            refine q_getV C flX11_129 dX11_takesNumber_90 ok11 rfl g3 ?_
            exact nxt _ (by rw [if_neg (by omega)])
          · refine r_bipush (v := (nI 10)) C dX11_takesNumber_67 (by decide) ?_
            refine r_aload_n C dX11_takesNumber_69 rfl ?_
            refine q_getV C flX11_129 dX11_takesNumber_70 ok11 rfl g3 ?_
            refine r_imul C dX11_takesNumber_73 ?_
            refine r_aload_n C dX11_takesNumber_74 rfl ?_
            refine r_aload_n C dX11_takesNumber_75 rfl ?_
            refine q_getV C flX11_104 dX11_takesNumber_76 ok11 rfl g1 ?_
            refine r_callV C (m_letterAt (hx.rm (g6.wk sNo_sRm)) (by omega)) dX11_takesNumber_79 cw_X11_letterAt cvX11_107 (by omega) ok11 rfl hN rfl (Nat.le_of_ble_eq_true rfl) ?_
            rintro v R' h5 ⟨rfl, rfl, rfl⟩
            rw [lt_in (by omega)]
            refine r_iadd C dX11_takesNumber_82 ?_
            refine r_bipush (v := (nI 48)) C dX11_takesNumber_83 (by decide) ?_
            refine r_isub C dX11_takesNumber_85 ?_
            refine r_goto C dX11_takesNumber_86 ?_
            exact nxt _ (by rw [if_pos c64, Int32.mul_comm])
        · rw [if_neg hf]
          rw [if_neg hf] at g4
          have hqs : skN X n p < q := by
            by_cases z : q = skN X n p
            · exact absurd (g5 z) hf
            · omega
          refine r_if_eq C dX11_takesNumber_50 (fun _ => ?_) (fun cc => absurd cc (by exact fun z => z rfl))
          exact tail q v h4 g1 g2 g3 hqs (by omega) g4.symm g6
    refine loop (n - skN X n p) (skN X n p) (nI 0) _ (by omega) (Nat.le_refl _) ?_ ?_ put_same rfl (fun _ => by rw [lt_in hlt]; exact hfig) ((f1.wk sHr_sNo).put rfl)
    · rw [put_i (by decide)]; exact a1
    · rw [put_i (by decide)]; exact a2
  · rw [if_neg hfig]
    have e1 : nmF X (skN X n p) (n - skN X n p) (skN X n p) (nI 0) = (skN X n p, nI 0) := by
      by_cases z : skN X n p < n
      · rw [lt_in z] at hfig
        rw [show n - skN X n p = (n - skN X n p - 1) + 1 by omega, nmF, if_neg hfig]
      · rw [show n - skN X n p = 0 by omega, nmF]
    have er : rdn X n p lo hi = (skN X n p, nI 0, 1, skN X n p) := by rw [rdn, e1, if_pos rfl]
    rw [er]
    refine r_if_ne C dX11_takesNumber_14 (fun cc => absurd cc (by exact fun z => z rfl)) (fun _ => ?_)
    refine r_aload_n C dX11_takesNumber_17 rfl ?_
    refine r_iconst (v := (nI 1)) C dX11_takesNumber_18 (by decide) ?_
    refine r_aload_n C dX11_takesNumber_19 rfl ?_
    refine q_getV C flX11_111 dX11_takesNumber_20 ok11 rfl a2 ?_
    refine r_callV C m_fails dX11_takesNumber_23 cw_X11_fails cvX11_121 (by omega) ok11 rfl hN rfl (Nat.le_of_ble_eq_true rfl) ?_
    rintro v R' h3 ⟨rfl, rfl, rfl⟩
    refine r_zret C hrt dX11_takesNumber_26 (by decide) ?_
    exact tk_no (by decide) (by rw [put_i (by decide)]; exact put_same) put_same ((((f1.wk sHr_sNo).wk sNo_sRm).put rfl).put rfl)
set_option maxRecDepth 100000 in
set_option maxHeartbeats 4000000 in
theorem m_takes {E : Ev} {a b n p : Nat} {h : HF} {X : Nat → Int32} (hx : mtx h n X) (ha : h 11 0 17 = nI p) (hp : p ≤ n) : Ct E 2 yX11_takes cX11_takes 2 (some .boolean) [aR 11 0, aI (nI 59)] 243 (Rs a b) h 243 (fun v R' h' => R' = Rs a b ∧ ((skN X n p < n ∧ X (skN X n p) = nI 59) → v = some (aI (nI 1)) ∧ h' 11 0 17 = nI (skN X n p + 1) ∧ Fs sNo h h') ∧ (¬ (skN X n p < n ∧ X (skN X n p) = nI 59) → v = some (aI (nI 0)) ∧ h' 11 0 20 = nI 1 ∧ h' 11 0 21 = nI (skN X n p) ∧ Fs sRm h h')) := by
  refine Ct.of 0 (L0 := [some (aR 11 0), some (aI (nI 59))]) (by decide) ⟨Nat.le_refl _, Nat.le_refl _⟩ rfl rfl ?_
  intro G C hg hrt hnm
  have hN : gn G ≤ 243 ∧ 243 ≤ 243 ∧ 243 ≤ 243 := ⟨by omega, by decide, by decide⟩
  refine r_aload_n C dX11_takes_0 rfl ?_
  refine r_callV C (m_here hx ha hp) dX11_takes_1 cw_X11_here cvX11_117 (by omega) ok11 rfl hN rfl (Nat.le_of_ble_eq_true rfl) ?_
  rintro v R' h1 ⟨rfl, rfl, a1, a2, f1⟩
  refine r_iload_n C dX11_takes_4 rfl ?_
  have hiff := lt_eq (X := X) (n := n) (p := skN X n p) (x := nI 59) (by decide)
  refine r_icmp_eq C dX11_takes_5 (fun c5 => ?_) (fun c5 => ?_)
  · refine r_aload_n C dX11_takes_18 rfl ?_
    refine r_dup C dX11_takes_19 rfl ?_
    refine q_getV C flX11_104 dX11_takes_20 ok11 rfl a1 ?_
    refine r_iconst (v := (nI 1)) C dX11_takes_23 (by decide) ?_
    first | refine r_iaddN C dX11_takes_24 ?_ | refine r_iadd C dX11_takes_24 ?_
    refine r_putI C flX11_104 dX11_takes_25 ok11 rfl ⟨rfl, rfl⟩ ?_
    refine r_iconst (v := (nI 1)) C dX11_takes_28 (by decide) ?_
    refine r_zret C hrt dX11_takes_29 (by decide) ?_
    exact ⟨rfl, fun _ => ⟨rfl, put_same, (f1.wk sHr_sNo).put rfl⟩, fun z => absurd (hiff.mp c5) z⟩
  · refine r_aload_n C dX11_takes_8 rfl ?_
    refine r_iconst (v := (nI 1)) C dX11_takes_9 (by decide) ?_
    refine r_aload_n C dX11_takes_10 rfl ?_
    refine q_getV C flX11_111 dX11_takes_11 ok11 rfl a2 ?_
    refine r_callV C m_fails dX11_takes_14 cw_X11_fails cvX11_121 (by omega) ok11 rfl hN rfl (Nat.le_of_ble_eq_true rfl) ?_
    rintro v R' h3 ⟨rfl, rfl, rfl⟩
    refine r_zret C hrt dX11_takes_17 (by decide) ?_
    exact ⟨rfl, fun z => absurd (hiff.mpr z) c5, fun _ => ⟨rfl, by rw [put_i (by decide)]; exact put_same, put_same, ((f1.wk (fun k i z => sNo_sRm k i (sHr_sNo k i z))).put rfl).put rfl⟩⟩
