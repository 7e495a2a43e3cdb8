/-! A NEW TOWN -/
theorem clsF_ft {X : Nat → Int32} {n p : Nat} {N : Nat → Nat} {T : Tv} (hp : p < n) : (clsF X n p N T).2.2.2.1 < 4 := by
  have hfb := ffF_b (X := X) (cl := ccF (X p)) (show p + 1 ≤ n by omega) (nosF (ccF (X p))) 0
  unfold clsF
  split
  · exact (show (1 : Nat) < 4 by decide)
  · split
    · exact (show (3 : Nat) < 4 by decide)
    · split
      · show (ffF X n (ccF (X p)) (p + 1) (nosF (ccF (X p))) 0).1 < 4
        omega
      · split
        · exact (show (0 : Nat) < 4 by decide)
        · exact (show (1 : Nat) < 4 by decide)
theorem prF_ft {X : Nat → Int32} {n : Nat} : ∀ f p N T, (prF X n f p N T).2.2.1 < 4
  | 0, _, _, _ => (show (0 : Nat) < 4 by decide)
  | f + 1, p, N, T => by
    rw [prF]
    split
    · next c =>
      split
      · exact prF_ft f _ _ _
      · exact clsF_ft c
    · exact (show (0 : Nat) < 4 by decide)
theorem parseF_ft (X : Nat → Int32) (n : Nat) : (parseF X n).2.2.1 < 4 := prF_ft _ _ _ _
def sBg : Nat → Nat → Bool := fun k j => sS 0 k j || k == 3 || k == 5 || k == 0 || k == 2
theorem sS_sBg : ∀ k j, sS 0 k j = true → sBg k j = true := fun k j z => by simp [sBg, z]
set_option maxRecDepth 100000 in
set_option maxHeartbeats 4000000 in
theorem c_beginSiege {E : Ev} {a b : Nat} {h : HF} {N : Nat → Nat} {T : Tv} (hT : a < 2) (ht : twf h a N T) : Ct E 2 yX10_beginSiege cX10_beginSiege 2 none [aR 10 0] 243 (Rs a b) h 243 (fun v R' h' => v = none ∧ R' = Rs a b ∧ sgp h' 0 (bgF N T) ∧ h' 3 0 1 = h 3 0 1 ∧ h' 3 0 2 = nI 0 ∧ h' 5 0 5 = nI 0 ∧ h' 0 0 2 = nI 0 ∧ (∀ i, i < 2 → h' 2 i 2 = nI 0) ∧ Fr sBg h h') := by
  refine Ct.of 1 (L0 := [some (aR 10 0), none]) (by decide) ⟨Nat.le_refl _, Nat.le_refl _⟩ rfl rfl ?_
  intro G C hg hrt hnm
  have hN : gn G ≤ 243 ∧ 243 ≤ 243 ∧ 243 ≤ 243 := ⟨by omega, by decide, by decide⟩
  have hS : 0 < 23 := by decide
  refine r_aload_n C dX10_beginSiege_0 rfl ?_
  refine r_getR C flX10_36 dX10_beginSiege_1 ok10 rfl rfl ?_
  refine r_aload_n C dX10_beginSiege_4 rfl ?_
  refine r_getR C flX10_26 dX10_beginSiege_5 ok10 rfl rfl ?_
  refine r_callV C (c_siegeBegin hS hT ht.1 ht.2) dX10_beginSiege_8 cw_X6_begin cvX10_111 (by omega) (Ok.full (by decide) hS) rfl hN rfl (Nat.le_of_ble_eq_true rfl) ?_
  rintro v R' h1 ⟨rfl, rfl, hs1, f1⟩
  refine r_aload_n C dX10_beginSiege_11 rfl ?_
  refine r_getR C flX10_43 dX10_beginSiege_12 ok10 rfl rfl ?_
  refine r_callV C c_logClear dX10_beginSiege_15 cw_X3_clear cvX10_115 (by omega) ok3 rfl hN rfl (Nat.le_of_ble_eq_true rfl) ?_
  rintro v R' h2 ⟨rfl, rfl, rfl⟩
  refine r_aload_n C dX10_beginSiege_18 rfl ?_
  refine r_getR C flX10_63 dX10_beginSiege_19 ok10 rfl rfl ?_
  refine r_iconst (v := (nI 0)) C dX10_beginSiege_22 (by decide) ?_
  refine r_putI C flX10_118 dX10_beginSiege_23 ok5 rfl ⟨rfl, rfl⟩ ?_
  refine r_aload_n C dX10_beginSiege_26 rfl ?_
  refine r_getR C flX10_70 dX10_beginSiege_27 ok10 rfl rfl ?_
  refine r_iconst (v := (nI 0)) C dX10_beginSiege_30 (by decide) ?_
  refine r_putI C flX10_121 dX10_beginSiege_31 ok0 rfl ⟨rfl, rfl⟩ ?_
  refine r_iconst (v := (nI 0)) C dX10_beginSiege_34 (by decide) ?_
  refine r_istore_n C dX10_beginSiege_35 st1 ?_
  have loop : ∀ k c hh, c + k = 2 → sgp hh 0 (bgF N T) → hh 3 0 1 = h 3 0 1 → hh 3 0 2 = nI 0 → hh 5 0 5 = nI 0 → hh 0 0 2 = nI 0 → (∀ i, i < c → hh 2 i 2 = nI 0) → Fr sBg h hh →
      Wa E G 243 (Rs a b) hh (QQ E G 243 (fun v R' h' => v = none ∧ R' = Rs a b ∧ sgp h' 0 (bgF N T) ∧ h' 3 0 1 = h 3 0 1 ∧ h' 3 0 2 = nI 0 ∧ h' 5 0 5 = nI 0 ∧ h' 0 0 2 = nI 0 ∧ (∀ i, i < 2 → h' 2 i 2 = nI 0) ∧ Fr sBg h h')) 36 [some (aR 10 0), some (aI (nI c))] [] := by
    intro k
    induction k with
    | zero =>
      intro c hh hk g1 g2 g3 g4 g5 g6 hf
      refine r_iload_n C dX10_beginSiege_36 rfl ?_
      refine r_iconst (v := (nI 2)) C dX10_beginSiege_37 (by decide) ?_
      refine r_icmpN_ge C dX10_beginSiege_38 (by omega) (by omega) (fun _ => ?_) (fun cc => absurd cc (by omega))
      refine r_vret C hrt dX10_beginSiege_57 ?_
      exact ⟨rfl, rfl, g1, g2, g3, g4, g5, fun i hi => g6 i (by omega), hf⟩
    | succ k ih =>
      intro c hh hk g1 g2 g3 g4 g5 g6 hf
      have hI : c < 2 := by omega
      refine r_iload_n C dX10_beginSiege_36 rfl ?_
      refine r_iconst (v := (nI 2)) C dX10_beginSiege_37 (by decide) ?_
      refine r_icmpN_ge C dX10_beginSiege_38 (by omega) (by omega) (fun cc => absurd cc (by omega)) (fun _ => ?_)
      refine r_aload_n C dX10_beginSiege_41 rfl ?_
      refine r_getR C flX10_49 dX10_beginSiege_42 ok10 rfl rfl ?_
      refine r_iload_n C dX10_beginSiege_45 rfl ?_
      refine q_aald (m := 2) (t := 2) C dX10_beginSiege_46 ok38 rfl (by decide) rfl (by omega) rfl ?_
      refine r_iconst (v := (nI 0)) C dX10_beginSiege_47 (by decide) ?_
      refine r_putI C flX10_122 dX10_beginSiege_48 (Ok.full (by decide) hI) rfl ⟨rfl, rfl⟩ ?_
      first | refine r_iincN C dX10_beginSiege_51 rfl st1 ?_ | refine r_iinc C dX10_beginSiege_51 rfl rfl st1 ?_
      refine r_goto C dX10_beginSiege_54 ?_
      refine ih (c + 1) _ (by omega) (g1.fr (S := fun k _ => k == 2) (Fr.put Fr.rf rfl) (fun k hk => by rcases hk with rfl | rfl | rfl | rfl | rfl | rfl | rfl <;> rfl)) ?_ ?_ ?_ ?_ (fun i hi => ?_) (Fr.put hf (by simp [sBg]))
      · rw [put_k (by decide)]; exact g2
      · rw [put_k (by decide)]; exact g3
      · rw [put_k (by decide)]; exact g4
      · rw [put_k (by decide)]; exact g5
      · by_cases e : i = c
        · subst e; exact put_same
        · rw [put_off (fun z => e z.2)]
          exact g6 i (by omega)
  have fz : Fr sBg h (put (put (put h1 3 0 2 (nI 0)) 5 0 5 (nI 0)) 0 0 2 (nI 0)) := Fr.put (Fr.put (Fr.put (f1.wk sS_sBg) rfl) rfl) rfl
  refine loop 2 0 _ rfl (hs1.fr (S := fun k _ => k == 0 || k == 3 || k == 5) (Fr.put (Fr.put (Fr.put Fr.rf rfl) rfl) rfl) (fun k hk => by rcases hk with rfl | rfl | rfl | rfl | rfl | rfl | rfl <;> rfl)) ?_ ?_ ?_ put_same (fun i hi => by omega) fz
  · rw [put_k (by decide), put_k (by decide), put_i (by decide), f1 3 0 rfl]
  · rw [put_k (by decide), put_k (by decide), put_same]
  · rw [put_k (by decide), put_same]
def townF (g : Gs) : Int32 × Gs :=
  if (parseF (gX g) (gLn g)).2.2.1 = 0 then (nI ((parseF (gX g) (gLn g)).1 0), (gX g, 0, -1, (parseF (gX g) (gLn g)).1, (parseF (gX g) (gLn g)).2.1, va_up (bgF (parseF (gX g) (gLn g)).1 (parseF (gX g) (gLn g)).2.1) 44 (gSv g 44), (0, (gU g).2), (fun _ => 0, (gI g).2), (0, (gSh g).2), (0, (gBk g).2)))
  else ((-10) - nI (parseF (gX g) (gLn g)).2.2.1, (gX g, 0, nI (parseF (gX g) (gLn g)).2.2.2, g.2.2.2))
theorem sgp44 {h : HF} {j : Nat} {s : Sv} {x : Int32} (c : sgp h j s) : sgp h j (va_up s 44 x) := by
  obtain ⟨⟨c0, c1, c2, c3⟩, c4, c5, c6, c7, c8, c9⟩ := c
  have e : ∀ k, k < 44 → va_up s 44 x k = s k := fun k hk => va_up_ne _ _ (by omega)
  refine ⟨⟨?_, ?_, fun i hi => ?_, fun i hi => ?_⟩, ?_, ?_, ?_, fun i hi => ?_, fun i hi => ?_, fun i hi => ?_⟩ <;> rw [e _ (by omega)]
  · exact c0
  · exact c1
  · exact c2 i hi
  · exact c3 i hi
  · exact c4
  · exact c5
  · exact c6
  · exact c7 i hi
  · exact c8 i hi
  · exact c9 i hi
theorem sRd_f {t k j : Nat} (h4 : k ≠ 4) (h17 : k ≠ 17) (h8 : k ≠ 8) (hh : k < 27 ∨ 35 < k) : sRd t k j = false := by
  have : ¬ (27 ≤ k ∧ k ≤ 35) := by omega
  simp [sRd, sT, h4, h17, h8]
  omega
def sTn (b : Nat) : Nat → Nat → Bool := fun k j => sRd b k j || k == 7 || k == 10
set_option maxRecDepth 100000 in
set_option maxHeartbeats 4000000 in
theorem c_town {E : Ev} {a b : Nat} {h : HF} {g : Gs} (ha : a < 2) (hb : b < 2) (hab : a ≠ b) (hc : CP h a g) : Ct E 6 yX10_town cX10_town 2 (some .int) [aR 10 0] 243 (Rs a b) h 243 (fun v R' h' => v = some (aI (townF g).1) ∧ (((parseF (gX g) (gLn g)).2.2.1 ≠ 0 ∧ R' = Rs a b ∧ CP h' a (townF g).2) ∨ ((parseF (gX g) (gLn g)).2.2.1 = 0 ∧ R' = Rs b a ∧ CP h' b (townF g).2)) ∧ Fr sXc h h') := by
  refine Ct.of 1 (L0 := [some (aR 10 0), none]) (by decide) ⟨Nat.le_refl _, Nat.le_refl _⟩ rfl rfl ?_
  intro G C hg hrt hnm
  have hN : gn G ≤ 243 ∧ 243 ≤ 243 ∧ 243 ≤ 243 := ⟨by omega, by decide, by decide⟩
  have hft := parseF_ft (gX g) (gLn g)
  refine r_aload_n C dX10_town_0 rfl ?_
  refine r_getR C flX10_19 dX10_town_1 ok10 rfl rfl ?_
  refine r_aload_n C dX10_town_4 rfl ?_
  refine r_getR C flX10_10 dX10_town_5 ok10 rfl rfl ?_
  refine r_aload_n C dX10_town_8 rfl ?_
  refine r_getR C flX10_30 dX10_town_9 ok10 rfl rfl ?_
  refine r_callV C (c_readTown hb hc.1.1) dX10_town_12 cw_X4_readTown cvX10_95 (by omega) ok4 rfl hN rfl (Nat.le_of_ble_eq_true rfl) ?_
  rintro v R' h1 ⟨rfl, rfl, hfa, hpl, htw, f1⟩
  have hfa1 : put (put h1 7 0 1 (nI 0)) 10 0 11 (if (parseF (gX g) (gLn g)).2.2.1 = 0 then -1 else nI (parseF (gX g) (gLn g)).2.2.2) 4 0 2 = nI (parseF (gX g) (gLn g)).2.2.1 := by
    rw [put_k (by decide), put_k (by decide)]; exact hfa
  refine r_aload_n C dX10_town_15 rfl ?_
  refine r_getR C flX10_10 dX10_town_16 ok10 rfl rfl ?_
  refine r_iconst (v := (nI 0)) C dX10_town_19 (by decide) ?_
  refine r_putI C flX10_87 dX10_town_20 ok7 rfl ⟨rfl, rfl⟩ ?_
  refine r_aload_n C dX10_town_23 rfl ?_
  refine r_aload_n C dX10_town_24 rfl ?_
  refine r_getR C flX10_19 dX10_town_25 ok10 rfl rfl ?_
  refine q_getV C flX10_99 dX10_town_28 ok4 rfl (show _ = (if (parseF (gX g) (gLn g)).2.2.1 = 0 then -1 else nI (parseF (gX g) (gLn g)).2.2.2) by rw [put_k (by decide)]; exact hpl) ?_
  refine r_putI C flX10_78 dX10_town_31 ok10 rfl ⟨rfl, rfl⟩ ?_
  refine r_aload_n C dX10_town_34 rfl ?_
  refine r_getR C flX10_19 dX10_town_35 ok10 rfl rfl ?_
  refine q_getV C flX10_102 dX10_town_38 ok4 rfl hfa1 ?_
  generalize hpe : (if (parseF (gX g) (gLn g)).2.2.1 = 0 then (-1 : Int32) else nI (parseF (gX g) (gLn g)).2.2.2) = pl
  have f2 : Fr (sTn b) h (put (put h1 7 0 1 (nI 0)) 10 0 11 pl) := Fr.put (Fr.put (f1.wk (fun k j z => by simp [sTn, z])) (by simp [sTn])) (by simp [sTn])
  have hx26 : ∀ i, i < 0 → (put (put h1 7 0 1 (nI 0)) 10 0 11 pl) 26 0 i = gX g i := fun i hi => by omega
  have sgf : ∀ k j, sgK k = true → sTn b k j = false := by
    intro k j hk
    rcases sgk_cases hk with rfl | rfl | rfl | rfl | rfl | rfl | rfl <;> rfl
  by_cases hz : (parseF (gX g) (gLn g)).2.2.1 = 0
  · rw [if_pos hz] at hpe
    subst hpe
    have htw1 := htw hz
    rw [hz]
    refine r_if_eq C dX10_town_41 (fun _ => ?_) (fun cc => absurd cc (by decide))
    refine r_aload_n C dX10_town_55 rfl ?_
    refine r_getR C flX10_26 dX10_town_56 ok10 rfl rfl ?_
    refine r_astore_n C dX10_town_59 st1 ?_
    refine r_aload_n C dX10_town_60 rfl ?_
    refine r_aload_n C dX10_town_61 rfl ?_
    refine r_getR C flX10_30 dX10_town_62 ok10 rfl rfl ?_
    refine r_putR C flX10_26 dX10_town_65 ok10 rfl (fun _ => ⟨rfl, rfl⟩) ?_
    refine r_aload_n C dX10_town_68 rfl ?_
    refine r_aload_n C dX10_town_69 rfl ?_
    refine r_putR C flX10_30 dX10_town_70 ok10 rfl (fun _ => ⟨rfl, rfl⟩) ?_
    refine wa_R (by decide) (swapR a b) ?_
    have ht2 : twf (put (put h1 7 0 1 (nI 0)) 10 0 11 (-1)) b (parseF (gX g) (gLn g)).1 (parseF (gX g) (gLn g)).2.1 := htw1.fr (S := fun k _ => k == 7 || k == 10) (Fr.put (Fr.put Fr.rf rfl) rfl) (fun k hk => by simp; omega)
    refine r_aload_n C dX10_town_73 rfl ?_
    refine r_callV C (c_beginSiege hb ht2) dX10_town_74 cw_X10_beginSiege cvX10_105 (by omega) ok10 rfl hN rfl (Nat.le_of_ble_eq_true rfl) ?_
    rintro v R' h3 ⟨rfl, rfl, s3, l1, l2, e5, e0, e2, f3⟩
    have ht3 := ht2.fr f3 (fun k hk => by simp [sBg, sS]; omega)
    have hT : b < 2 := hb
    refine r_aload_n C dX10_town_77 rfl ?_
    refine r_getR C flX10_26 dX10_town_78 ok10 rfl rfl ?_
    refine q_getV C flX10_108 dX10_town_81 (Ok.full (by decide) hT) rfl ht3.1.1 ?_
    refine r_iret C hrt dX10_town_84 ?_
    rw [townF, if_pos hz]
    have fX : Fr sXc h h3 := by
      refine (f2.wk (fun k j z => ?_)).tr (f3.wk (fun k j z => ?_))
      · simp only [sTn, sRd, sT, sXc, Bool.or_eq_true, Bool.and_eq_true, beq_iff_eq, decide_eq_true_eq, Bool.not_eq_true', beq_eq_false_iff_ne] at z ⊢
        omega
      · simp only [sBg, sS, sXc, Bool.or_eq_true, Bool.and_eq_true, beq_iff_eq, decide_eq_true_eq, Bool.not_eq_true', beq_eq_false_iff_ne] at z ⊢
        omega
    obtain ⟨nx, q1, q2, q3, q4, q5⟩ := hc.2.2.2.1
    refine ⟨rfl, Or.inr ⟨rfl, rfl, ⟨⟨?_, Nat.zero_le _, fun i hi => absurd hi (Nat.not_lt_zero i)⟩, ?_⟩, ht3.1, ⟨sgp44 s3, ?_⟩, ⟨nx, ?_, l2, q3, Nat.zero_le _, fun i hi => absurd hi (Nat.not_lt_zero i)⟩, fun i hi => ⟨e2 i hi, Nat.zero_le _, fun z => absurd z (show ¬ (0 : Nat) = 1 by decide)⟩, ⟨⟨e5, Nat.zero_le _, fun i hi => absurd hi (Nat.not_lt_zero i)⟩, fun i hi => absurd hi (Nat.not_lt_zero i)⟩, ⟨⟨e0, Nat.zero_le _, fun i hi => absurd hi (Nat.not_lt_zero i)⟩, fun i hi => absurd hi (Nat.not_lt_zero i)⟩⟩, fX⟩
    · rw [f3 7 0 rfl, put_k (by decide), put_same]
    · rw [f3 10 0 rfl, put_same]
    · show _ = va_up (bgF (parseF (gX g) (gLn g)).1 (parseF (gX g) (gLn g)).2.1) 44 (gSv g 44) 44
      rw [va_up_self, f3 10 0 rfl, put_i (by decide), put_k (by decide), f1 10 0 rfl]
      exact hc.2.2.1.2
    · rw [l1, put_k (by decide), put_k (by decide), f1 3 0 rfl]
      exact q1
  · rw [if_neg hz] at hpe
    subst hpe
    refine r_if_eq C dX10_town_41 (fun cc => absurd cc (by exact nI_ne0 (by omega) (by omega))) (fun _ => ?_)
    refine r_bipush (v := (-10)) C dX10_town_44 (by decide) ?_
    refine r_aload_n C dX10_town_46 rfl ?_
    refine r_getR C flX10_19 dX10_town_47 ok10 rfl rfl ?_
    refine q_getV C flX10_102 dX10_town_50 ok4 rfl hfa1 ?_
    refine r_isub C dX10_town_53 ?_
    refine r_iret C hrt dX10_town_54 ?_
    rw [townF, if_neg hz]
    refine ⟨rfl, Or.inl ⟨hz, rfl, ⟨⟨?_, Nat.zero_le _, fun i hi => absurd hi (Nat.not_lt_zero i)⟩, put_same⟩, hc.2.1.fr f2 (fun k hk => ?_), ?_, hc.2.2.2.1.fr f2 rfl (fun k j hk _ _ => sgf k j hk), hc.2.2.2.2.1.fr f2 (fun _ _ => rfl) (fun k j hk _ _ => sgf k j hk), hc.2.2.2.2.2.1.fr f2 rfl rfl rfl rfl rfl, hc.2.2.2.2.2.2.fr f2 rfl rfl rfl⟩, f2.wk (fun k j z => ?_)⟩
    · rw [put_k (by decide), put_same]
    · simp [sTn, sRd, sT, hab]
      omega
    · refine ⟨hc.2.2.1.1.fr f2 (fun k hk => sgf k 0 (sgk_of hk)), ?_⟩
      rw [put_i (by decide), put_k (by decide), f1 10 0 rfl]
      exact hc.2.2.1.2
    · simp only [sTn, sRd, sT, sXc, Bool.or_eq_true, Bool.and_eq_true, beq_iff_eq, decide_eq_true_eq, Bool.not_eq_true', beq_eq_false_iff_ne] at z ⊢
      omega
