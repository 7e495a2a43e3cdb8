/-! the log: U i is what was i-th (the oldest is 0), cn of them; the next goes to place nx -/
def logp (h : HF) (nx cn : Nat) (U : Nat → Sv) : Prop := h 3 0 1 = nI nx ∧ h 3 0 2 = nI cn ∧ nx < 20 ∧ cn ≤ 20 ∧ ∀ i, i < cn → sgp h ((nx + 20 - cn + i) % 20 + 1) (U i)
def pushN (cn : Nat) : Nat := if cn < 20 then cn + 1 else 20
def pushU (cn : Nat) (U : Nat → Sv) (s : Sv) : Nat → Sv := if cn < 20 then va_up U cn s else fun i => if i < 19 then U (i + 1) else s
def sgK (k : Nat) : Bool := k == 1 || k == 14 || k == 15 || k == 6 || k == 23 || k == 24 || k == 25
def sLg : Nat → Nat → Bool := fun k j => k == 3 || (sgK k && decide (1 ≤ j ∧ j ≤ 20))
def sUn : Nat → Nat → Bool := fun k j => k == 3 || (sgK k && j == 0)
theorem sS_sLg {i : Nat} (hi : i < 20) : ∀ k j, sS (i + 1) k j = true → sLg k j = true := by
  intro k j hh
  simp only [sS, Bool.and_eq_true, beq_iff_eq] at hh
  obtain ⟨h1, rfl⟩ := hh
  have h2 : sgK k = true := h1
  simp [sLg, h2]
  omega
theorem sS_sUn : ∀ k j, sS 0 k j = true → sUn k j = true := by
  intro k j hh
  simp only [sS, Bool.and_eq_true, beq_iff_eq] at hh
  obtain ⟨h1, rfl⟩ := hh
  have h2 : sgK k = true := h1
  simp [sUn, h2]
theorem logp.put3 {h : HF} {nx cn i : Nat} {U : Nat → Sv} {x : Int32} (hi : ∀ i, i < cn → sgp h ((nx + 20 - cn + i) % 20 + 1) (U i)) : ∀ j, j < cn → sgp (put h 3 0 i x) ((nx + 20 - cn + j) % 20 + 1) (U j) :=
  fun j hj => (hi j hj).fr (S := fun k _ => k == 3) (Fr.put Fr.rf rfl) (fun k hk => by
    rcases hk with rfl | rfl | rfl | rfl | rfl | rfl | rfl <;> rfl)
set_option maxRecDepth 100000 in
set_option maxHeartbeats 4000000 in
theorem c_logClear {E : Ev} {a b : Nat} {h : HF} : Ct E 0 yX3_clear cX3_clear 1 none [aR 3 0] 243 (Rs a b) h 243 (fun v R' h' => v = none ∧ R' = Rs a b ∧ h' = put h 3 0 2 (nI 0)) := by
  refine Ct.of 0 (L0 := [some (aR 3 0)]) (by decide) ⟨Nat.le_refl _, Nat.le_refl _⟩ rfl rfl ?_
  intro G C hg hrt hnm
  have hN : gn G ≤ 243 ∧ 243 ≤ 243 ∧ 243 ≤ 243 := ⟨by omega, by decide, by decide⟩
  refine r_aload_n C dX3_clear_0 rfl ?_
  refine r_iconst (v := (nI 0)) C dX3_clear_1 (by decide) ?_
  refine r_putI C flX3_21 dX3_clear_2 ok3 rfl ⟨rfl, rfl⟩ ?_
  refine r_vret C hrt dX3_clear_5 ?_
  exact ⟨rfl, rfl, rfl⟩
theorem sg3 {h : HF} {j i : Nat} {s : Sv} {x : Int32} (c : sgp h j s) : sgp (put h 3 0 i x) j s := c.fr (S := fun k _ => k == 3) (Fr.put Fr.rf rfl) (fun k hk => by
    rcases hk with rfl | rfl | rfl | rfl | rfl | rfl | rfl <;> rfl)
set_option maxRecDepth 100000 in
set_option maxHeartbeats 4000000 in
theorem c_push {E : Ev} {a b nx cn : Nat} {h : HF} {U : Nat → Sv} {s : Sv} (hl : logp h nx cn U) (hs : sgp h 0 s) : Ct E 2 yX3_push cX3_push 2 none [aR 3 0, aR 6 0] 243 (Rs a b) h 243 (fun v R' h' => v = none ∧ R' = Rs a b ∧ (∃ nx', logp h' nx' (pushN cn) (pushU cn U s)) ∧ Fr sLg h h') := by
  refine Ct.of 0 (L0 := [some (aR 3 0), some (aR 6 0)]) (by decide) ⟨Nat.le_refl _, Nat.le_refl _⟩ rfl rfl ?_
  intro G C hg hrt hnm
  have hN : gn G ≤ 243 ∧ 243 ≤ 243 ∧ 243 ≤ 243 := ⟨by omega, by decide, by decide⟩
  obtain ⟨l1, l2, l3, l4, l5⟩ := hl
  have hS : nx + 1 < 23 := by omega
  refine r_aload_n C dX3_push_0 rfl ?_
  refine r_getR C flX3_11 dX3_push_1 ok3 rfl rfl ?_
  refine r_aload_n C dX3_push_4 rfl ?_
  refine q_getV C flX3_17 dX3_push_5 ok3 rfl l1 ?_
  refine q_aald (m := 20) (t := 0) C dX3_push_8 ok16 rfl (by decide) rfl (by omega) rfl ?_
  refine r_aload_n C dX3_push_9 rfl ?_
  refine r_callV C (c_siegeBecome (by omega) (by omega) (by omega) hs) dX3_push_10 cw_X6_become cvX3_25 (by omega) (Ok.full (by decide) hS) rfl hN rfl (Nat.le_of_ble_eq_true rfl) ?_
  rintro v R' h1 ⟨rfl, rfl, hs1, hf1⟩
  have k1 : h1 3 0 1 = nI nx := by rw [hf1 3 0 rfl]; exact l1
  have k2 : h1 3 0 2 = nI cn := by rw [hf1 3 0 rfl]; exact l2
  refine r_aload_n C dX3_push_13 rfl ?_
  refine r_aload_n C dX3_push_14 rfl ?_
  refine q_getV C flX3_17 dX3_push_15 ok3 rfl k1 ?_
  refine r_iconst (v := (nI 1)) C dX3_push_18 (by decide) ?_
  first | refine r_iaddN C dX3_push_19 ?_ | refine r_iadd C dX3_push_19 ?_
  refine r_bipush (v := (nI 20)) C dX3_push_20 (by decide) ?_
  refine r_irem C dX3_push_22 (by decide) ?_
  rw [pk_rem (by omega) (by decide) (by decide)]
  refine r_putI C flX3_17 dX3_push_23 ok3 rfl ⟨rfl, rfl⟩ ?_
  refine r_aload_n C dX3_push_26 rfl ?_
  refine r_bipush (v := (nI 20)) C dX3_push_27 (by decide) ?_
  refine r_aload_n C dX3_push_29 rfl ?_
  refine q_getV C flX3_21 dX3_push_30 ok3 rfl k2 ?_
  refine r_iconst (v := (nI 1)) C dX3_push_33 (by decide) ?_
  first | refine r_iaddN C dX3_push_34 ?_ | refine r_iadd C dX3_push_34 ?_
  refine r_min C dX3_push_35 cmX3_29 (by omega) (Nat.le_of_ble_eq_true rfl) ⟨hN.1, hN.2.2⟩ ?_
  refine r_putI C flX3_21 dX3_push_38 ok3 rfl ⟨rfl, rfl⟩ ?_
  refine r_vret C hrt dX3_push_41 ?_
  refine ⟨rfl, rfl, ⟨(nx + 1) % 20, ?_, ?_, by omega, by unfold pushN; split <;> omega, ?_⟩, Fr.put (Fr.put (hf1.wk (sS_sLg l3)) rfl) rfl⟩
  · rw [put_i (by decide), put_same]
  · rw [put_same]
    by_cases hc : cn < 20
    · by_cases h19 : cn = 19
      · subst h19; rfl
      · rw [pushN, if_pos hc, if_pos (nI_lt (by omega) (by decide))]
    · have e : cn = 20 := by omega
      subst e
      rfl
  · intro i hi
    refine sg3 (sg3 ?_)
    by_cases hc : cn < 20
    · rw [pushN, if_pos hc] at hi ⊢
      rw [pushU, if_pos hc]
      by_cases e : i = cn
      · subst e
        rw [va_up_self, show ((nx + 1) % 20 + 20 - (i + 1) + i) % 20 + 1 = nx + 1 by omega]
        exact hs1
      · rw [va_up_ne _ _ e]
        have h2 := l5 i (by omega)
        rw [show ((nx + 1) % 20 + 20 - (cn + 1) + i) % 20 + 1 = (nx + 20 - cn + i) % 20 + 1 by omega]
        exact h2.fr hf1 (fun k _ => sS_ne (by omega))
    · have e : cn = 20 := by omega
      subst e
      rw [pushN, if_neg (by omega)] at hi ⊢
      rw [pushU, if_neg (by omega)]
      by_cases e : i < 19
      · show sgp _ _ (if i < 19 then _ else _)
        rw [if_pos e]
        have h2 := l5 (i + 1) (by omega)
        rw [show ((nx + 1) % 20 + 20 - 20 + i) % 20 + 1 = (nx + 20 - 20 + (i + 1)) % 20 + 1 by omega]
        exact h2.fr hf1 (fun k _ => sS_ne (by omega))
      · show sgp _ _ (if i < 19 then _ else _)
        rw [if_neg e, show ((nx + 1) % 20 + 20 - 20 + i) % 20 + 1 = nx + 1 by omega]
        exact hs1
set_option maxRecDepth 100000 in
set_option maxHeartbeats 4000000 in
theorem c_popInto {E : Ev} {a b nx cn : Nat} {h : HF} {U : Nat → Sv} (hl : logp h nx cn U) (hc : 0 < cn) : Ct E 2 yX3_popInto cX3_popInto 2 none [aR 3 0, aR 6 0] 243 (Rs a b) h 243 (fun v R' h' => v = none ∧ R' = Rs a b ∧ (∃ nx', logp h' nx' (cn - 1) U) ∧ sgp h' 0 (U (cn - 1)) ∧ Fr sUn h h') := by
  refine Ct.of 0 (L0 := [some (aR 3 0), some (aR 6 0)]) (by decide) ⟨Nat.le_refl _, Nat.le_refl _⟩ rfl rfl ?_
  intro G C hg hrt hnm
  have hN : gn G ≤ 243 ∧ 243 ≤ 243 ∧ 243 ≤ 243 := ⟨by omega, by decide, by decide⟩
  obtain ⟨l1, l2, l3, l4, l5⟩ := hl
  refine r_aload_n C dX3_popInto_0 rfl ?_
  refine q_getV C flX3_21 dX3_popInto_1 ok3 rfl l2 ?_
  refine r_if_le C dX3_popInto_4 (fun cc => absurd cc (nI_nle hc (by omega))) (fun _ => ?_)
  refine r_aload_n C dX3_popInto_7 rfl ?_
  refine r_dup C dX3_popInto_8 rfl ?_
  refine q_getV C flX3_21 dX3_popInto_9 ok3 rfl l2 ?_
  refine r_iconst (v := (nI 1)) C dX3_popInto_12 (by decide) ?_
  refine r_isubN C dX3_popInto_13 hc ?_
  refine r_putI C flX3_21 dX3_popInto_14 ok3 rfl ⟨rfl, rfl⟩ ?_
  refine r_aload_n C dX3_popInto_17 rfl ?_
  refine r_aload_n C dX3_popInto_18 rfl ?_
  refine q_getV C flX3_17 dX3_popInto_19 ok3 rfl (show _ = nI nx from l1) ?_
  refine r_bipush (v := (nI 20)) C dX3_popInto_22 (by decide) ?_
  first | refine r_iaddN C dX3_popInto_24 ?_ | refine r_iadd C dX3_popInto_24 ?_
  refine r_iconst (v := (nI 1)) C dX3_popInto_25 (by decide) ?_
  refine r_isubN C dX3_popInto_26 (by omega) ?_
  refine r_bipush (v := (nI 20)) C dX3_popInto_27 (by decide) ?_
  refine r_irem C dX3_popInto_29 (by decide) ?_
  rw [pk_rem (by omega) (by decide) (by decide)]
  refine r_putI C flX3_17 dX3_popInto_30 ok3 rfl ⟨rfl, rfl⟩ ?_
  refine r_aload_n C dX3_popInto_33 rfl ?_
  refine r_aload_n C dX3_popInto_34 rfl ?_
  refine r_getR C flX3_11 dX3_popInto_35 ok3 rfl rfl ?_
  refine r_aload_n C dX3_popInto_38 rfl ?_
  refine q_getV C flX3_17 dX3_popInto_39 ok3 rfl put_same ?_
  refine q_aald (m := 20) (t := 0) C dX3_popInto_42 ok16 rfl (by decide) rfl (by omega) rfl ?_
  have e1 : (nx + 20 - 1) % 20 + 1 = (nx + 20 - cn + (cn - 1)) % 20 + 1 := by omega
  have hs := sg3 (i := 1) (x := nI ((nx + 20 - 1) % 20)) (sg3 (i := 2) (x := nI (cn - 1)) (l5 (cn - 1) (by omega)))
  rw [← e1] at hs
  have hS : 0 < 23 := by decide
  refine r_callV C (c_siegeBecome (by decide) (by omega) (by omega) hs) dX3_popInto_43 cw_X6_become cvX3_25 (by omega) (Ok.full (by decide) hS) rfl hN rfl (Nat.le_of_ble_eq_true rfl) ?_
  rintro v R' h1 ⟨rfl, rfl, hs1, hf1⟩
  refine r_vret C hrt dX3_popInto_46 ?_
  refine ⟨rfl, rfl, ⟨(nx + 20 - 1) % 20, ?_, ?_, by omega, by omega, fun i hi => ?_⟩, hs1, (Fr.put (Fr.put Fr.rf rfl) rfl).tr (hf1.wk sS_sUn)⟩
  · rw [hf1 3 0 rfl, put_same]
  · rw [hf1 3 0 rfl, put_i (by decide), put_same]
  · have h2 := sg3 (i := 1) (x := nI ((nx + 20 - 1) % 20)) (sg3 (i := 2) (x := nI (cn - 1)) (l5 i (by omega)))
    rw [show ((nx + 20 - 1) % 20 + 20 - (cn - 1) + i) % 20 + 1 = (nx + 20 - cn + i) % 20 + 1 by omega]
    exact h2.fr hf1 (fun k _ => sS_ne (by omega))
