/-! days that are tried -/
def dg (n row d : Nat) : Nat := row / 4 ^ (n - 1 - d) % 4
def rowS (N : Nat → Nat) (T : Tv) (n row : Nat) (s : Sv) : Nat → Sv
  | 0 => s
  | d + 1 => (edayF N T (nI (dg n row d)) (rowS N T n row s d)).1
def fdF (n row : Nat) : Nat → Nat
  | 0 => 0
  | d + 1 => if dg n row (d + 1) = 0 then fdF n row d else d + 1
theorem fdF_le (n row : Nat) : ∀ d, fdF n row d ≤ d
  | 0 => Nat.le_refl _
  | d + 1 => by
    unfold fdF
    split
    · exact Nat.le_succ_of_le (fdF_le n row d)
    · exact Nat.le_refl _
theorem dg_zero (n : Nat) : ∀ d, fdF n 0 d = 0
  | 0 => rfl
  | d + 1 => by
    unfold fdF
    rw [if_pos (by simp [dg]), dg_zero n d]
theorem dg_same : ∀ n, n < 6 → ∀ r, r < 4 ^ n → 0 < r → ∀ d, d < fdF n r (n - 1) → dg n r d = dg n (r - 1) d := by decide +kernel
theorem rowS_same {N : Nat → Nat} {T : Tv} {n r r' : Nat} {s : Sv} {f : Nat} (h : ∀ d, d < f → dg n r d = dg n r' d) : ∀ d, d ≤ f → rowS N T n r s d = rowS N T n r' s d
  | 0, _ => rfl
  | d + 1, hd => by rw [rowS, rowS, h d (by omega), rowS_same h d (by omega)]
theorem shr4 {row k : Nat} (hr : row < 2 ^ 31) (hk : k ≤ 4) : nI row >>> (nI (2 * k) &&& 31) = nI (row / 4 ^ k) := by
  rcases (show k = 0 ∨ k = 1 ∨ k = 2 ∨ k = 3 ∨ k = 4 by omega) with rfl | rfl | rfl | rfl | rfl
  · exact pk_shrN hr _ 0 (by decide)
  · exact pk_shrN hr _ 2 (by decide)
  · exact pk_shrN hr _ 4 (by decide)
  · exact pk_shrN hr _ 6 (by decide)
  · exact pk_shrN hr _ 8 (by decide)
theorem shl4 {n : Nat} (hn : n ≤ 5) : nI 1 <<< (nI (2 * n) &&& 31) = nI (4 ^ n) := by
  rcases (show n = 0 ∨ n = 1 ∨ n = 2 ∨ n = 3 ∨ n = 4 ∨ n = 5 by omega) with rfl | rfl | rfl | rfl | rfl | rfl <;> decide
theorem pow4 {n : Nat} (hn : n ≤ 5) : 4 ^ n ≤ 1024 := by
  rcases (show n = 0 ∨ n = 1 ∨ n = 2 ∨ n = 3 ∨ n = 4 ∨ n = 5 by omega) with rfl | rfl | rfl | rfl | rfl | rfl <;> decide
def cmpF (men food row : Int32) (b : Int32 × Int32 × Int32) : Int32 × Int32 × Int32 := if b.1 < men ∨ (men = b.1 ∧ b.2.2 < food) then (men, row, food) else b
def tb3 (h : HF) (b : Int32 × Int32 × Int32) : Prop := h 9 0 2 = b.1 ∧ h 9 0 3 = b.2.1 ∧ h 9 0 4 = b.2.2
def bstF (N : Nat → Nat) (T : Tv) (n : Nat) (s : Sv) (b : Int32 × Int32 × Int32) : Nat → Int32 × Int32 × Int32
  | 0 => b
  | r + 1 => cmpF (msum (rowS N T n r s n) 5) (rowS N T n r s n 0) (nI r) (bstF N T n s b r)
def s9 : Nat → Nat → Bool := fun k _ => k == 9
def sTr : Nat → Nat → Bool := fun k j => k == 9 || ((k == 1 || k == 14 || k == 15) && decide (23 ≤ j))
theorem s9_sTr : ∀ k j, s9 k j = true → sTr k j = true := by
  intro k j hh
  simp only [s9, beq_iff_eq] at hh
  simp [sTr, hh]
theorem sC_sTr {d : Nat} : ∀ k j, sC (23 + d) k j = true → sTr k j = true := by
  intro k j hh
  simp only [sC, Bool.and_eq_true, beq_iff_eq] at hh
  obtain ⟨h1, rfl⟩ := hh
  simp [sTr, h1]
theorem sTr_twn {t : Nat} : ∀ k, (k = 8 ∨ (28 ≤ k ∧ k ≤ 35)) → sTr k t = false := by
  intro k hk
  have : (k == 1) = false ∧ (k == 14) = false ∧ (k == 15) = false ∧ (k == 9) = false := ⟨by simp; omega, by simp; omega, by simp; omega, by simp; omega⟩
  simp [sTr, this]
set_option maxRecDepth 100000 in
set_option maxHeartbeats 4000000 in
theorem c_rationOf {E : Ev} {a b n row d : Nat} {h : HF} (hr : row < 2 ^ 31) (hn : n ≤ 5) (hd : d < n) : Ct E 0 yX9_rationOf cX9_rationOf 3 (some .int) [aI (nI row), aI (nI n), aI (nI d)] 243 (Rs a b) h 243 (fun v R' h' => v = some (aI (nI (dg n row d))) ∧ R' = Rs a b ∧ h' = h) := by
  refine Ct.of 0 (L0 := [some (aI (nI row)), some (aI (nI n)), some (aI (nI d))]) (by decide) ⟨Nat.le_refl _, Nat.le_refl _⟩ rfl rfl ?_
  intro G C hg hrt hnm
  have hN : gn G ≤ 243 ∧ 243 ≤ 243 ∧ 243 ≤ 243 := ⟨by omega, by decide, by decide⟩
  refine r_iload_n C dX9_rationOf_0 rfl ?_
  refine r_iconst (v := (nI 2)) C dX9_rationOf_1 (by decide) ?_
  refine r_iload_n C dX9_rationOf_2 rfl ?_
  refine r_iconst (v := (nI 1)) C dX9_rationOf_3 (by decide) ?_
  refine r_isubN C dX9_rationOf_4 (by omega) ?_
  refine r_iload_n C dX9_rationOf_5 rfl ?_
  refine r_isubN C dX9_rationOf_6 (by omega) ?_
  first | refine r_imulN C dX9_rationOf_7 ?_ | refine r_imul C dX9_rationOf_7 ?_
  refine r_ishr C dX9_rationOf_8 ?_
  rw [shr4 hr (by omega)]
  refine r_iconst (v := (nI 3)) C dX9_rationOf_9 (by decide) ?_
  refine r_iand C dX9_rationOf_10 ?_
  rw [pk_andN (Nat.lt_of_le_of_lt (Nat.div_le_self _ _) (by omega)) 2 (by decide)]
  refine r_iret C hrt dX9_rationOf_11 ?_
  exact ⟨rfl, rfl, rfl⟩
set_option maxRecDepth 100000 in
set_option maxHeartbeats 4000000 in
theorem c_firstDayToTry {E : Ev} {a b n row : Nat} {h : HF} (hr : row < 2 ^ 31) (hn : n ≤ 5) (hn1 : 1 ≤ n) : Ct E 1 yX9_firstDayToTry cX9_firstDayToTry 3 (some .int) [aI (nI row), aI (nI n)] 243 (Rs a b) h 243 (fun v R' h' => v = some (aI (nI (fdF n row (n - 1)))) ∧ R' = Rs a b ∧ h' = h) := by
  refine Ct.of 1 (L0 := [some (aI (nI row)), some (aI (nI n)), none]) (by decide) ⟨Nat.le_refl _, Nat.le_refl _⟩ rfl rfl ?_
  intro G C hg hrt hnm
  have hN : gn G ≤ 243 ∧ 243 ≤ 243 ∧ 243 ≤ 243 := ⟨by omega, by decide, by decide⟩
  refine r_iload_n C dX9_firstDayToTry_0 rfl ?_
  refine r_iconst (v := (nI 1)) C dX9_firstDayToTry_1 (by decide) ?_
  refine r_isubN C dX9_firstDayToTry_2 hn1 ?_
  refine r_istore_n C dX9_firstDayToTry_3 st2 ?_
  have loop : ∀ d, d < n → fdF n row d = fdF n row (n - 1) → Wa E G 243 (Rs a b) h (QQ E G 243 (fun v R' h' => v = some (aI (nI (fdF n row (n - 1)))) ∧ R' = Rs a b ∧ h' = h)) 4 [some (aI (nI row)), some (aI (nI n)), some (aI (nI d))] [] := by
    intro d
    induction d with
    | zero =>
      intro hd he
      refine r_iload_n C dX9_firstDayToTry_4 rfl ?_
      refine r_if_le C dX9_firstDayToTry_5 (fun _ => ?_) (fun cc => absurd cc (by decide))
      refine r_iload_n C dX9_firstDayToTry_23 rfl ?_
      refine r_iret C hrt dX9_firstDayToTry_24 ?_
      rw [← he]
      exact ⟨rfl, rfl, rfl⟩
    | succ d ih =>
      intro hd he
      rw [fdF] at he
      refine r_iload_n C dX9_firstDayToTry_4 rfl ?_
      refine r_if_le C dX9_firstDayToTry_5 (fun cc => absurd cc (nI_nle (by omega) (by omega))) (fun _ => ?_)
      refine r_iload_n C dX9_firstDayToTry_8 rfl ?_
      refine r_iload_n C dX9_firstDayToTry_9 rfl ?_
      refine r_iload_n C dX9_firstDayToTry_10 rfl ?_
      refine r_callS C (c_rationOf hr hn hd) dX9_firstDayToTry_11 cw_X9_rationOf csX9_45 (by omega) rfl hN rfl (Nat.le_of_ble_eq_true rfl) ?_
      rintro v R' h1 ⟨rfl, rfl, rfl⟩
      have hb : dg n row (d + 1) < 4 := Nat.mod_lt _ (by decide)
      by_cases hz : dg n row (d + 1) = 0
      · rw [if_pos hz] at he
        rw [hz]
        refine r_if_ne C dX9_firstDayToTry_14 (fun cc => absurd cc (by decide)) (fun _ => ?_)
        refine r_iinc (v := nI d) C dX9_firstDayToTry_17 rfl (pk_m1 d) st2 ?_
        refine r_goto C dX9_firstDayToTry_20 ?_
        exact ih (by omega) he
      · rw [if_neg hz] at he
        refine r_if_ne C dX9_firstDayToTry_14 (fun _ => ?_) (fun cc => absurd cc (by exact fun z => nI_ne0 (by omega) (by omega) z))
        refine r_iload_n C dX9_firstDayToTry_23 rfl ?_
        refine r_iret C hrt dX9_firstDayToTry_24 ?_
        rw [← he]
        exact ⟨rfl, rfl, rfl⟩
  exact loop (n - 1) (by omega) rfl
set_option maxRecDepth 100000 in
set_option maxHeartbeats 4000000 in
theorem c_compareRow {E : Ev} {a b j : Nat} {h : HF} {s : Sv} {row : Int32} {u : Int32 × Int32 × Int32} (hC : j < 29) (hc : cmp h j s) (hu : tb3 h u) : Ct E 1 yX9_compareRow cX9_compareRow 4 none [aR 9 0, aI row, aR 1 j] 243 (Rs a b) h 243 (fun v R' h' => v = none ∧ R' = Rs a b ∧ tb3 h' (cmpF (msum s 5) (s 0) row u) ∧ Fr s9 h h') := by
  refine Ct.of 1 (L0 := [some (aR 9 0), some (aI row), some (aR 1 j), none]) (by decide) ⟨Nat.le_refl _, Nat.le_refl _⟩ rfl rfl ?_
  intro G C hg hrt hnm
  have hN : gn G ≤ 243 ∧ 243 ≤ 243 ∧ 243 ≤ 243 := ⟨by omega, by decide, by decide⟩
  have fin : (u.1 < msum s 5 ∨ (msum s 5 = u.1 ∧ u.2.2 < s 0)) → Wa E G 243 (Rs a b) h (QQ E G 243 (fun v R' h' => v = none ∧ R' = Rs a b ∧ tb3 h' (cmpF (msum s 5) (s 0) row u) ∧ Fr s9 h h')) 32 [some (aR 9 0), some (aI row), some (aR 1 j), some (aI (msum s 5))] [] := by
    intro hb
    refine r_aload_n C dX9_compareRow_32 rfl ?_
    refine r_iload_n C dX9_compareRow_33 rfl ?_
    refine r_putI C flX9_21 dX9_compareRow_34 ok9 rfl ⟨rfl, rfl⟩ ?_
    refine r_aload_n C dX9_compareRow_37 rfl ?_
    refine r_aload_n C dX9_compareRow_38 rfl ?_
    refine q_getV C flX9_61 dX9_compareRow_39 (Ok.full (by decide) hC) rfl (show _ = s 0 from hc.1) ?_
    refine r_putI C flX9_28 dX9_compareRow_42 ok9 rfl ⟨rfl, rfl⟩ ?_
    refine r_aload_n C dX9_compareRow_45 rfl ?_
    refine r_iload_n C dX9_compareRow_46 rfl ?_
    refine r_putI C flX9_25 dX9_compareRow_47 ok9 rfl ⟨rfl, rfl⟩ ?_
    refine r_vret C hrt dX9_compareRow_50 ?_
    rw [cmpF, if_pos hb]
    refine ⟨rfl, rfl, ⟨?_, put_same, ?_⟩, Fr.put (Fr.put (Fr.put Fr.rf rfl) rfl) rfl⟩
    · rw [put_i (by decide), put_i (by decide), put_same]
    · rw [put_i (by decide), put_same]
  refine r_aload_n C dX9_compareRow_0 rfl ?_
  refine r_callV C (c_menOfAll hC hc) dX9_compareRow_1 cw_X1_menOfAll cvX9_57 (by omega) (Ok.full (by decide) hC) rfl hN rfl (Nat.le_of_ble_eq_true rfl) ?_
  rintro v R' h1 ⟨rfl, rfl, rfl⟩
  refine r_istore_n C dX9_compareRow_4 st3 ?_
  refine r_iload_n C dX9_compareRow_5 rfl ?_
  refine r_aload_n C dX9_compareRow_6 rfl ?_
  refine q_getV C flX9_21 dX9_compareRow_7 ok9 rfl hu.1 ?_
  refine r_icmp_gt C dX9_compareRow_10 (fun c10 => ?_) (fun c10 => ?_)
  · exact fin (Or.inl c10)
  · refine r_iload_n C dX9_compareRow_13 rfl ?_
    refine r_aload_n C dX9_compareRow_14 rfl ?_
    refine q_getV C flX9_21 dX9_compareRow_15 ok9 rfl hu.1 ?_
    refine r_icmp_ne C dX9_compareRow_18 (fun c18 => ?_) (fun c18 => ?_)
    · refine r_vret C hrt dX9_compareRow_50 ?_
      rw [cmpF, if_neg (fun z => z.elim c10 (fun z => c18 z.1))]
      exact ⟨rfl, rfl, hu, Fr.rf⟩
    · refine r_aload_n C dX9_compareRow_21 rfl ?_
      refine q_getV C flX9_61 dX9_compareRow_22 (Ok.full (by decide) hC) rfl hc.1 ?_
      refine r_aload_n C dX9_compareRow_25 rfl ?_
      refine q_getV C flX9_28 dX9_compareRow_26 ok9 rfl hu.2.2 ?_
      refine r_icmp_le C dX9_compareRow_29 (fun c29 => ?_) (fun c29 => ?_)
      · refine r_vret C hrt dX9_compareRow_50 ?_
        rw [cmpF, if_neg (fun z => z.elim c10 (fun z => absurd c29 (Int32.not_le.mpr z.2)))]
        exact ⟨rfl, rfl, hu, Fr.rf⟩
      · exact fin (Or.inr ⟨c18, Int32.not_le.mp c29⟩)
set_option maxRecDepth 100000 in
set_option maxHeartbeats 8000000 in
theorem c_tryAllRows {E : Ev} {a b t n : Nat} {h : HF} {N : Nat → Nat} {T : Tv} {s : Sv} (hT : t < 2) (ht : twn h t N T) (hc : cmp h 0 s) (hn1 : 1 ≤ n) (hn : n ≤ 5) : Ct E 3 yX9_tryAllRows cX9_tryAllRows 7 none [aR 9 0, aR 8 t, aR 1 0, aI (nI n)] 243 (Rs a b) h 243 (fun v R' h' => v = none ∧ R' = Rs a b ∧ tb3 h' (bstF N T n s (-1, h 9 0 3, h 9 0 4) (4 ^ n)) ∧ Fr sTr h h') := by
  refine Ct.of 3 (L0 := [some (aR 9 0), some (aR 8 t), some (aR 1 0), some (aI (nI n)), none, none, none]) (by decide) ⟨Nat.le_refl _, Nat.le_refl _⟩ rfl rfl ?_
  intro G C hg hrt hnm
  have hN : gn G ≤ 243 ∧ 243 ≤ 243 ∧ 243 ≤ 243 := ⟨by omega, by decide, by decide⟩
  have hp4 := pow4 hn
  refine r_iload_n C dX9_tryAllRows_0 rfl ?_
  refine r_iconst (v := (nI 5)) C dX9_tryAllRows_1 (by decide) ?_
  refine r_min C dX9_tryAllRows_2 cmX9_32 (by omega) (Nat.le_of_ble_eq_true rfl) ⟨hN.1, hN.2.2⟩ ?_
  rw [if_neg (nI_nlt (by omega) (by decide))]
  refine r_istore C dX9_tryAllRows_5 st4 ?_
  refine r_aload_n C dX9_tryAllRows_7 rfl ?_
  refine r_iconst (v := (-1)) C dX9_tryAllRows_8 (by decide) ?_
  refine r_putI C flX9_21 dX9_tryAllRows_9 ok9 rfl ⟨rfl, rfl⟩ ?_
  refine r_aload_n C dX9_tryAllRows_12 rfl ?_
  refine r_getR C flX9_11 dX9_tryAllRows_13 ok9 rfl rfl ?_
  refine r_iconst (v := (nI 0)) C dX9_tryAllRows_16 (by decide) ?_
  refine q_aald (m := 6) (t := 1) C dX9_tryAllRows_17 ok36 rfl (by decide) rfl (by omega) rfl ?_
  refine r_aload_n C dX9_tryAllRows_18 rfl ?_
  have hC : 23 + 0 < 29 := by decide
  have hc' : cmp (put h 9 0 2 (-1)) 0 s := hc.putk (by decide) (by decide) (by decide)
  refine r_callV C (c_campBecome (by decide) (by decide) (by decide) hc') dX9_tryAllRows_19 cw_X1_become cvX9_38 (by omega) (Ok.full (by decide) hC) rfl hN rfl (Nat.le_of_ble_eq_true rfl) ?_
  rintro v R' h0 ⟨rfl, rfl, hc0, hf0⟩
  have F0 : Fr sTr h h0 := (Fr.put (h := h) (i := 2) (v := (-1 : Int32)) Fr.rf (by rfl : sTr 9 0 = true)).tr (hf0.wk sC_sTr)
  have B0 : tb3 h0 (bstF N T n s (-1, h 9 0 3, h 9 0 4) 0) := by
    refine ⟨?_, ?_, ?_⟩
    · rw [hf0 9 0 rfl]; rfl
    · rw [hf0 9 0 rfl]; rfl
    · rw [hf0 9 0 rfl]; rfl
  refine r_iconst (v := (nI 0)) C dX9_tryAllRows_22 (by decide) ?_
  refine r_istore C dX9_tryAllRows_23 st5 ?_
  have outer : ∀ k r hh, r + k = 4 ^ n → cmp hh 23 s → (0 < r → ∀ d, d ≤ n → cmp hh (23 + d) (rowS N T n (r - 1) s d)) → tb3 hh (bstF N T n s (-1, h 9 0 3, h 9 0 4) r) → Fr sTr h hh →
      Wa E G 243 (Rs a b) hh (QQ E G 243 (fun v R' h' => v = none ∧ R' = Rs a b ∧ tb3 h' (bstF N T n s (-1, h 9 0 3, h 9 0 4) (4 ^ n)) ∧ Fr sTr h h')) 25 [some (aR 9 0), some (aR 8 t), some (aR 1 0), some (aI (nI n)), some (aI (nI n)), some (aI (nI r)), none] [] := by
    intro k
    induction k with
    | zero =>
      intro r hh hk hc23 hcs hb hf
      have e : r = 4 ^ n := by omega
      subst e
      refine r_iload C dX9_tryAllRows_25 rfl ?_
      refine r_iconst (v := (nI 1)) C dX9_tryAllRows_27 (by decide) ?_
      refine r_iconst (v := (nI 2)) C dX9_tryAllRows_28 (by decide) ?_
      refine r_iload C dX9_tryAllRows_29 rfl ?_
      first | refine r_imulN C dX9_tryAllRows_31 ?_ | refine r_imul C dX9_tryAllRows_31 ?_
      refine r_ishl C dX9_tryAllRows_32 ?_
      rw [shl4 hn]
      refine r_icmpN_ge C dX9_tryAllRows_33 (by omega) (by omega) (fun _ => ?_) (fun cc => absurd cc (by omega))
      refine r_vret C hrt dX9_tryAllRows_118 ?_
      exact ⟨rfl, rfl, hb, hf⟩
    | succ k ih =>
      intro r hh hk hc23 hcs hb hf
      refine r_iload C dX9_tryAllRows_25 rfl ?_
      refine r_iconst (v := (nI 1)) C dX9_tryAllRows_27 (by decide) ?_
      refine r_iconst (v := (nI 2)) C dX9_tryAllRows_28 (by decide) ?_
      refine r_iload C dX9_tryAllRows_29 rfl ?_
      first | refine r_imulN C dX9_tryAllRows_31 ?_ | refine r_imul C dX9_tryAllRows_31 ?_
      refine r_ishl C dX9_tryAllRows_32 ?_
      rw [shl4 hn]
      refine r_icmpN_ge C dX9_tryAllRows_33 (by omega) (by omega) (fun cc => absurd cc (by omega)) (fun _ => ?_)
      refine r_iload C dX9_tryAllRows_36 rfl ?_
      refine r_iload C dX9_tryAllRows_38 rfl ?_
      refine r_callS C (c_firstDayToTry (by omega) hn hn1) dX9_tryAllRows_40 cw_X9_firstDayToTry csX9_42 (by omega) rfl hN rfl (Nat.le_of_ble_eq_true rfl) ?_
      rintro v R' h1 ⟨rfl, rfl, rfl⟩
      refine r_istore C dX9_tryAllRows_43 st6 ?_
      have hfl := fdF_le n r (n - 1)
      have inner : ∀ k2 d h2, d + k2 = n → (∀ e, e ≤ d → cmp h2 (23 + e) (rowS N T n r s e)) → tb3 h2 (bstF N T n s (-1, h 9 0 3, h 9 0 4) r) → Fr sTr h h2 →
          Wa E G 243 (Rs a b) h2 (QQ E G 243 (fun v R' h' => v = none ∧ R' = Rs a b ∧ tb3 h' (bstF N T n s (-1, h 9 0 3, h 9 0 4) (4 ^ n)) ∧ Fr sTr h h')) 45 [some (aR 9 0), some (aR 8 t), some (aR 1 0), some (aI (nI n)), some (aI (nI n)), some (aI (nI r)), some (aI (nI d))] [] := by
        intro k2
        induction k2 with
        | zero =>
          intro d h2 hd hce hb2 hf2
          have e : d = n := by omega
          subst e
          refine r_iload C dX9_tryAllRows_45 rfl ?_
          refine r_iload C dX9_tryAllRows_47 rfl ?_
          refine r_icmpN_ge C dX9_tryAllRows_49 (by omega) (by omega) (fun _ => ?_) (fun cc => absurd cc (by omega))
          refine r_aload_n C dX9_tryAllRows_99 rfl ?_
          refine r_iload C dX9_tryAllRows_100 rfl ?_
          refine r_aload_n C dX9_tryAllRows_102 rfl ?_
          refine r_getR C flX9_11 dX9_tryAllRows_103 ok9 rfl rfl ?_
          refine r_iload C dX9_tryAllRows_106 rfl ?_
          refine q_aald (m := 6) (t := 1) C dX9_tryAllRows_108 ok36 rfl (by decide) rfl (by omega) rfl ?_
          have hC : 23 + d < 29 := by omega
          refine r_callV C (c_compareRow hC (hce d (Nat.le_refl _)) hb2) dX9_tryAllRows_109 cw_X9_compareRow cvX9_53 (by omega) ok9 rfl hN rfl (Nat.le_of_ble_eq_true rfl) ?_
          rintro v R' h3 ⟨rfl, rfl, hb3, hf3⟩
          first | refine r_iincN C dX9_tryAllRows_112 rfl st5 ?_ | refine r_iinc C dX9_tryAllRows_112 rfl rfl st5 ?_
          refine r_goto C dX9_tryAllRows_115 ?_
          refine wa_loc (L' := [some (aR 9 0), some (aR 8 t), some (aR 1 0), some (aI (nI d)), some (aI (nI d)), some (aI (nI (r + 1))), none]) (by simp [lsub]) ?_
          refine ih (r + 1) h3 (by omega) ?_ (fun _ e he => ?_) hb3 (hf2.tr (hf3.wk s9_sTr))
          · exact (hce 0 (by omega)).fr hf3 rfl rfl rfl
          · exact (hce e he).fr hf3 rfl rfl rfl
        | succ k2 ih2 =>
          intro d h2 hd hce hb2 hf2
          refine r_iload C dX9_tryAllRows_45 rfl ?_
          refine r_iload C dX9_tryAllRows_47 rfl ?_
          refine r_icmpN_ge C dX9_tryAllRows_49 (by omega) (by omega) (fun cc => absurd cc (by omega)) (fun _ => ?_)
          refine r_aload_n C dX9_tryAllRows_52 rfl ?_
          refine r_getR C flX9_11 dX9_tryAllRows_53 ok9 rfl rfl ?_
          refine r_iload C dX9_tryAllRows_56 rfl ?_
          refine r_iconst (v := (nI 1)) C dX9_tryAllRows_58 (by decide) ?_
          first | refine r_iaddN C dX9_tryAllRows_59 ?_ | refine r_iadd C dX9_tryAllRows_59 ?_
          refine q_aald (m := 6) (t := 1) C dX9_tryAllRows_60 ok36 rfl (by decide) rfl (by omega) rfl ?_
          refine r_aload_n C dX9_tryAllRows_61 rfl ?_
          refine r_getR C flX9_11 dX9_tryAllRows_62 ok9 rfl rfl ?_
          refine r_iload C dX9_tryAllRows_65 rfl ?_
          refine q_aald (m := 6) (t := 1) C dX9_tryAllRows_67 ok36 rfl (by decide) rfl (by omega) rfl ?_
          have hC : 23 + (d + 1) < 29 := by omega
          refine r_callV C (c_campBecome (by omega) (by omega) (by omega) (hce d (Nat.le_refl _))) dX9_tryAllRows_68 cw_X1_become cvX9_38 (by omega) (Ok.full (by decide) hC) rfl hN rfl (Nat.le_of_ble_eq_true rfl) ?_
          rintro v R' h3 ⟨rfl, rfl, hc3, hf3⟩
          refine r_aload_n C dX9_tryAllRows_71 rfl ?_
          refine r_getR C flX9_11 dX9_tryAllRows_72 ok9 rfl rfl ?_
          refine r_iload C dX9_tryAllRows_75 rfl ?_
          refine r_iconst (v := (nI 1)) C dX9_tryAllRows_77 (by decide) ?_
          first | refine r_iaddN C dX9_tryAllRows_78 ?_ | refine r_iadd C dX9_tryAllRows_78 ?_
          refine q_aald (m := 6) (t := 1) C dX9_tryAllRows_79 ok36 rfl (by decide) rfl (by omega) rfl ?_
          refine r_aload_n C dX9_tryAllRows_80 rfl ?_
          refine r_iload C dX9_tryAllRows_81 rfl ?_
          refine r_iload C dX9_tryAllRows_83 rfl ?_
          refine r_iload C dX9_tryAllRows_85 rfl ?_
          refine r_callS C (c_rationOf (by omega) hn (by omega)) dX9_tryAllRows_87 cw_X9_rationOf csX9_45 (by omega) rfl hN rfl (Nat.le_of_ble_eq_true rfl) ?_
          rintro v R' h4 ⟨rfl, rfl, rfl⟩
          have ht4 := ht.fr (hf2.tr (hf3.wk sC_sTr)) sTr_twn
          refine r_callV C (c_eatADay hC hT ht4 hc3) dX9_tryAllRows_90 cw_X1_eatADay cvX9_49 (by omega) (Ok.full (by decide) hC) rfl hN rfl (Nat.le_of_ble_eq_true rfl) ?_
          rintro v R' h5 ⟨rfl, rfl, hc5, hf5⟩
          have hff := hf3.tr hf5
          first | refine r_iincN C dX9_tryAllRows_93 rfl st6 ?_ | refine r_iinc C dX9_tryAllRows_93 rfl rfl st6 ?_
          refine r_goto C dX9_tryAllRows_96 ?_
          refine ih2 (d + 1) h5 (by omega) (fun e he => ?_) ?_ (hf2.tr (hff.wk sC_sTr))
          · by_cases e1 : e = d + 1
            · subst e1
              exact hc5.1
            · exact (hce e (by omega)).fr hff (sC_ne (by omega)) (sC_ne (by omega)) (sC_ne (by omega))
          · exact ⟨by rw [hff 9 0 rfl]; exact hb2.1, by rw [hff 9 0 rfl]; exact hb2.2.1, by rw [hff 9 0 rfl]; exact hb2.2.2⟩
      refine inner (n - fdF n r (n - 1)) (fdF n r (n - 1)) _ (by omega) (fun e he => ?_) hb hf
      by_cases hr0 : r = 0
      · subst hr0
        rw [dg_zero] at he
        have e0 : e = 0 := by omega
        subst e0
        exact hc23
      · have h2 := hcs (by omega) e (by omega)
        rw [← rowS_same (N := N) (T := T) (s := s) (fun d hd => dg_same n (by omega) r (by omega) (by omega) d hd) e he] at h2
        exact h2
  exact outer (4 ^ n) 0 h0 (by omega) hc0 (fun z => absurd z (by omega)) B0 F0
def fdsF (N : Nat → Nat) (T : Tv) (q : Int32) : Nat → Sv → Int32
  | 0, _ => -1
  | k + 1, s => if (edayF N T q s).2.2 = -1 then fdsF N T q k (edayF N T q s).1 else (edayF N T q s).2.2
def hdF (N : Nat → Nat) (T : Tv) (q : Int32) : Nat → Sv → Nat
  | 0, _ => 0
  | k + 1, s => if msum s 5 ≤ 0 then 0 else hdF N T q k (edayF N T q s).1 + 1
set_option maxRecDepth 100000 in
set_option maxHeartbeats 4000000 in
theorem c_firstDeserter {E : Ev} {a b t : Nat} {h : HF} {N : Nat → Nat} {T : Tv} {s : Sv} {q : Int32} (hT : t < 2) (ht : twn h t N T) (hc : cmp h 0 s) : Ct E 3 yX9_firstDeserter cX9_firstDeserter 6 (some .int) [aR 9 0, aR 8 t, aR 1 0, aI q] 243 (Rs a b) h 243 (fun v R' h' => v = some (aI (fdsF N T q 60 s)) ∧ R' = Rs a b ∧ Fr sTr h h') := by
  refine Ct.of 2 (L0 := [some (aR 9 0), some (aR 8 t), some (aR 1 0), some (aI q), none, none]) (by decide) ⟨Nat.le_refl _, Nat.le_refl _⟩ rfl rfl ?_
  intro G C hg hrt hnm
  have hN : gn G ≤ 243 ∧ 243 ≤ 243 ∧ 243 ≤ 243 := ⟨by omega, by decide, by decide⟩
  have hC : 23 + 0 < 29 := by decide
  refine r_aload_n C dX9_firstDeserter_0 rfl ?_
  refine r_getR C flX9_11 dX9_firstDeserter_1 ok9 rfl rfl ?_
  refine r_iconst (v := (nI 0)) C dX9_firstDeserter_4 (by decide) ?_
  refine q_aald (m := 6) (t := 1) C dX9_firstDeserter_5 ok36 rfl (by decide) rfl (by omega) rfl ?_
  refine r_astore C dX9_firstDeserter_6 st4 ?_
  refine r_aload C dX9_firstDeserter_8 rfl ?_
  refine r_aload_n C dX9_firstDeserter_10 rfl ?_
  refine r_callV C (c_campBecome (by decide) (by decide) (by decide) hc) dX9_firstDeserter_11 cw_X1_become cvX9_38 (by omega) (Ok.full (by decide) hC) rfl hN rfl (Nat.le_of_ble_eq_true rfl) ?_
  rintro v R' h0 ⟨rfl, rfl, hc0, hf0⟩
  refine r_iconst (v := (nI 0)) C dX9_firstDeserter_14 (by decide) ?_
  refine r_istore C dX9_firstDeserter_15 st5 ?_
  have loop : ∀ k i hh s', i + k = 60 → cmp hh (23 + 0) s' → fdsF N T q k s' = fdsF N T q 60 s → Fr sTr h hh →
      Wa E G 243 (Rs a b) hh (QQ E G 243 (fun v R' h' => v = some (aI (fdsF N T q 60 s)) ∧ R' = Rs a b ∧ Fr sTr h h')) 17 [some (aR 9 0), some (aR 8 t), some (aR 1 0), some (aI q), some (aR 1 (23 + 0)), some (aI (nI i))] [] := by
    intro k
    induction k with
    | zero =>
      intro i hh s' hi hcm he hf
      refine r_iload C dX9_firstDeserter_17 rfl ?_
      refine r_bipush (v := (nI 60)) C dX9_firstDeserter_19 (by decide) ?_
      refine r_icmpN_ge C dX9_firstDeserter_21 (by omega) (by omega) (fun _ => ?_) (fun cc => absurd cc (by omega))
      refine r_iconst (v := (-1)) C dX9_firstDeserter_52 (by decide) ?_
      refine r_iret C hrt dX9_firstDeserter_53 ?_
      rw [← he]
      exact ⟨rfl, rfl, hf⟩
    | succ k ih =>
      intro i hh s' hi hcm he hf
      rw [fdsF] at he
      refine r_iload C dX9_firstDeserter_17 rfl ?_
      refine r_bipush (v := (nI 60)) C dX9_firstDeserter_19 (by decide) ?_
      refine r_icmpN_ge C dX9_firstDeserter_21 (by omega) (by omega) (fun cc => absurd cc (by omega)) (fun _ => ?_)
      refine r_aload C dX9_firstDeserter_24 rfl ?_
      refine r_aload_n C dX9_firstDeserter_26 rfl ?_
      refine r_iload_n C dX9_firstDeserter_27 rfl ?_
      refine r_callV C (c_eatADay hC hT (ht.fr hf sTr_twn) hcm) dX9_firstDeserter_28 cw_X1_eatADay cvX9_49 (by omega) (Ok.full (by decide) hC) rfl hN rfl (Nat.le_of_ble_eq_true rfl) ?_
      rintro v R' h1 ⟨rfl, rfl, hc1, hf1⟩
      refine r_aload C dX9_firstDeserter_31 rfl ?_
      refine q_getV C flX9_64 dX9_firstDeserter_33 (Ok.full (by decide) hC) rfl hc1.2.2 ?_
      refine r_iconst (v := (-1)) C dX9_firstDeserter_36 (by decide) ?_
      refine r_icmp_eq C dX9_firstDeserter_37 (fun c37 => ?_) (fun c37 => ?_)
      · rw [if_pos c37] at he
        first | refine r_iincN C dX9_firstDeserter_46 rfl st5 ?_ | refine r_iinc C dX9_firstDeserter_46 rfl rfl st5 ?_
        refine r_goto C dX9_firstDeserter_49 ?_
        exact ih (i + 1) h1 _ (by omega) hc1.1 he (hf.tr (hf1.wk sC_sTr))
      · rw [if_neg c37] at he
        refine r_aload C dX9_firstDeserter_40 rfl ?_
        refine q_getV C flX9_64 dX9_firstDeserter_42 (Ok.full (by decide) hC) rfl hc1.2.2 ?_
        refine r_iret C hrt dX9_firstDeserter_45 ?_
        rw [← he]
        exact ⟨rfl, rfl, hf.tr (hf1.wk sC_sTr)⟩
  exact loop 60 0 h0 s (by omega) hc0 rfl (hf0.wk sC_sTr)
set_option maxRecDepth 100000 in
set_option maxHeartbeats 4000000 in
theorem c_daysWithMen {E : Ev} {a b t : Nat} {h : HF} {N : Nat → Nat} {T : Tv} {s : Sv} {q : Int32} (hT : t < 2) (ht : twn h t N T) (hc : cmp h 0 s) : Ct E 3 yX9_daysWithMen cX9_daysWithMen 6 (some .int) [aR 9 0, aR 8 t, aR 1 0, aI q] 243 (Rs a b) h 243 (fun v R' h' => v = some (aI (nI (hdF N T q 60 s))) ∧ R' = Rs a b ∧ Fr sTr h h') := by
  refine Ct.of 2 (L0 := [some (aR 9 0), some (aR 8 t), some (aR 1 0), some (aI q), none, none]) (by decide) ⟨Nat.le_refl _, Nat.le_refl _⟩ rfl rfl ?_
  intro G C hg hrt hnm
  have hN : gn G ≤ 243 ∧ 243 ≤ 243 ∧ 243 ≤ 243 := ⟨by omega, by decide, by decide⟩
  have hC : 23 + 0 < 29 := by decide
  refine r_aload_n C dX9_daysWithMen_0 rfl ?_
  refine r_getR C flX9_11 dX9_daysWithMen_1 ok9 rfl rfl ?_
  refine r_iconst (v := (nI 0)) C dX9_daysWithMen_4 (by decide) ?_
  refine q_aald (m := 6) (t := 1) C dX9_daysWithMen_5 ok36 rfl (by decide) rfl (by omega) rfl ?_
  refine r_astore C dX9_daysWithMen_6 st4 ?_
  refine r_aload C dX9_daysWithMen_8 rfl ?_
  refine r_aload_n C dX9_daysWithMen_10 rfl ?_
  refine r_callV C (c_campBecome (by decide) (by decide) (by decide) hc) dX9_daysWithMen_11 cw_X1_become cvX9_38 (by omega) (Ok.full (by decide) hC) rfl hN rfl (Nat.le_of_ble_eq_true rfl) ?_
  rintro v R' h0 ⟨rfl, rfl, hc0, hf0⟩
  refine r_iconst (v := (nI 0)) C dX9_daysWithMen_14 (by decide) ?_
  refine r_istore C dX9_daysWithMen_15 st5 ?_
  have loop : ∀ k i hh s', i + k = 60 → cmp hh (23 + 0) s' → i + hdF N T q k s' = hdF N T q 60 s → Fr sTr h hh →
      Wa E G 243 (Rs a b) hh (QQ E G 243 (fun v R' h' => v = some (aI (nI (hdF N T q 60 s))) ∧ R' = Rs a b ∧ Fr sTr h h')) 17 [some (aR 9 0), some (aR 8 t), some (aR 1 0), some (aI q), some (aR 1 (23 + 0)), some (aI (nI i))] [] := by
    intro k
    induction k with
    | zero =>
      intro i hh s' hi hcm he hf
      refine r_iload C dX9_daysWithMen_17 rfl ?_
      refine r_bipush (v := (nI 60)) C dX9_daysWithMen_19 (by decide) ?_
      refine r_icmpN_ge C dX9_daysWithMen_21 (by omega) (by omega) (fun _ => ?_) (fun cc => absurd cc (by omega))
      refine r_iload C dX9_daysWithMen_45 rfl ?_
      refine r_iret C hrt dX9_daysWithMen_47 ?_
      rw [← he]
      exact ⟨rfl, rfl, hf⟩
    | succ k ih =>
      intro i hh s' hi hcm he hf
      rw [hdF] at he
      refine r_iload C dX9_daysWithMen_17 rfl ?_
      refine r_bipush (v := (nI 60)) C dX9_daysWithMen_19 (by decide) ?_
      refine r_icmpN_ge C dX9_daysWithMen_21 (by omega) (by omega) (fun cc => absurd cc (by omega)) (fun _ => ?_)
      refine r_aload C dX9_daysWithMen_24 rfl ?_
      refine r_callV C (c_menOfAll hC hcm) dX9_daysWithMen_26 cw_X1_menOfAll cvX9_57 (by omega) (Ok.full (by decide) hC) rfl hN rfl (Nat.le_of_ble_eq_true rfl) ?_
      rintro v R' h1 ⟨rfl, rfl, rfl⟩
      refine r_if_le C dX9_daysWithMen_29 (fun c29 => ?_) (fun c29 => ?_)
      · rw [if_pos c29] at he
        refine r_iload C dX9_daysWithMen_45 rfl ?_
        refine r_iret C hrt dX9_daysWithMen_47 ?_
        rw [← he]
        exact ⟨rfl, rfl, hf⟩
      · rw [if_neg c29] at he
        refine r_aload C dX9_daysWithMen_32 rfl ?_
        refine r_aload_n C dX9_daysWithMen_34 rfl ?_
        refine r_iload_n C dX9_daysWithMen_35 rfl ?_
        refine r_callV C (c_eatADay hC hT (ht.fr hf sTr_twn) hcm) dX9_daysWithMen_36 cw_X1_eatADay cvX9_49 (by omega) (Ok.full (by decide) hC) rfl hN rfl (Nat.le_of_ble_eq_true rfl) ?_
        rintro v R' h2 ⟨rfl, rfl, hc2, hf2⟩
        first | refine r_iincN C dX9_daysWithMen_39 rfl st5 ?_ | refine r_iinc C dX9_daysWithMen_39 rfl rfl st5 ?_
        refine r_goto C dX9_daysWithMen_42 ?_
        exact ih (i + 1) h2 _ (by omega) hc2.1 (by omega) (hf.tr (hf2.wk sC_sTr))
  exact loop 60 0 h0 s (by omega) hc0 (by omega) (hf0.wk sC_sTr)
