/-! THE TEXT, pure: letters X 0 .. X (n - 1) -/
def skF (X : Nat → Int32) : Nat → Nat → Nat
  | 0, p => p
  | r + 1, p => if X p = nI 32 then skF X r (p + 1) else p
theorem skF_b (X : Nat → Int32) : ∀ r p, p ≤ skF X r p ∧ skF X r p ≤ p + r
  | 0, p => ⟨Nat.le_refl _, Nat.le_refl _⟩
  | r + 1, p => by
    have := skF_b X r (p + 1)
    unfold skF
    split <;> omega
def skN (X : Nat → Int32) (n p : Nat) : Nat := skF X (n - p) p
theorem skN_b {X : Nat → Int32} {n p : Nat} (h : p ≤ n) : p ≤ skN X n p ∧ skN X n p ≤ n := by
  have := skF_b X (n - p) p
  unfold skN
  omega
def nmF (X : Nat → Int32) (st : Nat) : Nat → Nat → Int32 → Nat × Int32
  | 0, p, v => (p, v)
  | r + 1, p, v => if nI 48 ≤ X p ∧ X p ≤ nI 57 then nmF X st r (p + 1) (if p - st < 3 then v * nI 10 + X p - nI 48 else v) else (p, v)
theorem nmF_b (X : Nat → Int32) (st : Nat) : ∀ r p v, p ≤ (nmF X st r p v).1 ∧ (nmF X st r p v).1 ≤ p + r
  | 0, p, v => ⟨Nat.le_refl _, Nat.le_refl _⟩
  | r + 1, p, v => by
    rw [nmF]
    split
    · have := nmF_b X st r (p + 1) (if p - st < 3 then v * nI 10 + X p - nI 48 else v)
      omega
    · exact ⟨Nat.le_refl _, Nat.le_add_right _ _⟩
/-- a number read from p: (behind it, its value, its fault, the fault's place) -/
def rdn (X : Nat → Int32) (n p : Nat) (lo hi : Int32) : Nat × Int32 × Nat × Nat :=
  if (nmF X (skN X n p) (n - skN X n p) (skN X n p) (nI 0)).1 = skN X n p then (skN X n p, (nmF X (skN X n p) (n - skN X n p) (skN X n p) (nI 0)).2, 1, skN X n p)
  else if (nmF X (skN X n p) (n - skN X n p) (skN X n p) (nI 0)).1 - skN X n p ≤ 3 ∧ lo ≤ (nmF X (skN X n p) (n - skN X n p) (skN X n p) (nI 0)).2 ∧ (nmF X (skN X n p) (n - skN X n p) (skN X n p) (nI 0)).2 ≤ hi
  then ((nmF X (skN X n p) (n - skN X n p) (skN X n p) (nI 0)).1, (nmF X (skN X n p) (n - skN X n p) (skN X n p) (nI 0)).2, 0, 0)
  else ((nmF X (skN X n p) (n - skN X n p) (skN X n p) (nI 0)).1, (nmF X (skN X n p) (n - skN X n p) (skN X n p) (nI 0)).2, 2, skN X n p)
theorem rdn_b {X : Nat → Int32} {n p : Nat} {lo hi : Int32} (h : p ≤ n) : p ≤ (rdn X n p lo hi).1 ∧ (rdn X n p lo hi).1 ≤ n ∧ (rdn X n p lo hi).2.2.1 ≤ 2 ∧ ((rdn X n p lo hi).2.2.2 ≤ n) := by
  have h1 := skN_b (X := X) h
  have h2 := nmF_b X (skN X n p) (n - skN X n p) (skN X n p) (nI 0)
  unfold rdn
  split
  · exact ⟨h1.1, h1.2, (show (1 : Nat) ≤ 2 by decide), h1.2⟩
  · split
    · exact ⟨by show p ≤ (nmF _ _ _ _ _).1; omega, by show (nmF _ _ _ _ _).1 ≤ n; omega, (show (0 : Nat) ≤ 2 by decide), Nat.zero_le _⟩
    · exact ⟨by show p ≤ (nmF _ _ _ _ _).1; omega, by show (nmF _ _ _ _ _).1 ≤ n; omega, (show (2 : Nat) ≤ 2 by decide), h1.2⟩
/-- where i numbers of a clause end; what is read of the i-th -/
def rpF (X : Nat → Int32) (n cl p : Nat) : Nat → Nat
  | 0 => p
  | i + 1 => (rdn X n (rpF X n cl p i) (lowV.getD (cl * 3 + i) 0) (higV.getD (cl * 3 + i) 0)).1
def rrF (X : Nat → Int32) (n cl p i : Nat) : Nat × Int32 × Nat × Nat := rdn X n (rpF X n cl p i) (lowV.getD (cl * 3 + i) 0) (higV.getD (cl * 3 + i) 0)
theorem rpF_b {X : Nat → Int32} {n cl p : Nat} (h : p ≤ n) : ∀ i, p ≤ rpF X n cl p i ∧ rpF X n cl p i ≤ n
  | 0 => ⟨Nat.le_refl _, h⟩
  | i + 1 => by
    have h1 := rpF_b h (cl := cl) (X := X) i
    have h2 := rdn_b (X := X) (lo := lowV.getD (cl * 3 + i) 0) (hi := higV.getD (cl * 3 + i) 0) h1.2
    exact ⟨Nat.le_trans h1.1 h2.1, h2.2.1⟩
/-- the first fault of k numbers from the i-th on -/
def ffF (X : Nat → Int32) (n cl p : Nat) : Nat → Nat → Nat × Nat
  | 0, _ => (0, 0)
  | k + 1, i => if (rrF X n cl p i).2.2.1 = 0 then ffF X n cl p k (i + 1) else (rrF X n cl p i).2.2
def nosF (cl : Nat) : Nat := match cl with
  | 0 => 2
  | 1 => 3
  | 2 => 3
  | 3 => 1
  | _ => 2
def ccF (x : Int32) : Nat := if x = nI 116 then 0 else if x = nI 99 then 1 else if x = nI 109 then 2 else if x = nI 103 then 3 else if x = nI 104 then 4 else 5
def fulF (N : Nat → Nat) (cl : Nat) : Bool := match cl with
  | 0 => decide (N 4 ≠ 0)
  | 1 => decide (5 ≤ N 0)
  | 2 => decide (4 ≤ N 1)
  | 3 => decide (6 ≤ N 2)
  | _ => decide (4 ≤ N 3)
def tup (T : Tv) (r i : Nat) (x : Int32) : Tv := fun r' i' => if r' = r then (if i' = i then x else T r' i') else T r' i'
def addN (N : Nat → Nat) (cl : Nat) : Nat → Nat := match cl with
  | 0 => va_up N 4 1
  | 1 => va_up N 0 (N 0 + 1)
  | 2 => va_up N 1 (N 1 + 1)
  | 3 => va_up N 2 (N 2 + 1)
  | _ => va_up N 3 (N 3 + 1)
def addT (N : Nat → Nat) (T : Tv) (V : Nat → Int32) (cl : Nat) : Tv := match cl with
  | 0 => tup (tup T 9 0 (V 0)) 9 1 (V 1)
  | 1 => tup (tup (tup T 7 (N 0) (V 0)) 0 (N 0) (V 1)) 1 (N 0) (V 2)
  | 2 => tup (tup (tup T 8 (N 1) (V 0)) 2 (N 1) (V 1)) 3 (N 1) (V 2)
  | 3 => tup T 4 (N 2) (V 0)
  | _ => tup (tup T 5 (N 3) (V 0)) 6 (N 3) (V 1)
abbrev Pr : Type := Nat × (Nat → Nat) × Tv × Nat × Nat
/-- behind the numbers of a clause -/
def endF (X : Nat → Int32) (n cl p : Nat) : Nat := skN X n (rpF X n cl p (nosF cl))
def clsF (X : Nat → Int32) (n p : Nat) (N : Nat → Nat) (T : Tv) : Pr :=
  if ccF (X p) = 5 ∨ (N 4 = 0 ∧ ccF (X p) ≠ 0) then (p, N, T, 1, p)
  else if fulF N (ccF (X p)) = true then (p, N, T, 3, p)
  else if (ffF X n (ccF (X p)) (p + 1) (nosF (ccF (X p))) 0).1 ≠ 0 then (p, N, T, ffF X n (ccF (X p)) (p + 1) (nosF (ccF (X p))) 0)
  else if endF X n (ccF (X p)) (p + 1) < n ∧ X (endF X n (ccF (X p)) (p + 1)) = nI 59 then (endF X n (ccF (X p)) (p + 1) + 1, addN N (ccF (X p)), addT N T (fun i => (rrF X n (ccF (X p)) (p + 1) i).2.1) (ccF (X p)), 0, 0)
  else (p, N, T, 1, endF X n (ccF (X p)) (p + 1))
theorem clsF_b {X : Nat → Int32} {n p : Nat} {N : Nat → Nat} {T : Tv} (hp : p < n) (h0 : (clsF X n p N T).2.2.2.1 = 0) : p < (clsF X n p N T).1 ∧ (clsF X n p N T).1 ≤ n := by
  unfold clsF at h0 ⊢
  split at h0
  · exact absurd h0 (show ¬ (1 : Nat) = 0 by decide)
  · next c1 =>
    rw [if_neg c1]
    split at h0
    · exact absurd h0 (show ¬ (3 : Nat) = 0 by decide)
    · next c2 =>
      rw [if_neg c2]
      split at h0
      · next c3 => exact absurd h0 c3
      · next c3 =>
        rw [if_neg c3]
        split at h0
        · next c4 =>
          rw [if_pos c4]
          have h1 := rpF_b (X := X) (cl := ccF (X p)) (show p + 1 ≤ n by omega) (nosF (ccF (X p)))
          have h2 := skN_b (X := X) h1.2
          show p < endF X n (ccF (X p)) (p + 1) + 1 ∧ endF X n (ccF (X p)) (p + 1) + 1 ≤ n
          have h3 : endF X n (ccF (X p)) (p + 1) = skN X n (rpF X n (ccF (X p)) (p + 1) (nosF (ccF (X p)))) := rfl
          omega
        · exact absurd h0 (show ¬ (1 : Nat) = 0 by decide)
def prF (X : Nat → Int32) (n : Nat) : Nat → Nat → (Nat → Nat) → Tv → (Nat → Nat) × Tv × Nat × Nat
  | 0, _, N, T => (N, T, 0, 0)
  | f + 1, p, N, T => if p < n then (if (clsF X n p N T).2.2.2.1 = 0 then prF X n f (skN X n (clsF X n p N T).1) (clsF X n p N T).2.1 (clsF X n p N T).2.2.1 else (N, T, (clsF X n p N T).2.2.2)) else (N, T, 0, 0)
def parseF (X : Nat → Int32) (n : Nat) : (Nat → Nat) × Tv × Nat × Nat := prF X n 240 (skN X n 0) (fun _ => 0) (fun _ _ => nI 0)
/-! the class's reader -/
def rdp (h : HF) (p ft : Nat) (pl : Int32) : Prop := h 4 0 1 = nI p ∧ h 4 0 2 = nI ft ∧ h 4 0 3 = pl
def s4 : Nat → Nat → Bool := fun k _ => k == 4
theorem txp.fr {S : Nat → Nat → Bool} {h h' : HF} {n : Nat} {X : Nat → Int32} (f : Fr S h h') (h1 : S 7 0 = false) (h2 : S 26 0 = false) (c : txp h n X) : txp h' n X := by
  unfold txp
  rw [f 7 0 h1, f 26 0 h2]
  exact c
set_option maxRecDepth 100000 in
set_option maxHeartbeats 4000000 in
theorem c_isWithin {E : Ev} {a b : Nat} {h : HF} {x lo hi : Int32} : Ct E 0 yX10_isWithin cX10_isWithin 3 (some .boolean) [aI x, aI lo, aI hi] 243 (Rs a b) h 243 (fun v R' h' => v = some (aI (if lo ≤ x ∧ x ≤ hi then nI 1 else nI 0)) ∧ R' = Rs a b ∧ h' = h) := by
  refine Ct.of 0 (L0 := [some (aI x), some (aI lo), some (aI hi)]) (by decide) ⟨Nat.le_refl _, Nat.le_refl _⟩ rfl rfl ?_
  intro G C hg hrt hnm
  have hN : gn G ≤ 243 ∧ 243 ≤ 243 ∧ 243 ≤ 243 := ⟨by omega, by decide, by decide⟩
  refine r_iload_n C dX10_isWithin_0 rfl ?_
  refine r_iload_n C dX10_isWithin_1 rfl ?_
  refine r_icmp_gt C dX10_isWithin_2 (fun c2 => ?_) (fun c2 => ?_)
  · refine r_iconst (v := (nI 0)) C dX10_isWithin_14 (by decide) ?_
    refine r_zret C hrt dX10_isWithin_15 (by decide) ?_
    rw [if_neg (fun z => absurd c2 (Int32.not_lt.mpr z.1))]
    exact ⟨rfl, rfl, rfl⟩
  · refine r_iload_n C dX10_isWithin_5 rfl ?_
    refine r_iload_n C dX10_isWithin_6 rfl ?_
    refine r_icmp_gt C dX10_isWithin_7 (fun c7 => ?_) (fun c7 => ?_)
    · refine r_iconst (v := (nI 0)) C dX10_isWithin_14 (by decide) ?_
      refine r_zret C hrt dX10_isWithin_15 (by decide) ?_
      rw [if_neg (fun z => absurd c7 (Int32.not_lt.mpr z.2))]
      exact ⟨rfl, rfl, rfl⟩
    · refine r_iconst (v := (nI 1)) C dX10_isWithin_10 (by decide) ?_
      refine r_goto C dX10_isWithin_11 ?_
      refine r_zret C hrt dX10_isWithin_15 (by decide) ?_
      rw [if_pos ⟨Int32.not_lt.mp c2, Int32.not_lt.mp c7⟩]
      exact ⟨rfl, rfl, rfl⟩
set_option maxRecDepth 100000 in
set_option maxHeartbeats 4000000 in
theorem c_isFigure {E : Ev} {a b : Nat} {h : HF} {x : Int32} : Ct E 1 yX4_isFigure cX4_isFigure 1 (some .boolean) [aI x] 243 (Rs a b) h 243 (fun v R' h' => v = some (aI (if nI 48 ≤ x ∧ x ≤ nI 57 then nI 1 else nI 0)) ∧ R' = Rs a b ∧ h' = h) := by
  refine Ct.of 0 (L0 := [some (aI x)]) (by decide) ⟨Nat.le_refl _, Nat.le_refl _⟩ rfl rfl ?_
  intro G C hg hrt hnm
  have hN : gn G ≤ 243 ∧ 243 ≤ 243 ∧ 243 ≤ 243 := ⟨by omega, by decide, by decide⟩
  refine r_iload_n C dX4_isFigure_0 rfl ?_
  refine r_bipush (v := (nI 48)) C dX4_isFigure_1 (by decide) ?_
  refine r_bipush (v := (nI 57)) C dX4_isFigure_3 (by decide) ?_
  refine r_callSN C c_isWithin dX4_isFigure_5 cw_X10_isWithin cnX4_89 (by omega) rfl hN rfl (Nat.le_of_ble_eq_true rfl) ?_
  rintro v R' h1 ⟨rfl, rfl, rfl⟩
  refine r_zret C hrt dX4_isFigure_8 (by split <;> decide) ?_
  exact ⟨rfl, rfl, rfl⟩
set_option maxRecDepth 100000 in
set_option maxHeartbeats 4000000 in
theorem c_setFault {E : Ev} {a b p ft num whr : Nat} {h : HF} {pl : Int32} (hr : rdp h p ft pl) (hft : ft < 4) : Ct E 0 yX4_setFault cX4_setFault 3 none [aR 4 0, aI (nI num), aI (nI whr)] 243 (Rs a b) h 243 (fun v R' h' => v = none ∧ R' = Rs a b ∧ rdp h' p (if ft = 0 then num else ft) (if ft = 0 then nI whr else pl) ∧ Fr s4 h h') := by
  refine Ct.of 0 (L0 := [some (aR 4 0), some (aI (nI num)), some (aI (nI whr))]) (by decide) ⟨Nat.le_refl _, Nat.le_refl _⟩ rfl rfl ?_
  intro G C hg hrt hnm
  have hN : gn G ≤ 243 ∧ 243 ≤ 243 ∧ 243 ≤ 243 := ⟨by omega, by decide, by decide⟩
  refine r_aload_n C dX4_setFault_0 rfl ?_
  refine q_getV C flX4_19 dX4_setFault_1 ok4 rfl hr.2.1 ?_
  by_cases hz : ft = 0
  · subst hz
    refine r_if_ne C dX4_setFault_4 (fun cc => absurd cc (by decide)) (fun _ => ?_)
    refine r_aload_n C dX4_setFault_7 rfl ?_
    refine r_iload_n C dX4_setFault_8 rfl ?_
    refine r_putI C flX4_19 dX4_setFault_9 ok4 rfl ⟨rfl, rfl⟩ ?_
    refine r_aload_n C dX4_setFault_12 rfl ?_
    refine r_iload_n C dX4_setFault_13 rfl ?_
    refine r_putI C flX4_22 dX4_setFault_14 ok4 rfl ⟨rfl, rfl⟩ ?_
    refine r_vret C hrt dX4_setFault_17 ?_
    exact ⟨rfl, rfl, ⟨hr.1, by rw [put_i (by decide), put_same, if_pos rfl], by rw [put_same, if_pos rfl]⟩, Fr.put (Fr.put Fr.rf rfl) rfl⟩
  · refine r_if_ne C dX4_setFault_4 (fun _ => ?_) (fun cc => absurd cc (by exact fun z => nI_ne0 (by omega) (by omega) z))
    refine r_vret C hrt dX4_setFault_17 ?_
    rw [if_neg hz, if_neg hz]
    exact ⟨rfl, rfl, hr, Fr.rf⟩
set_option maxRecDepth 100000 in
set_option maxHeartbeats 4000000 in
theorem c_skipBlanks {E : Ev} {a b n p ft : Nat} {h : HF} {X : Nat → Int32} {pl : Int32} (hx : txp h n X) (hr : rdp h p ft pl) (hp : p ≤ n) : Ct E 0 yX4_skipBlanks cX4_skipBlanks 2 none [aR 4 0, aR 7 0] 243 (Rs a b) h 243 (fun v R' h' => v = none ∧ R' = Rs a b ∧ rdp h' (skN X n p) ft pl ∧ Fr s4 h h') := by
  refine Ct.of 0 (L0 := [some (aR 4 0), some (aR 7 0)]) (by decide) ⟨Nat.le_refl _, Nat.le_refl _⟩ rfl rfl ?_
  intro G C hg hrt hnm
  have hN : gn G ≤ 243 ∧ 243 ≤ 243 ∧ 243 ≤ 243 := ⟨by omega, by decide, by decide⟩
  have hn := hx.2.1
  have loop : ∀ k q hh, q + k = n → rdp hh q ft pl → skF X k q = skN X n p → Fr s4 h hh → Wa E G 243 (Rs a b) hh (QQ E G 243 (fun v R' h' => v = none ∧ R' = Rs a b ∧ rdp h' (skN X n p) ft pl ∧ Fr s4 h h')) 0 [some (aR 4 0), some (aR 7 0)] [] := by
    intro k
    induction k with
    | zero =>
      intro q hh hq hr he hf
      have hx2 := hx.fr hf rfl rfl
      refine r_aload_n C dX4_skipBlanks_0 rfl ?_
      refine q_getV C flX4_15 dX4_skipBlanks_1 ok4 rfl hr.1 ?_
      refine r_aload_n C dX4_skipBlanks_4 rfl ?_
      refine q_getV C flX4_34 dX4_skipBlanks_5 ok7 rfl hx2.1 ?_
      refine r_icmpN_ge C dX4_skipBlanks_8 (by omega) (by omega) (fun _ => ?_) (fun cc => absurd cc (by omega))
      refine r_vret C hrt dX4_skipBlanks_38 ?_
      rw [← he]
      exact ⟨rfl, rfl, hr, hf⟩
    | succ k ih =>
      intro q hh hq hr he hf
      have hx2 := hx.fr hf rfl rfl
      rw [skF] at he
      refine r_aload_n C dX4_skipBlanks_0 rfl ?_
      refine q_getV C flX4_15 dX4_skipBlanks_1 ok4 rfl hr.1 ?_
      refine r_aload_n C dX4_skipBlanks_4 rfl ?_
      refine q_getV C flX4_34 dX4_skipBlanks_5 ok7 rfl hx2.1 ?_
      refine r_icmpN_ge C dX4_skipBlanks_8 (by omega) (by omega) (fun cc => absurd cc (by omega)) (fun _ => ?_)
      refine r_aload_n C dX4_skipBlanks_11 rfl ?_
      refine r_getR C flX4_43 dX4_skipBlanks_12 ok7 rfl rfl ?_
      refine r_aload_n C dX4_skipBlanks_15 rfl ?_
      refine q_getV C flX4_15 dX4_skipBlanks_16 ok4 rfl hr.1 ?_
      refine q_ialdV (m := 240) C dX4_skipBlanks_19 ok26 rfl rfl (by omega) (hx2.2.2 q (by omega)) ?_
      refine r_bipush (v := (nI 32)) C dX4_skipBlanks_20 (by decide) ?_
      refine r_icmp_ne C dX4_skipBlanks_22 (fun c22 => ?_) (fun c22 => ?_)
      · rw [if_neg c22] at he
        refine r_vret C hrt dX4_skipBlanks_38 ?_
        rw [← he]
        exact ⟨rfl, rfl, hr, hf⟩
      · rw [if_pos c22] at he
        refine r_aload_n C dX4_skipBlanks_25 rfl ?_
        refine r_dup C dX4_skipBlanks_26 rfl ?_
        refine q_getV C flX4_15 dX4_skipBlanks_27 ok4 rfl hr.1 ?_
        refine r_iconst (v := (nI 1)) C dX4_skipBlanks_30 (by decide) ?_
        first | refine r_iaddN C dX4_skipBlanks_31 ?_ | refine r_iadd C dX4_skipBlanks_31 ?_
        refine r_putI C flX4_15 dX4_skipBlanks_32 ok4 rfl ⟨rfl, rfl⟩ ?_
        refine r_goto C dX4_skipBlanks_35 ?_
        exact ih (q + 1) _ (by omega) ⟨put_same, hr.2.1, hr.2.2⟩ he (Fr.put hf rfl)
  exact loop (n - p) p h (by omega) hr rfl Fr.rf
