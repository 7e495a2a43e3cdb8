def rfdF (g : Gs) (q n : Int32) : Int32 := if (ixO q 4).isSome = true ∧ (nI 1 ≤ n ∧ n ≤ nI 30) then (if bsB (gNn g) (gSv g) = true then (if gSv g 2 ≤ nI 9000 then nI 0 else cF) else cN) else cO
set_option maxRecDepth 100000 in
set_option maxHeartbeats 4000000 in
theorem c_refusalOfDays {E : Ev} {a b : Nat} {h : HF} {g : Gs} {q n : Int32} (ha : a < 2) (hc : CP h a g) : Ct E 2 yX10_refusalOfDays cX10_refusalOfDays 3 (some .int) [aR 10 0, aI q, aI n] 243 (Rs a b) h 243 (qst a b h (rfdF g q n)) := by
  refine Ct.of 0 (L0 := [some (aR 10 0), some (aI q), some (aI n)]) (by decide) ⟨Nat.le_refl _, Nat.le_refl _⟩ rfl rfl ?_
  intro G C hg hrt hnm
  have hN : gn G ≤ 243 ∧ 243 ≤ 243 ∧ 243 ≤ 243 := ⟨by omega, by decide, by decide⟩
  have hS : 0 < 23 := by decide
  have hC : 0 < 29 := by decide
  refine r_iload_n C dX10_refusalOfDays_0 rfl ?_
  refine r_callS C c_isRation dX10_refusalOfDays_1 cw_X10_isRation csX10_232 (by omega) rfl hN rfl (Nat.le_of_ble_eq_true rfl) ?_
  rintro v R' h1 ⟨rfl, rfl, rfl⟩
  cases hx : ixO q 4 with
  | none =>
    rw [ixB_n hx, rfdF, hx, if_neg (fun z => absurd z.1 (by decide))]
    refine r_if_eq C dX10_refusalOfDays_4 (fun _ => ?_) (fun cc => absurd cc (by exact fun z => z rfl))
    refine r_ldc C dX10_refusalOfDays_17 kX10_86 ?_
    refine r_iret C hrt dX10_refusalOfDays_19 ?_
    exact ⟨rfl, rfl, rfl⟩
  | some i =>
    rw [ixB_s hx, rfdF, hx]
    refine r_if_eq C dX10_refusalOfDays_4 (fun cc => absurd cc (by decide)) (fun _ => ?_)
    refine r_iload_n C dX10_refusalOfDays_7 rfl ?_
    refine r_iconst (v := (nI 1)) C dX10_refusalOfDays_8 (by decide) ?_
    refine r_bipush (v := (nI 30)) C dX10_refusalOfDays_9 (by decide) ?_
    refine r_callS C c_isWithin dX10_refusalOfDays_11 cw_X10_isWithin csX10_82 (by omega) rfl hN rfl (Nat.le_of_ble_eq_true rfl) ?_
    rintro v R' h2 ⟨rfl, rfl, rfl⟩
    by_cases q1 : nI 1 ≤ n ∧ n ≤ nI 30
    · rw [if_pos q1, if_pos ⟨rfl, q1⟩]
      refine r_if_ne C dX10_refusalOfDays_14 (fun _ => ?_) (fun cc => absurd cc (by decide))
      refine r_aload_n C dX10_refusalOfDays_20 rfl ?_
      refine r_callV C (c_isBesieged ha hc.2.1 hc.2.2.1.1) dX10_refusalOfDays_21 cw_X10_isBesieged cvX10_209 (by omega) ok10 rfl hN rfl (Nat.le_of_ble_eq_true rfl) ?_
      rintro v R' h3 ⟨rfl, rfl, rfl⟩
      by_cases hb : bsB (gNn g) (gSv g) = true
      · rw [if_pos hb, if_pos hb]
        refine r_if_ne C dX10_refusalOfDays_24 (fun _ => ?_) (fun cc => absurd cc (by decide))
        refine r_aload_n C dX10_refusalOfDays_30 rfl ?_
        refine r_getR C flX10_36 dX10_refusalOfDays_31 ok10 rfl rfl ?_
        refine r_getR C flX10_126 dX10_refusalOfDays_34 (Ok.full (by decide) hS) rfl rfl ?_
        refine q_getV C flX10_147 dX10_refusalOfDays_37 (Ok.full (by decide) hC) rfl hc.2.2.1.1.1.2.1 ?_
        refine r_sipush (v := (nI 9000)) C dX10_refusalOfDays_40 (by decide) ?_
        refine r_icmp_le C dX10_refusalOfDays_43 (fun c43 => ?_) (fun c43 => ?_)
        · rw [if_pos c43]
          refine r_iconst (v := (nI 0)) C dX10_refusalOfDays_51 (by decide) ?_
          refine r_iret C hrt dX10_refusalOfDays_52 ?_
          exact ⟨rfl, rfl, rfl⟩
        · rw [if_neg c43]
          refine r_ldc C dX10_refusalOfDays_46 kX10_90 ?_
          refine r_goto C dX10_refusalOfDays_48 ?_
          refine r_iret C hrt dX10_refusalOfDays_52 ?_
          exact ⟨rfl, rfl, rfl⟩
      · rw [if_neg hb, if_neg hb]
        refine r_if_ne C dX10_refusalOfDays_24 (fun cc => absurd cc (by exact fun z => z rfl)) (fun _ => ?_)
        refine r_ldc C dX10_refusalOfDays_27 kX10_213 ?_
        refine r_iret C hrt dX10_refusalOfDays_29 ?_
        exact ⟨rfl, rfl, rfl⟩
    · rw [if_neg q1, if_neg (fun z => q1 z.2)]
      refine r_if_ne C dX10_refusalOfDays_14 (fun cc => absurd cc (by exact fun z => z rfl)) (fun _ => ?_)
      refine r_ldc C dX10_refusalOfDays_17 kX10_86 ?_
      refine r_iret C hrt dX10_refusalOfDays_19 ?_
      exact ⟨rfl, rfl, rfl⟩
theorem rfd_ok {g : Gs} {q n : Int32} (h : rfdF g q n = 0) : (∃ i, i < 4 ∧ q = nI i) ∧ (∃ k, 1 ≤ k ∧ k ≤ 30 ∧ n = nI k) ∧ bsB (gNn g) (gSv g) = true ∧ gSv g 2 ≤ nI 9000 := by
  unfold rfdF at h
  by_cases h1 : (ixO q 4).isSome = true ∧ (nI 1 ≤ n ∧ n ≤ nI 30)
  · rw [if_pos h1] at h
    by_cases h2 : bsB (gNn g) (gSv g) = true
    · rw [if_pos h2] at h
      by_cases h3 : gSv g 2 ≤ nI 9000
      · cases hx : ixO q 4 with
        | none => rw [hx] at h1; exact absurd h1.1 (by decide)
        | some i => exact ⟨⟨i, ixO_some hx⟩, within_nat (by decide) (by decide) h1.2, h2, h3⟩
      · rw [if_neg h3] at h
        exact absurd h (by decide)
    · rw [if_neg h2] at h
      exact absurd h (by decide)
  · rw [if_neg h1] at h
    exact absurd h (by decide)
def dyF (N : Nat → Nat) (T : Tv) (q : Int32) : Nat → Sv → Sv
  | 0, s => s
  | k + 1, s => if msum s 5 ≤ 0 then s else dyF N T q k (passF N T q s)
theorem payR_off {s : Sv} {c : Nat} {due : Int32} {k : Nat} (hc : c < 5) (hk : k < 15 ∨ 44 ≤ k) : ∀ r i, i + r ≤ 4 → payR s c due r i k = s k
  | 0, i, _ => by
    rw [payR]
    exact va_up_ne _ _ (by omega)
  | r + 1, i, hi => by
    rw [payR]
    split
    · rw [va_up_ne _ _ (by omega), va_up_ne _ _ (by omega)]
    · exact payR_off hc hk r (i + 1) (by omega)
theorem payN_off {N : Nat → Nat} {T : Tv} {s : Sv} {k : Nat} (hN : N 1 ≤ 4) (hk : k < 15 ∨ 44 ≤ k) : ∀ c, c ≤ 5 → payN N T s c k = s k
  | 0, _ => rfl
  | c + 1, hc => by rw [payN, payR_off (by omega) hk (N 1) 0 (by omega), payN_off hN hk c (by omega)]
theorem passF_off {N : Nat → Nat} {T : Tv} {q : Int32} {s : Sv} {k : Nat} (h0 : N 0 ≤ 5) (h1 : N 1 ≤ 4) (hk : k = 1 ∨ k = 4 ∨ 44 ≤ k) : passF N T q s k = s k := by
  unfold passF
  rw [va_up_ne _ _ (by omega), payN_off h1 (by omega) _ h0, eday_off h0 (by omega) (by omega) (by omega)]
theorem dyF_44 {N : Nat → Nat} {T : Tv} {q : Int32} (h0 : N 0 ≤ 5) (h1 : N 1 ≤ 4) : ∀ k s, dyF N T q k s 44 = s 44
  | 0, _ => rfl
  | k + 1, s => by
    rw [dyF]
    split
    · rfl
    · rw [dyF_44 h0 h1 k, passF_off h0 h1 (by omega)]
def dayF (g : Gs) (q n : Int32) : Int32 × Gs := if rfdF g q n = 0 then (msum (dyF (gNn g) (gT g) q n.toInt.toNat (gSv g)) 5, pushd g (dyF (gNn g) (gT g) q n.toInt.toNat (gSv g))) else (rfdF g q n, g)
set_option maxRecDepth 100000 in
set_option maxHeartbeats 4000000 in
theorem c_day {E : Ev} {a b : Nat} {h : HF} {g : Gs} {q n : Int32} (ha : a < 2) (hc : CP h a g) : Ct E 4 yX10_day cX10_day 5 (some .int) [aR 10 0, aI q, aI n] 243 (Rs a b) h 243 (qry a b (dayF g q n).2 h (dayF g q n).1) := by
  refine Ct.of 2 (L0 := [some (aR 10 0), some (aI q), some (aI n), none, none]) (by decide) ⟨Nat.le_refl _, Nat.le_refl _⟩ rfl rfl ?_
  intro G C hg hrt hnm
  have hN : gn G ≤ 243 ∧ 243 ≤ 243 ∧ 243 ≤ 243 := ⟨by omega, by decide, by decide⟩
  obtain ⟨nx, hl⟩ := hc.2.2.2.1
  have hT : a < 2 := ha
  have hS : 0 < 23 := by decide
  have hC : 0 < 29 := by decide
  have b0 := hc.2.1.2.2.2.2.2.2.2.2.2.1
  have b1 := hc.2.1.2.2.2.2.2.2.2.2.2.2.1
  refine r_aload_n C dX10_day_0 rfl ?_
  refine r_iload_n C dX10_day_1 rfl ?_
  refine r_iload_n C dX10_day_2 rfl ?_
  refine r_callV C (c_refusalOfDays ha hc) dX10_day_3 cw_X10_refusalOfDays cvX10_197 (by omega) ok10 rfl hN rfl (Nat.le_of_ble_eq_true rfl) ?_
  rintro v R' h1 ⟨rfl, rfl, rfl⟩
  refine r_istore_n C dX10_day_6 st3 ?_
  refine r_iload_n C dX10_day_7 rfl ?_
  refine r_if_eq C dX10_day_8 (fun c8 => ?_) (fun c8 => ?_)
  · rw [dayF, if_pos c8]
    obtain ⟨⟨i, hi, rfl⟩, ⟨k, hk1, hk2, rfl⟩, hb, hd⟩ := rfd_ok c8
    have ek : (nI k).toInt.toNat = k := by rw [nI_toInt (by omega)]; rfl
    rw [ek]
    refine r_aload_n C dX10_day_13 rfl ?_
    refine r_getR C flX10_43 dX10_day_14 ok10 rfl rfl ?_
    refine r_aload_n C dX10_day_17 rfl ?_
    refine r_getR C flX10_36 dX10_day_18 ok10 rfl rfl ?_
    refine r_callV C (c_push hl hc.2.2.1.1) dX10_day_21 cw_X3_push cvX10_201 (by omega) ok3 rfl hN rfl (Nat.le_of_ble_eq_true rfl) ?_
    rintro v R' h2 ⟨rfl, rfl, hl2, f2⟩
    have hc2 := hc.push f2 hl2
    refine r_iconst (v := (nI 0)) C dX10_day_24 (by decide) ?_
    refine r_istore C dX10_day_25 st4 ?_
    have loop : ∀ m j s' hh, j + m = k → sgp hh 0 s' → dyF (gNn g) (gT g) (nI i) m s' = dyF (gNn g) (gT g) (nI i) k (gSv g) → Fr (sS 0) h2 hh →
        Wa E G 243 (Rs a b) hh (QQ E G 243 (qry a b (pushd g (dyF (gNn g) (gT g) (nI i) k (gSv g))) h1 (msum (dyF (gNn g) (gT g) (nI i) k (gSv g)) 5))) 27 [some (aR 10 0), some (aI (nI i)), some (aI (nI k)), some (aI (rfdF g (nI i) (nI k))), some (aI (nI j))] [] := by
      have done : ∀ s' hh L4, sgp hh 0 s' → s' = dyF (gNn g) (gT g) (nI i) k (gSv g) → Fr (sS 0) h2 hh → Wa E G 243 (Rs a b) hh (QQ E G 243 (qry a b (pushd g (dyF (gNn g) (gT g) (nI i) k (gSv g))) h1 (msum (dyF (gNn g) (gT g) (nI i) k (gSv g)) 5))) 64 [some (aR 10 0), some (aI (nI i)), some (aI (nI k)), some (aI (rfdF g (nI i) (nI k))), L4] [] := by
        intro s' hh L4 hs he hf
        subst he
        refine r_aload_n C dX10_day_64 rfl ?_
        refine r_getR C flX10_36 dX10_day_65 ok10 rfl rfl ?_
        refine r_getR C flX10_126 dX10_day_68 (Ok.full (by decide) hS) rfl rfl ?_
        refine r_callV C (c_menOfAll hC hs.1) dX10_day_71 cw_X1_menOfAll cvX10_153 (by omega) (Ok.full (by decide) hC) rfl hN rfl (Nat.le_of_ble_eq_true rfl) ?_
        rintro v R' h3 ⟨rfl, rfl, rfl⟩
        refine r_iret C hrt dX10_day_74 ?_
        exact ⟨rfl, rfl, CP.now (g := setS g (gSv g) (pushN (gU g).1, pushU (gU g).1 (gU g).2 (gSv g))) hf hs (dyF_44 b0 b1 k _) hc2, (f2.wk sLg_sXc).tr (hf.wk sS0_sXc)⟩
      intro m
      induction m with
      | zero =>
        intro j s' hh hj hs he hf
        refine r_iload C dX10_day_27 rfl ?_
        refine r_iload_n C dX10_day_29 rfl ?_
        refine r_icmpN_ge C dX10_day_30 (by omega) (by omega) (fun _ => ?_) (fun cc => absurd cc (by omega))
        exact done s' hh _ hs he hf
      | succ m ih =>
        intro j s' hh hj hs he hf
        rw [dyF] at he
        refine r_iload C dX10_day_27 rfl ?_
        refine r_iload_n C dX10_day_29 rfl ?_
        refine r_icmpN_ge C dX10_day_30 (by omega) (by omega) (fun cc => absurd cc (by omega)) (fun _ => ?_)
        refine r_aload_n C dX10_day_33 rfl ?_
        refine r_getR C flX10_36 dX10_day_34 ok10 rfl rfl ?_
        refine r_getR C flX10_126 dX10_day_37 (Ok.full (by decide) hS) rfl rfl ?_
        refine r_callV C (c_menOfAll hC hs.1) dX10_day_40 cw_X1_menOfAll cvX10_153 (by omega) (Ok.full (by decide) hC) rfl hN rfl (Nat.le_of_ble_eq_true rfl) ?_
        rintro v R' h3 ⟨rfl, rfl, rfl⟩
        refine r_if_le C dX10_day_43 (fun c43 => ?_) (fun c43 => ?_)
        · rw [if_pos c43] at he
          exact done s' h3 _ hs he hf
        · rw [if_neg c43] at he
          refine r_aload_n C dX10_day_46 rfl ?_
          refine r_getR C flX10_36 dX10_day_47 ok10 rfl rfl ?_
          refine r_aload_n C dX10_day_50 rfl ?_
          refine r_getR C flX10_26 dX10_day_51 ok10 rfl rfl ?_
          refine r_iload_n C dX10_day_54 rfl ?_
          refine r_callV C (c_passDay hS hT (hc2.2.1.fr hf sS_twn') hs) dX10_day_55 cw_X6_passDay cvX10_205 (by omega) (Ok.full (by decide) hS) rfl hN rfl (Nat.le_of_ble_eq_true rfl) ?_
          rintro v R' h4 ⟨rfl, rfl, hs4, f4⟩
          first | refine r_iincN C dX10_day_58 rfl st4 ?_ | refine r_iinc C dX10_day_58 rfl rfl st4 ?_
          refine r_goto C dX10_day_61 ?_
          exact ih (j + 1) _ h4 (by omega) hs4 he (hf.tr f4)
    exact loop k 0 (gSv g) h2 (by omega) hc2.2.2.1.1 rfl Fr.rf
  · rw [dayF, if_neg c8]
    refine r_iload_n C dX10_day_11 rfl ?_
    refine r_iret C hrt dX10_day_12 ?_
    exact ⟨rfl, rfl, hc, Fr.rf⟩
def ndF (x : Int32) : Int32 := (x * 1103515245 + nI 12345) &&& 2147483647
def drwF (x : Int32) (n : Int32) : Int32 := ndF x / 65536 - ndF x / 65536 / n * n
set_option maxRecDepth 100000 in
set_option maxHeartbeats 4000000 in
theorem c_nextDraw {E : Ev} {a b : Nat} {h : HF} {x : Int32} (hx : h 10 0 10 = x) : Ct E 0 yX10_nextDraw cX10_nextDraw 1 (some .int) [aR 10 0] 243 (Rs a b) h 243 (fun v R' h' => v = some (aI (ndF x / 65536)) ∧ R' = Rs a b ∧ h' = put h 10 0 10 (ndF x)) := by
  refine Ct.of 0 (L0 := [some (aR 10 0)]) (by decide) ⟨Nat.le_refl _, Nat.le_refl _⟩ rfl rfl ?_
  intro G C hg hrt hnm
  have hN : gn G ≤ 243 ∧ 243 ≤ 243 ∧ 243 ≤ 243 := ⟨by omega, by decide, by decide⟩
  refine r_aload_n C dX10_nextDraw_0 rfl ?_
  refine r_aload_n C dX10_nextDraw_1 rfl ?_
  refine q_getV C flX10_74 dX10_nextDraw_2 ok10 rfl hx ?_
  refine r_ldc C dX10_nextDraw_5 kX10_226 ?_
  refine r_imul C dX10_nextDraw_7 ?_
  refine r_sipush (v := (nI 12345)) C dX10_nextDraw_8 (by decide) ?_
  refine r_iadd C dX10_nextDraw_11 ?_
  refine r_ldc C dX10_nextDraw_12 kX10_227 ?_
  refine r_iand C dX10_nextDraw_14 ?_
  refine r_putI C flX10_74 dX10_nextDraw_15 ok10 rfl ⟨rfl, rfl⟩ ?_
  refine r_aload_n C dX10_nextDraw_18 rfl ?_
  refine q_getV C flX10_74 dX10_nextDraw_19 ok10 rfl put_same ?_
  refine r_ldc C dX10_nextDraw_22 kX10_228 ?_
  refine r_idiv C dX10_nextDraw_24 (by decide) ?_
  refine r_iret C hrt dX10_nextDraw_25 ?_
  exact ⟨rfl, rfl, rfl⟩
def gunS (x : Int32) (s : Sv) : Sv := if drwF x (nI 6) = 0 then rodF (nI 5) s else s
def fatS (s : Sv) : Sv := if msum s 5 = 0 then va_up s 4 (nI 2) else s
def pbdF (N : Nat → Nat) (T : Tv) (q : Int32) (s : Sv) : Sv := if s 1 ≤ drwF (s 44) (nI 100) then fatS (passF N T q (gunS (ndF (s 44)) (va_up s 44 (ndF (ndF (s 44)))))) else va_up (va_up s 44 (ndF (s 44))) 4 (nI 1)
def sND : Nat → Nat → Bool := fun k j => k == 10 || sS 0 k j
theorem sND_sNL : ∀ k j, sND k j = true → sNL k j = true := by
  intro k j hh
  simp only [sND, Bool.or_eq_true] at hh
  rcases hh with z | z
  · simp [sNL, z]
  · exact sS0_sNL k j z
theorem sS0_sND : ∀ k j, sS 0 k j = true → sND k j = true := by
  intro k j hh
  simp [sND, hh]
theorem sND_twn {t : Nat} : ∀ k, (k = 8 ∨ (28 ≤ k ∧ k ≤ 35)) → sND k t = false := by
  intro k hk
  have h1 : (k == 10) = false := by simp; omega
  simp [sND, h1, sS_twn' k hk]
set_option maxRecDepth 100000 in
set_option maxHeartbeats 4000000 in
theorem c_passDayByDraws {E : Ev} {a b : Nat} {h : HF} {N : Nat → Nat} {T : Tv} {s : Sv} {q : Int32} (ha : a < 2) (ht : twn h a N T) (hp : P3 h s) : Ct E 4 yX10_passDayByDraws cX10_passDayByDraws 2 none [aR 10 0, aI q] 243 (Rs a b) h 243 (fun v R' h' => v = none ∧ R' = Rs a b ∧ P3 h' (pbdF N T q s) ∧ h' 10 0 11 = h 10 0 11 ∧ Fr sND h h') := by
  refine Ct.of 0 (L0 := [some (aR 10 0), some (aI q)]) (by decide) ⟨Nat.le_refl _, Nat.le_refl _⟩ rfl rfl ?_
  intro G C hg hrt hnm
  have hN : gn G ≤ 243 ∧ 243 ≤ 243 ∧ 243 ≤ 243 := ⟨by omega, by decide, by decide⟩
  have hT : a < 2 := ha
  have hS : 0 < 23 := by decide
  have hC : 0 < 29 := by decide
  have b0 := ht.2.2.2.2.2.2.2.2.2.1
  have b1 := ht.2.2.2.2.2.2.2.2.2.2.1
  refine r_aload_n C dX10_passDayByDraws_0 rfl ?_
  refine r_callV C (c_nextDraw hp.2) dX10_passDayByDraws_1 cw_X10_nextDraw cvX10_223 (by omega) ok10 rfl hN rfl (Nat.le_of_ble_eq_true rfl) ?_
  rintro v R' h1 ⟨rfl, rfl, rfl⟩
  have hpb : pbdF N T q s = if s 1 ≤ drwF (s 44) (nI 100) then fatS (passF N T q (gunS (ndF (s 44)) (va_up s 44 (ndF (ndF (s 44)))))) else va_up (va_up s 44 (ndF (s 44))) 4 (nI 1) := rfl
  have hdr : drwF (s 44) (nI 100) = ndF (s 44) / 65536 - ndF (s 44) / 65536 / nI 100 * nI 100 := rfl
  generalize drwF (s 44) (nI 100) = r1 at hpb hdr
  generalize ndF (s 44) = x1 at hpb hdr ⊢
  have f1 : Fr sND h (put h 10 0 10 x1) := Fr.put Fr.rf rfl
  have e1 : put h 10 0 10 x1 10 0 11 = h 10 0 11 := put_i (by decide)
  have hs1 : sgp (put h 10 0 10 x1) 0 (va_up s 44 x1) := hp.1.put10.up44 (by decide)
  refine r_bipush (v := (nI 100)) C dX10_passDayByDraws_4 (by decide) ?_
  refine r_irem C dX10_passDayByDraws_6 (by decide) ?_
  rw [← hdr]
  refine r_aload_n C dX10_passDayByDraws_7 rfl ?_
  refine r_getR C flX10_36 dX10_passDayByDraws_8 ok10 rfl rfl ?_
  refine q_getV C flX10_135 dX10_passDayByDraws_11 (Ok.full (by decide) hS) rfl (show _ = s 1 from hp.1.2.1) ?_
  refine r_icmp_ge C dX10_passDayByDraws_14 (fun c14 => ?_) (fun c14 => ?_)
  · rw [if_pos c14] at hpb
    rw [hpb]
    refine r_aload_n C dX10_passDayByDraws_26 rfl ?_
    refine r_callV C (c_nextDraw put_same) dX10_passDayByDraws_27 cw_X10_nextDraw cvX10_223 (by omega) ok10 rfl hN rfl (Nat.le_of_ble_eq_true rfl) ?_
    rintro v R' h2 ⟨rfl, rfl, rfl⟩
    have hgs : ∀ z, gunS x1 z = if drwF x1 (nI 6) = 0 then rodF (nI 5) z else z := fun z => rfl
    have hdr2 : drwF x1 (nI 6) = ndF x1 / 65536 - ndF x1 / 65536 / nI 6 * nI 6 := rfl
    generalize drwF x1 (nI 6) = r2 at hgs hdr2
    generalize ndF x1 = x2 at hpb hdr2 ⊢
    have f2 : Fr sND h (put (put h 10 0 10 x1) 10 0 10 x2) := Fr.put f1 rfl
    have e2 : put (put h 10 0 10 x1) 10 0 10 x2 10 0 11 = h 10 0 11 := (put_i (by decide)).trans e1
    have hs2 : sgp (put (put h 10 0 10 x1) 10 0 10 x2) 0 (va_up s 44 x2) := hp.1.put10.put10.up44 (by decide)
    have hd2 : put (put h 10 0 10 x1) 10 0 10 x2 10 0 10 = x2 := put_same
    have rest : ∀ hh s3, sgp hh 0 s3 → s3 44 = x2 → hh 10 0 10 = x2 → hh 10 0 11 = h 10 0 11 → Fr sND h hh → s3 = gunS x1 (va_up s 44 x2) →
        Wa E G 243 (Rs a b) hh (QQ E G 243 (fun v R' h' => v = none ∧ R' = Rs a b ∧ P3 h' (fatS (passF N T q (gunS x1 (va_up s 44 x2)))) ∧ h' 10 0 11 = h 10 0 11 ∧ Fr sND h h')) 43 [some (aR 10 0), some (aI q)] [] := by
      intro hh s3 hs3 h44 hsd hfp hf he
      rw [← he]
      refine r_aload_n C dX10_passDayByDraws_43 rfl ?_
      refine r_getR C flX10_36 dX10_passDayByDraws_44 ok10 rfl rfl ?_
      refine r_aload_n C dX10_passDayByDraws_47 rfl ?_
      refine r_getR C flX10_26 dX10_passDayByDraws_48 ok10 rfl rfl ?_
      refine r_iload_n C dX10_passDayByDraws_51 rfl ?_
      refine r_callV C (c_passDay hS hT (ht.fr hf sND_twn) hs3) dX10_passDayByDraws_52 cw_X6_passDay cvX10_205 (by omega) (Ok.full (by decide) hS) rfl hN rfl (Nat.le_of_ble_eq_true rfl) ?_
      rintro v R' h4 ⟨rfl, rfl, hs4, f4⟩
      have p44 : passF N T q s3 44 = x2 := (passF_off b0 b1 (by omega)).trans h44
      have g44 : h4 10 0 10 = x2 := by rw [f4 10 0 rfl]; exact hsd
      have gfp : h4 10 0 11 = h 10 0 11 := by rw [f4 10 0 rfl]; exact hfp
      refine r_aload_n C dX10_passDayByDraws_55 rfl ?_
      refine r_getR C flX10_36 dX10_passDayByDraws_56 ok10 rfl rfl ?_
      refine r_getR C flX10_126 dX10_passDayByDraws_59 (Ok.full (by decide) hS) rfl rfl ?_
      refine r_callV C (c_menOfAll hC hs4.1) dX10_passDayByDraws_62 cw_X1_menOfAll cvX10_153 (by omega) (Ok.full (by decide) hC) rfl hN rfl (Nat.le_of_ble_eq_true rfl) ?_
      rintro v R' h5 ⟨rfl, rfl, rfl⟩
      refine r_if_ne C dX10_passDayByDraws_65 (fun c65 => ?_) (fun c65 => ?_)
      · refine r_vret C hrt dX10_passDayByDraws_76 ?_
        rw [fatS, if_neg c65]
        exact ⟨rfl, rfl, ⟨hs4, g44.trans p44.symm⟩, gfp, hf.tr (f4.wk sS0_sND)⟩
      · refine r_aload_n C dX10_passDayByDraws_68 rfl ?_
        refine r_getR C flX10_36 dX10_passDayByDraws_69 ok10 rfl rfl ?_
        refine r_iconst (v := (nI 2)) C dX10_passDayByDraws_72 (by decide) ?_
        refine r_putI C flX10_157 dX10_passDayByDraws_73 (Ok.full (by decide) hS) rfl ⟨rfl, rfl⟩ ?_
        refine r_vret C hrt dX10_passDayByDraws_76 ?_
        rw [fatS, if_pos c65]
        refine ⟨rfl, rfl, ⟨sgp_fate hs4, ?_⟩, ?_, Fr.put (hf.tr (f4.wk sS0_sND)) rfl⟩
        · rw [put_k (by decide), va_up_ne _ _ (by decide)]
          exact g44.trans p44.symm
        · rw [put_k (by decide)]
          exact gfp
    refine r_bipush (v := (nI 6)) C dX10_passDayByDraws_30 (by decide) ?_
    refine r_irem C dX10_passDayByDraws_32 (by decide) ?_
    rw [← hdr2]
    refine r_if_ne C dX10_passDayByDraws_33 (fun c33 => ?_) (fun c33 => ?_)
    · exact rest _ _ hs2 (va_up_self _ _ _) hd2 e2 f2 (by rw [hgs, if_neg c33])
    · refine r_aload_n C dX10_passDayByDraws_36 rfl ?_
      refine r_getR C flX10_36 dX10_passDayByDraws_37 ok10 rfl rfl ?_
      refine r_callV C (c_hearGun hS hs2) dX10_passDayByDraws_40 cw_X6_hearGun cvX10_214 (by omega) (Ok.full (by decide) hS) rfl hN rfl (Nat.le_of_ble_eq_true rfl) ?_
      rintro v R' h3 ⟨rfl, rfl, hs3, f3⟩
      exact rest h3 _ hs3 (by rw [rodF, va_up_ne _ _ (by decide), va_up_self]) (by rw [f3 10 0 rfl]; exact hd2) (by rw [f3 10 0 rfl]; exact e2) (f2.tr (f3.wk sS0_sND)) (by rw [hgs, if_pos c33])
  · rw [if_neg c14] at hpb
    rw [hpb]
    refine r_aload_n C dX10_passDayByDraws_17 rfl ?_
    refine r_getR C flX10_36 dX10_passDayByDraws_18 ok10 rfl rfl ?_
    refine r_iconst (v := (nI 1)) C dX10_passDayByDraws_21 (by decide) ?_
    refine r_putI C flX10_157 dX10_passDayByDraws_22 (Ok.full (by decide) hS) rfl ⟨rfl, rfl⟩ ?_
    refine r_vret C hrt dX10_passDayByDraws_25 ?_
    refine ⟨rfl, rfl, ⟨sgp_fate hs1, ?_⟩, ?_, Fr.put f1 rfl⟩
    · rw [va_up_ne _ _ (by decide), va_up_self, put_k (by decide), put_same]
    · rw [put_k (by decide)]
      exact e1
