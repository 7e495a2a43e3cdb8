/-! what is owed is never below 0; the least that must be paid -/
theorem wos_b {N : Nat → Nat} {T : Tv} {m rd : Nat} (hT : TVd N T) (hm : m < N 1) : 0 ≤ (wosF T m rd).toInt ∧ (wosF T m rd).toInt ≤ 99 := by
  have h := hT.2 m hm
  unfold wosF
  split
  · exact h.1
  · split
    · exact h.2
    · decide
theorem mul_b {x y : Int32} (h1 : 0 ≤ x.toInt ∧ x.toInt ≤ 999) (h2 : 0 ≤ y.toInt ∧ y.toInt ≤ 99) : 0 ≤ (x * y).toInt ∧ (x * y).toInt ≤ 98901 := by
  obtain ⟨j, hj, rfl⟩ := toN (n := 999) h1.1 h1.2
  obtain ⟨k, hk, rfl⟩ := toN (n := 99) h2.1 h2.2
  have h : j * k ≤ 999 * 99 := Nat.mul_le_mul hj hk
  rw [pk_mul, nI_toInt (by omega)]
  omega
theorem ow_b {N : Nat → Nat} {T : Tv} {s : Sv} {c rd D : Nat} (h1 : N 1 ≤ 4) (hc : c < 5) (hD : D ≤ 100000) (hT : TVd N T) (hv : SVd N D s) : ∀ m, m ≤ N 1 → 0 ≤ (owF T s c rd m).toInt ∧ (owF T s c rd m).toInt ≤ 891 * D + 98901 * m
  | 0, _ => by
    have h4 := hv.2.2.2.1 c hc
    have h3 := hv.2.2.1
    rw [owF]
    omega
  | m + 1, hm => by
    have ih := ow_b h1 hc hD hT hv (rd := rd) m (by omega)
    have h5 := hv.2.2.2.2.1 c m hc (by omega)
    have hb := mul_b (x := s (24 + (c * 4 + m))) (y := wosF T m rd) (by omega) (wos_b hT (by omega))
    rw [owF, fb_addI (by omega) (by omega)]
    omega
/-- struck ones are bits of P -/
def mkD (O : Nat → Int32) (P c : Nat) : Int32 := if P / 2 ^ c % 2 = 1 then nI 0 else O c
def bsF (O : Nat → Int32) (P : Nat) : Nat → Option Nat
  | 0 => none
  | c + 1 => if P / 2 ^ c % 2 = 0 ∧ (∀ x, bsF O P c = some x → O x < O c) then some c else bsF O P c
theorem bsF_lt {O : Nat → Int32} {P : Nat} : ∀ c x, bsF O P c = some x → x < c ∧ P / 2 ^ x % 2 = 0
  | 0, x, h => by cases h
  | c + 1, x, h => by
    rw [bsF] at h
    split at h
    · next z =>
      cases h
      exact ⟨by omega, z.1⟩
    · have := bsF_lt c x h
      exact ⟨by omega, this.2⟩
/-- the first greatest of those that aren't struck -/
theorem bsF_max {O : Nat → Int32} {P : Nat} : ∀ n, (bsF O P n = none → ∀ c, c < n → P / 2 ^ c % 2 = 1) ∧ (∀ x, bsF O P n = some x → (∀ c, c < n → P / 2 ^ c % 2 = 0 → (O c).toInt ≤ (O x).toInt) ∧ ∀ c, c < x → P / 2 ^ c % 2 = 0 → (O c).toInt < (O x).toInt)
  | 0 => ⟨fun _ c hc => by omega, fun x h => by cases h⟩
  | n + 1 => by
    obtain ⟨i1, i2⟩ := bsF_max (O := O) (P := P) n
    have hbit : P / 2 ^ n % 2 = 0 ∨ P / 2 ^ n % 2 = 1 := by omega
    refine ⟨fun h c hc => ?_, fun x h => ?_⟩
    · rw [bsF] at h
      split at h
      · cases h
      · next z =>
        by_cases e : c = n
        · subst e
          rcases hbit with hb | hb
          · exact absurd ⟨hb, fun x hx => by rw [h] at hx; cases hx⟩ z
          · exact hb
        · exact i1 h c (by omega)
    · rw [bsF] at h
      split at h
      · next z =>
        cases h
        cases hp : bsF O P n with
        | none =>
          have hall := i1 hp
          refine ⟨fun c hc hu => ?_, fun c hc hu => ?_⟩
          · by_cases e : c = n
            · subst e; exact Int.le_refl _
            · rw [hall c (by omega)] at hu; omega
          · rw [hall c (by omega)] at hu; omega
        | some y =>
          obtain ⟨j1, j2⟩ := i2 y hp
          have hlt := z.2 y hp
          rw [Int32.lt_iff_toInt_lt] at hlt
          refine ⟨fun c hc hu => ?_, fun c hc hu => ?_⟩
          · by_cases e : c = n
            · subst e; exact Int.le_refl _
            · have := j1 c (by omega) hu; omega
          · have := j1 c (by omega) hu; omega
      · next z =>
        obtain ⟨j1, j2⟩ := i2 x h
        refine ⟨fun c hc hu => ?_, j2⟩
        by_cases e : c = n
        · subst e
          have hnl : ¬ O x < O c := fun hl => z ⟨hu, fun y hy => by rw [h] at hy; cases hy; exact hl⟩
          rw [Int32.lt_iff_toInt_lt] at hnl
          omega
        · exact j1 c (by omega) hu
theorem giF_max (D : Nat → Int32) : ∀ n, (∀ c, c ≤ n → (D c).toInt ≤ (D (giF D n)).toInt) ∧ ∀ c, c < giF D n → (D c).toInt < (D (giF D n)).toInt
  | 0 => ⟨fun c hc => by rw [show c = 0 by omega]; exact Int.le_refl _, fun c hc => absurd hc (Nat.not_lt_zero _)⟩
  | n + 1 => by
    obtain ⟨i1, i2⟩ := giF_max D n
    have hle := giF_le D n
    rw [giF]
    split
    · next z =>
      rw [Int32.lt_iff_toInt_lt] at z
      refine ⟨fun c hc => ?_, fun c hc => ?_⟩
      · by_cases e : c = n + 1
        · subst e; exact Int.le_refl _
        · have := i1 c (by omega); omega
      · have := i1 c (by omega); omega
    · next z =>
      rw [Int32.lt_iff_toInt_lt] at z
      refine ⟨fun c hc => ?_, i2⟩
      by_cases e : c = n + 1
      · subst e; omega
      · exact i1 c (by omega)
def bsV (O : Nat → Int32) : Option Nat → Int32
  | none => nI 0
  | some x => O x
def bsP (P : Nat) : Option Nat → Nat
  | none => P
  | some x => P + 2 ^ x
theorem bit_or : ∀ P, P < 32 → ∀ b, b < 5 → P / 2 ^ b % 2 = 0 → nI P ||| (nI 1 <<< (nI b &&& 31)) = nI (P + 2 ^ b) ∧ P + 2 ^ b < 32 ∧ ∀ c, c < 5 → (P + 2 ^ b) / 2 ^ c % 2 = if c = b then 1 else P / 2 ^ c % 2 := by decide +kernel
theorem bit_shr : ∀ P, P < 32 → ∀ c, c < 5 → nI P >>> (nI c &&& 31) &&& nI 1 = nI (P / 2 ^ c % 2) := by decide +kernel
theorem strike_eq {O : Nat → Int32} {P nc : Nat} {D : Nat → Int32} (hn : nc ≤ 5) (hP : P < 32) (hO : ∀ c, c < nc → 0 ≤ (O c).toInt) (hD : ∀ c, c < nc → D c = mkD O P c) :
    stkV nc D = bsV O (bsF O P nc) ∧ (∀ c, c < nc → stkD nc D c = mkD O (bsP P (bsF O P nc)) c) ∧ bsP P (bsF O P nc) < 32 := by
  by_cases h0 : nc = 0
  · subst h0
    exact ⟨rfl, fun c hc => by omega, hP⟩
  · obtain ⟨g1, g2⟩ := giF_max D (nc - 1)
    have gle := giF_le D (nc - 1)
    obtain ⟨m1, m2⟩ := bsF_max (O := O) (P := P) nc
    have hV : stkV nc D = D (giF D (nc - 1)) := by rw [stkV, if_pos (by omega)]
    have dpos : ∀ c, c < nc → 0 ≤ (D c).toInt := fun c hc => by
      rw [hD c hc, mkD]
      split
      · rw [t0]; omega
      · exact hO c hc
    cases hb : bsF O P nc with
    | none =>
      have hall := m1 hb
      have hz : ∀ c, c < nc → D c = nI 0 := fun c hc => by rw [hD c hc, mkD, if_pos (hall c hc)]
      refine ⟨by rw [hV, hz _ (by omega)]; rfl, fun c hc => ?_, hP⟩
      show va_up D (giF D (nc - 1)) (nI 0) c = mkD O P c
      rw [← hD c hc]
      by_cases e : c = giF D (nc - 1)
      · rw [e, va_up_self, hz _ (by omega)]
      · rw [va_up_ne _ _ e]
    | some x =>
      obtain ⟨j1, j2⟩ := m2 x hb
      obtain ⟨hx, hxu⟩ := bsF_lt nc x hb
      obtain ⟨-, b2, b3⟩ := bit_or P hP x (by omega) hxu
      have dx : D x = O x := by rw [hD x hx, mkD, if_neg (by omega)]
      have dle : ∀ c, c < nc → (D c).toInt ≤ (O x).toInt := fun c hc => by
        rw [hD c hc, mkD]
        split
        · rw [t0]; exact hO x hx
        · next z => exact j1 c hc (by omega)
      have eg : (D (giF D (nc - 1))).toInt = (O x).toInt := by
        have a1 := g1 x (by omega)
        have a2 := dle (giF D (nc - 1)) (by omega)
        rw [dx] at a1
        omega
      refine ⟨by rw [hV]; exact Int32.toInt_inj.mp eg, fun c hc => ?_, b2⟩
      show va_up D (giF D (nc - 1)) (nI 0) c = mkD O (P + 2 ^ x) c
      rw [mkD, b3 c (by omega)]
      by_cases hox : (O x).toInt = 0
      · have hz : ∀ c, c < nc → D c = nI 0 := fun c hc => Int32.toInt_inj.mp (by
          have a1 := dle c hc
          have a2 := dpos c hc
          rw [t0]
          omega)
        have e1 : va_up D (giF D (nc - 1)) (nI 0) c = nI 0 := by
          by_cases e : c = giF D (nc - 1)
          · rw [e, va_up_self]
          · rw [va_up_ne _ _ e, hz c hc]
        rw [e1]
        by_cases ex : c = x
        · rw [if_pos ex, if_pos rfl]
        · rw [if_neg ex]
          exact (hz c hc).symm.trans (hD c hc)
      · have hj : giF D (nc - 1) = x := by
          have hgu : P / 2 ^ (giF D (nc - 1)) % 2 = 0 := by
            have h2 : P / 2 ^ (giF D (nc - 1)) % 2 = 0 ∨ P / 2 ^ (giF D (nc - 1)) % 2 = 1 := by omega
            rcases h2 with h2 | h2
            · exact h2
            · have h3 := hD (giF D (nc - 1)) (by omega)
              rw [mkD, if_pos h2] at h3
              rw [h3, t0] at eg
              omega
          have eD : D (giF D (nc - 1)) = O (giF D (nc - 1)) := by rw [hD (giF D (nc - 1)) (by omega), mkD, if_neg (by omega)]
          rcases Nat.lt_trichotomy (giF D (nc - 1)) x with h | h | h
          · have := j2 _ h hgu
            rw [eD] at eg
            omega
          · exact h
          · have := g2 x h
            rw [dx] at this
            omega
        rw [hj]
        by_cases ex : c = x
        · rw [if_pos ex, if_pos rfl, ex, va_up_self]
        · rw [va_up_ne _ _ ex, if_neg ex, hD c hc, mkD]
set_option maxRecDepth 100000 in
set_option maxHeartbeats 8000000 in
theorem m_least {E : Ev} {a b : Nat} {h : HF} {g : Gs} {k r : Int32} (hc : MP h g) (hT : TVd (gNn g) (gT g)) (hv : SVd (gNn g) 9030 (gSv g)) : Ct E 2 yX11_least cX11_least 9 (some .int) [aR 11 0, aI k, aI r] 243 (Rs a b) h 243 (qst a b h (leaF g k r)) := by
  refine Ct.of 6 (L0 := [some (aR 11 0), some (aI k), some (aI r), none, none, none, none, none, none]) (by decide) ⟨Nat.le_refl _, Nat.le_refl _⟩ rfl rfl ?_
  intro G C hg hrt hnm
  have hN : gn G ≤ 243 ∧ 243 ≤ 243 ∧ 243 ≤ 243 := ⟨by omega, by decide, by decide⟩
  have ht : mtw h (gNn g) (gT g) := hc.2.1
  have p3 := hc.2.2.1
  have b0 := ht.2.2.2.2.2.2.2.2.2.1
  have b1 := ht.2.2.2.2.2.2.2.2.2.2.1
  have bad : leaF g k r = cO → Wa E G 243 (Rs a b) h (QQ E G 243 (qst a b h (leaF g k r))) 24 [some (aR 11 0), some (aI k), some (aI r), none, none, none, none, none, none] [] := by
    intro e
    rw [e]
    refine r_ldc C dX11_least_24 kX11_99 ?_
    refine r_iret C hrt dX11_least_26 ?_
    exact ⟨rfl, rfl, rfl⟩
  refine r_iload_n C dX11_least_0 rfl ?_
  refine r_i2l C dX11_least_1 ?_
  refine r_lconst (v := 0) C dX11_least_2 (by decide) ?_
  refine r_ldc2 C dX11_least_3 klX11_261 ?_
  refine r_callS C m_in dX11_least_6 cw_X11_in csX11_85 (by omega) rfl hN rfl (Nat.le_of_ble_eq_true rfl) ?_
  rintro v R' h1 ⟨rfl, rfl, rfl⟩
  rw [in64 (lo := nI 0) (hi := nI 5) (by decide) (by decide), show (if nI 0 ≤ k ∧ k ≤ nI 5 then nI 1 else nI 0) = ixB k 6 from ix_lit (n := 6) (by decide) (by decide)]
  cases hx : ixO k 6 with
  | none =>
    rw [ixB_n hx]
    refine r_if_eq C dX11_least_9 (fun _ => ?_) (fun cc => absurd cc (by exact fun z => z rfl))
    exact bad (by rw [leaF, hx])
  | some i =>
    obtain ⟨hi, rfl⟩ := ixO_some hx
    rw [ixB_s hx]
    refine r_if_eq C dX11_least_9 (fun cc => absurd cc (by decide)) (fun _ => ?_)
    refine r_iload_n C dX11_least_12 rfl ?_
    refine r_i2l C dX11_least_13 ?_
    refine r_lconst (v := 0) C dX11_least_14 (by decide) ?_
    refine r_ldc2 C dX11_least_15 klX11_263 ?_
    refine r_callS C m_in dX11_least_18 cw_X11_in csX11_85 (by omega) rfl hN rfl (Nat.le_of_ble_eq_true rfl) ?_
    rintro v R' h2 ⟨rfl, rfl, rfl⟩
    rw [in64 (lo := nI 0) (hi := nI 2) (by decide) (by decide), show (if nI 0 ≤ r ∧ r ≤ nI 2 then nI 1 else nI 0) = ixB r 3 from ix_lit (n := 3) (by decide) (by decide)]
    cases hy : ixO r 3 with
    | none =>
      rw [ixB_n hy]
      refine r_if_ne C dX11_least_21 (fun cc => absurd cc (by exact fun z => z rfl)) (fun _ => ?_)
      exact bad (by rw [leaF, hx, hy])
    | some j =>
      obtain ⟨hj, rfl⟩ := ixO_some hy
      rw [ixB_s hy]
      have el : leaF g (nI i) (nI j) = lpF (gNn g 0) i (fun c => owF (gT g) (gSv g) c j (gNn g 1)) (osum (gT g) (gNn g) (gSv g) j (gNn g 0)) := by rw [leaF, hx, hy]
      rw [el]
      have hO : ∀ c, c < gNn g 0 → 0 ≤ (owF (gT g) (gSv g) c j (gNn g 1)).toInt := fun c hc => (ow_b b1 (by omega) (by decide) hT hv _ (Nat.le_refl _)).1
      refine r_if_ne C dX11_least_21 (fun _ => ?_) (fun cc => absurd cc (by decide))
      refine r_iconst (v := (nI 0)) C dX11_least_27 (by decide) ?_
      refine r_istore_n C dX11_least_28 st3 ?_
      refine r_iconst (v := (nI 0)) C dX11_least_29 (by decide) ?_
      refine r_istore C dX11_least_30 st4 ?_
      refine r_iconst (v := (nI 0)) C dX11_least_32 (by decide) ?_
      refine r_istore C dX11_least_33 st5 ?_
      have loop2 : ∀ m n P D sum, n + m = i → P < 32 → (∀ c, c < gNn g 0 → D c = mkD (fun c => owF (gT g) (gSv g) c j (gNn g 1)) P c) → lpF (gNn g 0) m D sum = lpF (gNn g 0) i (fun c => owF (gT g) (gSv g) c j (gNn g 1)) (osum (gT g) (gNn g) (gSv g) j (gNn g 0)) →
          Wa E G 243 (Rs a b) h2 (QQ E G 243 (qst a b h2 (lpF (gNn g 0) i (fun c => owF (gT g) (gSv g) c j (gNn g 1)) (osum (gT g) (gNn g) (gSv g) j (gNn g 0))))) 63 [some (aR 11 0), some (aI (nI i)), some (aI (nI j)), some (aI sum), some (aI (nI P)), some (aI (nI n)), none, none, none] [] := by
        intro m
        induction m with
        | zero =>
          intro n P D sum hn hP hD he
          refine r_iload C dX11_least_63 rfl ?_
          refine r_iload_n C dX11_least_65 rfl ?_
          refine r_icmpN_ge C dX11_least_66 (by omega) (by omega) (fun _ => ?_) (fun cc => absurd cc (by omega))
          refine r_iload_n C dX11_least_189 rfl ?_
          refine r_iret C hrt dX11_least_190 ?_
          rw [← he]
          exact ⟨rfl, rfl, rfl⟩
        | succ m ih =>
          intro n P D sum hn hP hD he
          obtain ⟨s1, s2, s3⟩ := strike_eq b0 hP hO hD
          rw [lpF, s1] at he
          have ih2 := ih (n + 1) _ _ _ (by omega) s3 s2 he
          refine r_iload C dX11_least_63 rfl ?_
          refine r_iload_n C dX11_least_65 rfl ?_
          refine r_icmpN_ge C dX11_least_66 (by omega) (by omega) (fun cc => absurd cc (by omega)) (fun _ => ?_)
          refine r_iconst (v := (-1)) C dX11_least_69 (by decide) ?_
          refine r_istore C dX11_least_70 st6 ?_
          refine r_iconst (v := (nI 0)) C dX11_least_72 (by decide) ?_
          refine r_istore C dX11_least_73 st7 ?_
          have inner : ∀ q c l8, c + q = gNn g 0 → Wa E G 243 (Rs a b) h2 (QQ E G 243 (qst a b h2 (lpF (gNn g 0) i (fun c => owF (gT g) (gSv g) c j (gNn g 1)) (osum (gT g) (gNn g) (gSv g) j (gNn g 0))))) 75 [some (aR 11 0), some (aI (nI i)), some (aI (nI j)), some (aI sum), some (aI (nI P)), some (aI (nI n)), some (aI (opI (bsF (fun c => owF (gT g) (gSv g) c j (gNn g 1)) P c))), some (aI (nI c)), l8] [] := by
            intro q
            induction q with
            | zero =>
              intro c l8 hq
              have e : c = gNn g 0 := by omega
              subst e
              refine r_iload C dX11_least_75 rfl ?_
              refine r_aload_n C dX11_least_77 rfl ?_
              refine q_getV C flX11_82 dX11_least_78 ok11 rfl ht.1 ?_
              refine r_icmpN_ge C dX11_least_81 (by omega) (by omega) (fun _ => ?_) (fun cc => absurd cc (by omega))
              cases hb : bsF (fun c => owF (gT g) (gSv g) c j (gNn g 1)) P (gNn g 0) with
              | none =>
                rw [hb] at ih2
                refine r_iload_n C dX11_least_144 rfl ?_
                refine r_iload C dX11_least_145 rfl ?_
                refine r_iconst (v := (-1)) C dX11_least_147 (by decide) ?_
                refine r_icmp_ne C dX11_least_148 (fun cc => absurd cc (by exact fun z => z rfl)) (fun _ => ?_)
                refine r_iconst (v := (nI 0)) C dX11_least_151 (by decide) ?_
                refine r_goto C dX11_least_152 ?_
                refine r_isub C dX11_least_162 ?_
                refine r_istore_n C dX11_least_163 st3 ?_
                refine r_iload C dX11_least_164 rfl ?_
                refine r_iload C dX11_least_166 rfl ?_
                refine r_iconst (v := (-1)) C dX11_least_168 (by decide) ?_
                refine r_icmp_ne C dX11_least_169 (fun cc => absurd cc (by exact fun z => z rfl)) (fun _ => ?_)
                refine r_iconst (v := (nI 0)) C dX11_least_172 (by decide) ?_
                refine r_goto C dX11_least_173 ?_
                refine r_ior C dX11_least_180 ?_
                rw [show nI P ||| nI 0 = nI P from Int32.or_zero]
                refine r_istore C dX11_least_181 st4 ?_
                first | refine r_iincN C dX11_least_183 rfl st5 ?_ | refine r_iinc C dX11_least_183 rfl rfl st5 ?_
                refine r_goto C dX11_least_186 ?_
                exact wa_loc (by simp [lsub, bsP, bsV]) ih2
              | some x =>
                rw [hb] at ih2
                obtain ⟨hxl, hxu⟩ := bsF_lt _ x hb
                have hxl5 : x < 5 := by omega
                refine r_iload_n C dX11_least_144 rfl ?_
                refine r_iload C dX11_least_145 rfl ?_
                refine r_iconst (v := (-1)) C dX11_least_147 (by decide) ?_
                refine r_icmp_ne C dX11_least_148 (fun _ => ?_) (fun cc => absurd cc (nI_nem1 (by omega)))
                refine r_aload_n C dX11_least_155 rfl ?_
                refine r_iload C dX11_least_156 rfl ?_
                refine r_iload_n C dX11_least_158 rfl ?_
                refine r_callV C (m_owedTo ht p3 hxl5 hj) dX11_least_159 cw_X11_owedTo cvX11_265 (by omega) ok11 rfl hN rfl (Nat.le_of_ble_eq_true rfl) ?_
                rintro v R' h3 ⟨rfl, rfl, rfl⟩
                refine r_isub C dX11_least_162 ?_
                refine r_istore_n C dX11_least_163 st3 ?_
                refine r_iload C dX11_least_164 rfl ?_
                refine r_iload C dX11_least_166 rfl ?_
                refine r_iconst (v := (-1)) C dX11_least_168 (by decide) ?_
                refine r_icmp_ne C dX11_least_169 (fun _ => ?_) (fun cc => absurd cc (nI_nem1 (by omega)))
                refine r_iconst (v := (nI 1)) C dX11_least_176 (by decide) ?_
                refine r_iload C dX11_least_177 rfl ?_
                refine r_ishl C dX11_least_179 ?_
                refine r_ior C dX11_least_180 ?_
                rw [show nI P ||| nI 1 <<< (opI (some x) &&& 31) = nI (P + 2 ^ x) from (bit_or P hP x hxl5 hxu).1]
                refine r_istore C dX11_least_181 st4 ?_
                first | refine r_iincN C dX11_least_183 rfl st5 ?_ | refine r_iinc C dX11_least_183 rfl rfl st5 ?_
                refine r_goto C dX11_least_186 ?_
                exact wa_loc (by simp [lsub, bsP, bsV]) ih2
            | succ q ihq =>
              intro c l8 hq
              have ih3 := fun l8 => ihq (c + 1) l8 (by omega)
              simp only [bsF] at ih3
              have hc5 : c < 5 := by omega
              have hbit : P / 2 ^ c % 2 = 0 ∨ P / 2 ^ c % 2 = 1 := by omega
              have yes : (P / 2 ^ c % 2 = 0 ∧ ∀ x, bsF (fun c => owF (gT g) (gSv g) c j (gNn g 1)) P c = some x → owF (gT g) (gSv g) x j (gNn g 1) < owF (gT g) (gSv g) c j (gNn g 1)) → Wa E G 243 (Rs a b) h2 (QQ E G 243 (qst a b h2 (lpF (gNn g 0) i (fun c => owF (gT g) (gSv g) c j (gNn g 1)) (osum (gT g) (gNn g) (gSv g) j (gNn g 0))))) 117 [some (aR 11 0), some (aI (nI i)), some (aI (nI j)), some (aI sum), some (aI (nI P)), some (aI (nI n)), some (aI (opI (bsF (fun c => owF (gT g) (gSv g) c j (gNn g 1)) P c))), some (aI (nI c)), l8] [] := by
                intro hyes
                have ih4 := ih3 (some (aI (nI 1)))
                rw [if_pos hyes] at ih4
                refine r_iconst (v := (nI 1)) C dX11_least_117 (by decide) ?_
                refine r_goto C dX11_least_118 ?_
                refine r_istore C dX11_least_122 st8 ?_
                refine r_iload C dX11_least_124 rfl ?_
                refine r_if_eq C dX11_least_126 (fun cc => absurd cc (by decide)) (fun _ => ?_)
                refine r_iload C dX11_least_129 rfl ?_
                refine r_goto C dX11_least_131 ?_
                refine r_istore C dX11_least_136 st6 ?_
                first | refine r_iincN C dX11_least_138 rfl st7 ?_ | refine r_iinc C dX11_least_138 rfl rfl st7 ?_
                refine r_goto C dX11_least_141 ?_
                exact ih4
              have no : ¬ (P / 2 ^ c % 2 = 0 ∧ ∀ x, bsF (fun c => owF (gT g) (gSv g) c j (gNn g 1)) P c = some x → owF (gT g) (gSv g) x j (gNn g 1) < owF (gT g) (gSv g) c j (gNn g 1)) → Wa E G 243 (Rs a b) h2 (QQ E G 243 (qst a b h2 (lpF (gNn g 0) i (fun c => owF (gT g) (gSv g) c j (gNn g 1)) (osum (gT g) (gNn g) (gSv g) j (gNn g 0))))) 121 [some (aR 11 0), some (aI (nI i)), some (aI (nI j)), some (aI sum), some (aI (nI P)), some (aI (nI n)), some (aI (opI (bsF (fun c => owF (gT g) (gSv g) c j (gNn g 1)) P c))), some (aI (nI c)), l8] [] := by
                intro hno
                have ih4 := ih3 (some (aI (nI 0)))
                rw [if_neg hno] at ih4
                refine r_iconst (v := (nI 0)) C dX11_least_121 (by decide) ?_
                refine r_istore C dX11_least_122 st8 ?_
                refine r_iload C dX11_least_124 rfl ?_
                refine r_if_eq C dX11_least_126 (fun _ => ?_) (fun cc => absurd cc (by exact fun z => z rfl))
                refine r_iload C dX11_least_134 rfl ?_
                refine r_istore C dX11_least_136 st6 ?_
                first | refine r_iincN C dX11_least_138 rfl st7 ?_ | refine r_iinc C dX11_least_138 rfl rfl st7 ?_
                refine r_goto C dX11_least_141 ?_
                exact ih4
              refine r_iload C dX11_least_75 rfl ?_
              refine r_aload_n C dX11_least_77 rfl ?_
              refine q_getV C flX11_82 dX11_least_78 ok11 rfl ht.1 ?_
              refine r_icmpN_ge C dX11_least_81 (by omega) (by omega) (fun cc => absurd cc (by omega)) (fun _ => ?_)
              refine r_iload C dX11_least_84 rfl ?_
              refine r_iload C dX11_least_86 rfl ?_
              refine r_ishr C dX11_least_88 ?_
              refine r_iconst (v := (nI 1)) C dX11_least_89 (by decide) ?_
              refine r_iand C dX11_least_90 ?_
              rw [bit_shr P hP c hc5]
              rcases hbit with hb0 | hb1
              · rw [hb0]
                refine r_if_ne C dX11_least_91 (fun cc => absurd cc (by exact fun z => z rfl)) (fun _ => ?_)
                cases hb : bsF (fun c => owF (gT g) (gSv g) c j (gNn g 1)) P c with
                | none =>
                  rw [hb] at yes
                  refine r_iload C dX11_least_94 rfl ?_
                  refine r_iconst (v := (-1)) C dX11_least_96 (by decide) ?_
                  refine r_icmp_eq C dX11_least_97 (fun _ => ?_) (fun cc => absurd cc (by exact fun z => z rfl))
                  exact yes ⟨hb0, fun x hx => by cases hx⟩
                | some x =>
                  obtain ⟨hxl, hxu⟩ := bsF_lt _ x hb
                  rw [hb] at yes no
                  refine r_iload C dX11_least_94 rfl ?_
                  refine r_iconst (v := (-1)) C dX11_least_96 (by decide) ?_
                  refine r_icmp_eq C dX11_least_97 (fun cc => absurd cc (nI_nem1 (by omega))) (fun _ => ?_)
                  refine r_aload_n C dX11_least_100 rfl ?_
                  refine r_iload C dX11_least_101 rfl ?_
                  refine r_iload_n C dX11_least_103 rfl ?_
                  refine r_callV C (m_owedTo ht p3 hc5 hj) dX11_least_104 cw_X11_owedTo cvX11_265 (by omega) ok11 rfl hN rfl (Nat.le_of_ble_eq_true rfl) ?_
                  rintro v R' h3 ⟨rfl, rfl, rfl⟩
                  refine r_aload_n C dX11_least_107 rfl ?_
                  refine r_iload C dX11_least_108 rfl ?_
                  refine r_iload_n C dX11_least_110 rfl ?_
                  refine r_callV C (m_owedTo ht p3 (by omega) hj) dX11_least_111 cw_X11_owedTo cvX11_265 (by omega) ok11 rfl hN rfl (Nat.le_of_ble_eq_true rfl) ?_
                  rintro v R' h4 ⟨rfl, rfl, rfl⟩
                  refine r_icmp_le C dX11_least_114 (fun c114 => ?_) (fun c114 => ?_)
                  · exact no (fun z => absurd c114 (Int32.not_le.mpr (z.2 x rfl)))
                  · exact yes ⟨hb0, fun y hy => by cases hy; exact Int32.not_le.mp c114⟩
              · rw [hb1]
                refine r_if_ne C dX11_least_91 (fun _ => ?_) (fun cc => absurd cc (by decide))
                exact no (fun z => by omega)
          exact inner (gNn g 0) 0 _ (by omega)
      have loop1 : ∀ q c, c + q = gNn g 0 → Wa E G 243 (Rs a b) h2 (QQ E G 243 (qst a b h2 (lpF (gNn g 0) i (fun c => owF (gT g) (gSv g) c j (gNn g 1)) (osum (gT g) (gNn g) (gSv g) j (gNn g 0))))) 35 [some (aR 11 0), some (aI (nI i)), some (aI (nI j)), some (aI (osum (gT g) (gNn g) (gSv g) j c)), some (aI (nI 0)), some (aI (nI c)), none, none, none] [] := by
        intro q
        induction q with
        | zero =>
          intro c hq
          have e : c = gNn g 0 := by omega
          subst e
          refine r_iload C dX11_least_35 rfl ?_
          refine r_aload_n C dX11_least_37 rfl ?_
          refine q_getV C flX11_82 dX11_least_38 ok11 rfl ht.1 ?_
          refine r_icmpN_ge C dX11_least_41 (by omega) (by omega) (fun _ => ?_) (fun cc => absurd cc (by omega))
          refine r_iconst (v := (nI 0)) C dX11_least_60 (by decide) ?_
          refine r_istore C dX11_least_61 st5 ?_
          exact loop2 i 0 0 _ _ (by omega) (by decide) (fun c _ => by rw [mkD, if_neg (by rw [Nat.zero_div]; decide)]) rfl
        | succ q ih =>
          intro c hq
          refine r_iload C dX11_least_35 rfl ?_
          refine r_aload_n C dX11_least_37 rfl ?_
          refine q_getV C flX11_82 dX11_least_38 ok11 rfl ht.1 ?_
          refine r_icmpN_ge C dX11_least_41 (by omega) (by omega) (fun cc => absurd cc (by omega)) (fun _ => ?_)
          refine r_iload_n C dX11_least_44 rfl ?_
          refine r_aload_n C dX11_least_45 rfl ?_
          refine r_iload C dX11_least_46 rfl ?_
          refine r_iload_n C dX11_least_48 rfl ?_
          refine r_callV C (m_owedTo ht p3 (by omega) hj) dX11_least_49 cw_X11_owedTo cvX11_265 (by omega) ok11 rfl hN rfl (Nat.le_of_ble_eq_true rfl) ?_
          rintro v R' h3 ⟨rfl, rfl, rfl⟩
          refine r_iadd C dX11_least_52 ?_
          refine r_istore_n C dX11_least_53 st3 ?_
          first | refine r_iincN C dX11_least_54 rfl st5 ?_ | refine r_iinc C dX11_least_54 rfl rfl st5 ?_
          refine r_goto C dX11_least_57 ?_
          exact ih (c + 1) (by omega)
      exact loop1 (gNn g 0) 0 (by omega)
