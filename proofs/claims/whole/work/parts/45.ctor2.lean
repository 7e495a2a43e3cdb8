/-! the class's own constructor -/
theorem k_7 {E : Ev} {R : RF} {h : HF} (hU : Un 1 R h) : Ct E 1 yX7_init cX7_init 1 none [aR 7 0] 2 R h 3 (inP 1 2 R h) := by
  have p : pos 7 0 = 1 := by decide +kernel
  have z := n_7 (E := E) (j := 0) (R := R) (h := h) (by decide)
  rw [p] at z
  exact z hU
theorem k_4 {E : Ev} {R : RF} {h : HF} (hU : Un 3 R h) : Ct E 1 yX4_init cX4_init 1 none [aR 4 0] 4 R h 5 (inP 3 2 R h) := by
  have p : pos 4 0 = 3 := by decide +kernel
  have z := n_4 (E := E) (j := 0) (R := R) (h := h) (by decide)
  rw [p] at z
  exact z hU
theorem k_8a {E : Ev} {R : RF} {h : HF} (hU : Un 5 R h) : Ct E 1 yX8_init cX8_init 1 none [aR 8 0] 6 R h 15 (inP 5 10 R h) := by
  have p : pos 8 0 = 5 := by decide +kernel
  have z := n_8 (E := E) (j := 0) (R := R) (h := h) (by decide)
  rw [p] at z
  exact z hU
theorem k_8b {E : Ev} {R : RF} {h : HF} (hU : Un 15 R h) : Ct E 1 yX8_init cX8_init 1 none [aR 8 1] 16 R h 25 (inP 15 10 R h) := by
  have p : pos 8 1 = 15 := by decide +kernel
  have z := n_8 (E := E) (j := 1) (R := R) (h := h) (by decide)
  rw [p] at z
  exact z hU
theorem k_6 {E : Ev} {R : RF} {h : HF} (hU : Un 25 R h) : Ct E 2 yX6_init cX6_init 1 none [aR 6 0] 26 R h 32 (inP 25 7 R h) := by
  have p : pos 6 0 = 25 := by decide +kernel
  have z := n_6 (E := E) (j := 0) (R := R) (h := h) (by decide)
  rw [p] at z
  exact z hU
theorem k_5 {E : Ev} {R : RF} {h : HF} (hU : Un 196 R h) : Ct E 1 yX5_init cX5_init 1 none [aR 5 0] 197 R h 202 (inP 196 6 R h) := by
  have p : pos 5 0 = 196 := by decide +kernel
  have z := n_5 (E := E) (j := 0) (R := R) (h := h) (by decide)
  rw [p] at z
  exact z hU
theorem k_0 {E : Ev} {R : RF} {h : HF} (hU : Un 202 R h) : Ct E 1 yX0_init cX0_init 1 none [aR 0 0] 203 R h 205 (inP 202 3 R h) := by
  have p : pos 0 0 = 202 := by decide +kernel
  have z := n_0 (E := E) (j := 0) (R := R) (h := h) (by decide)
  rw [p] at z
  exact z hU
theorem k_2a {E : Ev} {R : RF} {h : HF} (hU : Un 205 R h) : Ct E 3 yX2_init cX2_init 1 none [aR 2 0] 206 R h 213 (inP 205 8 R h) := by
  have p : pos 2 0 = 205 := by decide +kernel
  have z := n_2 (E := E) (j := 0) (R := R) (h := h) (by decide)
  rw [p] at z
  exact z hU
theorem k_2b {E : Ev} {R : RF} {h : HF} (hU : Un 213 R h) : Ct E 3 yX2_init cX2_init 1 none [aR 2 1] 214 R h 221 (inP 213 8 R h) := by
  have p : pos 2 1 = 213 := by decide +kernel
  have z := n_2 (E := E) (j := 1) (R := R) (h := h) (by decide)
  rw [p] at z
  exact z hU
theorem k_11 {E : Ev} {R : RF} {h : HF} (hU : Un 221 R h) : Ct E 1 yX11_init cX11_init 1 none [aR 11 0] 222 R h 243 (inP 221 22 R h) := by
  have p : pos 11 0 = 221 := by decide +kernel
  have z := n_11 (E := E) (j := 0) (R := R) (h := h) (by decide)
  rw [p] at z
  exact z hU
def St (n : Nat) (mf : Nat → Option (Nat × Nat)) (R : RF) (h : HF) : Prop := (∀ i, R 10 0 i = mf i ∧ h 10 0 i = 0) ∧ (∀ q, 1 ≤ q → q < n → q ≠ 174 → Dq q R h) ∧ (∀ i, R 38 0 i = none ∧ h 38 0 i = 0) ∧ Un n R h
theorem i_10 : pos 10 0 = 0 ∧ idq 0 = (10, 0) ∧ pos 38 0 = 174 ∧ idq 174 = (38, 0) := by decide +kernel
theorem St.call {n p : Nat} {mf : Nat → Option (Nat × Nat)} {R R1 : RF} {h h1 : HF} (s : St p mf R h) (hp : 1 ≤ p) (hn : n ≤ 174 ∨ 174 < p) (d : Dn p n R1 h1) (u : Un n R1 h1) (m : Sm p R h R1 h1) : St n mf R1 h1 := by
  refine ⟨fun i => ?_, fun q h1 h2 h3 => ?_, fun i => ?_, u⟩
  · have z := sq_at (m 0 (by omega)) i_10.2.1
    rw [z.1, z.2]
    exact s.1 i
  · by_cases e : q < p
    · exact (s.2.1 q h1 e h3).sq (m q e)
    · exact d q (by omega) h2
  · rcases hn with hn | hn
    · exact un_at u hn (by decide) i_10.2.2.2 i
    · have z := sq_at (m 174 hn) i_10.2.2.2
      rw [z.1, z.2]
      exact s.2.2.1 i
theorem St.put {n i : Nat} {mf : Nat → Option (Nat × Nat)} {R : RF} {h : HF} {v : Option (Nat × Nat)} (s : St n mf R h) (hn : 1 ≤ n) (hn2 : n ≤ 243) : St n (va_up mf i v) (putR R 10 0 i v) h := by
  have f : Of 0 R h (putR R 10 0 i v) h := Of.putR Of.rf i_10.1
  refine ⟨fun x => ?_, fun q h1 h2 h3 => ?_, s.2.2.1, s.2.2.2.of f hn⟩
  · by_cases e : x = i
    · subst e; rw [va_up_self]; exact ⟨by simp [putR], (s.1 x).2⟩
    · rw [va_up_ne _ _ e]; exact ⟨by simp [putR, e]; exact (s.1 x).1, (s.1 x).2⟩
  · exact (s.2.1 q h1 h2 h3).sq (f q (by omega) (by omega))

set_option maxRecDepth 100000 in
set_option maxHeartbeats 8000000 in
theorem n_10 {E : Ev} {R : RF} {h : HF} (hU : Un 0 R h) : Ct E 4 yX10_init cX10_init 2 none [aR 10 0] 1 R h 221 (inP 0 221 R h) := by
  have o10 : ∀ n, 0 < n → n ≤ 243 → Ok n 10 0 := fun n h1 h2 => ⟨by decide, by decide, by rw [i_10.1]; exact h1, h2⟩
  have o38 : ∀ n, 174 < n → n ≤ 243 → Ok n 38 0 := fun n h1 h2 => ⟨by decide, by decide, by rw [i_10.2.2.1]; exact h1, h2⟩
  have w0 := un_at hU (Nat.le_refl _) (by omega) i_10.2.1
  have s0 : St 1 (fun _ => none) R h := ⟨w0, fun q h1 h2 _ => by omega, un_at hU (by omega) (by omega) i_10.2.2.2, hU.le (by omega)⟩
  refine Ct.of 1 (L0 := [some (aR 10 0), none]) (by decide) ⟨by omega, by omega⟩ rfl rfl ?_
  intro G C hg hrt hnm
  have j1 : idq 1 = (7, 0) := by decide +kernel
  have z1 := un_at s0.2.2.2 (Nat.le_refl _) (by omega) j1
  refine r_aload_n C dX10_init_0 rfl ?_
  refine r_objI C dX10_init_1 coX10_1 (by omega) (Nat.le_of_ble_eq_true rfl) ?_
  refine r_aload_n C dX10_init_4 rfl ?_
  refine r_new C clX10_7 dX10_init_5 j1 ⟨by omega, by omega⟩ (fun i => (z1 i).1) (fun i => (z1 i).2) ?_
  refine r_dup C dX10_init_8 rfl ?_
  refine r_callIN C (k_7 (E := E) s0.2.2.2) dX10_init_9 cw_X7_init cnX10_9 (by omega) rfl ⟨by omega, by omega, by omega⟩ rfl (Nat.le_of_ble_eq_true rfl) ?_
  rintro v R1 h1 ⟨rfl, d1, v1, m1⟩
  have s1 : St 3 _ _ _ := St.put (i := 0) (v := some (7, 0)) (St.call (n := 3) s0 (by omega) (by omega) d1 v1 m1) (by omega) (by omega)
  have j3 : idq 3 = (4, 0) := by decide +kernel
  have z3 := un_at s1.2.2.2 (Nat.le_refl _) (by omega) j3
  refine r_putF C hnm flX10_10 rfl dX10_init_12 (o10 _ (by omega) (by omega)) rfl (fun _ => ⟨rfl, rfl⟩) ?_
  refine r_aload_n C dX10_init_15 rfl ?_
  refine r_new C clX10_16 dX10_init_16 j3 ⟨by omega, by omega⟩ (fun i => (z3 i).1) (fun i => (z3 i).2) ?_
  refine r_dup C dX10_init_19 rfl ?_
  refine r_callIN C (k_4 (E := E) s1.2.2.2) dX10_init_20 cw_X4_init cnX10_18 (by omega) rfl ⟨by omega, by omega, by omega⟩ rfl (Nat.le_of_ble_eq_true rfl) ?_
  rintro v R3 h3 ⟨rfl, d3, v3, m3⟩
  have s3 : St 5 _ _ _ := St.put (i := 1) (v := some (4, 0)) (St.call (n := 5) s1 (by omega) (by omega) d3 v3 m3) (by omega) (by omega)
  have j5 : idq 5 = (8, 0) := by decide +kernel
  have z5 := un_at s3.2.2.2 (Nat.le_refl _) (by omega) j5
  refine r_putF C hnm flX10_19 rfl dX10_init_23 (o10 _ (by omega) (by omega)) rfl (fun _ => ⟨rfl, rfl⟩) ?_
  refine r_aload_n C dX10_init_26 rfl ?_
  refine r_new C clX10_23 dX10_init_27 j5 ⟨by omega, by omega⟩ (fun i => (z5 i).1) (fun i => (z5 i).2) ?_
  refine r_dup C dX10_init_30 rfl ?_
  refine r_callIN C (k_8a (E := E) s3.2.2.2) dX10_init_31 cw_X8_init cnX10_25 (by omega) rfl ⟨by omega, by omega, by omega⟩ rfl (Nat.le_of_ble_eq_true rfl) ?_
  rintro v R5 h5 ⟨rfl, d5, v5, m5⟩
  have s5 : St 15 _ _ _ := St.put (i := 2) (v := some (8, 0)) (St.call (n := 15) s3 (by omega) (by omega) d5 v5 m5) (by omega) (by omega)
  have j15 : idq 15 = (8, 1) := by decide +kernel
  have z15 := un_at s5.2.2.2 (Nat.le_refl _) (by omega) j15
  refine r_putR C flX10_26 dX10_init_34 (o10 _ (by omega) (by omega)) rfl (fun _ => ⟨rfl, rfl⟩) ?_
  refine r_aload_n C dX10_init_37 rfl ?_
  refine r_new C clX10_23 dX10_init_38 j15 ⟨by omega, by omega⟩ (fun i => (z15 i).1) (fun i => (z15 i).2) ?_
  refine r_dup C dX10_init_41 rfl ?_
  refine r_callIN C (k_8b (E := E) s5.2.2.2) dX10_init_42 cw_X8_init cnX10_25 (by omega) rfl ⟨by omega, by omega, by omega⟩ rfl (Nat.le_of_ble_eq_true rfl) ?_
  rintro v R15 h15 ⟨rfl, d15, v15, m15⟩
  have s15 : St 25 _ _ _ := St.put (i := 3) (v := some (8, 1)) (St.call (n := 25) s5 (by omega) (by omega) d15 v15 m15) (by omega) (by omega)
  have j25 : idq 25 = (6, 0) := by decide +kernel
  have z25 := un_at s15.2.2.2 (Nat.le_refl _) (by omega) j25
  refine r_putR C flX10_30 dX10_init_45 (o10 _ (by omega) (by omega)) rfl (fun _ => ⟨rfl, rfl⟩) ?_
  refine r_aload_n C dX10_init_48 rfl ?_
  refine r_new C clX10_33 dX10_init_49 j25 ⟨by omega, by omega⟩ (fun i => (z25 i).1) (fun i => (z25 i).2) ?_
  refine r_dup C dX10_init_52 rfl ?_
  refine r_callIN C (k_6 (E := E) s15.2.2.2) dX10_init_53 cw_X6_init cnX10_35 (by omega) rfl ⟨by omega, by omega, by omega⟩ rfl (Nat.le_of_ble_eq_true rfl) ?_
  rintro v R25 h25 ⟨rfl, d25, v25, m25⟩
  have s25 : St 32 _ _ _ := St.put (i := 4) (v := some (6, 0)) (St.call (n := 32) s15 (by omega) (by omega) d25 v25 m25) (by omega) (by omega)
  have j32 : idq 32 = (3, 0) := by decide +kernel
  have z32 := un_at s25.2.2.2 (Nat.le_refl _) (by omega) j32
  refine r_putF C hnm flX10_36 rfl dX10_init_56 (o10 _ (by omega) (by omega)) rfl (fun _ => ⟨rfl, rfl⟩) ?_
  refine r_aload_n C dX10_init_59 rfl ?_
  refine r_new C clX10_40 dX10_init_60 j32 ⟨by omega, by omega⟩ (fun i => (z32 i).1) (fun i => (z32 i).2) ?_
  refine r_dup C dX10_init_63 rfl ?_
  refine r_callI C (n_3 (E := E) s25.2.2.2) dX10_init_64 cw_X3_init ciX10_42 (by omega) rfl ⟨by omega, by omega, by omega⟩ rfl (Nat.le_of_ble_eq_true rfl) ?_
  rintro v R32 h32 ⟨rfl, d32, v32, m32⟩
  have s32 : St 174 _ _ _ := St.put (i := 5) (v := some (3, 0)) (St.call (n := 174) s25 (by omega) (by omega) d32 v32 m32) (by omega) (by omega)
  have z0 := un_at s32.2.2.2 (q := 174) (by omega) (by omega) i_10.2.2.2
  refine r_putF C hnm flX10_43 rfl dX10_init_67 (o10 _ (by omega) (by omega)) rfl (fun _ => ⟨rfl, rfl⟩) ?_
  refine r_aload_n C dX10_init_70 rfl ?_
  refine r_iconst (v := (nI 2)) C dX10_init_71 (by decide) ?_
  refine r_newA (t := 2) C dX10_init_72 lk_10 C.2.2.2.2.1.2.2.1.2.2 rfl i_10.2.2.2 rfl rfl (by decide) ⟨by omega, by omega⟩ (fun i => (z0 i).1) ?_
  refine r_putF C hnm flX10_49 rfl dX10_init_75 (o10 _ (by omega) (by omega)) rfl (fun _ => ⟨rfl, rfl⟩) ?_
  have t6 : St 175 _ _ _ := St.put (i := 6) (v := some (38, 0)) (n := 175) ⟨s32.1, fun q h1 h2 h3 => s32.2.1 q h1 (by omega) h3, s32.2.2.1, s32.2.2.2.le (by omega)⟩ (by omega) (by omega)
  have j175 : idq 175 = (9, 0) := by decide +kernel
  have z175 := un_at t6.2.2.2 (Nat.le_refl _) (by omega) j175
  refine r_aload_n C dX10_init_78 rfl ?_
  refine r_new C clX10_53 dX10_init_79 j175 ⟨by omega, by omega⟩ (fun i => (z175 i).1) (fun i => (z175 i).2) ?_
  refine r_dup C dX10_init_82 rfl ?_
  refine r_callI C (n_9 (E := E) t6.2.2.2) dX10_init_83 cw_X9_init ciX10_55 (by omega) rfl ⟨by omega, by omega, by omega⟩ rfl (Nat.le_of_ble_eq_true rfl) ?_
  rintro v R175 h175 ⟨rfl, d175, v175, m175⟩
  have s175 : St 196 _ _ _ := St.put (i := 7) (v := some (9, 0)) (St.call (n := 196) t6 (by omega) (by omega) d175 v175 m175) (by omega) (by omega)
  have j196 : idq 196 = (5, 0) := by decide +kernel
  have z196 := un_at s175.2.2.2 (Nat.le_refl _) (by omega) j196
  refine r_putF C hnm flX10_56 rfl dX10_init_86 (o10 _ (by omega) (by omega)) rfl (fun _ => ⟨rfl, rfl⟩) ?_
  refine r_aload_n C dX10_init_89 rfl ?_
  refine r_new C clX10_60 dX10_init_90 j196 ⟨by omega, by omega⟩ (fun i => (z196 i).1) (fun i => (z196 i).2) ?_
  refine r_dup C dX10_init_93 rfl ?_
  refine r_callIN C (k_5 (E := E) s175.2.2.2) dX10_init_94 cw_X5_init cnX10_62 (by omega) rfl ⟨by omega, by omega, by omega⟩ rfl (Nat.le_of_ble_eq_true rfl) ?_
  rintro v R196 h196 ⟨rfl, d196, v196, m196⟩
  have s196 : St 202 _ _ _ := St.put (i := 8) (v := some (5, 0)) (St.call (n := 202) s175 (by omega) (by omega) d196 v196 m196) (by omega) (by omega)
  have j202 : idq 202 = (0, 0) := by decide +kernel
  have z202 := un_at s196.2.2.2 (Nat.le_refl _) (by omega) j202
  refine r_putF C hnm flX10_63 rfl dX10_init_97 (o10 _ (by omega) (by omega)) rfl (fun _ => ⟨rfl, rfl⟩) ?_
  refine r_aload_n C dX10_init_100 rfl ?_
  refine r_new C clX10_67 dX10_init_101 j202 ⟨by omega, by omega⟩ (fun i => (z202 i).1) (fun i => (z202 i).2) ?_
  refine r_dup C dX10_init_104 rfl ?_
  refine r_callIN C (k_0 (E := E) s196.2.2.2) dX10_init_105 cw_X0_init cnX10_69 (by omega) rfl ⟨by omega, by omega, by omega⟩ rfl (Nat.le_of_ble_eq_true rfl) ?_
  rintro v R202 h202 ⟨rfl, d202, v202, m202⟩
  have s202 : St 205 _ _ _ := St.put (i := 9) (v := some (0, 0)) (St.call (n := 205) s196 (by omega) (by omega) d202 v202 m202) (by omega) (by omega)
  have q6 : putR R202 10 0 9 (some (0, 0)) 10 0 6 = some (38, 0) := (s202.1 6).1.trans rfl
  have j205 : idq 205 = (2, 0) := by decide +kernel
  have j213 : idq 213 = (2, 1) := by decide +kernel
  have p205 : pos 2 0 = 205 := by decide +kernel
  have p213 : pos 2 1 = 213 := by decide +kernel
  have fh : Of 0 (putR R202 10 0 9 (some (0, 0))) h202 (putR R202 10 0 9 (some (0, 0))) (put (put h202 10 0 10 (nI 0)) 10 0 11 (-1)) := Of.put (Of.put Of.rf i_10.1) i_10.1
  have u205 : Un 205 (putR R202 10 0 9 (some (0, 0))) (put (put h202 10 0 10 (nI 0)) 10 0 11 (-1)) := s202.2.2.2.of fh (by omega)
  have z205 := un_at u205 (Nat.le_refl _) (by omega) j205
  refine r_putF C hnm flX10_70 rfl dX10_init_108 (o10 _ (by omega) (by omega)) rfl (fun _ => ⟨rfl, rfl⟩) ?_
  refine r_aload_n C dX10_init_111 rfl ?_
  refine r_iconst (v := (nI 0)) C dX10_init_112 (by decide) ?_
  refine r_putI C flX10_74 dX10_init_113 (o10 _ (by omega) (by omega)) rfl ⟨rfl, rfl⟩ ?_
  refine r_aload_n C dX10_init_116 rfl ?_
  refine r_iconst (v := (-1)) C dX10_init_117 (by decide) ?_
  refine r_putI C flX10_78 dX10_init_118 (o10 _ (by omega) (by omega)) rfl ⟨rfl, rfl⟩ ?_
  refine r_iconst (v := (nI 0)) C dX10_init_121 (by decide) ?_
  refine r_istore_n C dX10_init_122 st1 ?_
  refine r_iload_n C dX10_init_123 rfl ?_
  refine r_iconst (v := (nI 2)) C dX10_init_124 (by decide) ?_
  refine r_icmpN_ge C dX10_init_125 (by omega) (by omega) (fun cc => absurd cc (by omega)) (fun _ => ?_)
  refine r_aload_n C dX10_init_128 rfl ?_
  refine r_getR C flX10_49 dX10_init_129 (o10 _ (by omega) (by omega)) rfl q6 ?_
  refine r_iload_n C dX10_init_132 rfl ?_
  refine r_new C clX10_47 dX10_init_133 j205 ⟨by omega, by omega⟩ (fun i => (z205 i).1) (fun i => (z205 i).2) ?_
  refine r_dup C dX10_init_136 rfl ?_
  refine r_callIN C (k_2a (E := E) u205) dX10_init_137 cw_X2_init cnX10_81 (by omega) rfl ⟨by omega, by omega, by omega⟩ rfl (Nat.le_of_ble_eq_true rfl) ?_
  rintro v R3 h3 ⟨rfl, d3, v3, m3⟩
  have e10 := sq_at (m3 0 (by omega)) i_10.2.1
  have e38 := sq_at (m3 174 (by omega)) i_10.2.2.2
  have fa : Of 174 R3 h3 (putR R3 38 0 0 (some (2, 0))) h3 := Of.putR Of.rf i_10.2.2.1
  have u213 : Un 213 (putR R3 38 0 0 (some (2, 0))) h3 := v3.of fa (by omega)
  have z213 := un_at u213 (Nat.le_refl _) (by omega) j213
  have q6b : putR R3 38 0 0 (some (2, 0)) 10 0 6 = some (38, 0) := by
    show R3 10 0 6 = _
    rw [e10.1]
    exact q6
  refine r_aast (t := 2) C dX10_init_140 (o38 _ (by omega) (by omega)) rfl rfl (by decide) (by decide) rfl rfl ⟨by decide, by decide, by rw [p205]; omega, by omega⟩ rfl ?_
  first | refine r_iincN C dX10_init_141 rfl st1 ?_ | refine r_iinc C dX10_init_141 rfl rfl st1 ?_
  refine r_goto C dX10_init_144 ?_
  refine r_iload_n C dX10_init_123 rfl ?_
  refine r_iconst (v := (nI 2)) C dX10_init_124 (by decide) ?_
  refine r_icmpN_ge C dX10_init_125 (by omega) (by omega) (fun cc => absurd cc (by omega)) (fun _ => ?_)
  refine r_aload_n C dX10_init_128 rfl ?_
  refine r_getR C flX10_49 dX10_init_129 (o10 _ (by omega) (by omega)) rfl q6b ?_
  refine r_iload_n C dX10_init_132 rfl ?_
  refine r_new C clX10_47 dX10_init_133 j213 ⟨by omega, by omega⟩ (fun i => (z213 i).1) (fun i => (z213 i).2) ?_
  refine r_dup C dX10_init_136 rfl ?_
  refine r_callIN C (k_2b (E := E) u213) dX10_init_137 cw_X2_init cnX10_81 (by omega) rfl ⟨by omega, by omega, by omega⟩ rfl (Nat.le_of_ble_eq_true rfl) ?_
  rintro v R4 h4 ⟨rfl, d4, v4, m4⟩
  have e10b := sq_at (m4 0 (by omega)) i_10.2.1
  have e38b := sq_at (m4 174 (by omega)) i_10.2.2.2
  have fb : Of 174 R4 h4 (putR R4 38 0 1 (some (2, 1))) h4 := Of.putR Of.rf i_10.2.2.1
  refine r_aast (t := 2) C dX10_init_140 (o38 _ (by omega) (by omega)) rfl rfl (by decide) (by decide) rfl rfl ⟨by decide, by decide, by rw [p213]; omega, by omega⟩ rfl ?_
  first | refine r_iincN C dX10_init_141 rfl st1 ?_ | refine r_iinc C dX10_init_141 rfl rfl st1 ?_
  refine r_goto C dX10_init_144 ?_
  refine r_iload_n C dX10_init_123 rfl ?_
  refine r_iconst (v := (nI 2)) C dX10_init_124 (by decide) ?_
  refine r_icmpN_ge C dX10_init_125 (by omega) (by omega) (fun _ => ?_) (fun cc => absurd cc (by omega))
  refine r_vret C hrt dX10_init_147 ?_
  refine ⟨rfl, fun q h1 h2 => ?_, v4.of fb (by omega), fun q hq => absurd hq (Nat.not_lt_zero _)⟩
  by_cases c0 : q = 0
  · rw [c0]
    refine dq_of i_10.2.1 (fun i hi => ?_)
    have hi : i < 12 := hi
    have r1 : putR R4 38 0 1 (some (2, 1)) 10 0 i = putR R202 10 0 9 (some (0, 0)) 10 0 i := by
      show R4 10 0 i = _
      rw [e10b.1]
      show R3 10 0 i = _
      rw [e10.1]
    have r2 : h4 10 0 i = put (put h202 10 0 10 (nI 0)) 10 0 11 (-1) 10 0 i := by
      rw [e10b.2, e10.2]
    rw [r1, r2, (s202.1 i).1]
    rcases (show i = 0 ∨ i = 1 ∨ i = 2 ∨ i = 3 ∨ i = 4 ∨ i = 5 ∨ i = 6 ∨ i = 7 ∨ i = 8 ∨ i = 9 ∨ i = 10 ∨ i = 11 by omega) with rfl | rfl | rfl | rfl | rfl | rfl | rfl | rfl | rfl | rfl | rfl | rfl <;> simp [va_up, put, Rs, H0, s202.1, nI_0]
  · by_cases c1 : q = 174
    · rw [c1]
      refine dq_of i_10.2.2.2 (fun i hi => ?_)
      have hi : i < 2 := hi
      have r2 : h4 38 0 i = 0 := by
        rw [e38b.2, e38.2]
        exact (s202.2.2.1 i).2
      rcases (show i = 0 ∨ i = 1 by omega) with rfl | rfl
      · refine ⟨?_, r2⟩
        show R4 38 0 0 = _
        rw [e38b.1]
        rfl
      · exact ⟨rfl, r2⟩
    · rcases (show q < 205 ∨ (205 ≤ q ∧ q < 213) ∨ 213 ≤ q by omega) with e | e | e
      · exact ((((((s202.2.1 q (by omega) e c1).sq (fh q (by omega) c0)).sq (m3 q e)).sq (fa q (by omega) c1)).sq (m4 q (by omega))).sq (fb q (by omega) c1))
      · exact ((((d3 q e.1 (by omega)).sq (fa q (by omega) c1)).sq (m4 q (by omega))).sq (fb q (by omega) c1))
      · exact (d4 q e (by omega)).sq (fb q (by omega) c1)
/-! once all is made -/
theorem ent_cong {E : Ev} {H : Heap} {a k : Nat} {Rr Rr' : Nat → Option (Nat × Nat)} {hr hr' : Nat → Int32} (hs : ∀ i, i < nf k → Rr i = Rr' i ∧ hr i = hr' i) (c : va_at E.2.2.1 vwCl (a, ent E k Rr hr) H) : va_at E.2.2.1 vwCl (a, ent E k Rr' hr') H := by
  have arr : ∀ (cA : ClassId) (n : Nat) (f f' : Nat → Value), (∀ j, j < n → f j = f' j) → arrV cA n f = arrV cA n f' := fun cA n f f' hf => by
    unfold arrV
    have e : (fun j : Fin n => f j.val) = (fun j : Fin n => f' j.val) := funext (fun j => hf j.val j.isLt)
    rw [e]
  rcases (show shp k = 0 ∨ shp k = 1 ∨ shp k = 2 ∨ ∃ t, shp k = t + 3 by
    rcases (show shp k = 0 ∨ shp k = 1 ∨ shp k = 2 ∨ 3 ≤ shp k by omega) with z | z | z | z
    · exact Or.inl z
    · exact Or.inr (Or.inl z)
    · exact Or.inr (Or.inr (Or.inl z))
    · exact Or.inr (Or.inr (Or.inr ⟨shp k - 3, by omega⟩))) with z | z | z | ⟨t, z⟩
  · rw [ent_obj z] at c ⊢
    have e : (List.range (nf k)).map (fun i => if isr k i = true then va_rf ((Rr i).map (lcq E)) else .int (hr i)) = (List.range (nf k)).map (fun i => if isr k i = true then va_rf ((Rr' i).map (lcq E)) else .int (hr' i)) := List.map_congr_left (fun i hi => by
      have h2 := hs i (List.mem_range.mp hi)
      rw [h2.1, h2.2])
    rw [← e]
    exact c
  · rw [ent_int z] at c ⊢
    have c : H[a]? = some (arrV (ca E 0) (nf k) (fun j => .int (hr j))) := c
    show H[a]? = some (arrV (ca E 0) (nf k) (fun j => .int (hr' j)))
    rw [c, arr _ _ _ _ (fun j hj => by rw [(hs j hj).2])]
  · rw [ent_bool z] at c ⊢
    have c : H[a]? = some (arrV (ca E 1) (nf k) (fun j => .int (hr j))) := c
    show H[a]? = some (arrV (ca E 1) (nf k) (fun j => .int (hr' j)))
    rw [c, arr _ _ _ _ (fun j hj => by rw [(hs j hj).2])]
  · rw [ent_ref z] at c ⊢
    have c : H[a]? = some (arrV (ca E (t + 2)) (nf k) (fun j => va_rf ((Rr j).map (lcq E)))) := c
    show H[a]? = some (arrV (ca E (t + 2)) (nf k) (fun j => va_rf ((Rr' j).map (lcq E))))
    rw [c, arr _ _ _ _ (fun j hj => by rw [(hs j hj).1])]
theorem rp_done {E : Ev} {R : RF} {h : HF} {H : Heap} (d : Dn 0 243 R h) (hP : Rp E 243 R h H) : Rp E 243 (Rs 0 1) H0 H := by
  intro k q hq
  have hk := (wsl_lt hq).1
  rw [wsl_get hk] at hq
  cases hq
  exact ent_cong (d k (Nat.zero_le _) hk) (hP k _ (wsl_get hk))
theorem wa_done {E : Ev} {G : Gv} {pc : Nat} {R : RF} {h : HF} {Q : State → Prop} {L : List (Option AV)} {st : List AV} (d : Dn 0 243 R h) (kk : Wa E G 243 (Rs 0 1) H0 Q pc L st) : Wa E G 243 R h Q pc L st := fun H locs ls hP hS hl => kk H locs ls (rp_done d hP) hS hl

