/-! THE MODEL: a day -/
theorem mw_put {h : HF} {o k p : Nat} {s : Sv} {x : Int32} (hp : p = o + k) (c : mw h o s) : mw (put h 39 0 p x) o (va_up s k x) := by
  subst hp
  intro i hi
  by_cases e : i = k
  · subst e; rw [put_same, va_up_self]
  · rw [put_i (by omega), va_up_ne _ _ e]; exact c i hi
theorem mw_k {h : HF} {o k j i : Nat} {s : Sv} {x : Int32} (hk : 39 ≠ k) (c : mw h o s) : mw (put h k j i x) o s := fun n hn => by rw [put_k hk]; exact c n hn
theorem up_same {s : Sv} {k : Nat} {x : Int32} (h : x = s k) : va_up s k x = s := by
  funext i
  by_cases e : i = k
  · subst e; rw [va_up_self, h]
  · rw [va_up_ne _ _ e]
theorem up_comm {s : Sv} {a b : Nat} {x y : Int32} (h : a ≠ b) : va_up (va_up s a x) b y = va_up (va_up s b y) a x := by
  funext i
  by_cases e : i = b
  · subst e; rw [va_up_self, va_up_ne _ _ (Ne.symm h), va_up_self]
  · rw [va_up_ne _ _ e]
    by_cases e2 : i = a
    · subst e2; rw [va_up_self, va_up_self]
    · rw [va_up_ne _ _ e2, va_up_ne _ _ e2, va_up_ne _ _ e]
theorem up_twice {s : Sv} {a : Nat} {x y : Int32} : va_up (va_up s a x) a y = va_up s a y := by
  funext i
  by_cases e : i = a
  · subst e; rw [va_up_self, va_up_self]
  · rw [va_up_ne _ _ e, va_up_ne _ _ e, va_up_ne _ _ e]
def sE (o : Nat) : Nat → Nat → Bool := fun k i => sW o k i || (k == 11 && i == 32)
theorem sE_in {o p : Nat} (h : o ≤ p ∧ p < o + 45) : sE o 39 p = true := by simp [sE, sW, h]
theorem sE_11 {o i : Nat} (h : i ≠ 32) : sE o 11 i = false := by simp [sE, sW, h]
theorem sE_rows {o k i : Nat} (h39 : k ≠ 39) (h11 : k ≠ 11) : sE o k i = false := by simp [sE, sW, h39, h11]
theorem sE_out {o i : Nat} (h : i < o ∨ o + 45 ≤ i) : sE o 39 i = false := by
  have : ¬ (o ≤ i ∧ i < o + 45) := by omega
  simp [sE, sW]
  omega
theorem sW_sE {o : Nat} : ∀ k i, sW o k i = true → sE o k i = true := fun k i z => by simp [sE, z]
theorem mtw.sE {h h' : HF} {o : Nat} {N : Nat → Nat} {T : Tv} (f : Fs (sE o) h h') (c : mtw h N T) : mtw h' N T := c.fs f (fun i hi => sE_11 (by omega)) (fun k i _ _ => sE_rows (by omega) (by omega))
def eatsP (a b o : Nat) (h : HF) (u : Sv × Int32 × Int32) : Option AV → RF → HF → Prop := fun v R' h' => v = some (aI u.2.1) ∧ R' = Rs a b ∧ mw h' o u.1 ∧ h' 11 0 32 = u.2.2 ∧ Fs (sE o) h h'
theorem starve_0 {b0 : Int32} {c : Nat} {s : Sv} {w d : Int32} (h : s (5 + c) = 0) : starveF b0 c (s, w, d) = (va_up s (10 + c) (s (10 + c) + nI 1), w, d) := by
  rw [starveF, if_pos h]
theorem starve_1 {b0 : Int32} {c : Nat} {s : Sv} {w d : Int32} (h : ¬ s (5 + c) = 0) (h2 : s (10 + c) + nI 1 ≤ b0) : starveF b0 c (s, w, d) = (va_up s (10 + c) (s (10 + c) + nI 1), nI 1, d) := by
  rw [starveF, if_neg h, if_pos h2]
theorem starve_2 {b0 : Int32} {c : Nat} {s : Sv} {w d : Int32} (h : ¬ s (5 + c) = 0) (h2 : ¬ s (10 + c) + nI 1 ≤ b0) : starveF b0 c (s, w, d) = (va_up (va_up s (10 + c) (s (10 + c) + nI 1)) (5 + c) (s (5 + c) - goneF (s (5 + c))), nI 1, if d = -1 then nI c else d) := by
  rw [starveF, if_neg h, if_neg h2]
theorem eat1_fed {b : Nat → Int32} {q : Int32} {c : Nat} {s : Sv} {w d : Int32} (h : fedB q s c = true) : eat1 b q c (s, w, d) = (va_up (fedS q s c) (10 + c) (nI 0), w, d) := by
  rw [eat1, if_pos h]
theorem eat1_not {b : Nat → Int32} {q : Int32} {c : Nat} {s : Sv} {w d : Int32} (h : ¬ fedB q s c = true) : eat1 b q c (s, w, d) = starveF (b c) c (fedS q s c, w, d) := by
  rw [eat1, if_neg h]
set_option maxRecDepth 100000 in
set_option maxHeartbeats 4000000 in
theorem m_eats {E : Ev} {a b o c : Nat} {h : HF} {s : Sv} {N : Nat → Nat} {T : Tv} {q d : Int32} (ho : o ≤ 1035) (ht : mtw h N T) (hs : mw h o s) (hc : c < N 0) (hd : h 11 0 32 = d) (hb : nI 0 ≤ T 1 c) (hm : 0 ≤ s (5 + c)) : Ct E 0 yX11_eats cX11_eats 8 (some .boolean) [aR 11 0, aI (nI o), aI (nI c), aI q] 243 (Rs a b) h 243 (eatsP a b o h (eat1 (T 1) q c (s, nI 0, d))) := by
  refine Ct.of 4 (L0 := [some (aR 11 0), some (aI (nI o)), some (aI (nI c)), some (aI q), none, none, none, none]) (by decide) ⟨Nat.le_refl _, Nat.le_refl _⟩ rfl rfl ?_
  intro G C hg hrt hnm
  have hN : gn G ≤ 243 ∧ 243 ≤ 243 ∧ 243 ≤ 243 := ⟨by omega, by decide, by decide⟩
  have b0 := ht.2.2.2.2.2.2.2.2.2.1
  have at5 : ∀ hh s1, mw hh o s1 → hh 39 0 (o + 5 + c) = s1 (5 + c) := fun hh s1 g => by rw [show o + 5 + c = o + (5 + c) by omega]; exact g (5 + c) (by omega)
  have at10 : ∀ hh s1, mw hh o s1 → hh 39 0 (o + 10 + c) = s1 (10 + c) := fun hh s1 g => by rw [show o + 10 + c = o + (10 + c) by omega]; exact g (10 + c) (by omega)
  have at0 : ∀ hh s1, mw hh o s1 → hh 39 0 (o + 0) = s1 0 := fun hh s1 g => g 0 (by decide)
  have t0 : ∀ hh u (x5 : Int32) l7, s (5 + c) ≤ 0 → u.2.1 = nI 0 → mw hh o u.1 → hh 11 0 32 = u.2.2 → Fs (sE o) h hh → Wa E G 243 (Rs a b) hh (QQ E G 243 (eatsP a b o h u)) 188 [some (aR 11 0), some (aI (nI o)), some (aI (nI c)), some (aI q), some (aI (s (5 + c))), some (aI x5), some (aI (nI 1)), l7] [] := by
    intro hh u x5 l7 hz hu g1 g2 g3
    refine r_iload C dX11_eats_188 rfl ?_
    refine r_if_eq C dX11_eats_190 (fun cc => absurd cc (by decide)) (fun _ => ?_)
    refine r_iload C dX11_eats_193 rfl ?_
    refine r_if_le C dX11_eats_195 (fun _ => ?_) (fun cc => absurd cc (by exact fun z => z hz))
    refine r_iconst (v := (nI 0)) C dX11_eats_202 (by decide) ?_
    refine r_zret C hrt dX11_eats_203 (by decide) ?_
    exact ⟨by rw [hu], rfl, g1, g2, g3⟩
  have t1 : ∀ hh u (x5 : Int32) l7, ¬ s (5 + c) ≤ 0 → u.2.1 = nI 1 → mw hh o u.1 → hh 11 0 32 = u.2.2 → Fs (sE o) h hh → Wa E G 243 (Rs a b) hh (QQ E G 243 (eatsP a b o h u)) 188 [some (aR 11 0), some (aI (nI o)), some (aI (nI c)), some (aI q), some (aI (s (5 + c))), some (aI x5), some (aI (nI 1)), l7] [] := by
    intro hh u x5 l7 hz hu g1 g2 g3
    refine r_iload C dX11_eats_188 rfl ?_
    refine r_if_eq C dX11_eats_190 (fun cc => absurd cc (by decide)) (fun _ => ?_)
    refine r_iload C dX11_eats_193 rfl ?_
    refine r_if_le C dX11_eats_195 (fun cc => absurd cc (hz)) (fun _ => ?_)
    refine r_iconst (v := (nI 1)) C dX11_eats_198 (by decide) ?_
    refine r_goto C dX11_eats_199 ?_
    refine r_zret C hrt dX11_eats_203 (by decide) ?_
    exact ⟨by rw [hu], rfl, g1, g2, g3⟩
  have starve : ∀ hh s1 (x5 : Int32), mw hh o s1 → s1 (5 + c) = s (5 + c) → hh 11 0 32 = d → Fs (sE o) h hh → Wa E G 243 (Rs a b) hh (QQ E G 243 (eatsP a b o h (starveF (T 1 c) c (s1, nI 0, d)))) 75 [some (aR 11 0), some (aI (nI o)), some (aI (nI c)), some (aI q), some (aI (s (5 + c))), some (aI x5), some (aI (nI 1)), none] [] := by
    intro hh s1 x5 g1 g2 g3 g4
    have g5 : mw (put hh 39 0 (o + 10 + c) (s1 (10 + c) + nI 1)) o (va_up s1 (10 + c) (s1 (10 + c) + nI 1)) := mw_put (by omega) g1
    have g6 : Fs (sE o) h (put hh 39 0 (o + 10 + c) (s1 (10 + c) + nI 1)) := g4.put (sE_in (by omega))
    have g7 : put hh 39 0 (o + 10 + c) (s1 (10 + c) + nI 1) 11 0 32 = d := by rw [put_k (by decide)]; exact g3
    have g8 := ((mtw.sE g6 ht).2.2.2.2.2.1 c hc).2
    have hz0 : s (5 + c) ≤ 0 → s1 (5 + c) = 0 := fun z => by rw [g2]; exact Int32.le_antisymm z hm
    have hz1 : ¬ s (5 + c) ≤ 0 → ¬ s1 (5 + c) = 0 := fun z e => z (by rw [← g2, e]; exact Int32.le_refl _)
    refine r_aload_n C dX11_eats_75 rfl ?_
    refine r_getR C flX11_7 dX11_eats_76 ok11 rfl rfl ?_
    refine r_iload_n C dX11_eats_79 rfl ?_
    refine r_bipush (v := (nI 10)) C dX11_eats_80 (by decide) ?_
    first | refine r_iaddN C dX11_eats_82 ?_ | refine r_iadd C dX11_eats_82 ?_
    refine r_iload_n C dX11_eats_83 rfl ?_
    first | refine r_iaddN C dX11_eats_84 ?_ | refine r_iadd C dX11_eats_84 ?_
    refine r_iload C dX11_eats_85 rfl ?_
    refine r_if_eq C dX11_eats_87 (fun cc => absurd cc (by decide)) (fun _ => ?_)
    refine r_aload_n C dX11_eats_90 rfl ?_
    refine r_getR C flX11_7 dX11_eats_91 ok11 rfl rfl ?_
    refine r_iload_n C dX11_eats_94 rfl ?_
    refine r_bipush (v := (nI 10)) C dX11_eats_95 (by decide) ?_
    first | refine r_iaddN C dX11_eats_97 ?_ | refine r_iadd C dX11_eats_97 ?_
    refine r_iload_n C dX11_eats_98 rfl ?_
    first | refine r_iaddN C dX11_eats_99 ?_ | refine r_iadd C dX11_eats_99 ?_
    refine q_ialdV (m := 1080) C dX11_eats_100 ok39 rfl rfl (by omega) (at10 hh s1 g1) ?_
    refine r_iconst (v := (nI 1)) C dX11_eats_101 (by decide) ?_
    refine r_iadd C dX11_eats_102 ?_
    refine r_goto C dX11_eats_103 ?_
    refine q_iast (m := 1080) C dX11_eats_107 ok39 rfl rfl (by omega) ?_
    refine r_aload_n C dX11_eats_108 rfl ?_
    refine r_getR C flX11_7 dX11_eats_109 ok11 rfl rfl ?_
    refine r_iload_n C dX11_eats_112 rfl ?_
    refine r_bipush (v := (nI 10)) C dX11_eats_113 (by decide) ?_
    first | refine r_iaddN C dX11_eats_115 ?_ | refine r_iadd C dX11_eats_115 ?_
    refine r_iload_n C dX11_eats_116 rfl ?_
    first | refine r_iaddN C dX11_eats_117 ?_ | refine r_iadd C dX11_eats_117 ?_
    refine q_ialdV (m := 1080) C dX11_eats_118 ok39 rfl rfl (by omega) put_same ?_
    refine r_aload_n C dX11_eats_119 rfl ?_
    refine r_getR C flX11_20 dX11_eats_120 ok11 rfl rfl ?_
    refine r_iload_n C dX11_eats_123 rfl ?_
    refine q_ialdV (m := 5) C dX11_eats_124 ok42 rfl rfl (by omega) g8 ?_
    refine r_icmp_le C dX11_eats_125 (fun c125 => ?_) (fun c125 => ?_)
    · by_cases z : s (5 + c) ≤ 0
      · rw [starve_0 (hz0 z)]
        exact t0 _ _ _ _ z rfl g5 g7 g6
      · rw [starve_1 (hz1 z) c125]
        exact t1 _ _ _ _ z rfl g5 g7 g6
    · refine r_iload C dX11_eats_128 rfl ?_
      refine r_if_le C dX11_eats_130 (fun c130 => ?_) (fun c130 => ?_)
      · rw [starve_0 (hz0 c130)]
        exact t0 _ _ _ _ c130 rfl g5 g7 g6
      · have join : ∀ y, y = goneF (s (5 + c)) → Wa E G 243 (Rs a b) (put hh 39 0 (o + 10 + c) (s1 (10 + c) + nI 1)) (QQ E G 243 (eatsP a b o h (starveF (T 1 c) c (s1, nI 0, d)))) 166 [some (aR 11 0), some (aI (nI o)), some (aI (nI c)), some (aI q), some (aI (s (5 + c))), some (aI x5), some (aI (nI 1)), some (aI (s (5 + c) / nI 5 + nI 1))] [aI y, aI (s (5 + c)), aI (nI (o + 5 + c)), aR 39 0] := by
          intro y hy
          have g9 : mw (put (put hh 39 0 (o + 10 + c) (s1 (10 + c) + nI 1)) 39 0 (o + 5 + c) (s (5 + c) - y)) o (va_up (va_up s1 (10 + c) (s1 (10 + c) + nI 1)) (5 + c) (s (5 + c) - y)) := mw_put (by omega) g5
          have g10 : Fs (sE o) h (put (put hh 39 0 (o + 10 + c) (s1 (10 + c) + nI 1)) 39 0 (o + 5 + c) (s (5 + c) - y)) := g6.put (sE_in (by omega))
          have g11 : put (put hh 39 0 (o + 10 + c) (s1 (10 + c) + nI 1)) 39 0 (o + 5 + c) (s (5 + c) - y) 11 0 32 = d := by rw [put_k (by decide)]; exact g7
          rw [starve_2 (hz1 c130) c125, g2, ← hy]
          refine r_isub C dX11_eats_166 ?_
          refine q_iast (m := 1080) C dX11_eats_167 ok39 rfl rfl (by omega) ?_
          refine r_aload_n C dX11_eats_168 rfl ?_
          refine r_aload_n C dX11_eats_169 rfl ?_
          refine q_getV C flX11_198 dX11_eats_170 ok11 rfl g11 ?_
          refine r_iconst (v := (-1)) C dX11_eats_173 (by decide) ?_
          refine r_icmp_ne C dX11_eats_174 (fun c174 => ?_) (fun c174 => ?_)
          · refine r_aload_n C dX11_eats_181 rfl ?_
            refine q_getV C flX11_198 dX11_eats_182 ok11 rfl g11 ?_
            refine r_putI C flX11_198 dX11_eats_185 ok11 rfl ⟨rfl, rfl⟩ ?_
            rw [if_neg c174]
            exact t1 _ _ _ _ c130 rfl (mw_k (by decide) g9) put_same (g10.put (by simp [sE]))
          · refine r_iload_n C dX11_eats_177 rfl ?_
            refine r_goto C dX11_eats_178 ?_
            refine r_putI C flX11_198 dX11_eats_185 ok11 rfl ⟨rfl, rfl⟩ ?_
            rw [if_pos c174]
            exact t1 _ _ _ _ c130 rfl (mw_k (by decide) g9) put_same (g10.put (by simp [sE]))
        refine r_iload C dX11_eats_133 rfl ?_
        refine r_iconst (v := (nI 5)) C dX11_eats_135 (by decide) ?_
        refine r_idiv C dX11_eats_136 (by decide) ?_
        refine r_iconst (v := (nI 1)) C dX11_eats_137 (by decide) ?_
        refine r_iadd C dX11_eats_138 ?_
        refine r_istore C dX11_eats_139 st7 ?_
        refine r_aload_n C dX11_eats_141 rfl ?_
        refine r_getR C flX11_7 dX11_eats_142 ok11 rfl rfl ?_
        refine r_iload_n C dX11_eats_145 rfl ?_
        refine r_iconst (v := (nI 5)) C dX11_eats_146 (by decide) ?_
        first | refine r_iaddN C dX11_eats_147 ?_ | refine r_iadd C dX11_eats_147 ?_
        refine r_iload_n C dX11_eats_148 rfl ?_
        first | refine r_iaddN C dX11_eats_149 ?_ | refine r_iadd C dX11_eats_149 ?_
        refine r_dup2 C dX11_eats_150 rfl rfl ?_
        refine q_ialdV (m := 1080) C dX11_eats_151 ok39 rfl rfl (by omega) (((at5 _ _ g5).trans (va_up_ne _ _ (by omega))).trans g2) ?_
        refine r_iload C dX11_eats_152 rfl ?_
        refine r_iload C dX11_eats_154 rfl ?_
        refine r_icmp_ge C dX11_eats_156 (fun c156 => ?_) (fun c156 => ?_)
        · refine r_iload C dX11_eats_164 rfl ?_
          exact join _ (by rw [goneF, if_neg (Int32.not_lt.mpr c156)])
        · refine r_iload C dX11_eats_159 rfl ?_
          refine r_goto C dX11_eats_161 ?_
          exact join _ (by rw [goneF, if_pos (Int32.not_le.mp c156)])
  refine r_aload_n C dX11_eats_0 rfl ?_
  refine r_getR C flX11_7 dX11_eats_1 ok11 rfl rfl ?_
  refine r_iload_n C dX11_eats_4 rfl ?_
  refine r_iconst (v := (nI 5)) C dX11_eats_5 (by decide) ?_
  first | refine r_iaddN C dX11_eats_6 ?_ | refine r_iadd C dX11_eats_6 ?_
  refine r_iload_n C dX11_eats_7 rfl ?_
  first | refine r_iaddN C dX11_eats_8 ?_ | refine r_iadd C dX11_eats_8 ?_
  refine q_ialdV (m := 1080) C dX11_eats_9 ok39 rfl rfl (by omega) (at5 h s hs) ?_
  refine r_istore C dX11_eats_10 st4 ?_
  refine r_aload_n C dX11_eats_12 rfl ?_
  refine r_getR C flX11_7 dX11_eats_13 ok11 rfl rfl ?_
  refine r_iload_n C dX11_eats_16 rfl ?_
  refine r_iconst (v := (nI 0)) C dX11_eats_17 (by decide) ?_
  first | refine r_iaddN C dX11_eats_18 ?_ | refine r_iadd C dX11_eats_18 ?_
  refine q_ialdV (m := 1080) C dX11_eats_19 ok39 rfl rfl (by omega) (at0 h s hs) ?_
  refine r_iload_n C dX11_eats_20 rfl ?_
  refine r_iload C dX11_eats_21 rfl ?_
  refine r_imul C dX11_eats_23 ?_
  refine r_icmp_lt C dX11_eats_24 (fun c24 => ?_) (fun c24 => ?_)
  · have hne : ¬ q * s (5 + c) ≤ s 0 := Int32.not_le.mpr c24
    refine r_iconst (v := (nI 0)) C dX11_eats_31 (by decide) ?_
    refine r_istore C dX11_eats_32 st5 ?_
    refine r_aload_n C dX11_eats_34 rfl ?_
    refine r_getR C flX11_7 dX11_eats_35 ok11 rfl rfl ?_
    refine r_iload_n C dX11_eats_38 rfl ?_
    refine r_iconst (v := (nI 0)) C dX11_eats_39 (by decide) ?_
    first | refine r_iaddN C dX11_eats_40 ?_ | refine r_iadd C dX11_eats_40 ?_
    refine r_dup2 C dX11_eats_41 rfl rfl ?_
    refine q_ialdV (m := 1080) C dX11_eats_42 ok39 rfl rfl (by omega) (at0 h s hs) ?_
    refine r_iload C dX11_eats_43 rfl ?_
    refine r_if_eq C dX11_eats_45 (fun _ => ?_) (fun cc => absurd cc (by exact fun z => z rfl))
    refine r_iconst (v := (nI 0)) C dX11_eats_55 (by decide) ?_
    refine r_isub C dX11_eats_56 ?_
    refine q_iast (m := 1080) C dX11_eats_57 ok39 rfl rfl (by omega) ?_
    refine r_iload C dX11_eats_58 rfl ?_
    refine r_if_eq C dX11_eats_60 (fun _ => ?_) (fun cc => absurd cc (by exact fun z => z rfl))
    refine r_iconst (v := (nI 1)) C dX11_eats_68 (by decide) ?_
    refine r_goto C dX11_eats_69 ?_
    refine r_istore C dX11_eats_73 st6 ?_
    have f : ¬ fedB q s c = true := by simp [fedB, hne]
    have e : fedS q s c = s := by rw [fedS, if_neg hne]
    rw [eat1_not f, e]
    have g := mw_put (h := h) (o := o) (k := 0) (p := o + 0) (s := s) (x := s 0 - nI 0) rfl hs
    rw [up_same (show s 0 - nI 0 = s 0 from Int32.sub_zero _)] at g
    exact starve _ s (nI 0) g rfl (by rw [put_k (by decide)]; exact hd) (Fs.rf.put (sE_in (by omega)))
  · have hle : q * s (5 + c) ≤ s 0 := Int32.not_lt.mp c24
    have e : fedS q s c = va_up s 0 (s 0 - q * s (5 + c)) := by rw [fedS, if_pos hle]
    have g := mw_put (h := h) (o := o) (k := 0) (p := o + 0) (s := s) (x := s 0 - q * s (5 + c)) rfl hs
    have gf : Fs (sE o) h (put h 39 0 (o + 0) (s 0 - q * s (5 + c))) := Fs.rf.put (sE_in (by omega))
    have gd : put h 39 0 (o + 0) (s 0 - q * s (5 + c)) 11 0 32 = d := by rw [put_k (by decide)]; exact hd
    refine r_iconst (v := (nI 1)) C dX11_eats_27 (by decide) ?_
    refine r_goto C dX11_eats_28 ?_
    refine r_istore C dX11_eats_32 st5 ?_
    refine r_aload_n C dX11_eats_34 rfl ?_
    refine r_getR C flX11_7 dX11_eats_35 ok11 rfl rfl ?_
    refine r_iload_n C dX11_eats_38 rfl ?_
    refine r_iconst (v := (nI 0)) C dX11_eats_39 (by decide) ?_
    first | refine r_iaddN C dX11_eats_40 ?_ | refine r_iadd C dX11_eats_40 ?_
    refine r_dup2 C dX11_eats_41 rfl rfl ?_
    refine q_ialdV (m := 1080) C dX11_eats_42 ok39 rfl rfl (by omega) (at0 h s hs) ?_
    refine r_iload C dX11_eats_43 rfl ?_
    refine r_if_eq C dX11_eats_45 (fun cc => absurd cc (by decide)) (fun _ => ?_)
    refine r_iload_n C dX11_eats_48 rfl ?_
    refine r_iload C dX11_eats_49 rfl ?_
    refine r_imul C dX11_eats_51 ?_
    refine r_goto C dX11_eats_52 ?_
    refine r_isub C dX11_eats_56 ?_
    refine q_iast (m := 1080) C dX11_eats_57 ok39 rfl rfl (by omega) ?_
    refine r_iload C dX11_eats_58 rfl ?_
    refine r_if_eq C dX11_eats_60 (fun cc => absurd cc (by decide)) (fun _ => ?_)
    refine r_iload_n C dX11_eats_63 rfl ?_
    refine r_iconst (v := (nI 2)) C dX11_eats_64 (by decide) ?_
    refine r_icmp_ge C dX11_eats_65 (fun c65 => ?_) (fun c65 => ?_)
    · have f : fedB q s c = true := by simp [fedB, hle, c65]
      have gf2 : Fs (sE o) h (put (put h 39 0 (o + 0) (s 0 - q * s (5 + c))) 39 0 (o + 10 + c) (nI 0)) := gf.put (sE_in (by omega))
      refine r_iconst (v := (nI 0)) C dX11_eats_72 (by decide) ?_
      refine r_istore C dX11_eats_73 st6 ?_
      refine r_aload_n C dX11_eats_75 rfl ?_
      refine r_getR C flX11_7 dX11_eats_76 ok11 rfl rfl ?_
      refine r_iload_n C dX11_eats_79 rfl ?_
      refine r_bipush (v := (nI 10)) C dX11_eats_80 (by decide) ?_
      first | refine r_iaddN C dX11_eats_82 ?_ | refine r_iadd C dX11_eats_82 ?_
      refine r_iload_n C dX11_eats_83 rfl ?_
      first | refine r_iaddN C dX11_eats_84 ?_ | refine r_iadd C dX11_eats_84 ?_
      refine r_iload C dX11_eats_85 rfl ?_
      refine r_if_eq C dX11_eats_87 (fun _ => ?_) (fun cc => absurd cc (by exact fun z => z rfl))
      refine r_iconst (v := (nI 0)) C dX11_eats_106 (by decide) ?_
      refine q_iast (m := 1080) C dX11_eats_107 ok39 rfl rfl (by omega) ?_
      refine r_aload_n C dX11_eats_108 rfl ?_
      refine r_getR C flX11_7 dX11_eats_109 ok11 rfl rfl ?_
      refine r_iload_n C dX11_eats_112 rfl ?_
      refine r_bipush (v := (nI 10)) C dX11_eats_113 (by decide) ?_
      first | refine r_iaddN C dX11_eats_115 ?_ | refine r_iadd C dX11_eats_115 ?_
      refine r_iload_n C dX11_eats_116 rfl ?_
      first | refine r_iaddN C dX11_eats_117 ?_ | refine r_iadd C dX11_eats_117 ?_
      refine q_ialdV (m := 1080) C dX11_eats_118 ok39 rfl rfl (by omega) put_same ?_
      refine r_aload_n C dX11_eats_119 rfl ?_
      refine r_getR C flX11_20 dX11_eats_120 ok11 rfl rfl ?_
      refine r_iload_n C dX11_eats_123 rfl ?_
      refine q_ialdV (m := 5) C dX11_eats_124 ok42 rfl rfl (by omega) ((mtw.sE gf2 ht).2.2.2.2.2.1 c hc).2 ?_
      refine r_icmp_le C dX11_eats_125 (fun _ => ?_) (fun cc => absurd cc (by exact fun z => z hb))
      refine r_iload C dX11_eats_188 rfl ?_
      refine r_if_eq C dX11_eats_190 (fun _ => ?_) (fun cc => absurd cc (by exact fun z => z rfl))
      refine r_iconst (v := (nI 0)) C dX11_eats_202 (by decide) ?_
      refine r_zret C hrt dX11_eats_203 (by decide) ?_
      rw [eat1_fed f, e]
      exact ⟨rfl, rfl, mw_put (by omega) g, by rw [put_k (by decide)]; exact gd, gf2⟩
    · have f : ¬ fedB q s c = true := by simp [fedB, c65]
      refine r_iconst (v := (nI 1)) C dX11_eats_68 (by decide) ?_
      refine r_goto C dX11_eats_69 ?_
      refine r_istore C dX11_eats_73 st6 ?_
      rw [eat1_not f, e]
      exact starve _ _ (nI 1) g (va_up_ne _ _ (by omega)) gd gf
set_option maxRecDepth 100000 in
set_option maxHeartbeats 4000000 in
theorem m_isPaid {E : Ev} {a b o c : Nat} {h : HF} {s : Sv} {N : Nat → Nat} {T : Tv} (ho : o ≤ 1035) (ht : mtw h N T) (hs : mw h o s) (hc : c < N 0) : Ct E 0 yX11_isPaid cX11_isPaid 5 none [aR 11 0, aI (nI o), aI (nI c)] 243 (Rs a b) h 243 (fun v R' h' => v = none ∧ R' = Rs a b ∧ mw h' o (payR s c (s (5 + c) * T 0 c) (N 1) 0) ∧ Fs (sW o) h h') := by
  refine Ct.of 2 (L0 := [some (aR 11 0), some (aI (nI o)), some (aI (nI c)), none, none]) (by decide) ⟨Nat.le_refl _, Nat.le_refl _⟩ rfl rfl ?_
  intro G C hg hrt hnm
  have hN : gn G ≤ 243 ∧ 243 ≤ 243 ∧ 243 ≤ 243 := ⟨by omega, by decide, by decide⟩
  have b0 := ht.2.2.2.2.2.2.2.2.2.1
  have b1 := ht.2.2.2.2.2.2.2.2.2.2.1
  have at_ : ∀ k p, k < 45 → p = o + k → h 39 0 p = s k := fun k p hk hp => by rw [hp]; exact hs k hk
  refine r_aload_n C dX11_isPaid_0 rfl ?_
  refine r_getR C flX11_7 dX11_isPaid_1 ok11 rfl rfl ?_
  refine r_iload_n C dX11_isPaid_4 rfl ?_
  refine r_iconst (v := (nI 5)) C dX11_isPaid_5 (by decide) ?_
  first | refine r_iaddN C dX11_isPaid_6 ?_ | refine r_iadd C dX11_isPaid_6 ?_
  refine r_iload_n C dX11_isPaid_7 rfl ?_
  first | refine r_iaddN C dX11_isPaid_8 ?_ | refine r_iadd C dX11_isPaid_8 ?_
  refine q_ialdV (m := 1080) C dX11_isPaid_9 ok39 rfl rfl (by omega) (at_ (5 + c) _ (by omega) (by omega)) ?_
  refine r_aload_n C dX11_isPaid_10 rfl ?_
  refine r_getR C flX11_17 dX11_isPaid_11 ok11 rfl rfl ?_
  refine r_iload_n C dX11_isPaid_14 rfl ?_
  refine q_ialdV (m := 5) C dX11_isPaid_15 ok41 rfl rfl (by omega) ((ht.2.2.2.2.2.1 c hc).1) ?_
  refine r_imul C dX11_isPaid_16 ?_
  refine r_istore_n C dX11_isPaid_17 st3 ?_
  refine r_iconst (v := (nI 0)) C dX11_isPaid_18 (by decide) ?_
  refine r_istore C dX11_isPaid_19 st4 ?_
  have loop : ∀ k m, m + k = N 1 → payR s c (s (5 + c) * T 0 c) k m = payR s c (s (5 + c) * T 0 c) (N 1) 0 → Wa E G 243 (Rs a b) h (QQ E G 243 (fun v R' h' => v = none ∧ R' = Rs a b ∧ mw h' o (payR s c (s (5 + c) * T 0 c) (N 1) 0) ∧ Fs (sW o) h h')) 21 [some (aR 11 0), some (aI (nI o)), some (aI (nI c)), some (aI (s (5 + c) * T 0 c)), some (aI (nI m))] [] := by
    intro k
    induction k with
    | zero =>
      intro m hm hp
      refine r_iload C dX11_isPaid_21 rfl ?_
      refine r_aload_n C dX11_isPaid_23 rfl ?_
      refine q_getV C flX11_89 dX11_isPaid_24 ok11 rfl ht.2.1 ?_
      refine r_icmpN_ge C dX11_isPaid_27 (by omega) (by omega) (fun _ => ?_) (fun cc => absurd cc (by omega))
      refine r_aload_n C dX11_isPaid_89 rfl ?_
      refine r_getR C flX11_7 dX11_isPaid_90 ok11 rfl rfl ?_
      refine r_iload_n C dX11_isPaid_93 rfl ?_
      refine r_bipush (v := (nI 15)) C dX11_isPaid_94 (by decide) ?_
      first | refine r_iaddN C dX11_isPaid_96 ?_ | refine r_iadd C dX11_isPaid_96 ?_
      refine r_iload_n C dX11_isPaid_97 rfl ?_
      first | refine r_iaddN C dX11_isPaid_98 ?_ | refine r_iadd C dX11_isPaid_98 ?_
      refine r_dup2 C dX11_isPaid_99 rfl rfl ?_
      refine q_ialdV (m := 1080) C dX11_isPaid_100 ok39 rfl rfl (by omega) (at_ (15 + c) _ (by omega) (by omega)) ?_
      refine r_iload_n C dX11_isPaid_101 rfl ?_
      refine r_iadd C dX11_isPaid_102 ?_
      refine q_iast (m := 1080) C dX11_isPaid_103 ok39 rfl rfl (by omega) ?_
      refine r_vret C hrt dX11_isPaid_104 ?_
      rw [payR] at hp
      rw [← hp]
      exact ⟨rfl, rfl, mw_put (by omega) hs, Fs.rf.put (by rw [show o + 15 + c = o + (15 + c) by omega]; exact sW_in (by omega))⟩
    | succ k ih =>
      intro m hm hp
      rw [payR] at hp
      refine r_iload C dX11_isPaid_21 rfl ?_
      refine r_aload_n C dX11_isPaid_23 rfl ?_
      refine q_getV C flX11_89 dX11_isPaid_24 ok11 rfl ht.2.1 ?_
      refine r_icmpN_ge C dX11_isPaid_27 (by omega) (by omega) (fun cc => absurd cc (by omega)) (fun _ => ?_)
      refine r_aload_n C dX11_isPaid_30 rfl ?_
      refine r_getR C flX11_7 dX11_isPaid_31 ok11 rfl rfl ?_
      refine r_iload_n C dX11_isPaid_34 rfl ?_
      refine r_bipush (v := (nI 20)) C dX11_isPaid_35 (by decide) ?_
      first | refine r_iaddN C dX11_isPaid_37 ?_ | refine r_iadd C dX11_isPaid_37 ?_
      refine r_iload C dX11_isPaid_38 rfl ?_
      first | refine r_iaddN C dX11_isPaid_40 ?_ | refine r_iadd C dX11_isPaid_40 ?_
      refine q_ialdV (m := 1080) C dX11_isPaid_41 ok39 rfl rfl (by omega) (at_ (20 + m) _ (by omega) (by omega)) ?_
      refine r_iload_n C dX11_isPaid_42 rfl ?_
      refine r_icmp_lt C dX11_isPaid_43 (fun c43 => ?_) (fun c43 => ?_)
      · rw [if_neg (Int32.not_le.mpr c43)] at hp
        first | refine r_iincN C dX11_isPaid_83 rfl st4 ?_ | refine r_iinc C dX11_isPaid_83 rfl rfl st4 ?_
        refine r_goto C dX11_isPaid_86 ?_
        exact ih (m + 1) (by omega) hp
      · rw [if_pos (Int32.not_lt.mp c43)] at hp
        have g1 : mw (put h 39 0 (o + 20 + m) (s (20 + m) - s (5 + c) * T 0 c)) o (va_up s (20 + m) (s (20 + m) - s (5 + c) * T 0 c)) := mw_put (by omega) hs
        have e1 : put h 39 0 (o + 20 + m) (s (20 + m) - s (5 + c) * T 0 c) 39 0 (o + 24 + 4 * c + m) = s (24 + (c * 4 + m)) := by
          rw [put_i (by omega)]
          exact at_ _ _ (by omega) (by omega)
        refine r_aload_n C dX11_isPaid_46 rfl ?_
        refine r_getR C flX11_7 dX11_isPaid_47 ok11 rfl rfl ?_
        refine r_iload_n C dX11_isPaid_50 rfl ?_
        refine r_bipush (v := (nI 20)) C dX11_isPaid_51 (by decide) ?_
        first | refine r_iaddN C dX11_isPaid_53 ?_ | refine r_iadd C dX11_isPaid_53 ?_
        refine r_iload C dX11_isPaid_54 rfl ?_
        first | refine r_iaddN C dX11_isPaid_56 ?_ | refine r_iadd C dX11_isPaid_56 ?_
        refine r_dup2 C dX11_isPaid_57 rfl rfl ?_
        refine q_ialdV (m := 1080) C dX11_isPaid_58 ok39 rfl rfl (by omega) (at_ (20 + m) _ (by omega) (by omega)) ?_
        refine r_iload_n C dX11_isPaid_59 rfl ?_
        refine r_isub C dX11_isPaid_60 ?_
        refine q_iast (m := 1080) C dX11_isPaid_61 ok39 rfl rfl (by omega) ?_
        refine r_aload_n C dX11_isPaid_62 rfl ?_
        refine r_getR C flX11_7 dX11_isPaid_63 ok11 rfl rfl ?_
        refine r_iload_n C dX11_isPaid_66 rfl ?_
        refine r_bipush (v := (nI 24)) C dX11_isPaid_67 (by decide) ?_
        first | refine r_iaddN C dX11_isPaid_69 ?_ | refine r_iadd C dX11_isPaid_69 ?_
        refine r_iconst (v := (nI 4)) C dX11_isPaid_70 (by decide) ?_
        refine r_iload_n C dX11_isPaid_71 rfl ?_
        first | refine r_imulN C dX11_isPaid_72 ?_ | refine r_imul C dX11_isPaid_72 ?_
        first | refine r_iaddN C dX11_isPaid_73 ?_ | refine r_iadd C dX11_isPaid_73 ?_
        refine r_iload C dX11_isPaid_74 rfl ?_
        first | refine r_iaddN C dX11_isPaid_76 ?_ | refine r_iadd C dX11_isPaid_76 ?_
        refine r_dup2 C dX11_isPaid_77 rfl rfl ?_
        refine q_ialdV (m := 1080) C dX11_isPaid_78 ok39 rfl rfl (by omega) e1 ?_
        refine r_iload_n C dX11_isPaid_79 rfl ?_
        refine r_iadd C dX11_isPaid_80 ?_
        refine q_iast (m := 1080) C dX11_isPaid_81 ok39 rfl rfl (by omega) ?_
        refine r_vret C hrt dX11_isPaid_82 ?_
        rw [← hp]
        refine ⟨rfl, rfl, mw_put (by omega) g1, (Fs.rf.put ?_).put ?_⟩
        · rw [show o + 20 + m = o + (20 + m) by omega]; exact sW_in (by omega)
        · rw [show o + 24 + 4 * c + m = o + (24 + 4 * c + m) by omega]; exact sW_in (by omega)
  exact loop (N 1) 0 (by omega) rfl
/-! pure: the model's day is the class's -/
theorem eat1_w {b : Nat → Int32} {q : Int32} {c : Nat} {s : Sv} {w d : Int32} : eat1 b q c (s, w, d) = ((eat1 b q c (s, nI 0, d)).1, (if (eat1 b q c (s, nI 0, d)).2.1 = 0 then w else nI 1), (eat1 b q c (s, nI 0, d)).2.2) := by
  have z0 : nI 0 = (0 : Int32) := nI_0
  have z1 : ¬ nI 1 = (0 : Int32) := by decide
  by_cases h1 : fedB q s c = true
  · rw [eat1_fed h1, eat1_fed h1]
    show _ = (_, (if nI 0 = 0 then w else nI 1), _)
    rw [if_pos z0]
  · rw [eat1_not h1, eat1_not h1]
    by_cases h2 : fedS q s c (5 + c) = 0
    · rw [starve_0 h2, starve_0 h2]
      show _ = (_, (if nI 0 = 0 then w else nI 1), _)
      rw [if_pos z0]
    · by_cases h3 : fedS q s c (10 + c) + nI 1 ≤ b c
      · rw [starve_1 h2 h3, starve_1 h2 h3]
        show _ = (_, (if nI 1 = 0 then w else nI 1), _)
        rw [if_neg z1]
      · rw [starve_2 h2 h3, starve_2 h2 h3]
        show _ = (_, (if nI 1 = 0 then w else nI 1), _)
        rw [if_neg z1]
theorem starve_oth {b0 : Int32} {c k : Nat} {s : Sv} {w d : Int32} (h5 : k ≠ 5 + c) (h10 : k ≠ 10 + c) : (starveF b0 c (s, w, d)).1 k = s k := by
  by_cases h2 : s (5 + c) = 0
  · rw [starve_0 h2]; exact va_up_ne _ _ h10
  · by_cases h3 : s (10 + c) + nI 1 ≤ b0
    · rw [starve_1 h2 h3]; exact va_up_ne _ _ h10
    · rw [starve_2 h2 h3]
      show va_up (va_up _ _ _) _ _ k = _
      rw [va_up_ne _ _ h5, va_up_ne _ _ h10]
theorem eat1_oth {b : Nat → Int32} {q : Int32} {c k : Nat} {u : Sv × Int32 × Int32} (h0 : k ≠ 0) (h5 : k ≠ 5 + c) (h10 : k ≠ 10 + c) : (eat1 b q c u).1 k = u.1 k := by
  obtain ⟨s, w, d⟩ := u
  by_cases h1 : fedB q s c = true
  · rw [eat1_fed h1]
    show va_up _ _ _ k = _
    rw [va_up_ne _ _ h10, fedS_off h0]
  · rw [eat1_not h1, starve_oth h5 h10, fedS_off h0]
theorem eatN_men {b : Nat → Int32} {q : Int32} {c : Nat} {u : Sv × Int32 × Int32} (hc : c < 5) : ∀ n, n ≤ c → (eatN b q u n).1 (5 + c) = u.1 (5 + c)
  | 0, _ => rfl
  | n + 1, hn => by rw [eatN, eat1_oth (by omega) (by omega) (by omega), eatN_men hc n (by omega)]
theorem payR_up2 {s : Sv} {c : Nat} {due x : Int32} : ∀ r i, payR (va_up s 2 x) c due r i = va_up (payR s c due r i) 2 x
  | 0, i => by
    rw [payR, payR, va_up_ne _ _ (by omega), up_comm (by omega)]
  | r + 1, i => by
    rw [payR, payR, va_up_ne _ _ (show 20 + i ≠ 2 by omega), va_up_ne _ _ (show 24 + (c * 4 + i) ≠ 2 by omega), payR_up2 r (i + 1)]
    split
    · rw [up_comm (show 2 ≠ 20 + i by omega), up_comm (show 2 ≠ 24 + (c * 4 + i) by omega)]
    · rfl
theorem payN_up2 {N : Nat → Nat} {T : Tv} {s : Sv} {x : Int32} : ∀ c, payN N T (va_up s 2 x) c = va_up (payN N T s c) 2 x
  | 0 => rfl
  | c + 1 => by rw [payN, payN, payN_up2 c, va_up_ne _ _ (show 5 + c ≠ 2 by omega), payR_up2]
def u0F (N : Nat → Nat) (T : Tv) (s : Sv) : Sv × Int32 × Int32 := (va_up s 0 (s 0 + hfd T (s 2) (N 3)), nI 0, -1)
theorem pass_eq {N : Nat → Nat} {T : Tv} {q : Int32} {s : Sv} (h0 : N 0 ≤ 5) (h1 : N 1 ≤ 4) (y : Int32) (hy : s 3 + y = hunF (edayF N T q s).2.1 (s 3)) :
    va_up (va_up (payN N T (eatN (T 1) q (u0F N T s) (N 0)).1 (N 0)) 3 (s 3 + y)) 2 ((eatN (T 1) q (u0F N T s) (N 0)).1 2 + nI 1) = passF N T q s := by
  have e1 : (edayF N T q s).1 = va_up (eatN (T 1) q (u0F N T s) (N 0)).1 2 ((eatN (T 1) q (u0F N T s) (N 0)).1 2 + nI 1) := rfl
  have e2 : payN N T (eatN (T 1) q (u0F N T s) (N 0)).1 (N 0) 3 = s 3 := by
    rw [payN_off h1 (by omega) _ h0, eatN_off (by omega) (by omega) _ h0]
    show va_up s 0 (s 0 + hfd T (s 2) (N 3)) 3 = s 3
    exact va_up_ne _ _ (by decide)
  rw [passF, e1, payN_up2, va_up_ne _ _ (show 3 ≠ 2 by omega), e2, ← hy, up_comm (show 3 ≠ 2 by omega)]
theorem hun_1 {x w : Int32} (h : ¬ w = 0) : x + nI 1 = hunF w x := by rw [hunF, if_neg h]
theorem hun_0 {x w : Int32} (h : w = 0) (hx : x ≤ 0) (hx0 : 0 ≤ x) : x + nI 0 = hunF w x := by
  have e : x = 0 := Int32.le_antisymm hx hx0
  subst e
  rw [hunF, if_pos h]
  decide
theorem hun_m {x w : Int32} (h : w = 0) (hx : ¬ x ≤ 0) : x + (-1) = hunF w x := by
  have h1 : 0 < x.toInt := by
    have := Int32.not_le.mp hx
    rw [Int32.lt_iff_toInt_lt] at this
    exact this
  obtain ⟨j, hj, rfl⟩ := nI_of (x := x) (fun z => by
    rw [Int32.lt_iff_toInt_lt] at z
    have z2 : x.toInt < 0 := z
    omega)
  rw [nI_toInt hj] at h1
  obtain ⟨i, rfl⟩ : ∃ i, j = i + 1 := ⟨j - 1, by omega⟩
  rw [pk_m1, hunF, if_pos h, pk_sub (by omega)]
  show nI i = if nI 0 < nI i then nI i else nI 0
  by_cases hi : i = 0
  · subst hi
    decide
  · rw [if_pos (nI_lt (by omega) (by omega))]
