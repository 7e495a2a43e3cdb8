set_option maxRecDepth 100000 in
set_option maxHeartbeats 4000000 in
theorem c_clauseOf {E : Ev} {a b : Nat} {h : HF} {x : Int32} : Ct E 0 yX4_clauseOf cX4_clauseOf 1 (some .int) [aI x] 243 (Rs a b) h 243 (fun v R' h' => v = some (aI (if ccF x = 5 then -1 else nI (ccF x))) ∧ R' = Rs a b ∧ h' = h) := by
  refine Ct.of 0 (L0 := [some (aI x)]) (by decide) ⟨Nat.le_refl _, Nat.le_refl _⟩ rfl rfl ?_
  intro G C hg hrt hnm
  have hN : gn G ≤ 243 ∧ 243 ≤ 243 ∧ 243 ≤ 243 := ⟨by omega, by decide, by decide⟩
  refine r_iload_n C dX4_clauseOf_0 rfl ?_
  by_cases h1 : x = nI 116
  · subst h1
    refine r_look (off := 51) (tgt := 52) C ⟨dX4_clauseOf_1, rfl, by decide⟩ (by decide) (by decide) ?_
    refine r_iconst (v := (nI 0)) C dX4_clauseOf_52 (by decide) ?_
    refine r_iret C hrt dX4_clauseOf_53 ?_
    exact ⟨rfl, rfl, rfl⟩
  · by_cases h2 : x = nI 99
    · subst h2
      refine r_look (off := 53) (tgt := 54) C ⟨dX4_clauseOf_1, rfl, by decide⟩ (by decide) (by decide) ?_
      refine r_iconst (v := (nI 1)) C dX4_clauseOf_54 (by decide) ?_
      refine r_iret C hrt dX4_clauseOf_55 ?_
      exact ⟨rfl, rfl, rfl⟩
    · by_cases h3 : x = nI 109
      · subst h3
        refine r_look (off := 55) (tgt := 56) C ⟨dX4_clauseOf_1, rfl, by decide⟩ (by decide) (by decide) ?_
        refine r_iconst (v := (nI 2)) C dX4_clauseOf_56 (by decide) ?_
        refine r_iret C hrt dX4_clauseOf_57 ?_
        exact ⟨rfl, rfl, rfl⟩
      · by_cases h4 : x = nI 103
        · subst h4
          refine r_look (off := 57) (tgt := 58) C ⟨dX4_clauseOf_1, rfl, by decide⟩ (by decide) (by decide) ?_
          refine r_iconst (v := (nI 3)) C dX4_clauseOf_58 (by decide) ?_
          refine r_iret C hrt dX4_clauseOf_59 ?_
          exact ⟨rfl, rfl, rfl⟩
        · by_cases h5 : x = nI 104
          · subst h5
            refine r_look (off := 59) (tgt := 60) C ⟨dX4_clauseOf_1, rfl, by decide⟩ (by decide) (by decide) ?_
            refine r_iconst (v := (nI 4)) C dX4_clauseOf_60 (by decide) ?_
            refine r_iret C hrt dX4_clauseOf_61 ?_
            exact ⟨rfl, rfl, rfl⟩
          · refine r_look (off := 61) (tgt := 62) C ⟨dX4_clauseOf_1, rfl, by decide⟩ (by decide) ?_ ?_
            · exact (lv_osw (k := nI 99) h2 (by decide)).trans ((lv_osw (k := nI 103) h4 (by decide)).trans ((lv_osw (k := nI 104) h5 (by decide)).trans ((lv_osw (k := nI 109) h3 (by decide)).trans ((lv_osw (k := nI 116) h1 (by decide)).trans rfl))))
            refine r_iconst (v := (-1)) C dX4_clauseOf_62 (by decide) ?_
            refine r_iret C hrt dX4_clauseOf_63 ?_
            have e : ccF x = 5 := by simp [ccF, h1, h2, h3, h4, h5]
            rw [e]
            exact ⟨rfl, rfl, rfl⟩
set_option maxRecDepth 100000 in
set_option maxHeartbeats 4000000 in
theorem c_readNumber {E : Ev} {a b n p : Nat} {h : HF} {X : Nat → Int32} {pl lo hi : Int32} (hx : txp h n X) (hr : rdp h p 0 pl) (hp : p ≤ n) : Ct E 2 yX4_readNumber cX4_readNumber 6 (some .int) [aR 4 0, aR 7 0, aI lo, aI hi] 243 (Rs a b) h 243 (fun v R' h' => v = some (aI (rdn X n p lo hi).2.1) ∧ R' = Rs a b ∧ rdp h' (rdn X n p lo hi).1 (rdn X n p lo hi).2.2.1 (if (rdn X n p lo hi).2.2.1 = 0 then pl else nI (rdn X n p lo hi).2.2.2) ∧ Fr s4 h h') := by
  refine Ct.of 2 (L0 := [some (aR 4 0), some (aR 7 0), some (aI lo), some (aI hi), none, none]) (by decide) ⟨Nat.le_refl _, Nat.le_refl _⟩ rfl rfl ?_
  intro G C hg hrt hnm
  have hN : gn G ≤ 243 ∧ 243 ≤ 243 ∧ 243 ≤ 243 := ⟨by omega, by decide, by decide⟩
  have hn := hx.2.1
  refine r_aload_n C dX4_readNumber_0 rfl ?_
  refine r_aload_n C dX4_readNumber_1 rfl ?_
  refine r_callV C (c_skipBlanks hx hr hp) dX4_readNumber_2 cw_X4_skipBlanks cvX4_30 (by omega) ok4 rfl hN rfl (Nat.le_of_ble_eq_true rfl) ?_
  rintro v R' h1 ⟨rfl, rfl, hr1, hf1⟩
  have hsb := skN_b (X := X) hp
  refine r_aload_n C dX4_readNumber_5 rfl ?_
  refine q_getV C flX4_15 dX4_readNumber_6 ok4 rfl hr1.1 ?_
  refine r_istore C dX4_readNumber_9 st4 ?_
  refine r_iconst (v := (nI 0)) C dX4_readNumber_11 (by decide) ?_
  refine r_istore C dX4_readNumber_12 st5 ?_
  have loop : ∀ k q v hh, q + k = n → skN X n p ≤ q → rdp hh q 0 pl → nmF X (skN X n p) k q v = nmF X (skN X n p) (n - skN X n p) (skN X n p) (nI 0) → Fr s4 h hh →
      Wa E G 243 (Rs a b) hh (QQ E G 243 (fun v R' h' => v = some (aI (rdn X n p lo hi).2.1) ∧ R' = Rs a b ∧ rdp h' (rdn X n p lo hi).1 (rdn X n p lo hi).2.2.1 (if (rdn X n p lo hi).2.2.1 = 0 then pl else nI (rdn X n p lo hi).2.2.2) ∧ Fr s4 h h')) 14 [some (aR 4 0), some (aR 7 0), some (aI lo), some (aI hi), some (aI (nI (skN X n p))), some (aI v)] [] := by
    have fin : ∀ q v hh, q ≤ n → skN X n p ≤ q → rdp hh q 0 pl → (q, v) = nmF X (skN X n p) (n - skN X n p) (skN X n p) (nI 0) → Fr s4 h hh →
      Wa E G 243 (Rs a b) hh (QQ E G 243 (fun v R' h' => v = some (aI (rdn X n p lo hi).2.1) ∧ R' = Rs a b ∧ rdp h' (rdn X n p lo hi).1 (rdn X n p lo hi).2.2.1 (if (rdn X n p lo hi).2.2.1 = 0 then pl else nI (rdn X n p lo hi).2.2.2) ∧ Fr s4 h h')) 84 [some (aR 4 0), some (aR 7 0), some (aI lo), some (aI hi), some (aI (nI (skN X n p))), some (aI v)] [] := by
      intro q v hh hq hsq hr he hf
      have hrd : rdn X n p lo hi = if q = skN X n p then (skN X n p, v, 1, skN X n p) else if q - skN X n p ≤ 3 ∧ lo ≤ v ∧ v ≤ hi then (q, v, 0, 0) else (q, v, 2, skN X n p) := by
        unfold rdn
        rw [← he]
      refine r_aload_n C dX4_readNumber_84 rfl ?_
      refine q_getV C flX4_15 dX4_readNumber_85 ok4 rfl hr.1 ?_
      refine r_iload C dX4_readNumber_88 rfl ?_
      refine r_icmpN_ne C dX4_readNumber_90 (by omega) (by omega) (fun c90 => ?_) (fun c90 => ?_)
      · rw [if_neg c90] at hrd
        refine r_aload_n C dX4_readNumber_105 rfl ?_
        refine q_getV C flX4_15 dX4_readNumber_106 ok4 rfl hr.1 ?_
        refine r_iload C dX4_readNumber_109 rfl ?_
        refine r_isubN C dX4_readNumber_111 hsq ?_
        have bad : ¬ (q - skN X n p ≤ 3 ∧ lo ≤ v ∧ v ≤ hi) → Wa E G 243 (Rs a b) hh (QQ E G 243 (fun v R' h' => v = some (aI (rdn X n p lo hi).2.1) ∧ R' = Rs a b ∧ rdp h' (rdn X n p lo hi).1 (rdn X n p lo hi).2.2.1 (if (rdn X n p lo hi).2.2.1 = 0 then pl else nI (rdn X n p lo hi).2.2.2) ∧ Fr s4 h h')) 126 [some (aR 4 0), some (aR 7 0), some (aI lo), some (aI hi), some (aI (nI (skN X n p))), some (aI v)] [] := by
          intro hbad
          rw [if_neg hbad] at hrd
          refine r_aload_n C dX4_readNumber_126 rfl ?_
          refine r_iconst (v := (nI 2)) C dX4_readNumber_127 (by decide) ?_
          refine r_iload C dX4_readNumber_128 rfl ?_
          refine r_callV C (c_setFault hr (by decide)) dX4_readNumber_130 cw_X4_setFault cvX4_54 (by omega) ok4 rfl hN rfl (Nat.le_of_ble_eq_true rfl) ?_
          rintro v2 R' h2 ⟨rfl, rfl, hr2, hf2⟩
          refine r_iload C dX4_readNumber_133 rfl ?_
          refine r_iret C hrt dX4_readNumber_135 ?_
          rw [hrd]
          exact ⟨rfl, rfl, hr2, hf.tr hf2⟩
        refine r_iconst (v := (nI 3)) C dX4_readNumber_112 (by decide) ?_
        refine r_icmpN_gt C dX4_readNumber_113 (by omega) (by omega) (fun c113 => ?_) (fun c113 => ?_)
        · exact bad (fun z => by omega)
        · refine r_iload C dX4_readNumber_116 rfl ?_
          refine r_iload_n C dX4_readNumber_118 rfl ?_
          refine r_iload_n C dX4_readNumber_119 rfl ?_
          refine r_callSN C c_isWithin dX4_readNumber_120 cw_X10_isWithin cnX4_89 (by omega) rfl hN rfl (Nat.le_of_ble_eq_true rfl) ?_
          rintro v2 R' h2 ⟨rfl, rfl, rfl⟩
          by_cases hw : lo ≤ v ∧ v ≤ hi
          · rw [if_pos hw]
            refine r_if_ne C dX4_readNumber_123 (fun _ => ?_) (fun cc => absurd cc (by decide))
            refine r_iload C dX4_readNumber_133 rfl ?_
            refine r_iret C hrt dX4_readNumber_135 ?_
            rw [if_pos ⟨c113, hw⟩] at hrd
            rw [hrd]
            exact ⟨rfl, rfl, hr, hf⟩
          · rw [if_neg hw]
            refine r_if_ne C dX4_readNumber_123 (fun cc => absurd cc (by decide)) (fun _ => ?_)
            exact bad (fun z => hw z.2)
      · rw [if_pos c90] at hrd
        subst c90
        refine r_aload_n C dX4_readNumber_93 rfl ?_
        refine r_iconst (v := (nI 1)) C dX4_readNumber_94 (by decide) ?_
        refine r_aload_n C dX4_readNumber_95 rfl ?_
        refine q_getV C flX4_15 dX4_readNumber_96 ok4 rfl hr.1 ?_
        refine r_callV C (c_setFault hr (by decide)) dX4_readNumber_99 cw_X4_setFault cvX4_54 (by omega) ok4 rfl hN rfl (Nat.le_of_ble_eq_true rfl) ?_
        rintro v2 R' h2 ⟨rfl, rfl, hr2, hf2⟩
        refine r_goto C dX4_readNumber_102 ?_
        refine r_iload C dX4_readNumber_133 rfl ?_
        refine r_iret C hrt dX4_readNumber_135 ?_
        rw [hrd]
        exact ⟨rfl, rfl, hr2, hf.tr hf2⟩
    intro k
    induction k with
    | zero =>
      intro q v hh hq hsq hr he hf
      have hx2 := hx.fr hf rfl rfl
      refine r_aload_n C dX4_readNumber_14 rfl ?_
      refine q_getV C flX4_15 dX4_readNumber_15 ok4 rfl hr.1 ?_
      refine r_aload_n C dX4_readNumber_18 rfl ?_
      refine q_getV C flX4_34 dX4_readNumber_19 ok7 rfl hx2.1 ?_
      refine r_icmpN_ge C dX4_readNumber_22 (by omega) (by omega) (fun _ => ?_) (fun cc => absurd cc (by omega))
      exact fin q v hh (by omega) hsq hr he hf
    | succ k ih =>
      intro q v hh hq hsq hr he hf
      have hx2 := hx.fr hf rfl rfl
      rw [nmF] at he
      refine r_aload_n C dX4_readNumber_14 rfl ?_
      refine q_getV C flX4_15 dX4_readNumber_15 ok4 rfl hr.1 ?_
      refine r_aload_n C dX4_readNumber_18 rfl ?_
      refine q_getV C flX4_34 dX4_readNumber_19 ok7 rfl hx2.1 ?_
      refine r_icmpN_ge C dX4_readNumber_22 (by omega) (by omega) (fun cc => absurd cc (by omega)) (fun _ => ?_)
      refine r_aload_n C dX4_readNumber_25 rfl ?_
      refine r_getR C flX4_43 dX4_readNumber_26 ok7 rfl rfl ?_
      refine r_aload_n C dX4_readNumber_29 rfl ?_
      refine q_getV C flX4_15 dX4_readNumber_30 ok4 rfl hr.1 ?_
      refine q_ialdV (m := 240) C dX4_readNumber_33 ok26 rfl rfl (by omega) (hx2.2.2 q (by omega)) ?_
      refine r_callS C c_isFigure dX4_readNumber_34 cw_X4_isFigure csX4_86 (by omega) rfl hN rfl (Nat.le_of_ble_eq_true rfl) ?_
      rintro v2 R' h2 ⟨rfl, rfl, rfl⟩
      by_cases hfg : nI 48 ≤ X q ∧ X q ≤ nI 57
      · rw [if_pos hfg] at he
        rw [if_pos hfg]
        refine r_if_eq C dX4_readNumber_37 (fun cc => absurd cc (by decide)) (fun _ => ?_)
        refine r_aload_n C dX4_readNumber_40 rfl ?_
        refine q_getV C flX4_15 dX4_readNumber_41 ok4 rfl hr.1 ?_
        refine r_iload C dX4_readNumber_44 rfl ?_
        refine r_isubN C dX4_readNumber_46 hsq ?_
        refine r_iconst (v := (nI 3)) C dX4_readNumber_47 (by decide) ?_
        refine r_icmpN_ge C dX4_readNumber_48 (by omega) (by omega) (fun c48 => ?_) (fun c48 => ?_)
        · rw [if_neg (by omega)] at he
          refine r_aload_n C dX4_readNumber_71 rfl ?_
          refine r_dup C dX4_readNumber_72 rfl ?_
          refine q_getV C flX4_15 dX4_readNumber_73 ok4 rfl hr.1 ?_
          refine r_iconst (v := (nI 1)) C dX4_readNumber_76 (by decide) ?_
          first | refine r_iaddN C dX4_readNumber_77 ?_ | refine r_iadd C dX4_readNumber_77 ?_
          refine r_putI C flX4_15 dX4_readNumber_78 ok4 rfl ⟨rfl, rfl⟩ ?_
          refine r_goto C dX4_readNumber_81 ?_
          exact ih (q + 1) v _ (by omega) (by omega) ⟨put_same, hr.2.1, hr.2.2⟩ he (Fr.put hf rfl)
        · rw [if_pos c48] at he
          refine r_iload C dX4_readNumber_51 rfl ?_
          refine r_bipush (v := (nI 10)) C dX4_readNumber_53 (by decide) ?_
          first | refine r_imulN C dX4_readNumber_55 ?_ | refine r_imul C dX4_readNumber_55 ?_
          refine r_aload_n C dX4_readNumber_56 rfl ?_
          refine r_getR C flX4_43 dX4_readNumber_57 ok7 rfl rfl ?_
          refine r_aload_n C dX4_readNumber_60 rfl ?_
          refine q_getV C flX4_15 dX4_readNumber_61 ok4 rfl hr.1 ?_
          refine q_ialdV (m := 240) C dX4_readNumber_64 ok26 rfl rfl (by omega) (hx2.2.2 q (by omega)) ?_
          first | refine r_iaddN C dX4_readNumber_65 ?_ | refine r_iadd C dX4_readNumber_65 ?_
          refine r_bipush (v := (nI 48)) C dX4_readNumber_66 (by decide) ?_
          refine r_isub C dX4_readNumber_68 ?_
          refine r_istore C dX4_readNumber_69 st5 ?_
          refine r_aload_n C dX4_readNumber_71 rfl ?_
          refine r_dup C dX4_readNumber_72 rfl ?_
          refine q_getV C flX4_15 dX4_readNumber_73 ok4 rfl hr.1 ?_
          refine r_iconst (v := (nI 1)) C dX4_readNumber_76 (by decide) ?_
          first | refine r_iaddN C dX4_readNumber_77 ?_ | refine r_iadd C dX4_readNumber_77 ?_
          refine r_putI C flX4_15 dX4_readNumber_78 ok4 rfl ⟨rfl, rfl⟩ ?_
          refine r_goto C dX4_readNumber_81 ?_
          exact ih (q + 1) _ _ (by omega) (by omega) ⟨put_same, hr.2.1, hr.2.2⟩ he (Fr.put hf rfl)
      · rw [if_neg hfg] at he
        rw [if_neg hfg]
        refine r_if_eq C dX4_readNumber_37 (fun _ => ?_) (fun cc => absurd cc (by decide))
        exact fin q v _ (by omega) hsq hr he hf
  exact loop (n - skN X n p) (skN X n p) (nI 0) h1 (by omega) (Nat.le_refl _) hr1 rfl hf1
def s417 : Nat → Nat → Bool := fun k _ => k == 4 || k == 17
theorem s4_s417 : ∀ k j, s4 k j = true → s417 k j = true := by
  intro k j hh
  simp only [s4, beq_iff_eq] at hh
  simp [s417, hh]
theorem nos_num : ∀ cl, cl < 5 → numV.getD cl 0 = nI (nosF cl) ∧ nosF cl ≤ 3 := by decide
set_option maxRecDepth 100000 in
set_option maxHeartbeats 4000000 in
theorem c_readNumbers {E : Ev} {a b n p cl : Nat} {h : HF} {X : Nat → Int32} {pl : Int32} (hx : txp h n X) (hr : rdp h p 0 pl) (hp : p ≤ n) (hcl : cl < 5) : Ct E 3 yX4_readNumbers cX4_readNumbers 5 none [aR 4 0, aR 7 0, aI (nI cl)] 243 (Rs a b) h 243 (fun v R' h' => v = none ∧ R' = Rs a b ∧ ((ffF X n cl p (nosF cl) 0).1 = 0 → rdp h' (rpF X n cl p (nosF cl)) 0 pl ∧ ∀ i, i < nosF cl → h' 17 0 i = (rrF X n cl p i).2.1) ∧ ((ffF X n cl p (nosF cl) 0).1 ≠ 0 → ∃ p', p' ≤ n ∧ rdp h' p' (ffF X n cl p (nosF cl) 0).1 (nI (ffF X n cl p (nosF cl) 0).2)) ∧ Fr s417 h h') := by
  refine Ct.of 2 (L0 := [some (aR 4 0), some (aR 7 0), some (aI (nI cl)), none, none]) (by decide) ⟨Nat.le_refl _, Nat.le_refl _⟩ rfl rfl ?_
  intro G C hg hrt hnm
  have hN : gn G ≤ 243 ∧ 243 ≤ 243 ∧ 243 ≤ 243 := ⟨by omega, by decide, by decide⟩
  obtain ⟨hnum, hnos⟩ := nos_num cl hcl
  have hlen : numV.length = 5 := rfl
  refine r_iconst (v := (nI 0)) C dX4_readNumbers_0 (by decide) ?_
  refine r_istore_n C dX4_readNumbers_1 st3 ?_
  have loop : ∀ k i hh L4, i + k = nosF cl → rdp hh (rpF X n cl p i) 0 pl → (∀ i', i' < i → hh 17 0 i' = (rrF X n cl p i').2.1) → ffF X n cl p k i = ffF X n cl p (nosF cl) 0 → Fr s417 h hh →
      Wa E G 243 (Rs a b) hh (QQ E G 243 (fun v R' h' => v = none ∧ R' = Rs a b ∧ ((ffF X n cl p (nosF cl) 0).1 = 0 → rdp h' (rpF X n cl p (nosF cl)) 0 pl ∧ ∀ i, i < nosF cl → h' 17 0 i = (rrF X n cl p i).2.1) ∧ ((ffF X n cl p (nosF cl) 0).1 ≠ 0 → ∃ p', p' ≤ n ∧ rdp h' p' (ffF X n cl p (nosF cl) 0).1 (nI (ffF X n cl p (nosF cl) 0).2)) ∧ Fr s417 h h')) 2 [some (aR 4 0), some (aR 7 0), some (aI (nI cl)), some (aI (nI i)), L4] [] := by
    intro k
    induction k with
    | zero =>
      intro i hh L4 hi hr hv he hf
      have e : i = nosF cl := by omega
      subst e
      refine r_iload_n C dX4_readNumbers_2 rfl ?_
      refine r_gets C dX4_readNumbers_3 C.2.2.2.2.1.2.2.2.1 (by decide) gsX4_73 ?_
      refine r_iload_n C dX4_readNumbers_6 rfl ?_
      refine r_sti C dX4_readNumbers_7 C.2.2.2.2.1.2.2.2.1 (by decide) rfl (by omega) (by decide) ?_
      rw [hnum]
      refine r_icmpN_ge C dX4_readNumbers_8 (by omega) (by omega) (fun _ => ?_) (fun cc => absurd cc (by omega))
      refine r_vret C hrt dX4_readNumbers_54 ?_
      have e0 : (ffF X n cl p (nosF cl) 0).1 = 0 := by rw [← he]; rfl
      exact ⟨rfl, rfl, fun _ => ⟨hr, hv⟩, fun z => absurd e0 z, hf⟩
    | succ k ih =>
      intro i hh L4 hi hr hv he hf
      have hx2 := hx.fr hf rfl rfl
      have hpb := rpF_b (X := X) (cl := cl) hp i
      rw [ffF] at he
      refine r_iload_n C dX4_readNumbers_2 rfl ?_
      refine r_gets C dX4_readNumbers_3 C.2.2.2.2.1.2.2.2.1 (by decide) gsX4_73 ?_
      refine r_iload_n C dX4_readNumbers_6 rfl ?_
      refine r_sti C dX4_readNumbers_7 C.2.2.2.2.1.2.2.2.1 (by decide) rfl (by omega) (by decide) ?_
      rw [hnum]
      refine r_icmpN_ge C dX4_readNumbers_8 (by omega) (by omega) (fun cc => absurd cc (by omega)) (fun _ => ?_)
      refine r_aload_n C dX4_readNumbers_11 rfl ?_
      refine q_getV C flX4_19 dX4_readNumbers_12 ok4 rfl hr.2.1 ?_
      refine r_if_ne C dX4_readNumbers_15 (fun cc => absurd cc (by decide)) (fun _ => ?_)
      have hlo : lowV.length = 15 := rfl
      have hhi : higV.length = 15 := rfl
      have hci : cl * 3 + i < 15 := by omega
      refine r_iload_n C dX4_readNumbers_18 rfl ?_
      refine r_iconst (v := (nI 3)) C dX4_readNumbers_19 (by decide) ?_
      first | refine r_imulN C dX4_readNumbers_20 ?_ | refine r_imul C dX4_readNumbers_20 ?_
      refine r_iload_n C dX4_readNumbers_21 rfl ?_
      first | refine r_iaddN C dX4_readNumbers_22 ?_ | refine r_iadd C dX4_readNumbers_22 ?_
      refine r_istore C dX4_readNumbers_23 st4 ?_
      refine r_aload_n C dX4_readNumbers_25 rfl ?_
      refine r_getR C flX4_11 dX4_readNumbers_26 ok4 rfl rfl ?_
      refine r_iload_n C dX4_readNumbers_29 rfl ?_
      refine r_aload_n C dX4_readNumbers_30 rfl ?_
      refine r_aload_n C dX4_readNumbers_31 rfl ?_
      refine r_gets C dX4_readNumbers_32 C.2.2.2.2.1.2.2.2.2.1 (by decide) gsX4_76 ?_
      refine r_iload C dX4_readNumbers_35 rfl ?_
      refine r_sti C dX4_readNumbers_37 C.2.2.2.2.1.2.2.2.2.1 (by decide) rfl (by omega) (by decide) ?_
      refine r_gets C dX4_readNumbers_38 C.2.2.2.2.1.2.2.2.2.2 (by decide) gsX4_79 ?_
      refine r_iload C dX4_readNumbers_41 rfl ?_
      refine r_sti C dX4_readNumbers_43 C.2.2.2.2.1.2.2.2.2.2 (by decide) rfl (by omega) (by decide) ?_
      refine r_callV C (c_readNumber hx2 hr hpb.2) dX4_readNumbers_44 cw_X4_readNumber cvX4_82 (by omega) ok4 rfl hN rfl (Nat.le_of_ble_eq_true rfl) ?_
      rintro v R' h2 ⟨rfl, rfl, hr2, hf2⟩
      have hff := hf.tr (hf2.wk s4_s417)
      refine q_iast (m := 3) C dX4_readNumbers_47 ok17 rfl rfl (by omega) ?_
      first | refine r_iincN C dX4_readNumbers_48 rfl st3 ?_ | refine r_iinc C dX4_readNumbers_48 rfl rfl st3 ?_
      refine r_goto C dX4_readNumbers_51 ?_
      by_cases hz : (rrF X n cl p i).2.2.1 = 0
      · rw [if_pos hz] at he
        have hz' : (rdn X n (rpF X n cl p i) (lowV.getD (cl * 3 + i) 0) (higV.getD (cl * 3 + i) 0)).2.2.1 = 0 := hz
        rw [if_pos hz', hz'] at hr2
        refine ih (i + 1) _ _ (by omega) hr2 (fun i' hi' => ?_) he (Fr.put hff rfl)
        by_cases e : i' = i
        · subst e; exact put_same
        · rw [put_i e, hf2 17 0 rfl]; exact hv i' (by omega)
      · rw [if_neg hz] at he
        have hz' : ¬ (rdn X n (rpF X n cl p i) (lowV.getD (cl * 3 + i) 0) (higV.getD (cl * 3 + i) 0)).2.2.1 = 0 := hz
        rw [if_neg hz'] at hr2
        have hb2 := rdn_b (X := X) (lo := lowV.getD (cl * 3 + i) 0) (hi := higV.getD (cl * 3 + i) 0) hpb.2
        have fin : (ffF X n cl p (nosF cl) 0).1 ≠ 0 := by rw [← he]; exact hz
        have endd : ∀ L3 L4, Wa E G 243 (Rs a b) (put h2 17 0 i (rdn X n (rpF X n cl p i) (lowV.getD (cl * 3 + i) 0) (higV.getD (cl * 3 + i) 0)).2.1) (QQ E G 243 (fun v R' h' => v = none ∧ R' = Rs a b ∧ ((ffF X n cl p (nosF cl) 0).1 = 0 → rdp h' (rpF X n cl p (nosF cl)) 0 pl ∧ ∀ i, i < nosF cl → h' 17 0 i = (rrF X n cl p i).2.1) ∧ ((ffF X n cl p (nosF cl) 0).1 ≠ 0 → ∃ p', p' ≤ n ∧ rdp h' p' (ffF X n cl p (nosF cl) 0).1 (nI (ffF X n cl p (nosF cl) 0).2)) ∧ Fr s417 h h')) 54 [some (aR 4 0), some (aR 7 0), some (aI (nI cl)), L3, L4] [] := by
          intro L3 L4
          refine r_vret C hrt dX4_readNumbers_54 ?_
          refine ⟨rfl, rfl, fun z => absurd z fin, fun _ => ⟨_, hb2.2.1, ?_⟩, Fr.put hff rfl⟩
          rw [← he]
          exact hr2
        refine r_iload_n C dX4_readNumbers_2 rfl ?_
        refine r_gets C dX4_readNumbers_3 C.2.2.2.2.1.2.2.2.1 (by decide) gsX4_73 ?_
        refine r_iload_n C dX4_readNumbers_6 rfl ?_
        refine r_sti C dX4_readNumbers_7 C.2.2.2.2.1.2.2.2.1 (by decide) rfl (by omega) (by decide) ?_
        rw [hnum]
        refine r_icmpN_ge C dX4_readNumbers_8 (by omega) (by omega) (fun c8 => ?_) (fun c8 => ?_)
        · exact endd _ _
        · refine r_aload_n C dX4_readNumbers_11 rfl ?_
          refine q_getV C flX4_19 dX4_readNumbers_12 ok4 rfl (show _ = nI _ from hr2.2.1) ?_
          refine r_if_ne C dX4_readNumbers_15 (fun _ => ?_) (fun cc => absurd cc (by exact fun z => nI_ne0 (by omega) (by omega) z))
          exact endd _ _
  exact loop (nosF cl) 0 h none (by omega) hr (fun i hi => by omega) rfl Fr.rf
