/-! THE LAW -/
theorem inc5 (i : Nat) : nI i + Int32.ofInt 5 = nI (i + 5) := nI_add i 5
theorem vp_odds {g : Gs} (v : VP g) : ∃ j, j ≤ 99 ∧ gSv g 1 = nI j := toN v.2.2.1.2.1.1 v.2.2.1.2.1.2
theorem vp_stamp {g : Gs} (v : VP g) : ∀ m, m < gNn g 1 → ∃ p, p ≤ 99 ∧ gT g 2 m = nI p := fun m hm => toN (v.2.1.2 m hm).1.1 (v.2.1.2 m hm).1.2
def g0 : Gs := (fun _ => nI 0, 0, -1, fun _ => 0, fun _ _ => nI 0, fun _ => nI 0, (0, fun _ _ => nI 0), (fun _ => 0, fun _ _ => nI 0), (0, fun _ => 0, fun _ => nI 0, fun _ => nI 0, fun _ => nI 0), (0, fun _ => 0, fun _ => nI 0))
theorem vp_0 : VP g0 := by
  refine ⟨⟨by decide, by decide⟩, ⟨fun c hc => absurd hc (Nat.not_lt_zero _), fun c hc => absurd hc (Nat.not_lt_zero _)⟩, ⟨⟨fun c hc => ?_, fun c h1 h2 => rfl⟩, ?_, ?_, fun c hc => ?_, fun c m hc hm => ?_, ?_⟩, fun i hi => absurd hi (Nat.not_lt_zero _), fun i hi z => absurd z (show ¬ (0 : Nat) = 1 by decide), fun i hi => absurd hi (Nat.not_lt_zero _)⟩
  · show 0 ≤ (nI 0).toInt ∧ (nI 0).toInt ≤ 99
    decide
  · show 0 ≤ (nI 0).toInt ∧ (nI 0).toInt ≤ 99
    decide
  · show 0 ≤ (nI 0).toInt ∧ (nI 0).toInt ≤ (nI 0).toInt ∧ (nI 0).toInt ≤ 9030
    decide
  · show 0 ≤ (nI 0).toInt ∧ (nI 0).toInt ≤ 891 * (nI 0).toInt
    decide
  · show 0 ≤ (nI 0).toInt ∧ 0 ≤ (nI 0).toInt ∧ (nI 0).toInt + (nI 0).toInt ≤ 999
    decide
  · show 0 ≤ (nI 0).toInt
    decide
theorem cp_0 : CP H0 0 g0 := by
  refine ⟨⟨⟨rfl, Nat.zero_le _, fun i hi => absurd hi (Nat.not_lt_zero _)⟩, rfl⟩, ⟨rfl, rfl, rfl, rfl, rfl, fun i hi => absurd hi (Nat.not_lt_zero _), fun i hi => absurd hi (Nat.not_lt_zero _), fun i hi => absurd hi (Nat.not_lt_zero _), fun i hi => absurd hi (Nat.not_lt_zero _), Nat.zero_le _, Nat.zero_le _, Nat.zero_le _, Nat.zero_le _, Nat.zero_le _⟩, ⟨⟨⟨rfl, rfl, fun _ _ => rfl, fun _ _ => rfl⟩, rfl, rfl, rfl, fun _ _ => rfl, fun _ _ => rfl, fun _ _ => rfl⟩, rfl⟩, ⟨0, rfl, rfl, by decide, Nat.zero_le _, fun i hi => absurd hi (Nat.not_lt_zero _)⟩, fun i hi => ⟨rfl, Nat.zero_le _, fun z => absurd z (show ¬ (0 : Nat) = 1 by decide)⟩, ⟨⟨rfl, Nat.zero_le _, fun i hi => absurd hi (Nat.not_lt_zero _)⟩, fun i hi => absurd hi (Nat.not_lt_zero _)⟩, ⟨⟨rfl, Nat.zero_le _, fun i hi => absurd hi (Nat.not_lt_zero _)⟩, fun i hi => absurd hi (Nat.not_lt_zero _)⟩⟩
theorem mp_0 : MP H0 g0 := by
  refine ⟨⟨⟨rfl, Nat.zero_le _, fun i hi => absurd hi (Nat.not_lt_zero _)⟩, rfl⟩, ⟨rfl, rfl, rfl, rfl, rfl, fun i hi => absurd hi (Nat.not_lt_zero _), fun i hi => absurd hi (Nat.not_lt_zero _), fun i hi => absurd hi (Nat.not_lt_zero _), fun i hi => absurd hi (Nat.not_lt_zero _), Nat.zero_le _, Nat.zero_le _, Nat.zero_le _, Nat.zero_le _, Nat.zero_le _⟩, fun k _ => rfl, ⟨rfl, Nat.zero_le _, fun i hi => absurd hi (Nat.not_lt_zero _)⟩, fun i hi => ⟨rfl, Nat.zero_le _, fun z => absurd z (show ¬ (0 : Nat) = 1 by decide)⟩, ⟨rfl, Nat.zero_le _, fun i hi => absurd hi (Nat.not_lt_zero _)⟩, ⟨rfl, Nat.zero_le _, fun i hi => absurd hi (Nat.not_lt_zero _)⟩⟩
/-- at the loop's head: both hold the state g, and go on alike -/
def Hd (E : Ev) (G : Gv) (Q : State → Prop) (i : Nat) : Prop := ∀ a b h g, a < 2 → b < 2 → a ≠ b → CP h a g → MP h g → VP g → Wa E G 243 (Rs a b) h Q 18 [some (aR 63 0), some (aR 10 0), some (aR 11 0), some (aI (nI i))] []

set_option maxRecDepth 100000 in
set_option maxHeartbeats 4000000 in
theorem lwx_feed {E : Ev} {G : Gv} {Q : State → Prop} {LL i : Nat} {xs : Nat → Int32} (C : Cx E G 9 code RL 243) (hg : gn G = 0) (hL : LL ≤ 320) (hX : va_X (E.2.2.2.2.1 63) LL xs (gs G) (gs G).heap) (hA : E.2.2.2.2.1 63 < E.2.1) (hi : i + 5 ≤ LL) (ih : Hd E G Q (i + 5)) {a b : Nat} {h : HF} {g : Gs} (ha : a < 2) (hb : b < 2) (hab : a ≠ b) (hc : CP h a g) (hm : MP h g) (hv : VP g) : Wa E G 243 (Rs a b) h Q 168 [some (aR 63 0), some (aR 10 0), some (aR 11 0), some (aI (nI i))] [] := by
  have hN : gn G ≤ 243 ∧ 243 ≤ 243 ∧ 243 ≤ 243 := ⟨by omega, by decide, by decide⟩

  refine r_aload_n C dL_law_168 rfl ?_
  refine r_aload_n C dL_law_169 rfl ?_
  refine r_iload_n C dL_law_170 rfl ?_
  refine r_iconst (v := (nI 1)) C dL_law_171 (by decide) ?_
  first | refine r_iaddN C dL_law_172 ?_ | refine r_iadd C dL_law_172 ?_
  refine r_sld C dL_law_173 hX hA rfl (by omega) (by omega) ?_
  refine r_callV C (c_feed hc) dL_law_174 cw_X10_feed cvL_13 (by omega) ok10 rfl hN rfl (Nat.le_of_ble_eq_true rfl) ?_
  rintro v R' h1 ⟨rfl, rfl, hc1, f1⟩
  have hm1 : MP h1 g := hm.fr f1
  refine r_aload_n C dL_law_177 rfl ?_
  refine r_aload_n C dL_law_178 rfl ?_
  refine r_iload_n C dL_law_179 rfl ?_
  refine r_iconst (v := (nI 1)) C dL_law_180 (by decide) ?_
  first | refine r_iaddN C dL_law_181 ?_ | refine r_iadd C dL_law_181 ?_
  refine r_sld C dL_law_182 hX hA rfl (by omega) (by omega) ?_
  refine r_callV C (m_feed hm1) dL_law_183 cw_X11_feed cvL_17 (by omega) ok11 rfl hN rfl (Nat.le_of_ble_eq_true rfl) ?_
  rintro v R' h2 ⟨rfl, rfl, hm2, f2⟩
  refine r_icmp_eq C dL_law_186 (fun _ => ?_) (fun cc => absurd cc (by exact fun z => z rfl))
  refine r_iinc (v := nI (i + 5)) C dL_law_944 rfl (inc5 i) st3 ?_
  refine r_goto C dL_law_947 ?_
  exact ih a b h2 _ ha hb hab (hc1.fs f2) hm2 (vp_feed hv)
set_option maxRecDepth 100000 in
set_option maxHeartbeats 4000000 in
theorem lwx_town {E : Ev} {G : Gv} {Q : State → Prop} {LL i : Nat} {xs : Nat → Int32} (C : Cx E G 9 code RL 243) (hg : gn G = 0) (hL : LL ≤ 320) (hX : va_X (E.2.2.2.2.1 63) LL xs (gs G) (gs G).heap) (hA : E.2.2.2.2.1 63 < E.2.1) (hi : i + 5 ≤ LL) (ih : Hd E G Q (i + 5)) {a b : Nat} {h : HF} {g : Gs} (ha : a < 2) (hb : b < 2) (hab : a ≠ b) (hc : CP h a g) (hm : MP h g) (hv : VP g) : Wa E G 243 (Rs a b) h Q 191 [some (aR 63 0), some (aR 10 0), some (aR 11 0), some (aI (nI i))] [] := by
  have hN : gn G ≤ 243 ∧ 243 ≤ 243 ∧ 243 ≤ 243 := ⟨by omega, by decide, by decide⟩

  refine r_aload_n C dL_law_191 rfl ?_
  refine r_callV C (c_town ha hb hab hc) dL_law_192 cw_X10_town cvL_18 (by omega) ok10 rfl hN rfl (Nat.le_of_ble_eq_true rfl) ?_
  rintro v R' h1 ⟨rfl, hcase, f1⟩
  have hm1 : MP h1 g := hm.fr f1
  rcases hcase with ⟨-, rfl, hc1⟩ | ⟨-, rfl, hc1⟩
  · refine r_aload_n C dL_law_195 rfl ?_
    refine r_callV C (m_town hm1 hv.2.2.2.2.2) dL_law_196 cw_X11_town cvL_22 (by omega) ok11 rfl hN rfl (Nat.le_of_ble_eq_true rfl) ?_
    rintro v R' h2 ⟨rfl, rfl, hm2, f2⟩
    refine r_icmp_eq C dL_law_199 (fun _ => ?_) (fun cc => absurd cc (by exact fun z => z rfl))
    refine r_iinc (v := nI (i + 5)) C dL_law_944 rfl (inc5 i) st3 ?_
    refine r_goto C dL_law_947 ?_
    exact ih a b h2 _ ha hb hab (hc1.fs f2) hm2 (vp_town hv)
  · refine r_aload_n C dL_law_195 rfl ?_
    refine r_callV C (m_town hm1 hv.2.2.2.2.2) dL_law_196 cw_X11_town cvL_22 (by omega) ok11 rfl hN rfl (Nat.le_of_ble_eq_true rfl) ?_
    rintro v R' h2 ⟨rfl, rfl, hm2, f2⟩
    refine r_icmp_eq C dL_law_199 (fun _ => ?_) (fun cc => absurd cc (by exact fun z => z rfl))
    refine r_iinc (v := nI (i + 5)) C dL_law_944 rfl (inc5 i) st3 ?_
    refine r_goto C dL_law_947 ?_
    exact ih b a h2 _ hb ha (Ne.symm hab) (hc1.fs f2) hm2 (vp_town hv)
set_option maxRecDepth 100000 in
set_option maxHeartbeats 4000000 in
theorem lwx_fault {E : Ev} {G : Gv} {Q : State → Prop} {LL i : Nat} {xs : Nat → Int32} (C : Cx E G 9 code RL 243) (hg : gn G = 0) (hL : LL ≤ 320) (hX : va_X (E.2.2.2.2.1 63) LL xs (gs G) (gs G).heap) (hA : E.2.2.2.2.1 63 < E.2.1) (hi : i + 5 ≤ LL) (ih : Hd E G Q (i + 5)) {a b : Nat} {h : HF} {g : Gs} (ha : a < 2) (hb : b < 2) (hab : a ≠ b) (hc : CP h a g) (hm : MP h g) (hv : VP g) : Wa E G 243 (Rs a b) h Q 204 [some (aR 63 0), some (aR 10 0), some (aR 11 0), some (aI (nI i))] [] := by
  have hN : gn G ≤ 243 ∧ 243 ≤ 243 ∧ 243 ≤ 243 := ⟨by omega, by decide, by decide⟩

  refine r_aload_n C dL_law_204 rfl ?_
  refine r_callV C (c_fault hc) dL_law_205 cw_X10_fault cvL_23 (by omega) ok10 rfl hN rfl (Nat.le_of_ble_eq_true rfl) ?_
  rintro v R' h1 ⟨rfl, rfl, hc1, f1⟩
  have hm1 : MP h1 g := hm.fr f1
  refine r_aload_n C dL_law_208 rfl ?_
  refine r_callV C (m_fault hm1) dL_law_209 cw_X11_fault cvL_26 (by omega) ok11 rfl hN rfl (Nat.le_of_ble_eq_true rfl) ?_
  rintro v R' h2 ⟨rfl, rfl, rfl⟩
  refine r_icmp_eq C dL_law_212 (fun _ => ?_) (fun cc => absurd cc (by exact fun z => z rfl))
  refine r_iinc (v := nI (i + 5)) C dL_law_944 rfl (inc5 i) st3 ?_
  refine r_goto C dL_law_947 ?_
  exact ih a b _ _ ha hb hab hc1 hm1 hv
set_option maxRecDepth 100000 in
set_option maxHeartbeats 4000000 in
theorem lwx_told {E : Ev} {G : Gv} {Q : State → Prop} {LL i : Nat} {xs : Nat → Int32} (C : Cx E G 9 code RL 243) (hg : gn G = 0) (hL : LL ≤ 320) (hX : va_X (E.2.2.2.2.1 63) LL xs (gs G) (gs G).heap) (hA : E.2.2.2.2.1 63 < E.2.1) (hi : i + 5 ≤ LL) (ih : Hd E G Q (i + 5)) {a b : Nat} {h : HF} {g : Gs} (ha : a < 2) (hb : b < 2) (hab : a ≠ b) (hc : CP h a g) (hm : MP h g) (hv : VP g) : Wa E G 243 (Rs a b) h Q 217 [some (aR 63 0), some (aR 10 0), some (aR 11 0), some (aI (nI i))] [] := by
  have hN : gn G ≤ 243 ∧ 243 ≤ 243 ∧ 243 ≤ 243 := ⟨by omega, by decide, by decide⟩

  refine r_aload_n C dL_law_217 rfl ?_
  refine r_aload_n C dL_law_218 rfl ?_
  refine r_iload_n C dL_law_219 rfl ?_
  refine r_iconst (v := (nI 1)) C dL_law_220 (by decide) ?_
  first | refine r_iaddN C dL_law_221 ?_ | refine r_iadd C dL_law_221 ?_
  refine r_sld C dL_law_222 hX hA rfl (by omega) (by omega) ?_
  refine r_callV C (c_told ha hc) dL_law_223 cw_X10_told cvL_27 (by omega) ok10 rfl hN rfl (Nat.le_of_ble_eq_true rfl) ?_
  rintro v R' h1 ⟨rfl, rfl, hc1, f1⟩
  have hm1 : MP h1 g := hm.fr f1
  refine r_aload_n C dL_law_226 rfl ?_
  refine r_aload_n C dL_law_227 rfl ?_
  refine r_iload_n C dL_law_228 rfl ?_
  refine r_iconst (v := (nI 1)) C dL_law_229 (by decide) ?_
  first | refine r_iaddN C dL_law_230 ?_ | refine r_iadd C dL_law_230 ?_
  refine r_sld C dL_law_231 hX hA rfl (by omega) (by omega) ?_
  refine r_callV C (m_told (msum_5 hv.2.2.1.1 hv.1.1) hm1) dL_law_232 cw_X11_told cvL_30 (by omega) ok11 rfl hN rfl (Nat.le_of_ble_eq_true rfl) ?_
  rintro v R' h2 ⟨rfl, rfl, rfl⟩
  refine r_icmp_eq C dL_law_235 (fun _ => ?_) (fun cc => absurd cc (by exact fun z => z rfl))
  refine r_iinc (v := nI (i + 5)) C dL_law_944 rfl (inc5 i) st3 ?_
  refine r_goto C dL_law_947 ?_
  exact ih a b _ _ ha hb hab hc1 hm1 hv
set_option maxRecDepth 100000 in
set_option maxHeartbeats 4000000 in
theorem lwx_company {E : Ev} {G : Gv} {Q : State → Prop} {LL i : Nat} {xs : Nat → Int32} (C : Cx E G 9 code RL 243) (hg : gn G = 0) (hL : LL ≤ 320) (hX : va_X (E.2.2.2.2.1 63) LL xs (gs G) (gs G).heap) (hA : E.2.2.2.2.1 63 < E.2.1) (hi : i + 5 ≤ LL) (ih : Hd E G Q (i + 5)) {a b : Nat} {h : HF} {g : Gs} (ha : a < 2) (hb : b < 2) (hab : a ≠ b) (hc : CP h a g) (hm : MP h g) (hv : VP g) : Wa E G 243 (Rs a b) h Q 240 [some (aR 63 0), some (aR 10 0), some (aR 11 0), some (aI (nI i))] [] := by
  have hN : gn G ≤ 243 ∧ 243 ≤ 243 ∧ 243 ≤ 243 := ⟨by omega, by decide, by decide⟩

  refine r_aload_n C dL_law_240 rfl ?_
  refine r_aload_n C dL_law_241 rfl ?_
  refine r_iload_n C dL_law_242 rfl ?_
  refine r_iconst (v := (nI 1)) C dL_law_243 (by decide) ?_
  first | refine r_iaddN C dL_law_244 ?_ | refine r_iadd C dL_law_244 ?_
  refine r_sld C dL_law_245 hX hA rfl (by omega) (by omega) ?_
  refine r_aload_n C dL_law_246 rfl ?_
  refine r_iload_n C dL_law_247 rfl ?_
  refine r_iconst (v := (nI 2)) C dL_law_248 (by decide) ?_
  first | refine r_iaddN C dL_law_249 ?_ | refine r_iadd C dL_law_249 ?_
  refine r_sld C dL_law_250 hX hA rfl (by omega) (by omega) ?_
  refine r_callV C (c_company ha hc) dL_law_251 cw_X10_company cvL_31 (by omega) ok10 rfl hN rfl (Nat.le_of_ble_eq_true rfl) ?_
  rintro v R' h1 ⟨rfl, rfl, hc1, f1⟩
  have hm1 : MP h1 g := hm.fr f1
  refine r_aload_n C dL_law_254 rfl ?_
  refine r_aload_n C dL_law_255 rfl ?_
  refine r_iload_n C dL_law_256 rfl ?_
  refine r_iconst (v := (nI 1)) C dL_law_257 (by decide) ?_
  first | refine r_iaddN C dL_law_258 ?_ | refine r_iadd C dL_law_258 ?_
  refine r_sld C dL_law_259 hX hA rfl (by omega) (by omega) ?_
  refine r_aload_n C dL_law_260 rfl ?_
  refine r_iload_n C dL_law_261 rfl ?_
  refine r_iconst (v := (nI 2)) C dL_law_262 (by decide) ?_
  first | refine r_iaddN C dL_law_263 ?_ | refine r_iadd C dL_law_263 ?_
  refine r_sld C dL_law_264 hX hA rfl (by omega) (by omega) ?_
  refine r_callV C (m_company hm1) dL_law_265 cw_X11_company cvL_35 (by omega) ok11 rfl hN rfl (Nat.le_of_ble_eq_true rfl) ?_
  rintro v R' h2 ⟨rfl, rfl, rfl⟩
  refine r_icmp_eq C dL_law_268 (fun _ => ?_) (fun cc => absurd cc (by exact fun z => z rfl))
  refine r_iinc (v := nI (i + 5)) C dL_law_944 rfl (inc5 i) st3 ?_
  refine r_goto C dL_law_947 ?_
  exact ih a b _ _ ha hb hab hc1 hm1 hv
set_option maxRecDepth 100000 in
set_option maxHeartbeats 4000000 in
theorem lwx_money {E : Ev} {G : Gv} {Q : State → Prop} {LL i : Nat} {xs : Nat → Int32} (C : Cx E G 9 code RL 243) (hg : gn G = 0) (hL : LL ≤ 320) (hX : va_X (E.2.2.2.2.1 63) LL xs (gs G) (gs G).heap) (hA : E.2.2.2.2.1 63 < E.2.1) (hi : i + 5 ≤ LL) (ih : Hd E G Q (i + 5)) {a b : Nat} {h : HF} {g : Gs} (ha : a < 2) (hb : b < 2) (hab : a ≠ b) (hc : CP h a g) (hm : MP h g) (hv : VP g) : Wa E G 243 (Rs a b) h Q 273 [some (aR 63 0), some (aR 10 0), some (aR 11 0), some (aI (nI i))] [] := by
  have hN : gn G ≤ 243 ∧ 243 ≤ 243 ∧ 243 ≤ 243 := ⟨by omega, by decide, by decide⟩

  refine r_aload_n C dL_law_273 rfl ?_
  refine r_aload_n C dL_law_274 rfl ?_
  refine r_iload_n C dL_law_275 rfl ?_
  refine r_iconst (v := (nI 1)) C dL_law_276 (by decide) ?_
  first | refine r_iaddN C dL_law_277 ?_ | refine r_iadd C dL_law_277 ?_
  refine r_sld C dL_law_278 hX hA rfl (by omega) (by omega) ?_
  refine r_aload_n C dL_law_279 rfl ?_
  refine r_iload_n C dL_law_280 rfl ?_
  refine r_iconst (v := (nI 2)) C dL_law_281 (by decide) ?_
  first | refine r_iaddN C dL_law_282 ?_ | refine r_iadd C dL_law_282 ?_
  refine r_sld C dL_law_283 hX hA rfl (by omega) (by omega) ?_
  refine r_callV C (c_money ha hc) dL_law_284 cw_X10_money cvL_36 (by omega) ok10 rfl hN rfl (Nat.le_of_ble_eq_true rfl) ?_
  rintro v R' h1 ⟨rfl, rfl, hc1, f1⟩
  have hm1 : MP h1 g := hm.fr f1
  refine r_aload_n C dL_law_287 rfl ?_
  refine r_aload_n C dL_law_288 rfl ?_
  refine r_iload_n C dL_law_289 rfl ?_
  refine r_iconst (v := (nI 1)) C dL_law_290 (by decide) ?_
  first | refine r_iaddN C dL_law_291 ?_ | refine r_iadd C dL_law_291 ?_
  refine r_sld C dL_law_292 hX hA rfl (by omega) (by omega) ?_
  refine r_aload_n C dL_law_293 rfl ?_
  refine r_iload_n C dL_law_294 rfl ?_
  refine r_iconst (v := (nI 2)) C dL_law_295 (by decide) ?_
  first | refine r_iaddN C dL_law_296 ?_ | refine r_iadd C dL_law_296 ?_
  refine r_sld C dL_law_297 hX hA rfl (by omega) (by omega) ?_
  refine r_callV C (m_money hm1) dL_law_298 cw_X11_money cvL_39 (by omega) ok11 rfl hN rfl (Nat.le_of_ble_eq_true rfl) ?_
  rintro v R' h2 ⟨rfl, rfl, rfl⟩
  refine r_icmp_eq C dL_law_301 (fun _ => ?_) (fun cc => absurd cc (by exact fun z => z rfl))
  refine r_iinc (v := nI (i + 5)) C dL_law_944 rfl (inc5 i) st3 ?_
  refine r_goto C dL_law_947 ?_
  exact ih a b _ _ ha hb hab hc1 hm1 hv
set_option maxRecDepth 100000 in
set_option maxHeartbeats 4000000 in
theorem lwx_day {E : Ev} {G : Gv} {Q : State → Prop} {LL i : Nat} {xs : Nat → Int32} (C : Cx E G 9 code RL 243) (hg : gn G = 0) (hL : LL ≤ 320) (hX : va_X (E.2.2.2.2.1 63) LL xs (gs G) (gs G).heap) (hA : E.2.2.2.2.1 63 < E.2.1) (hi : i + 5 ≤ LL) (ih : Hd E G Q (i + 5)) {a b : Nat} {h : HF} {g : Gs} (ha : a < 2) (hb : b < 2) (hab : a ≠ b) (hc : CP h a g) (hm : MP h g) (hv : VP g) : Wa E G 243 (Rs a b) h Q 306 [some (aR 63 0), some (aR 10 0), some (aR 11 0), some (aI (nI i))] [] := by
  have hN : gn G ≤ 243 ∧ 243 ≤ 243 ∧ 243 ≤ 243 := ⟨by omega, by decide, by decide⟩

  refine r_aload_n C dL_law_306 rfl ?_
  refine r_aload_n C dL_law_307 rfl ?_
  refine r_iload_n C dL_law_308 rfl ?_
  refine r_iconst (v := (nI 1)) C dL_law_309 (by decide) ?_
  first | refine r_iaddN C dL_law_310 ?_ | refine r_iadd C dL_law_310 ?_
  refine r_sld C dL_law_311 hX hA rfl (by omega) (by omega) ?_
  refine r_aload_n C dL_law_312 rfl ?_
  refine r_iload_n C dL_law_313 rfl ?_
  refine r_iconst (v := (nI 2)) C dL_law_314 (by decide) ?_
  first | refine r_iaddN C dL_law_315 ?_ | refine r_iadd C dL_law_315 ?_
  refine r_sld C dL_law_316 hX hA rfl (by omega) (by omega) ?_
  refine r_callV C (c_day ha hc) dL_law_317 cw_X10_day cvL_40 (by omega) ok10 rfl hN rfl (Nat.le_of_ble_eq_true rfl) ?_
  rintro v R' h1 ⟨rfl, rfl, hc1, f1⟩
  have hm1 : MP h1 g := hm.fr f1
  refine r_aload_n C dL_law_320 rfl ?_
  refine r_aload_n C dL_law_321 rfl ?_
  refine r_iload_n C dL_law_322 rfl ?_
  refine r_iconst (v := (nI 1)) C dL_law_323 (by decide) ?_
  first | refine r_iaddN C dL_law_324 ?_ | refine r_iadd C dL_law_324 ?_
  refine r_sld C dL_law_325 hX hA rfl (by omega) (by omega) ?_
  refine r_aload_n C dL_law_326 rfl ?_
  refine r_iload_n C dL_law_327 rfl ?_
  refine r_iconst (v := (nI 2)) C dL_law_328 (by decide) ?_
  first | refine r_iaddN C dL_law_329 ?_ | refine r_iadd C dL_law_329 ?_
  refine r_sld C dL_law_330 hX hA rfl (by omega) (by omega) ?_
  refine r_callV C (m_day hm1 hv.2.1 hv.2.2.1) dL_law_331 cw_X11_day cvL_43 (by omega) ok11 rfl hN rfl (Nat.le_of_ble_eq_true rfl) ?_
  rintro v R' h2 ⟨rfl, rfl, hm2, f2⟩
  refine r_icmp_eq C dL_law_334 (fun _ => ?_) (fun cc => absurd cc (by exact fun z => z rfl))
  refine r_iinc (v := nI (i + 5)) C dL_law_944 rfl (inc5 i) st3 ?_
  refine r_goto C dL_law_947 ?_
  exact ih a b h2 _ ha hb hab (hc1.fs f2) hm2 (vp_day hv)
set_option maxRecDepth 100000 in
set_option maxHeartbeats 4000000 in
theorem lwx_gun {E : Ev} {G : Gv} {Q : State → Prop} {LL i : Nat} {xs : Nat → Int32} (C : Cx E G 9 code RL 243) (hg : gn G = 0) (hL : LL ≤ 320) (hX : va_X (E.2.2.2.2.1 63) LL xs (gs G) (gs G).heap) (hA : E.2.2.2.2.1 63 < E.2.1) (hi : i + 5 ≤ LL) (ih : Hd E G Q (i + 5)) {a b : Nat} {h : HF} {g : Gs} (ha : a < 2) (hb : b < 2) (hab : a ≠ b) (hc : CP h a g) (hm : MP h g) (hv : VP g) : Wa E G 243 (Rs a b) h Q 339 [some (aR 63 0), some (aR 10 0), some (aR 11 0), some (aI (nI i))] [] := by
  have hN : gn G ≤ 243 ∧ 243 ≤ 243 ∧ 243 ≤ 243 := ⟨by omega, by decide, by decide⟩

  refine r_aload_n C dL_law_339 rfl ?_
  refine r_callV C (c_gun ha hc) dL_law_340 cw_X10_gun cvL_44 (by omega) ok10 rfl hN rfl (Nat.le_of_ble_eq_true rfl) ?_
  rintro v R' h1 ⟨rfl, rfl, hc1, f1⟩
  have hm1 : MP h1 g := hm.fr f1
  refine r_aload_n C dL_law_343 rfl ?_
  refine r_callV C (m_gun hm1) dL_law_344 cw_X11_gun cvL_47 (by omega) ok11 rfl hN rfl (Nat.le_of_ble_eq_true rfl) ?_
  rintro v R' h2 ⟨rfl, rfl, hm2, f2⟩
  refine r_icmp_eq C dL_law_347 (fun _ => ?_) (fun cc => absurd cc (by exact fun z => z rfl))
  refine r_iinc (v := nI (i + 5)) C dL_law_944 rfl (inc5 i) st3 ?_
  refine r_goto C dL_law_947 ?_
  exact ih a b h2 _ ha hb hab (hc1.fs f2) hm2 (vp_gun hv)
set_option maxRecDepth 100000 in
set_option maxHeartbeats 4000000 in
theorem lwx_sally {E : Ev} {G : Gv} {Q : State → Prop} {LL i : Nat} {xs : Nat → Int32} (C : Cx E G 9 code RL 243) (hg : gn G = 0) (hL : LL ≤ 320) (hX : va_X (E.2.2.2.2.1 63) LL xs (gs G) (gs G).heap) (hA : E.2.2.2.2.1 63 < E.2.1) (hi : i + 5 ≤ LL) (ih : Hd E G Q (i + 5)) {a b : Nat} {h : HF} {g : Gs} (ha : a < 2) (hb : b < 2) (hab : a ≠ b) (hc : CP h a g) (hm : MP h g) (hv : VP g) : Wa E G 243 (Rs a b) h Q 352 [some (aR 63 0), some (aR 10 0), some (aR 11 0), some (aI (nI i))] [] := by
  have hN : gn G ≤ 243 ∧ 243 ≤ 243 ∧ 243 ≤ 243 := ⟨by omega, by decide, by decide⟩

  refine r_aload_n C dL_law_352 rfl ?_
  refine r_aload_n C dL_law_353 rfl ?_
  refine r_iload_n C dL_law_354 rfl ?_
  refine r_iconst (v := (nI 1)) C dL_law_355 (by decide) ?_
  first | refine r_iaddN C dL_law_356 ?_ | refine r_iadd C dL_law_356 ?_
  refine r_sld C dL_law_357 hX hA rfl (by omega) (by omega) ?_
  refine r_aload_n C dL_law_358 rfl ?_
  refine r_iload_n C dL_law_359 rfl ?_
  refine r_iconst (v := (nI 2)) C dL_law_360 (by decide) ?_
  first | refine r_iaddN C dL_law_361 ?_ | refine r_iadd C dL_law_361 ?_
  refine r_sld C dL_law_362 hX hA rfl (by omega) (by omega) ?_
  refine r_callV C (c_sally ha hc) dL_law_363 cw_X10_sally cvL_48 (by omega) ok10 rfl hN rfl (Nat.le_of_ble_eq_true rfl) ?_
  rintro v R' h1 ⟨rfl, rfl, hc1, f1⟩
  have hm1 : MP h1 g := hm.fr f1
  refine r_aload_n C dL_law_366 rfl ?_
  refine r_aload_n C dL_law_367 rfl ?_
  refine r_iload_n C dL_law_368 rfl ?_
  refine r_iconst (v := (nI 1)) C dL_law_369 (by decide) ?_
  first | refine r_iaddN C dL_law_370 ?_ | refine r_iadd C dL_law_370 ?_
  refine r_sld C dL_law_371 hX hA rfl (by omega) (by omega) ?_
  refine r_aload_n C dL_law_372 rfl ?_
  refine r_iload_n C dL_law_373 rfl ?_
  refine r_iconst (v := (nI 2)) C dL_law_374 (by decide) ?_
  first | refine r_iaddN C dL_law_375 ?_ | refine r_iadd C dL_law_375 ?_
  refine r_sld C dL_law_376 hX hA rfl (by omega) (by omega) ?_
  refine r_callV C (m_sally hm1) dL_law_377 cw_X11_sally cvL_51 (by omega) ok11 rfl hN rfl (Nat.le_of_ble_eq_true rfl) ?_
  rintro v R' h2 ⟨rfl, rfl, hm2, f2⟩
  refine r_icmp_eq C dL_law_380 (fun _ => ?_) (fun cc => absurd cc (by exact fun z => z rfl))
  refine r_iinc (v := nI (i + 5)) C dL_law_944 rfl (inc5 i) st3 ?_
  refine r_goto C dL_law_947 ?_
  exact ih a b h2 _ ha hb hab (hc1.fs f2) hm2 (vp_sally hv)
set_option maxRecDepth 100000 in
set_option maxHeartbeats 4000000 in
theorem lwx_relief {E : Ev} {G : Gv} {Q : State → Prop} {LL i : Nat} {xs : Nat → Int32} (C : Cx E G 9 code RL 243) (hg : gn G = 0) (hL : LL ≤ 320) (hX : va_X (E.2.2.2.2.1 63) LL xs (gs G) (gs G).heap) (hA : E.2.2.2.2.1 63 < E.2.1) (hi : i + 5 ≤ LL) (ih : Hd E G Q (i + 5)) {a b : Nat} {h : HF} {g : Gs} (ha : a < 2) (hb : b < 2) (hab : a ≠ b) (hc : CP h a g) (hm : MP h g) (hv : VP g) : Wa E G 243 (Rs a b) h Q 385 [some (aR 63 0), some (aR 10 0), some (aR 11 0), some (aI (nI i))] [] := by
  have hN : gn G ≤ 243 ∧ 243 ≤ 243 ∧ 243 ≤ 243 := ⟨by omega, by decide, by decide⟩

  have fin : ∀ y, Wa E G 243 (Rs a b) h Q 399 [some (aR 63 0), some (aR 10 0), some (aR 11 0), some (aI (nI i))] [aI y, aR 10 0] ∨ True := fun y => Or.inr trivial
  by_cases hz : xs (i + 1) = 0
  · refine r_aload_n C dL_law_385 rfl ?_
    refine r_aload_n C dL_law_386 rfl ?_
    refine r_iload_n C dL_law_387 rfl ?_
    refine r_iconst (v := (nI 1)) C dL_law_388 (by decide) ?_
    first | refine r_iaddN C dL_law_389 ?_ | refine r_iadd C dL_law_389 ?_
    refine r_sld C dL_law_390 hX hA rfl (by omega) (by omega) ?_
    refine r_if_eq C dL_law_391 (fun _ => ?_) (fun cc => absurd cc (by exact fun z => z hz))
    refine r_iconst (v := (nI 0)) C dL_law_398 (by decide) ?_
    refine r_callV C (c_relief ha hc) dL_law_399 cw_X10_relief cvL_52 (by omega) ok10 rfl hN rfl (Nat.le_of_ble_eq_true rfl) ?_
    rintro v R' h1 ⟨rfl, rfl, hc1, f1⟩
    have hm1 : MP h1 g := hm.fr f1
    refine r_aload_n C dL_law_402 rfl ?_
    refine r_aload_n C dL_law_403 rfl ?_
    refine r_iload_n C dL_law_404 rfl ?_
    refine r_iconst (v := (nI 1)) C dL_law_405 (by decide) ?_
    first | refine r_iaddN C dL_law_406 ?_ | refine r_iadd C dL_law_406 ?_
    refine r_sld C dL_law_407 hX hA rfl (by omega) (by omega) ?_
    refine r_if_eq C dL_law_408 (fun _ => ?_) (fun cc => absurd cc (by exact fun z => z hz))
    refine r_iconst (v := (nI 0)) C dL_law_415 (by decide) ?_
    refine r_callV C (m_relief hm1) dL_law_416 cw_X11_relief cvL_56 (by omega) ok11 rfl hN rfl (Nat.le_of_ble_eq_true rfl) ?_
    rintro v R' h2 ⟨rfl, rfl, hm2, f2⟩
    refine r_icmp_eq C dL_law_419 (fun _ => ?_) (fun cc => absurd cc (by exact fun z => z rfl))
    refine r_iinc (v := nI (i + 5)) C dL_law_944 rfl (inc5 i) st3 ?_
    refine r_goto C dL_law_947 ?_
    exact ih a b h2 _ ha hb hab (hc1.fs f2) hm2 (vp_relief hv)
  · refine r_aload_n C dL_law_385 rfl ?_
    refine r_aload_n C dL_law_386 rfl ?_
    refine r_iload_n C dL_law_387 rfl ?_
    refine r_iconst (v := (nI 1)) C dL_law_388 (by decide) ?_
    first | refine r_iaddN C dL_law_389 ?_ | refine r_iadd C dL_law_389 ?_
    refine r_sld C dL_law_390 hX hA rfl (by omega) (by omega) ?_
    refine r_if_eq C dL_law_391 (fun cc => absurd cc (hz)) (fun _ => ?_)
    refine r_iconst (v := (nI 1)) C dL_law_394 (by decide) ?_
    refine r_goto C dL_law_395 ?_
    refine r_callV C (c_relief ha hc) dL_law_399 cw_X10_relief cvL_52 (by omega) ok10 rfl hN rfl (Nat.le_of_ble_eq_true rfl) ?_
    rintro v R' h1 ⟨rfl, rfl, hc1, f1⟩
    have hm1 : MP h1 g := hm.fr f1
    refine r_aload_n C dL_law_402 rfl ?_
    refine r_aload_n C dL_law_403 rfl ?_
    refine r_iload_n C dL_law_404 rfl ?_
    refine r_iconst (v := (nI 1)) C dL_law_405 (by decide) ?_
    first | refine r_iaddN C dL_law_406 ?_ | refine r_iadd C dL_law_406 ?_
    refine r_sld C dL_law_407 hX hA rfl (by omega) (by omega) ?_
    refine r_if_eq C dL_law_408 (fun cc => absurd cc (hz)) (fun _ => ?_)
    refine r_iconst (v := (nI 1)) C dL_law_411 (by decide) ?_
    refine r_goto C dL_law_412 ?_
    refine r_callV C (m_relief hm1) dL_law_416 cw_X11_relief cvL_56 (by omega) ok11 rfl hN rfl (Nat.le_of_ble_eq_true rfl) ?_
    rintro v R' h2 ⟨rfl, rfl, hm2, f2⟩
    refine r_icmp_eq C dL_law_419 (fun _ => ?_) (fun cc => absurd cc (by exact fun z => z rfl))
    refine r_iinc (v := nI (i + 5)) C dL_law_944 rfl (inc5 i) st3 ?_
    refine r_goto C dL_law_947 ?_
    exact ih a b h2 _ ha hb hab (hc1.fs f2) hm2 (vp_relief hv)
set_option maxRecDepth 100000 in
set_option maxHeartbeats 4000000 in
theorem lwx_drift {E : Ev} {G : Gv} {Q : State → Prop} {LL i : Nat} {xs : Nat → Int32} (C : Cx E G 9 code RL 243) (hg : gn G = 0) (hL : LL ≤ 320) (hX : va_X (E.2.2.2.2.1 63) LL xs (gs G) (gs G).heap) (hA : E.2.2.2.2.1 63 < E.2.1) (hi : i + 5 ≤ LL) (ih : Hd E G Q (i + 5)) {a b : Nat} {h : HF} {g : Gs} (ha : a < 2) (hb : b < 2) (hab : a ≠ b) (hc : CP h a g) (hm : MP h g) (hv : VP g) : Wa E G 243 (Rs a b) h Q 424 [some (aR 63 0), some (aR 10 0), some (aR 11 0), some (aI (nI i))] [] := by
  have hN : gn G ≤ 243 ∧ 243 ≤ 243 ∧ 243 ≤ 243 := ⟨by omega, by decide, by decide⟩

  refine r_aload_n C dL_law_424 rfl ?_
  refine r_aload_n C dL_law_425 rfl ?_
  refine r_iload_n C dL_law_426 rfl ?_
  refine r_iconst (v := (nI 1)) C dL_law_427 (by decide) ?_
  first | refine r_iaddN C dL_law_428 ?_ | refine r_iadd C dL_law_428 ?_
  refine r_sld C dL_law_429 hX hA rfl (by omega) (by omega) ?_
  refine r_aload_n C dL_law_430 rfl ?_
  refine r_iload_n C dL_law_431 rfl ?_
  refine r_iconst (v := (nI 2)) C dL_law_432 (by decide) ?_
  first | refine r_iaddN C dL_law_433 ?_ | refine r_iadd C dL_law_433 ?_
  refine r_sld C dL_law_434 hX hA rfl (by omega) (by omega) ?_
  refine r_callV C (c_drift ha hc) dL_law_435 cw_X10_drift cvL_57 (by omega) ok10 rfl hN rfl (Nat.le_of_ble_eq_true rfl) ?_
  rintro v R' h1 ⟨rfl, rfl, hc1, f1⟩
  have hm1 : MP h1 g := hm.fr f1
  refine r_aload_n C dL_law_438 rfl ?_
  refine r_aload_n C dL_law_439 rfl ?_
  refine r_iload_n C dL_law_440 rfl ?_
  refine r_iconst (v := (nI 1)) C dL_law_441 (by decide) ?_
  first | refine r_iaddN C dL_law_442 ?_ | refine r_iadd C dL_law_442 ?_
  refine r_sld C dL_law_443 hX hA rfl (by omega) (by omega) ?_
  refine r_aload_n C dL_law_444 rfl ?_
  refine r_iload_n C dL_law_445 rfl ?_
  refine r_iconst (v := (nI 2)) C dL_law_446 (by decide) ?_
  first | refine r_iaddN C dL_law_447 ?_ | refine r_iadd C dL_law_447 ?_
  refine r_sld C dL_law_448 hX hA rfl (by omega) (by omega) ?_
  refine r_callV C (m_drift hm1 hv.2.1 hv.2.2.1) dL_law_449 cw_X11_drift cvL_60 (by omega) ok11 rfl hN rfl (Nat.le_of_ble_eq_true rfl) ?_
  rintro v R' h2 ⟨rfl, rfl, hm2, f2⟩
  refine r_icmp_eq C dL_law_452 (fun _ => ?_) (fun cc => absurd cc (by exact fun z => z rfl))
  refine r_iinc (v := nI (i + 5)) C dL_law_944 rfl (inc5 i) st3 ?_
  refine r_goto C dL_law_947 ?_
  exact ih a b h2 _ ha hb hab (hc1.fs f2) hm2 (vp_drift hv)
set_option maxRecDepth 100000 in
set_option maxHeartbeats 4000000 in
theorem lwx_undo {E : Ev} {G : Gv} {Q : State → Prop} {LL i : Nat} {xs : Nat → Int32} (C : Cx E G 9 code RL 243) (hg : gn G = 0) (hL : LL ≤ 320) (hX : va_X (E.2.2.2.2.1 63) LL xs (gs G) (gs G).heap) (hA : E.2.2.2.2.1 63 < E.2.1) (hi : i + 5 ≤ LL) (ih : Hd E G Q (i + 5)) {a b : Nat} {h : HF} {g : Gs} (ha : a < 2) (hb : b < 2) (hab : a ≠ b) (hc : CP h a g) (hm : MP h g) (hv : VP g) : Wa E G 243 (Rs a b) h Q 457 [some (aR 63 0), some (aR 10 0), some (aR 11 0), some (aI (nI i))] [] := by
  have hN : gn G ≤ 243 ∧ 243 ≤ 243 ∧ 243 ≤ 243 := ⟨by omega, by decide, by decide⟩

  refine r_aload_n C dL_law_457 rfl ?_
  refine r_callV C (c_undo hc) dL_law_458 cw_X10_undo cvL_61 (by omega) ok10 rfl hN rfl (Nat.le_of_ble_eq_true rfl) ?_
  rintro v R' h1 ⟨rfl, rfl, hc1, f1⟩
  have hm1 : MP h1 g := hm.fr f1
  refine r_aload_n C dL_law_461 rfl ?_
  refine r_callV C (m_undo hm1) dL_law_462 cw_X11_undo cvL_64 (by omega) ok11 rfl hN rfl (Nat.le_of_ble_eq_true rfl) ?_
  rintro v R' h2 ⟨rfl, rfl, hm2, f2⟩
  refine r_icmp_eq C dL_law_465 (fun _ => ?_) (fun cc => absurd cc (by exact fun z => z rfl))
  refine r_iinc (v := nI (i + 5)) C dL_law_944 rfl (inc5 i) st3 ?_
  refine r_goto C dL_law_947 ?_
  exact ih a b h2 _ ha hb hab (hc1.fs f2) hm2 (vp_undo hv)
set_option maxRecDepth 100000 in
set_option maxHeartbeats 4000000 in
theorem lwx_costs {E : Ev} {G : Gv} {Q : State → Prop} {LL i : Nat} {xs : Nat → Int32} (C : Cx E G 9 code RL 243) (hg : gn G = 0) (hL : LL ≤ 320) (hX : va_X (E.2.2.2.2.1 63) LL xs (gs G) (gs G).heap) (hA : E.2.2.2.2.1 63 < E.2.1) (hi : i + 5 ≤ LL) (ih : Hd E G Q (i + 5)) {a b : Nat} {h : HF} {g : Gs} (ha : a < 2) (hb : b < 2) (hab : a ≠ b) (hc : CP h a g) (hm : MP h g) (hv : VP g) : Wa E G 243 (Rs a b) h Q 470 [some (aR 63 0), some (aR 10 0), some (aR 11 0), some (aI (nI i))] [] := by
  have hN : gn G ≤ 243 ∧ 243 ≤ 243 ∧ 243 ≤ 243 := ⟨by omega, by decide, by decide⟩

  refine r_aload_n C dL_law_470 rfl ?_
  refine r_aload_n C dL_law_471 rfl ?_
  refine r_iload_n C dL_law_472 rfl ?_
  refine r_iconst (v := (nI 1)) C dL_law_473 (by decide) ?_
  first | refine r_iaddN C dL_law_474 ?_ | refine r_iadd C dL_law_474 ?_
  refine r_sld C dL_law_475 hX hA rfl (by omega) (by omega) ?_
  refine r_callV C (c_costs ha hc) dL_law_476 cw_X10_costs cvL_65 (by omega) ok10 rfl hN rfl (Nat.le_of_ble_eq_true rfl) ?_
  rintro v R' h1 ⟨rfl, rfl, hc1, f1⟩
  have hm1 : MP h1 g := hm.fr f1
  refine r_aload_n C dL_law_479 rfl ?_
  refine r_aload_n C dL_law_480 rfl ?_
  refine r_iload_n C dL_law_481 rfl ?_
  refine r_iconst (v := (nI 1)) C dL_law_482 (by decide) ?_
  first | refine r_iaddN C dL_law_483 ?_ | refine r_iadd C dL_law_483 ?_
  refine r_sld C dL_law_484 hX hA rfl (by omega) (by omega) ?_
  refine r_callV C (m_costs hm1) dL_law_485 cw_X11_costs cvL_68 (by omega) ok11 rfl hN rfl (Nat.le_of_ble_eq_true rfl) ?_
  rintro v R' h2 ⟨rfl, rfl, rfl⟩
  refine r_icmp_eq C dL_law_488 (fun _ => ?_) (fun cc => absurd cc (by exact fun z => z rfl))
  refine r_iinc (v := nI (i + 5)) C dL_law_944 rfl (inc5 i) st3 ?_
  refine r_goto C dL_law_947 ?_
  exact ih a b _ _ ha hb hab hc1 hm1 hv
set_option maxRecDepth 100000 in
set_option maxHeartbeats 4000000 in
theorem lwx_promise {E : Ev} {G : Gv} {Q : State → Prop} {LL i : Nat} {xs : Nat → Int32} (C : Cx E G 9 code RL 243) (hg : gn G = 0) (hL : LL ≤ 320) (hX : va_X (E.2.2.2.2.1 63) LL xs (gs G) (gs G).heap) (hA : E.2.2.2.2.1 63 < E.2.1) (hi : i + 5 ≤ LL) (ih : Hd E G Q (i + 5)) {a b : Nat} {h : HF} {g : Gs} (ha : a < 2) (hb : b < 2) (hab : a ≠ b) (hc : CP h a g) (hm : MP h g) (hv : VP g) : Wa E G 243 (Rs a b) h Q 493 [some (aR 63 0), some (aR 10 0), some (aR 11 0), some (aI (nI i))] [] := by
  have hN : gn G ≤ 243 ∧ 243 ≤ 243 ∧ 243 ≤ 243 := ⟨by omega, by decide, by decide⟩

  refine r_aload_n C dL_law_493 rfl ?_
  refine r_aload_n C dL_law_494 rfl ?_
  refine r_iload_n C dL_law_495 rfl ?_
  refine r_iconst (v := (nI 1)) C dL_law_496 (by decide) ?_
  first | refine r_iaddN C dL_law_497 ?_ | refine r_iadd C dL_law_497 ?_
  refine r_sld C dL_law_498 hX hA rfl (by omega) (by omega) ?_
  refine r_aload_n C dL_law_499 rfl ?_
  refine r_iload_n C dL_law_500 rfl ?_
  refine r_iconst (v := (nI 2)) C dL_law_501 (by decide) ?_
  first | refine r_iaddN C dL_law_502 ?_ | refine r_iadd C dL_law_502 ?_
  refine r_sld C dL_law_503 hX hA rfl (by omega) (by omega) ?_
  refine r_callV C (c_promise ha hc) dL_law_504 cw_X10_promise cvL_69 (by omega) ok10 rfl hN rfl (Nat.le_of_ble_eq_true rfl) ?_
  rintro v R' h1 ⟨rfl, rfl, hc1, f1⟩
  have hm1 : MP h1 g := hm.fr f1
  refine r_aload_n C dL_law_507 rfl ?_
  refine r_aload_n C dL_law_508 rfl ?_
  refine r_iload_n C dL_law_509 rfl ?_
  refine r_iconst (v := (nI 1)) C dL_law_510 (by decide) ?_
  first | refine r_iaddN C dL_law_511 ?_ | refine r_iadd C dL_law_511 ?_
  refine r_sld C dL_law_512 hX hA rfl (by omega) (by omega) ?_
  refine r_aload_n C dL_law_513 rfl ?_
  refine r_iload_n C dL_law_514 rfl ?_
  refine r_iconst (v := (nI 2)) C dL_law_515 (by decide) ?_
  first | refine r_iaddN C dL_law_516 ?_ | refine r_iadd C dL_law_516 ?_
  refine r_sld C dL_law_517 hX hA rfl (by omega) (by omega) ?_
  refine r_callV C (m_promise hm1 (vp_odds hv) (vp_stamp hv)) dL_law_518 cw_X11_promise cvL_72 (by omega) ok11 rfl hN rfl (Nat.le_of_ble_eq_true rfl) ?_
  rintro v R' h2 ⟨rfl, rfl, rfl⟩
  refine r_icmp_eq C dL_law_521 (fun _ => ?_) (fun cc => absurd cc (by exact fun z => z rfl))
  refine r_iinc (v := nI (i + 5)) C dL_law_944 rfl (inc5 i) st3 ?_
  refine r_goto C dL_law_947 ?_
  exact ih a b _ _ ha hb hab hc1 hm1 hv
set_option maxRecDepth 100000 in
set_option maxHeartbeats 4000000 in
theorem lwx_rations {E : Ev} {G : Gv} {Q : State → Prop} {LL i : Nat} {xs : Nat → Int32} (C : Cx E G 9 code RL 243) (hg : gn G = 0) (hL : LL ≤ 320) (hX : va_X (E.2.2.2.2.1 63) LL xs (gs G) (gs G).heap) (hA : E.2.2.2.2.1 63 < E.2.1) (hi : i + 5 ≤ LL) (ih : Hd E G Q (i + 5)) {a b : Nat} {h : HF} {g : Gs} (ha : a < 2) (hb : b < 2) (hab : a ≠ b) (hc : CP h a g) (hm : MP h g) (hv : VP g) : Wa E G 243 (Rs a b) h Q 526 [some (aR 63 0), some (aR 10 0), some (aR 11 0), some (aI (nI i))] [] := by
  have hN : gn G ≤ 243 ∧ 243 ≤ 243 ∧ 243 ≤ 243 := ⟨by omega, by decide, by decide⟩

  refine r_aload_n C dL_law_526 rfl ?_
  refine r_aload_n C dL_law_527 rfl ?_
  refine r_iload_n C dL_law_528 rfl ?_
  refine r_iconst (v := (nI 1)) C dL_law_529 (by decide) ?_
  first | refine r_iaddN C dL_law_530 ?_ | refine r_iadd C dL_law_530 ?_
  refine r_sld C dL_law_531 hX hA rfl (by omega) (by omega) ?_
  refine r_aload_n C dL_law_532 rfl ?_
  refine r_iload_n C dL_law_533 rfl ?_
  refine r_iconst (v := (nI 2)) C dL_law_534 (by decide) ?_
  first | refine r_iaddN C dL_law_535 ?_ | refine r_iadd C dL_law_535 ?_
  refine r_sld C dL_law_536 hX hA rfl (by omega) (by omega) ?_
  refine r_callV C (c_rations ha hc (fun _ n r => rowS_pos hv.2.2.1.1 n r)) dL_law_537 cw_X10_rations cvL_73 (by omega) ok10 rfl hN rfl (Nat.le_of_ble_eq_true rfl) ?_
  rintro v R' h1 ⟨rfl, rfl, hc1, f1⟩
  have hm1 : MP h1 g := hm.fr f1
  refine r_aload_n C dL_law_540 rfl ?_
  refine r_aload_n C dL_law_541 rfl ?_
  refine r_iload_n C dL_law_542 rfl ?_
  refine r_iconst (v := (nI 1)) C dL_law_543 (by decide) ?_
  first | refine r_iaddN C dL_law_544 ?_ | refine r_iadd C dL_law_544 ?_
  refine r_sld C dL_law_545 hX hA rfl (by omega) (by omega) ?_
  refine r_aload_n C dL_law_546 rfl ?_
  refine r_iload_n C dL_law_547 rfl ?_
  refine r_iconst (v := (nI 2)) C dL_law_548 (by decide) ?_
  first | refine r_iaddN C dL_law_549 ?_ | refine r_iadd C dL_law_549 ?_
  refine r_sld C dL_law_550 hX hA rfl (by omega) (by omega) ?_
  refine r_callV C (m_rations hm1 hv.2.1 hv.2.2.1) dL_law_551 cw_X11_rations cvL_76 (by omega) ok11 rfl hN rfl (Nat.le_of_ble_eq_true rfl) ?_
  rintro v R' h2 ⟨rfl, rfl, hm2, f2⟩
  refine r_icmp_eq C dL_law_554 (fun _ => ?_) (fun cc => absurd cc (by exact fun z => z rfl))
  refine r_iinc (v := nI (i + 5)) C dL_law_944 rfl (inc5 i) st3 ?_
  refine r_goto C dL_law_947 ?_
  exact ih a b h2 _ ha hb hab (hc1.fs f2) hm2 hv
set_option maxRecDepth 100000 in
set_option maxHeartbeats 4000000 in
theorem lwx_firstToDesert {E : Ev} {G : Gv} {Q : State → Prop} {LL i : Nat} {xs : Nat → Int32} (C : Cx E G 9 code RL 243) (hg : gn G = 0) (hL : LL ≤ 320) (hX : va_X (E.2.2.2.2.1 63) LL xs (gs G) (gs G).heap) (hA : E.2.2.2.2.1 63 < E.2.1) (hi : i + 5 ≤ LL) (ih : Hd E G Q (i + 5)) {a b : Nat} {h : HF} {g : Gs} (ha : a < 2) (hb : b < 2) (hab : a ≠ b) (hc : CP h a g) (hm : MP h g) (hv : VP g) : Wa E G 243 (Rs a b) h Q 559 [some (aR 63 0), some (aR 10 0), some (aR 11 0), some (aI (nI i))] [] := by
  have hN : gn G ≤ 243 ∧ 243 ≤ 243 ∧ 243 ≤ 243 := ⟨by omega, by decide, by decide⟩

  refine r_aload_n C dL_law_559 rfl ?_
  refine r_aload_n C dL_law_560 rfl ?_
  refine r_iload_n C dL_law_561 rfl ?_
  refine r_iconst (v := (nI 1)) C dL_law_562 (by decide) ?_
  first | refine r_iaddN C dL_law_563 ?_ | refine r_iadd C dL_law_563 ?_
  refine r_sld C dL_law_564 hX hA rfl (by omega) (by omega) ?_
  refine r_callV C (c_firstToDesert ha hc) dL_law_565 cw_X10_firstToDesert cvL_77 (by omega) ok10 rfl hN rfl (Nat.le_of_ble_eq_true rfl) ?_
  rintro v R' h1 ⟨rfl, rfl, hc1, f1⟩
  have hm1 : MP h1 g := hm.fr f1
  refine r_aload_n C dL_law_568 rfl ?_
  refine r_aload_n C dL_law_569 rfl ?_
  refine r_iload_n C dL_law_570 rfl ?_
  refine r_iconst (v := (nI 1)) C dL_law_571 (by decide) ?_
  first | refine r_iaddN C dL_law_572 ?_ | refine r_iadd C dL_law_572 ?_
  refine r_sld C dL_law_573 hX hA rfl (by omega) (by omega) ?_
  refine r_callV C (m_firstToDesert hm1 hv.2.1 hv.2.2.1) dL_law_574 cw_X11_firstToDesert cvL_80 (by omega) ok11 rfl hN rfl (Nat.le_of_ble_eq_true rfl) ?_
  rintro v R' h2 ⟨rfl, rfl, hm2, f2⟩
  refine r_icmp_eq C dL_law_577 (fun _ => ?_) (fun cc => absurd cc (by exact fun z => z rfl))
  refine r_iinc (v := nI (i + 5)) C dL_law_944 rfl (inc5 i) st3 ?_
  refine r_goto C dL_law_947 ?_
  exact ih a b h2 _ ha hb hab (hc1.fs f2) hm2 hv
set_option maxRecDepth 100000 in
set_option maxHeartbeats 4000000 in
theorem lwx_holds {E : Ev} {G : Gv} {Q : State → Prop} {LL i : Nat} {xs : Nat → Int32} (C : Cx E G 9 code RL 243) (hg : gn G = 0) (hL : LL ≤ 320) (hX : va_X (E.2.2.2.2.1 63) LL xs (gs G) (gs G).heap) (hA : E.2.2.2.2.1 63 < E.2.1) (hi : i + 5 ≤ LL) (ih : Hd E G Q (i + 5)) {a b : Nat} {h : HF} {g : Gs} (ha : a < 2) (hb : b < 2) (hab : a ≠ b) (hc : CP h a g) (hm : MP h g) (hv : VP g) : Wa E G 243 (Rs a b) h Q 582 [some (aR 63 0), some (aR 10 0), some (aR 11 0), some (aI (nI i))] [] := by
  have hN : gn G ≤ 243 ∧ 243 ≤ 243 ∧ 243 ≤ 243 := ⟨by omega, by decide, by decide⟩

  refine r_aload_n C dL_law_582 rfl ?_
  refine r_aload_n C dL_law_583 rfl ?_
  refine r_iload_n C dL_law_584 rfl ?_
  refine r_iconst (v := (nI 1)) C dL_law_585 (by decide) ?_
  first | refine r_iaddN C dL_law_586 ?_ | refine r_iadd C dL_law_586 ?_
  refine r_sld C dL_law_587 hX hA rfl (by omega) (by omega) ?_
  refine r_callV C (c_holds ha hc) dL_law_588 cw_X10_holds cvL_81 (by omega) ok10 rfl hN rfl (Nat.le_of_ble_eq_true rfl) ?_
  rintro v R' h1 ⟨rfl, rfl, hc1, f1⟩
  have hm1 : MP h1 g := hm.fr f1
  refine r_aload_n C dL_law_591 rfl ?_
  refine r_aload_n C dL_law_592 rfl ?_
  refine r_iload_n C dL_law_593 rfl ?_
  refine r_iconst (v := (nI 1)) C dL_law_594 (by decide) ?_
  first | refine r_iaddN C dL_law_595 ?_ | refine r_iadd C dL_law_595 ?_
  refine r_sld C dL_law_596 hX hA rfl (by omega) (by omega) ?_
  refine r_callV C (m_holds hm1 hv.2.1 hv.2.2.1) dL_law_597 cw_X11_holds cvL_84 (by omega) ok11 rfl hN rfl (Nat.le_of_ble_eq_true rfl) ?_
  rintro v R' h2 ⟨rfl, rfl, hm2, f2⟩
  refine r_icmp_eq C dL_law_600 (fun _ => ?_) (fun cc => absurd cc (by exact fun z => z rfl))
  refine r_iinc (v := nI (i + 5)) C dL_law_944 rfl (inc5 i) st3 ?_
  refine r_goto C dL_law_947 ?_
  exact ih a b h2 _ ha hb hab (hc1.fs f2) hm2 hv
set_option maxRecDepth 100000 in
set_option maxHeartbeats 4000000 in
theorem lwx_owed {E : Ev} {G : Gv} {Q : State → Prop} {LL i : Nat} {xs : Nat → Int32} (C : Cx E G 9 code RL 243) (hg : gn G = 0) (hL : LL ≤ 320) (hX : va_X (E.2.2.2.2.1 63) LL xs (gs G) (gs G).heap) (hA : E.2.2.2.2.1 63 < E.2.1) (hi : i + 5 ≤ LL) (ih : Hd E G Q (i + 5)) {a b : Nat} {h : HF} {g : Gs} (ha : a < 2) (hb : b < 2) (hab : a ≠ b) (hc : CP h a g) (hm : MP h g) (hv : VP g) : Wa E G 243 (Rs a b) h Q 605 [some (aR 63 0), some (aR 10 0), some (aR 11 0), some (aI (nI i))] [] := by
  have hN : gn G ≤ 243 ∧ 243 ≤ 243 ∧ 243 ≤ 243 := ⟨by omega, by decide, by decide⟩

  refine r_aload_n C dL_law_605 rfl ?_
  refine r_aload_n C dL_law_606 rfl ?_
  refine r_iload_n C dL_law_607 rfl ?_
  refine r_iconst (v := (nI 1)) C dL_law_608 (by decide) ?_
  first | refine r_iaddN C dL_law_609 ?_ | refine r_iadd C dL_law_609 ?_
  refine r_sld C dL_law_610 hX hA rfl (by omega) (by omega) ?_
  refine r_aload_n C dL_law_611 rfl ?_
  refine r_iload_n C dL_law_612 rfl ?_
  refine r_iconst (v := (nI 2)) C dL_law_613 (by decide) ?_
  first | refine r_iaddN C dL_law_614 ?_ | refine r_iadd C dL_law_614 ?_
  refine r_sld C dL_law_615 hX hA rfl (by omega) (by omega) ?_
  refine r_callV C (c_owed ha hc) dL_law_616 cw_X10_owed cvL_85 (by omega) ok10 rfl hN rfl (Nat.le_of_ble_eq_true rfl) ?_
  rintro v R' h1 ⟨rfl, rfl, hc1, f1⟩
  have hm1 : MP h1 g := hm.fr f1
  refine r_aload_n C dL_law_619 rfl ?_
  refine r_aload_n C dL_law_620 rfl ?_
  refine r_iload_n C dL_law_621 rfl ?_
  refine r_iconst (v := (nI 1)) C dL_law_622 (by decide) ?_
  first | refine r_iaddN C dL_law_623 ?_ | refine r_iadd C dL_law_623 ?_
  refine r_sld C dL_law_624 hX hA rfl (by omega) (by omega) ?_
  refine r_aload_n C dL_law_625 rfl ?_
  refine r_iload_n C dL_law_626 rfl ?_
  refine r_iconst (v := (nI 2)) C dL_law_627 (by decide) ?_
  first | refine r_iaddN C dL_law_628 ?_ | refine r_iadd C dL_law_628 ?_
  refine r_sld C dL_law_629 hX hA rfl (by omega) (by omega) ?_
  refine r_callV C (m_owed hm1) dL_law_630 cw_X11_owed cvL_88 (by omega) ok11 rfl hN rfl (Nat.le_of_ble_eq_true rfl) ?_
  rintro v R' h2 ⟨rfl, rfl, rfl⟩
  refine r_icmp_eq C dL_law_633 (fun _ => ?_) (fun cc => absurd cc (by exact fun z => z rfl))
  refine r_iinc (v := nI (i + 5)) C dL_law_944 rfl (inc5 i) st3 ?_
  refine r_goto C dL_law_947 ?_
  exact ih a b _ _ ha hb hab hc1 hm1 hv
set_option maxRecDepth 100000 in
set_option maxHeartbeats 4000000 in
theorem lwx_least {E : Ev} {G : Gv} {Q : State → Prop} {LL i : Nat} {xs : Nat → Int32} (C : Cx E G 9 code RL 243) (hg : gn G = 0) (hL : LL ≤ 320) (hX : va_X (E.2.2.2.2.1 63) LL xs (gs G) (gs G).heap) (hA : E.2.2.2.2.1 63 < E.2.1) (hi : i + 5 ≤ LL) (ih : Hd E G Q (i + 5)) {a b : Nat} {h : HF} {g : Gs} (ha : a < 2) (hb : b < 2) (hab : a ≠ b) (hc : CP h a g) (hm : MP h g) (hv : VP g) : Wa E G 243 (Rs a b) h Q 638 [some (aR 63 0), some (aR 10 0), some (aR 11 0), some (aI (nI i))] [] := by
  have hN : gn G ≤ 243 ∧ 243 ≤ 243 ∧ 243 ≤ 243 := ⟨by omega, by decide, by decide⟩

  refine r_aload_n C dL_law_638 rfl ?_
  refine r_aload_n C dL_law_639 rfl ?_
  refine r_iload_n C dL_law_640 rfl ?_
  refine r_iconst (v := (nI 1)) C dL_law_641 (by decide) ?_
  first | refine r_iaddN C dL_law_642 ?_ | refine r_iadd C dL_law_642 ?_
  refine r_sld C dL_law_643 hX hA rfl (by omega) (by omega) ?_
  refine r_aload_n C dL_law_644 rfl ?_
  refine r_iload_n C dL_law_645 rfl ?_
  refine r_iconst (v := (nI 2)) C dL_law_646 (by decide) ?_
  first | refine r_iaddN C dL_law_647 ?_ | refine r_iadd C dL_law_647 ?_
  refine r_sld C dL_law_648 hX hA rfl (by omega) (by omega) ?_
  refine r_callV C (c_least ha hc) dL_law_649 cw_X10_least cvL_89 (by omega) ok10 rfl hN rfl (Nat.le_of_ble_eq_true rfl) ?_
  rintro v R' h1 ⟨rfl, rfl, hc1, f1⟩
  have hm1 : MP h1 g := hm.fr f1
  refine r_aload_n C dL_law_652 rfl ?_
  refine r_aload_n C dL_law_653 rfl ?_
  refine r_iload_n C dL_law_654 rfl ?_
  refine r_iconst (v := (nI 1)) C dL_law_655 (by decide) ?_
  first | refine r_iaddN C dL_law_656 ?_ | refine r_iadd C dL_law_656 ?_
  refine r_sld C dL_law_657 hX hA rfl (by omega) (by omega) ?_
  refine r_aload_n C dL_law_658 rfl ?_
  refine r_iload_n C dL_law_659 rfl ?_
  refine r_iconst (v := (nI 2)) C dL_law_660 (by decide) ?_
  first | refine r_iaddN C dL_law_661 ?_ | refine r_iadd C dL_law_661 ?_
  refine r_sld C dL_law_662 hX hA rfl (by omega) (by omega) ?_
  refine r_callV C (m_least hm1 hv.2.1 hv.2.2.1) dL_law_663 cw_X11_least cvL_92 (by omega) ok11 rfl hN rfl (Nat.le_of_ble_eq_true rfl) ?_
  rintro v R' h2 ⟨rfl, rfl, rfl⟩
  refine r_icmp_eq C dL_law_666 (fun _ => ?_) (fun cc => absurd cc (by exact fun z => z rfl))
  refine r_iinc (v := nI (i + 5)) C dL_law_944 rfl (inc5 i) st3 ?_
  refine r_goto C dL_law_947 ?_
  exact ih a b _ _ ha hb hab hc1 hm1 hv
set_option maxRecDepth 100000 in
set_option maxHeartbeats 4000000 in
theorem lwx_bought {E : Ev} {G : Gv} {Q : State → Prop} {LL i : Nat} {xs : Nat → Int32} (C : Cx E G 9 code RL 243) (hg : gn G = 0) (hL : LL ≤ 320) (hX : va_X (E.2.2.2.2.1 63) LL xs (gs G) (gs G).heap) (hA : E.2.2.2.2.1 63 < E.2.1) (hi : i + 5 ≤ LL) (ih : Hd E G Q (i + 5)) {a b : Nat} {h : HF} {g : Gs} (ha : a < 2) (hb : b < 2) (hab : a ≠ b) (hc : CP h a g) (hm : MP h g) (hv : VP g) : Wa E G 243 (Rs a b) h Q 671 [some (aR 63 0), some (aR 10 0), some (aR 11 0), some (aI (nI i))] [] := by
  have hN : gn G ≤ 243 ∧ 243 ≤ 243 ∧ 243 ≤ 243 := ⟨by omega, by decide, by decide⟩

  refine r_aload_n C dL_law_671 rfl ?_
  refine r_aload_n C dL_law_672 rfl ?_
  refine r_iload_n C dL_law_673 rfl ?_
  refine r_iconst (v := (nI 1)) C dL_law_674 (by decide) ?_
  first | refine r_iaddN C dL_law_675 ?_ | refine r_iadd C dL_law_675 ?_
  refine r_sld C dL_law_676 hX hA rfl (by omega) (by omega) ?_
  refine r_aload_n C dL_law_677 rfl ?_
  refine r_iload_n C dL_law_678 rfl ?_
  refine r_iconst (v := (nI 2)) C dL_law_679 (by decide) ?_
  first | refine r_iaddN C dL_law_680 ?_ | refine r_iadd C dL_law_680 ?_
  refine r_sld C dL_law_681 hX hA rfl (by omega) (by omega) ?_
  refine r_callV C (c_bought ha hc) dL_law_682 cw_X10_bought cvL_93 (by omega) ok10 rfl hN rfl (Nat.le_of_ble_eq_true rfl) ?_
  rintro v R' h1 ⟨rfl, rfl, hc1, f1⟩
  have hm1 : MP h1 g := hm.fr f1
  refine r_aload_n C dL_law_685 rfl ?_
  refine r_aload_n C dL_law_686 rfl ?_
  refine r_iload_n C dL_law_687 rfl ?_
  refine r_iconst (v := (nI 1)) C dL_law_688 (by decide) ?_
  first | refine r_iaddN C dL_law_689 ?_ | refine r_iadd C dL_law_689 ?_
  refine r_sld C dL_law_690 hX hA rfl (by omega) (by omega) ?_
  refine r_aload_n C dL_law_691 rfl ?_
  refine r_iload_n C dL_law_692 rfl ?_
  refine r_iconst (v := (nI 2)) C dL_law_693 (by decide) ?_
  first | refine r_iaddN C dL_law_694 ?_ | refine r_iadd C dL_law_694 ?_
  refine r_sld C dL_law_695 hX hA rfl (by omega) (by omega) ?_
  refine r_callV C (m_bought hm1) dL_law_696 cw_X11_bought cvL_96 (by omega) ok11 rfl hN rfl (Nat.le_of_ble_eq_true rfl) ?_
  rintro v R' h2 ⟨rfl, rfl, rfl⟩
  refine r_icmp_eq C dL_law_699 (fun _ => ?_) (fun cc => absurd cc (by exact fun z => z rfl))
  refine r_iinc (v := nI (i + 5)) C dL_law_944 rfl (inc5 i) st3 ?_
  refine r_goto C dL_law_947 ?_
  exact ih a b _ _ ha hb hab hc1 hm1 hv
set_option maxRecDepth 100000 in
set_option maxHeartbeats 4000000 in
theorem lwx_offer {E : Ev} {G : Gv} {Q : State → Prop} {LL i : Nat} {xs : Nat → Int32} (C : Cx E G 9 code RL 243) (hg : gn G = 0) (hL : LL ≤ 320) (hX : va_X (E.2.2.2.2.1 63) LL xs (gs G) (gs G).heap) (hA : E.2.2.2.2.1 63 < E.2.1) (hi : i + 5 ≤ LL) (ih : Hd E G Q (i + 5)) {a b : Nat} {h : HF} {g : Gs} (ha : a < 2) (hb : b < 2) (hab : a ≠ b) (hc : CP h a g) (hm : MP h g) (hv : VP g) : Wa E G 243 (Rs a b) h Q 704 [some (aR 63 0), some (aR 10 0), some (aR 11 0), some (aI (nI i))] [] := by
  have hN : gn G ≤ 243 ∧ 243 ≤ 243 ∧ 243 ≤ 243 := ⟨by omega, by decide, by decide⟩

  refine r_aload_n C dL_law_704 rfl ?_
  refine r_aload_n C dL_law_705 rfl ?_
  refine r_iload_n C dL_law_706 rfl ?_
  refine r_iconst (v := (nI 1)) C dL_law_707 (by decide) ?_
  first | refine r_iaddN C dL_law_708 ?_ | refine r_iadd C dL_law_708 ?_
  refine r_sld C dL_law_709 hX hA rfl (by omega) (by omega) ?_
  refine r_aload_n C dL_law_710 rfl ?_
  refine r_iload_n C dL_law_711 rfl ?_
  refine r_iconst (v := (nI 2)) C dL_law_712 (by decide) ?_
  first | refine r_iaddN C dL_law_713 ?_ | refine r_iadd C dL_law_713 ?_
  refine r_sld C dL_law_714 hX hA rfl (by omega) (by omega) ?_
  refine r_callV C (c_offer ha hc) dL_law_715 cw_X10_offer cvL_97 (by omega) ok10 rfl hN rfl (Nat.le_of_ble_eq_true rfl) ?_
  rintro v R' h1 ⟨rfl, rfl, hc1, f1⟩
  have hm1 : MP h1 g := hm.fr f1
  refine r_aload_n C dL_law_718 rfl ?_
  refine r_aload_n C dL_law_719 rfl ?_
  refine r_iload_n C dL_law_720 rfl ?_
  refine r_iconst (v := (nI 1)) C dL_law_721 (by decide) ?_
  first | refine r_iaddN C dL_law_722 ?_ | refine r_iadd C dL_law_722 ?_
  refine r_sld C dL_law_723 hX hA rfl (by omega) (by omega) ?_
  refine r_aload_n C dL_law_724 rfl ?_
  refine r_iload_n C dL_law_725 rfl ?_
  refine r_iconst (v := (nI 2)) C dL_law_726 (by decide) ?_
  first | refine r_iaddN C dL_law_727 ?_ | refine r_iadd C dL_law_727 ?_
  refine r_sld C dL_law_728 hX hA rfl (by omega) (by omega) ?_
  refine r_callV C (m_offer hm1 (vp_odds hv) (vp_stamp hv)) dL_law_729 cw_X11_offer cvL_100 (by omega) ok11 rfl hN rfl (Nat.le_of_ble_eq_true rfl) ?_
  rintro v R' h2 ⟨rfl, rfl, rfl⟩
  refine r_icmp_eq C dL_law_732 (fun _ => ?_) (fun cc => absurd cc (by exact fun z => z rfl))
  refine r_iinc (v := nI (i + 5)) C dL_law_944 rfl (inc5 i) st3 ?_
  refine r_goto C dL_law_947 ?_
  exact ih a b _ _ ha hb hab hc1 hm1 hv
set_option maxRecDepth 100000 in
set_option maxHeartbeats 4000000 in
theorem lwx_show {E : Ev} {G : Gv} {Q : State → Prop} {LL i : Nat} {xs : Nat → Int32} (C : Cx E G 9 code RL 243) (hg : gn G = 0) (hL : LL ≤ 320) (hX : va_X (E.2.2.2.2.1 63) LL xs (gs G) (gs G).heap) (hA : E.2.2.2.2.1 63 < E.2.1) (hi : i + 5 ≤ LL) (ih : Hd E G Q (i + 5)) {a b : Nat} {h : HF} {g : Gs} (ha : a < 2) (hb : b < 2) (hab : a ≠ b) (hc : CP h a g) (hm : MP h g) (hv : VP g) : Wa E G 243 (Rs a b) h Q 737 [some (aR 63 0), some (aR 10 0), some (aR 11 0), some (aI (nI i))] [] := by
  have hN : gn G ≤ 243 ∧ 243 ≤ 243 ∧ 243 ≤ 243 := ⟨by omega, by decide, by decide⟩

  refine r_aload_n C dL_law_737 rfl ?_
  refine r_aload_n C dL_law_738 rfl ?_
  refine r_iload_n C dL_law_739 rfl ?_
  refine r_iconst (v := (nI 1)) C dL_law_740 (by decide) ?_
  first | refine r_iaddN C dL_law_741 ?_ | refine r_iadd C dL_law_741 ?_
  refine r_sld C dL_law_742 hX hA rfl (by omega) (by omega) ?_
  refine r_aload_n C dL_law_743 rfl ?_
  refine r_iload_n C dL_law_744 rfl ?_
  refine r_iconst (v := (nI 2)) C dL_law_745 (by decide) ?_
  first | refine r_iaddN C dL_law_746 ?_ | refine r_iadd C dL_law_746 ?_
  refine r_sld C dL_law_747 hX hA rfl (by omega) (by omega) ?_
  refine r_aload_n C dL_law_748 rfl ?_
  refine r_iload_n C dL_law_749 rfl ?_
  refine r_iconst (v := (nI 3)) C dL_law_750 (by decide) ?_
  first | refine r_iaddN C dL_law_751 ?_ | refine r_iadd C dL_law_751 ?_
  refine r_sld C dL_law_752 hX hA rfl (by omega) (by omega) ?_
  refine r_aload_n C dL_law_753 rfl ?_
  refine r_iload_n C dL_law_754 rfl ?_
  refine r_iconst (v := (nI 4)) C dL_law_755 (by decide) ?_
  first | refine r_iaddN C dL_law_756 ?_ | refine r_iadd C dL_law_756 ?_
  refine r_sld C dL_law_757 hX hA rfl (by omega) (by omega) ?_
  refine r_callV C (c_show ha hc) dL_law_758 cw_X10_show cvL_101 (by omega) ok10 rfl hN rfl (Nat.le_of_ble_eq_true rfl) ?_
  rintro v R' h1 ⟨rfl, rfl, hc1, f1⟩
  have hm1 : MP h1 g := hm.fr f1
  refine r_aload_n C dL_law_761 rfl ?_
  refine r_aload_n C dL_law_762 rfl ?_
  refine r_iload_n C dL_law_763 rfl ?_
  refine r_iconst (v := (nI 1)) C dL_law_764 (by decide) ?_
  first | refine r_iaddN C dL_law_765 ?_ | refine r_iadd C dL_law_765 ?_
  refine r_sld C dL_law_766 hX hA rfl (by omega) (by omega) ?_
  refine r_aload_n C dL_law_767 rfl ?_
  refine r_iload_n C dL_law_768 rfl ?_
  refine r_iconst (v := (nI 2)) C dL_law_769 (by decide) ?_
  first | refine r_iaddN C dL_law_770 ?_ | refine r_iadd C dL_law_770 ?_
  refine r_sld C dL_law_771 hX hA rfl (by omega) (by omega) ?_
  refine r_aload_n C dL_law_772 rfl ?_
  refine r_iload_n C dL_law_773 rfl ?_
  refine r_iconst (v := (nI 3)) C dL_law_774 (by decide) ?_
  first | refine r_iaddN C dL_law_775 ?_ | refine r_iadd C dL_law_775 ?_
  refine r_sld C dL_law_776 hX hA rfl (by omega) (by omega) ?_
  refine r_aload_n C dL_law_777 rfl ?_
  refine r_iload_n C dL_law_778 rfl ?_
  refine r_iconst (v := (nI 4)) C dL_law_779 (by decide) ?_
  first | refine r_iaddN C dL_law_780 ?_ | refine r_iadd C dL_law_780 ?_
  refine r_sld C dL_law_781 hX hA rfl (by omega) (by omega) ?_
  refine r_callV C (m_show hm1) dL_law_782 cw_X11_show cvL_105 (by omega) ok11 rfl hN rfl (Nat.le_of_ble_eq_true rfl) ?_
  rintro v R' h2 ⟨rfl, rfl, hm2, f2⟩
  refine r_icmp_eq C dL_law_785 (fun _ => ?_) (fun cc => absurd cc (by exact fun z => z rfl))
  refine r_iinc (v := nI (i + 5)) C dL_law_944 rfl (inc5 i) st3 ?_
  refine r_goto C dL_law_947 ?_
  exact ih a b h2 _ ha hb hab (hc1.fs f2) hm2 (vp_show hv)
set_option maxRecDepth 100000 in
set_option maxHeartbeats 4000000 in
theorem lwx_forged {E : Ev} {G : Gv} {Q : State → Prop} {LL i : Nat} {xs : Nat → Int32} (C : Cx E G 9 code RL 243) (hg : gn G = 0) (hL : LL ≤ 320) (hX : va_X (E.2.2.2.2.1 63) LL xs (gs G) (gs G).heap) (hA : E.2.2.2.2.1 63 < E.2.1) (hi : i + 5 ≤ LL) (ih : Hd E G Q (i + 5)) {a b : Nat} {h : HF} {g : Gs} (ha : a < 2) (hb : b < 2) (hab : a ≠ b) (hc : CP h a g) (hm : MP h g) (hv : VP g) : Wa E G 243 (Rs a b) h Q 790 [some (aR 63 0), some (aR 10 0), some (aR 11 0), some (aI (nI i))] [] := by
  have hN : gn G ≤ 243 ∧ 243 ≤ 243 ∧ 243 ≤ 243 := ⟨by omega, by decide, by decide⟩

  refine r_aload_n C dL_law_790 rfl ?_
  refine r_callV C (c_forged ha hc) dL_law_791 cw_X10_forged cvL_106 (by omega) ok10 rfl hN rfl (Nat.le_of_ble_eq_true rfl) ?_
  rintro v R' h1 ⟨rfl, rfl, hc1, f1⟩
  have hm1 : MP h1 g := hm.fr f1
  refine r_aload_n C dL_law_794 rfl ?_
  refine r_callV C (m_forged hm1) dL_law_795 cw_X11_forged cvL_109 (by omega) ok11 rfl hN rfl (Nat.le_of_ble_eq_true rfl) ?_
  rintro v R' h2 ⟨rfl, rfl, rfl⟩
  refine r_icmp_eq C dL_law_798 (fun _ => ?_) (fun cc => absurd cc (by exact fun z => z rfl))
  refine r_iinc (v := nI (i + 5)) C dL_law_944 rfl (inc5 i) st3 ?_
  refine r_goto C dL_law_947 ?_
  exact ih a b _ _ ha hb hab hc1 hm1 hv
set_option maxRecDepth 100000 in
set_option maxHeartbeats 4000000 in
theorem lwx_weighFirst {E : Ev} {G : Gv} {Q : State → Prop} {LL i : Nat} {xs : Nat → Int32} (C : Cx E G 9 code RL 243) (hg : gn G = 0) (hL : LL ≤ 320) (hX : va_X (E.2.2.2.2.1 63) LL xs (gs G) (gs G).heap) (hA : E.2.2.2.2.1 63 < E.2.1) (hi : i + 5 ≤ LL) (ih : Hd E G Q (i + 5)) {a b : Nat} {h : HF} {g : Gs} (ha : a < 2) (hb : b < 2) (hab : a ≠ b) (hc : CP h a g) (hm : MP h g) (hv : VP g) : Wa E G 243 (Rs a b) h Q 803 [some (aR 63 0), some (aR 10 0), some (aR 11 0), some (aI (nI i))] [] := by
  have hN : gn G ≤ 243 ∧ 243 ≤ 243 ∧ 243 ≤ 243 := ⟨by omega, by decide, by decide⟩

  refine r_aload_n C dL_law_803 rfl ?_
  refine r_callV C (c_weighFirst ha hc) dL_law_804 cw_X10_weighFirst cvL_110 (by omega) ok10 rfl hN rfl (Nat.le_of_ble_eq_true rfl) ?_
  rintro v R' h1 ⟨rfl, rfl, hc1, f1⟩
  have hm1 : MP h1 g := hm.fr f1
  refine r_aload_n C dL_law_807 rfl ?_
  refine r_callV C (m_weighFirst hm1) dL_law_808 cw_X11_weighFirst cvL_113 (by omega) ok11 rfl hN rfl (Nat.le_of_ble_eq_true rfl) ?_
  rintro v R' h2 ⟨rfl, rfl, rfl⟩
  refine r_icmp_eq C dL_law_811 (fun _ => ?_) (fun cc => absurd cc (by exact fun z => z rfl))
  refine r_iinc (v := nI (i + 5)) C dL_law_944 rfl (inc5 i) st3 ?_
  refine r_goto C dL_law_947 ?_
  exact ih a b _ _ ha hb hab hc1 hm1 hv
set_option maxRecDepth 100000 in
set_option maxHeartbeats 4000000 in
theorem lwx_write {E : Ev} {G : Gv} {Q : State → Prop} {LL i : Nat} {xs : Nat → Int32} (C : Cx E G 9 code RL 243) (hg : gn G = 0) (hL : LL ≤ 320) (hX : va_X (E.2.2.2.2.1 63) LL xs (gs G) (gs G).heap) (hA : E.2.2.2.2.1 63 < E.2.1) (hi : i + 5 ≤ LL) (ih : Hd E G Q (i + 5)) {a b : Nat} {h : HF} {g : Gs} (ha : a < 2) (hb : b < 2) (hab : a ≠ b) (hc : CP h a g) (hm : MP h g) (hv : VP g) : Wa E G 243 (Rs a b) h Q 816 [some (aR 63 0), some (aR 10 0), some (aR 11 0), some (aI (nI i))] [] := by
  have hN : gn G ≤ 243 ∧ 243 ≤ 243 ∧ 243 ≤ 243 := ⟨by omega, by decide, by decide⟩

  refine r_aload_n C dL_law_816 rfl ?_
  refine r_aload_n C dL_law_817 rfl ?_
  refine r_iload_n C dL_law_818 rfl ?_
  refine r_iconst (v := (nI 1)) C dL_law_819 (by decide) ?_
  first | refine r_iaddN C dL_law_820 ?_ | refine r_iadd C dL_law_820 ?_
  refine r_sld C dL_law_821 hX hA rfl (by omega) (by omega) ?_
  refine r_aload_n C dL_law_822 rfl ?_
  refine r_iload_n C dL_law_823 rfl ?_
  refine r_iconst (v := (nI 2)) C dL_law_824 (by decide) ?_
  first | refine r_iaddN C dL_law_825 ?_ | refine r_iadd C dL_law_825 ?_
  refine r_sld C dL_law_826 hX hA rfl (by omega) (by omega) ?_
  refine r_callV C (c_write ha hc) dL_law_827 cw_X10_write cvL_114 (by omega) ok10 rfl hN rfl (Nat.le_of_ble_eq_true rfl) ?_
  rintro v R' h1 ⟨rfl, rfl, hc1, f1⟩
  have hm1 : MP h1 g := hm.fr f1
  refine r_aload_n C dL_law_830 rfl ?_
  refine r_aload_n C dL_law_831 rfl ?_
  refine r_iload_n C dL_law_832 rfl ?_
  refine r_iconst (v := (nI 1)) C dL_law_833 (by decide) ?_
  first | refine r_iaddN C dL_law_834 ?_ | refine r_iadd C dL_law_834 ?_
  refine r_sld C dL_law_835 hX hA rfl (by omega) (by omega) ?_
  refine r_aload_n C dL_law_836 rfl ?_
  refine r_iload_n C dL_law_837 rfl ?_
  refine r_iconst (v := (nI 2)) C dL_law_838 (by decide) ?_
  first | refine r_iaddN C dL_law_839 ?_ | refine r_iadd C dL_law_839 ?_
  refine r_sld C dL_law_840 hX hA rfl (by omega) (by omega) ?_
  refine r_callV C (m_write hm1) dL_law_841 cw_X11_write cvL_117 (by omega) ok11 rfl hN rfl (Nat.le_of_ble_eq_true rfl) ?_
  rintro v R' h2 ⟨rfl, rfl, hm2, f2⟩
  refine r_icmp_eq C dL_law_844 (fun _ => ?_) (fun cc => absurd cc (by exact fun z => z rfl))
  refine r_iinc (v := nI (i + 5)) C dL_law_944 rfl (inc5 i) st3 ?_
  refine r_goto C dL_law_947 ?_
  exact ih a b h2 _ ha hb hab (hc1.fs f2) hm2 (vp_write hv)
set_option maxRecDepth 100000 in
set_option maxHeartbeats 4000000 in
theorem lwx_tear {E : Ev} {G : Gv} {Q : State → Prop} {LL i : Nat} {xs : Nat → Int32} (C : Cx E G 9 code RL 243) (hg : gn G = 0) (hL : LL ≤ 320) (hX : va_X (E.2.2.2.2.1 63) LL xs (gs G) (gs G).heap) (hA : E.2.2.2.2.1 63 < E.2.1) (hi : i + 5 ≤ LL) (ih : Hd E G Q (i + 5)) {a b : Nat} {h : HF} {g : Gs} (ha : a < 2) (hb : b < 2) (hab : a ≠ b) (hc : CP h a g) (hm : MP h g) (hv : VP g) : Wa E G 243 (Rs a b) h Q 849 [some (aR 63 0), some (aR 10 0), some (aR 11 0), some (aI (nI i))] [] := by
  have hN : gn G ≤ 243 ∧ 243 ≤ 243 ∧ 243 ≤ 243 := ⟨by omega, by decide, by decide⟩

  refine r_aload_n C dL_law_849 rfl ?_
  refine r_callV C (c_tear hc) dL_law_850 cw_X10_tear cvL_118 (by omega) ok10 rfl hN rfl (Nat.le_of_ble_eq_true rfl) ?_
  rintro v R' h1 ⟨rfl, rfl, hc1, f1⟩
  have hm1 : MP h1 g := hm.fr f1
  refine r_aload_n C dL_law_853 rfl ?_
  refine r_callV C (m_tear hm1) dL_law_854 cw_X11_tear cvL_121 (by omega) ok11 rfl hN rfl (Nat.le_of_ble_eq_true rfl) ?_
  rintro v R' h2 ⟨rfl, rfl, hm2, f2⟩
  refine r_icmp_eq C dL_law_857 (fun _ => ?_) (fun cc => absurd cc (by exact fun z => z rfl))
  refine r_iinc (v := nI (i + 5)) C dL_law_944 rfl (inc5 i) st3 ?_
  refine r_goto C dL_law_947 ?_
  exact ih a b h2 _ ha hb hab (hc1.fs f2) hm2 (show VP (tearG g) from hv)
set_option maxRecDepth 100000 in
set_option maxHeartbeats 4000000 in
theorem lwx_judge {E : Ev} {G : Gv} {Q : State → Prop} {LL i : Nat} {xs : Nat → Int32} (C : Cx E G 9 code RL 243) (hg : gn G = 0) (hL : LL ≤ 320) (hX : va_X (E.2.2.2.2.1 63) LL xs (gs G) (gs G).heap) (hA : E.2.2.2.2.1 63 < E.2.1) (hi : i + 5 ≤ LL) (ih : Hd E G Q (i + 5)) {a b : Nat} {h : HF} {g : Gs} (ha : a < 2) (hb : b < 2) (hab : a ≠ b) (hc : CP h a g) (hm : MP h g) (hv : VP g) : Wa E G 243 (Rs a b) h Q 862 [some (aR 63 0), some (aR 10 0), some (aR 11 0), some (aI (nI i))] [] := by
  have hN : gn G ≤ 243 ∧ 243 ≤ 243 ∧ 243 ≤ 243 := ⟨by omega, by decide, by decide⟩

  refine r_aload_n C dL_law_862 rfl ?_
  refine r_callV C (c_judge ha hc) dL_law_863 cw_X10_judge cvL_122 (by omega) ok10 rfl hN rfl (Nat.le_of_ble_eq_true rfl) ?_
  rintro v R' h1 ⟨rfl, rfl, hc1, f1⟩
  have hm1 : MP h1 g := hm.fr f1
  refine r_aload_n C dL_law_866 rfl ?_
  refine r_callV C (m_judge hm1) dL_law_867 cw_X11_judge cvL_125 (by omega) ok11 rfl hN rfl (Nat.le_of_ble_eq_true rfl) ?_
  rintro v R' h2 ⟨rfl, rfl, rfl⟩
  refine r_icmp_eq C dL_law_870 (fun _ => ?_) (fun cc => absurd cc (by exact fun z => z rfl))
  refine r_iinc (v := nI (i + 5)) C dL_law_944 rfl (inc5 i) st3 ?_
  refine r_goto C dL_law_947 ?_
  exact ih a b _ _ ha hb hab hc1 hm1 hv
set_option maxRecDepth 100000 in
set_option maxHeartbeats 4000000 in
theorem lwx_seed {E : Ev} {G : Gv} {Q : State → Prop} {LL i : Nat} {xs : Nat → Int32} (C : Cx E G 9 code RL 243) (hg : gn G = 0) (hL : LL ≤ 320) (hX : va_X (E.2.2.2.2.1 63) LL xs (gs G) (gs G).heap) (hA : E.2.2.2.2.1 63 < E.2.1) (hi : i + 5 ≤ LL) (ih : Hd E G Q (i + 5)) {a b : Nat} {h : HF} {g : Gs} (ha : a < 2) (hb : b < 2) (hab : a ≠ b) (hc : CP h a g) (hm : MP h g) (hv : VP g) : Wa E G 243 (Rs a b) h Q 875 [some (aR 63 0), some (aR 10 0), some (aR 11 0), some (aI (nI i))] [] := by
  have hN : gn G ≤ 243 ∧ 243 ≤ 243 ∧ 243 ≤ 243 := ⟨by omega, by decide, by decide⟩

  refine r_aload_n C dL_law_875 rfl ?_
  refine r_aload_n C dL_law_876 rfl ?_
  refine r_iload_n C dL_law_877 rfl ?_
  refine r_iconst (v := (nI 1)) C dL_law_878 (by decide) ?_
  first | refine r_iaddN C dL_law_879 ?_ | refine r_iadd C dL_law_879 ?_
  refine r_sld C dL_law_880 hX hA rfl (by omega) (by omega) ?_
  refine r_callV C (c_seed hc) dL_law_881 cw_X10_seed cvL_126 (by omega) ok10 rfl hN rfl (Nat.le_of_ble_eq_true rfl) ?_
  rintro v R' h1 ⟨rfl, rfl, hc1, f1⟩
  have hm1 : MP h1 g := hm.fr f1
  refine r_aload_n C dL_law_884 rfl ?_
  refine r_aload_n C dL_law_885 rfl ?_
  refine r_iload_n C dL_law_886 rfl ?_
  refine r_iconst (v := (nI 1)) C dL_law_887 (by decide) ?_
  first | refine r_iaddN C dL_law_888 ?_ | refine r_iadd C dL_law_888 ?_
  refine r_sld C dL_law_889 hX hA rfl (by omega) (by omega) ?_
  refine r_callV C (m_seed hm1) dL_law_890 cw_X11_seed cvL_129 (by omega) ok11 rfl hN rfl (Nat.le_of_ble_eq_true rfl) ?_
  rintro v R' h2 ⟨rfl, rfl, hm2, f2⟩
  refine r_icmp_eq C dL_law_893 (fun _ => ?_) (fun cc => absurd cc (by exact fun z => z rfl))
  refine r_iinc (v := nI (i + 5)) C dL_law_944 rfl (inc5 i) st3 ?_
  refine r_goto C dL_law_947 ?_
  exact ih a b h2 _ ha hb hab (hc1.fs f2) hm2 (vp_seed hv)
set_option maxRecDepth 100000 in
set_option maxHeartbeats 4000000 in
theorem lwx_keep {E : Ev} {G : Gv} {Q : State → Prop} {LL i : Nat} {xs : Nat → Int32} (C : Cx E G 9 code RL 243) (hg : gn G = 0) (hL : LL ≤ 320) (hX : va_X (E.2.2.2.2.1 63) LL xs (gs G) (gs G).heap) (hA : E.2.2.2.2.1 63 < E.2.1) (hi : i + 5 ≤ LL) (ih : Hd E G Q (i + 5)) {a b : Nat} {h : HF} {g : Gs} (ha : a < 2) (hb : b < 2) (hab : a ≠ b) (hc : CP h a g) (hm : MP h g) (hv : VP g) : Wa E G 243 (Rs a b) h Q 898 [some (aR 63 0), some (aR 10 0), some (aR 11 0), some (aI (nI i))] [] := by
  have hN : gn G ≤ 243 ∧ 243 ≤ 243 ∧ 243 ≤ 243 := ⟨by omega, by decide, by decide⟩

  refine r_aload_n C dL_law_898 rfl ?_
  refine r_aload_n C dL_law_899 rfl ?_
  refine r_iload_n C dL_law_900 rfl ?_
  refine r_iconst (v := (nI 1)) C dL_law_901 (by decide) ?_
  first | refine r_iaddN C dL_law_902 ?_ | refine r_iadd C dL_law_902 ?_
  refine r_sld C dL_law_903 hX hA rfl (by omega) (by omega) ?_
  refine r_callV C (c_keep hc) dL_law_904 cw_X10_keep cvL_130 (by omega) ok10 rfl hN rfl (Nat.le_of_ble_eq_true rfl) ?_
  rintro v R' h1 ⟨rfl, rfl, hc1, f1⟩
  have hm1 : MP h1 g := hm.fr f1
  refine r_aload_n C dL_law_907 rfl ?_
  refine r_aload_n C dL_law_908 rfl ?_
  refine r_iload_n C dL_law_909 rfl ?_
  refine r_iconst (v := (nI 1)) C dL_law_910 (by decide) ?_
  first | refine r_iaddN C dL_law_911 ?_ | refine r_iadd C dL_law_911 ?_
  refine r_sld C dL_law_912 hX hA rfl (by omega) (by omega) ?_
  refine r_callV C (m_keep hm1) dL_law_913 cw_X11_keep cvL_133 (by omega) ok11 rfl hN rfl (Nat.le_of_ble_eq_true rfl) ?_
  rintro v R' h2 ⟨rfl, rfl, hm2, f2⟩
  refine r_icmp_eq C dL_law_916 (fun _ => ?_) (fun cc => absurd cc (by exact fun z => z rfl))
  refine r_iinc (v := nI (i + 5)) C dL_law_944 rfl (inc5 i) st3 ?_
  refine r_goto C dL_law_947 ?_
  exact ih a b h2 _ ha hb hab (hc1.fs f2) hm2 (vp_keep hv)
set_option maxRecDepth 100000 in
set_option maxHeartbeats 4000000 in
theorem lwx_goBack {E : Ev} {G : Gv} {Q : State → Prop} {LL i : Nat} {xs : Nat → Int32} (C : Cx E G 9 code RL 243) (hg : gn G = 0) (hL : LL ≤ 320) (hX : va_X (E.2.2.2.2.1 63) LL xs (gs G) (gs G).heap) (hA : E.2.2.2.2.1 63 < E.2.1) (hi : i + 5 ≤ LL) (ih : Hd E G Q (i + 5)) {a b : Nat} {h : HF} {g : Gs} (ha : a < 2) (hb : b < 2) (hab : a ≠ b) (hc : CP h a g) (hm : MP h g) (hv : VP g) : Wa E G 243 (Rs a b) h Q 921 [some (aR 63 0), some (aR 10 0), some (aR 11 0), some (aI (nI i))] [] := by
  have hN : gn G ≤ 243 ∧ 243 ≤ 243 ∧ 243 ≤ 243 := ⟨by omega, by decide, by decide⟩

  refine r_aload_n C dL_law_921 rfl ?_
  refine r_aload_n C dL_law_922 rfl ?_
  refine r_iload_n C dL_law_923 rfl ?_
  refine r_iconst (v := (nI 1)) C dL_law_924 (by decide) ?_
  first | refine r_iaddN C dL_law_925 ?_ | refine r_iadd C dL_law_925 ?_
  refine r_sld C dL_law_926 hX hA rfl (by omega) (by omega) ?_
  refine r_callV C (c_goBack hc) dL_law_927 cw_X10_goBack cvL_134 (by omega) ok10 rfl hN rfl (Nat.le_of_ble_eq_true rfl) ?_
  rintro v R' h1 ⟨rfl, rfl, hc1, f1⟩
  have hm1 : MP h1 g := hm.fr f1
  refine r_aload_n C dL_law_930 rfl ?_
  refine r_aload_n C dL_law_931 rfl ?_
  refine r_iload_n C dL_law_932 rfl ?_
  refine r_iconst (v := (nI 1)) C dL_law_933 (by decide) ?_
  first | refine r_iaddN C dL_law_934 ?_ | refine r_iadd C dL_law_934 ?_
  refine r_sld C dL_law_935 hX hA rfl (by omega) (by omega) ?_
  refine r_callV C (m_goBack hm1) dL_law_936 cw_X11_goBack cvL_137 (by omega) ok11 rfl hN rfl (Nat.le_of_ble_eq_true rfl) ?_
  rintro v R' h2 ⟨rfl, rfl, hm2, f2⟩
  refine r_icmp_eq C dL_law_939 (fun _ => ?_) (fun cc => absurd cc (by exact fun z => z rfl))
  refine r_iinc (v := nI (i + 5)) C dL_law_944 rfl (inc5 i) st3 ?_
  refine r_goto C dL_law_947 ?_
  exact ih a b h2 _ ha hb hab (hc1.fs f2) hm2 (vp_back (fun i hi => (hm.2.2.2.2.1 i hi).2.1) hv)
set_option maxRecDepth 100000 in
set_option maxHeartbeats 8000000 in
theorem law_loop {E : Ev} {G : Gv} {Q : State → Prop} {LL : Nat} {xs : Nat → Int32} (C : Cx E G 9 code RL 243) (hg : gn G = 0) (hL : LL ≤ 320) (hX : va_X (E.2.2.2.2.1 63) LL xs (gs G) (gs G).heap) (hA : E.2.2.2.2.1 63 < E.2.1) (fin : ∀ R h L, Wa E G 243 R h Q 951 L [aI (nI 1)]) : ∀ k i, LL ≤ i + k → i ≤ 330 → Hd E G Q i := by
  intro k
  induction k with
  | zero =>
    intro i hk hi a b h g ha hb hab hc hm hv
    have e : (nI LL - nI 5).toInt = (LL : Int) - 5 := pk_sub_toInt (by omega) (by decide)
    refine r_iload_n C dL_law_18 rfl ?_
    refine r_aload_n C dL_law_19 rfl ?_
    refine r_slen C dL_law_20 hX hA ?_
    refine r_iconst (v := (nI 5)) C dL_law_21 (by decide) ?_
    refine r_isub C dL_law_22 ?_
    refine r_icmp_gt C dL_law_23 (fun _ => ?_) (fun cc => absurd cc (by rw [Int32.lt_iff_toInt_lt, e, nI_toInt (by omega)]; omega))
    refine r_iconst (v := (nI 1)) C dL_law_950 (by decide) ?_
    exact fin _ _ _
  | succ k ih =>
    intro i hk hi a b h g ha hb hab hc hm hv
    have e : (nI LL - nI 5).toInt = (LL : Int) - 5 := pk_sub_toInt (by omega) (by decide)
    refine r_iload_n C dL_law_18 rfl ?_
    refine r_aload_n C dL_law_19 rfl ?_
    refine r_slen C dL_law_20 hX hA ?_
    refine r_iconst (v := (nI 5)) C dL_law_21 (by decide) ?_
    refine r_isub C dL_law_22 ?_
    by_cases hle : LL < i + 5
    · refine r_icmp_gt C dL_law_23 (fun _ => ?_) (fun cc => absurd cc (by rw [Int32.lt_iff_toInt_lt, e, nI_toInt (by omega)]; omega))
      refine r_iconst (v := (nI 1)) C dL_law_950 (by decide) ?_
      exact fin _ _ _
    · refine r_icmp_gt C dL_law_23 (fun cc => absurd cc (by rw [Int32.lt_iff_toInt_lt, e, nI_toInt (by omega)]; omega)) (fun _ => ?_)
      have ih2 : Hd E G Q (i + 5) := ih (i + 5) (by omega) (by omega)
      obtain ⟨j, hj, ej⟩ := pk_andE (xs i) (m := nI 31) 5 (by decide)
      refine r_aload_n C dL_law_26 rfl ?_
      refine r_iload_n C dL_law_27 rfl ?_
      refine r_sld C dL_law_28 hX hA rfl (by omega) (by omega) ?_
      refine r_bipush (v := (nI 31)) C dL_law_29 (by decide) ?_
      refine r_iand C dL_law_31 ?_
      rw [ej]
      have hj : j < 32 := hj
      rcases (show j = 30 ∨ j = 31 ∨ j = 0 ∨ j = 1 ∨ j = 2 ∨ j = 3 ∨ j = 4 ∨ j = 5 ∨ j = 6 ∨ j = 7 ∨ j = 8 ∨ j = 9 ∨ j = 10 ∨ j = 11 ∨ j = 12 ∨ j = 13 ∨ j = 14 ∨ j = 15 ∨ j = 16 ∨ j = 17 ∨ j = 18 ∨ j = 19 ∨ j = 20 ∨ j = 21 ∨ j = 22 ∨ j = 23 ∨ j = 24 ∨ j = 25 ∨ j = 26 ∨ j = 27 ∨ j = 28 ∨ j = 29 by omega) with rfl | rfl | rfl | rfl | rfl | rfl | rfl | rfl | rfl | rfl | rfl | rfl | rfl | rfl | rfl | rfl | rfl | rfl | rfl | rfl | rfl | rfl | rfl | rfl | rfl | rfl | rfl | rfl | rfl | rfl | rfl | rfl
      · refine r_tabOut (tgt := 944) C ⟨dL_law_32, rfl, by decide⟩ (by decide) ?_
        refine r_iinc (v := nI (i + 5)) C dL_law_944 rfl (inc5 i) st3 ?_
        refine r_goto C dL_law_947 ?_
        exact ih2 a b h g ha hb hab hc hm hv
      · refine r_tabOut (tgt := 944) C ⟨dL_law_32, rfl, by decide⟩ (by decide) ?_
        refine r_iinc (v := nI (i + 5)) C dL_law_944 rfl (inc5 i) st3 ?_
        refine r_goto C dL_law_947 ?_
        exact ih2 a b h g ha hb hab hc hm hv
      · refine r_tabIn (off := 136) (tgt := 168) C ⟨dL_law_32, rfl, by decide⟩ (by decide) (by decide) (by decide) ?_
        exact lwx_feed C hg hL hX hA (by omega) ih2 ha hb hab hc hm hv
      · refine r_tabIn (off := 159) (tgt := 191) C ⟨dL_law_32, rfl, by decide⟩ (by decide) (by decide) (by decide) ?_
        exact lwx_town C hg hL hX hA (by omega) ih2 ha hb hab hc hm hv
      · refine r_tabIn (off := 172) (tgt := 204) C ⟨dL_law_32, rfl, by decide⟩ (by decide) (by decide) (by decide) ?_
        exact lwx_fault C hg hL hX hA (by omega) ih2 ha hb hab hc hm hv
      · refine r_tabIn (off := 185) (tgt := 217) C ⟨dL_law_32, rfl, by decide⟩ (by decide) (by decide) (by decide) ?_
        exact lwx_told C hg hL hX hA (by omega) ih2 ha hb hab hc hm hv
      · refine r_tabIn (off := 208) (tgt := 240) C ⟨dL_law_32, rfl, by decide⟩ (by decide) (by decide) (by decide) ?_
        exact lwx_company C hg hL hX hA (by omega) ih2 ha hb hab hc hm hv
      · refine r_tabIn (off := 241) (tgt := 273) C ⟨dL_law_32, rfl, by decide⟩ (by decide) (by decide) (by decide) ?_
        exact lwx_money C hg hL hX hA (by omega) ih2 ha hb hab hc hm hv
      · refine r_tabIn (off := 274) (tgt := 306) C ⟨dL_law_32, rfl, by decide⟩ (by decide) (by decide) (by decide) ?_
        exact lwx_day C hg hL hX hA (by omega) ih2 ha hb hab hc hm hv
      · refine r_tabIn (off := 307) (tgt := 339) C ⟨dL_law_32, rfl, by decide⟩ (by decide) (by decide) (by decide) ?_
        exact lwx_gun C hg hL hX hA (by omega) ih2 ha hb hab hc hm hv
      · refine r_tabIn (off := 320) (tgt := 352) C ⟨dL_law_32, rfl, by decide⟩ (by decide) (by decide) (by decide) ?_
        exact lwx_sally C hg hL hX hA (by omega) ih2 ha hb hab hc hm hv
      · refine r_tabIn (off := 353) (tgt := 385) C ⟨dL_law_32, rfl, by decide⟩ (by decide) (by decide) (by decide) ?_
        exact lwx_relief C hg hL hX hA (by omega) ih2 ha hb hab hc hm hv
      · refine r_tabIn (off := 392) (tgt := 424) C ⟨dL_law_32, rfl, by decide⟩ (by decide) (by decide) (by decide) ?_
        exact lwx_drift C hg hL hX hA (by omega) ih2 ha hb hab hc hm hv
      · refine r_tabIn (off := 425) (tgt := 457) C ⟨dL_law_32, rfl, by decide⟩ (by decide) (by decide) (by decide) ?_
        exact lwx_undo C hg hL hX hA (by omega) ih2 ha hb hab hc hm hv
      · refine r_tabIn (off := 438) (tgt := 470) C ⟨dL_law_32, rfl, by decide⟩ (by decide) (by decide) (by decide) ?_
        exact lwx_costs C hg hL hX hA (by omega) ih2 ha hb hab hc hm hv
      · refine r_tabIn (off := 461) (tgt := 493) C ⟨dL_law_32, rfl, by decide⟩ (by decide) (by decide) (by decide) ?_
        exact lwx_promise C hg hL hX hA (by omega) ih2 ha hb hab hc hm hv
      · refine r_tabIn (off := 494) (tgt := 526) C ⟨dL_law_32, rfl, by decide⟩ (by decide) (by decide) (by decide) ?_
        exact lwx_rations C hg hL hX hA (by omega) ih2 ha hb hab hc hm hv
      · refine r_tabIn (off := 527) (tgt := 559) C ⟨dL_law_32, rfl, by decide⟩ (by decide) (by decide) (by decide) ?_
        exact lwx_firstToDesert C hg hL hX hA (by omega) ih2 ha hb hab hc hm hv
      · refine r_tabIn (off := 550) (tgt := 582) C ⟨dL_law_32, rfl, by decide⟩ (by decide) (by decide) (by decide) ?_
        exact lwx_holds C hg hL hX hA (by omega) ih2 ha hb hab hc hm hv
      · refine r_tabIn (off := 573) (tgt := 605) C ⟨dL_law_32, rfl, by decide⟩ (by decide) (by decide) (by decide) ?_
        exact lwx_owed C hg hL hX hA (by omega) ih2 ha hb hab hc hm hv
      · refine r_tabIn (off := 606) (tgt := 638) C ⟨dL_law_32, rfl, by decide⟩ (by decide) (by decide) (by decide) ?_
        exact lwx_least C hg hL hX hA (by omega) ih2 ha hb hab hc hm hv
      · refine r_tabIn (off := 639) (tgt := 671) C ⟨dL_law_32, rfl, by decide⟩ (by decide) (by decide) (by decide) ?_
        exact lwx_bought C hg hL hX hA (by omega) ih2 ha hb hab hc hm hv
      · refine r_tabIn (off := 672) (tgt := 704) C ⟨dL_law_32, rfl, by decide⟩ (by decide) (by decide) (by decide) ?_
        exact lwx_offer C hg hL hX hA (by omega) ih2 ha hb hab hc hm hv
      · refine r_tabIn (off := 705) (tgt := 737) C ⟨dL_law_32, rfl, by decide⟩ (by decide) (by decide) (by decide) ?_
        exact lwx_show C hg hL hX hA (by omega) ih2 ha hb hab hc hm hv
      · refine r_tabIn (off := 758) (tgt := 790) C ⟨dL_law_32, rfl, by decide⟩ (by decide) (by decide) (by decide) ?_
        exact lwx_forged C hg hL hX hA (by omega) ih2 ha hb hab hc hm hv
      · refine r_tabIn (off := 771) (tgt := 803) C ⟨dL_law_32, rfl, by decide⟩ (by decide) (by decide) (by decide) ?_
        exact lwx_weighFirst C hg hL hX hA (by omega) ih2 ha hb hab hc hm hv
      · refine r_tabIn (off := 784) (tgt := 816) C ⟨dL_law_32, rfl, by decide⟩ (by decide) (by decide) (by decide) ?_
        exact lwx_write C hg hL hX hA (by omega) ih2 ha hb hab hc hm hv
      · refine r_tabIn (off := 817) (tgt := 849) C ⟨dL_law_32, rfl, by decide⟩ (by decide) (by decide) (by decide) ?_
        exact lwx_tear C hg hL hX hA (by omega) ih2 ha hb hab hc hm hv
      · refine r_tabIn (off := 830) (tgt := 862) C ⟨dL_law_32, rfl, by decide⟩ (by decide) (by decide) (by decide) ?_
        exact lwx_judge C hg hL hX hA (by omega) ih2 ha hb hab hc hm hv
      · refine r_tabIn (off := 843) (tgt := 875) C ⟨dL_law_32, rfl, by decide⟩ (by decide) (by decide) (by decide) ?_
        exact lwx_seed C hg hL hX hA (by omega) ih2 ha hb hab hc hm hv
      · refine r_tabIn (off := 866) (tgt := 898) C ⟨dL_law_32, rfl, by decide⟩ (by decide) (by decide) (by decide) ?_
        exact lwx_keep C hg hL hX hA (by omega) ih2 ha hb hab hc hm hv
      · refine r_tabIn (off := 889) (tgt := 921) C ⟨dL_law_32, rfl, by decide⟩ (by decide) (by decide) (by decide) ?_
        exact lwx_goBack C hg hL hX hA (by omega) ih2 ha hb hab hc hm hv
