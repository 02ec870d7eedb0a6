/-! the reference: places, pairs -/
section RPLACES2
variable {w z M : xM} {Q : Option xV → xM → Prop}
def pOn (W2 : Prop) [Decidable W2] (c : Prop) [Decidable c] (v : Int) : Int := if W2 ∧ c then v else -4
theorem pOn_c {W2 : Prop} [Decidable W2] {c d : Prop} [Decidable c] [Decidable d] {v : Int} (h : W2 → (c ↔ d)) : pOn W2 c v = pOn W2 d v := by
  unfold pOn
  by_cases hw : W2
  · by_cases hc : c
    · rw [if_pos ⟨hw, hc⟩, if_pos ⟨hw, (h hw).mp hc⟩]
    · rw [if_neg (fun x => hc x.2), if_neg (fun x => hc ((h hw).mpr x.2))]
  · rw [if_neg (fun x => hw x.1), if_neg (fun x => hw x.1)]
theorem pOn_y {W2 : Prop} [Decidable W2] {c : Prop} [Decidable c] {v : Int} (h : W2 ∧ c) : pOn W2 c v = v := if_pos h
theorem pOn_n {W2 : Prop} [Decidable W2] {c : Prop} [Decidable c] {v : Int} (h : ¬ (W2 ∧ c)) : pOn W2 c v = -4 := if_neg h
theorem lq_pl3 {k lo hi a : Int} {W2 : Prop} [Decidable W2] {v : Int} (hw : zW w) (hK : rK w M) (hgv : xG v) (hlh : 0 ≤ lo ∧ lo < hi ∧ hi < w 0 0) (ha : 0 ≤ a ∧ a < w 0 0) (h2 : ∀ b, a < b → b < w 0 0 → ((xon (uP (uP v a) b) 24 = xon v 24 + 2 ∧ wV w (hD M) (uP (uP v a) b) = 0) ↔ (W2 ∧ a = lo ∧ b = hi)))
    (hQ : ∀ M' v7 v8, sF M M' → (∀ i, i ≠ 6 → M' 47 i = M 47 i) → Wp 120 267 [xr 42, xi k, xi v, xi (-4), xi (pOn W2 (a ≤ lo) lo), xi (pOn W2 (a ≤ lo) hi), xi a, v7, v8] [] M' Q) :
    ∀ (n : Nat) (v8 : xV) (M1 : xM), a + 1 + n ≤ w 0 0 → sF M M1 → (∀ i, i ≠ 6 → M1 47 i = M 47 i) → Wp 120 171 [xr 42, xi k, xi v, xi (-4), xi (pOn W2 (a < lo ∨ (a = lo ∧ a + 1 + n ≤ hi)) lo), xi (pOn W2 (a < lo ∨ (a = lo ∧ a + 1 + n ≤ hi)) hi), xi a, xi (a + n), v8] [] M1 Q := by
  intro n
  have hw1 := hw.1
  have hw3 := hw.2.2.1
  induction n with
  | zero =>
    intro v8 M1 hn hF h47
    have hA := hQ M1 (xi (a + ((0 : Nat) : Int))) v8 hF h47
    have ec : (a < lo ∨ (a = lo ∧ a + 1 + ((0 : Nat) : Int) ≤ hi)) ↔ a ≤ lo := by omega
    rw [pOn_c (v := lo) (fun _ => ec), pOn_c (v := hi) (fun _ => ec)]
    simp (disch := first | assumption | decide +kernel | exact hM _ _ | exact hL _ | exact xG_b | exact xG_bt _ _ | omega) only [w120_171, w120_173, w120_175, Int.reduceAdd, xup_twice, true_implies, false_implies, not_true_eq_false, not_false_eq_true, and_true, true_and, Int.reduceEq, Int.reduceLE, Int.reduceLT, Int.reduceNeg, xb_eq0, xb_eq1, xup_ne, xup_self, xup_k, xjl_i, xjl_r, xjl_j, xjl_l, Option.toList_some, Option.toList_none, List.cons_append, List.nil_append, xr_0_0, xr_0_1, xr_0_2, xr_0_3, xr_0_4, xr_0_5, xr_0_6, xr_0_7, xr_1_0, xr_1_1, xr_4_5, xr_4_6, xr_4_7, xr_4_8, xr_8_0, xr_10_5, xr_10_6, xr_10_7, xr_10_8, xr_14_0, xr_16_0, xr_16_1, xr_16_2, xr_20_0, xr_21_0, xr_21_1, xr_22_0, xr_24_0, xr_26_0, xr_26_1, xr_26_2, xr_30_0, xr_30_1, xr_30_2, xr_30_3, xr_30_4, xr_30_5, xr_30_6, xr_30_7, xr_31_0, xr_39_0, xr_39_1, xr_39_2, xr_42_0, xr_42_2, xr_42_3, xr_42_4, xr_42_5, xr_42_6, xr_42_8, xr_42_10, xr_42_13, xr_42_14, xr_42_15, xr_42_16, xr_42_23, xr_42_24, xr_42_25]
    exact ⟨fun _ => hA, fun h => absurd h (by omega)⟩
  | succ n ih =>
    intro v8 M1 hn hF h47
    have ih1 := fun v8 M2 => ih v8 M2 (by omega)
    have en : a + ((n + 1 : Nat) : Int) = a + 1 + n := by omega
    have en1 : a + 1 + (n : Int) + -1 = a + n := by omega
    rw [en]
    generalize hb : a + 1 + (n : Int) = b at *
    have eu : xor_ (xor_ v (xshl 1 a)) (xshl 1 b) = uP (uP v a) b := rfl
    have gu : xG (uP (uP v a) b) := xG_uP
    have heq := h2 b (by omega) (by omega)
    have e47 : ∀ k, xup M1 47 6 (uP (uP v a) b) 47 k = if k = 6 then uP (uP v a) b else M 47 k := fun k => by
      rw [xup_at]
      split
      · rfl
      · exact h47 k ‹_›
    have hK2 := rK_Q hw hK (sF_47 hF) e47
    have r4 : ∀ (c : Prop) [Decidable c] (u : Int), 0 ≤ u → u < 24 → -4 ≤ pOn W2 c u ∧ pOn W2 c u < 24 := fun c _ u h1 h2 => by unfold pOn; split <;> omega
    have yes : (W2 ∧ a = lo ∧ b = hi) → ∀ (o1 o2 : Int) (M2 : xM), sF M M2 → (∀ i, i ≠ 6 → M2 47 i = M 47 i) → Wp 120 226 [xr 42, xi k, xi v, xi (-4), xi o1, xi o2, xi a, xi b, v8] [] M2 Q := fun hy o1 o2 M2 hF2 h472 => by
      have := ih1 (xi 1) M2 hF2 h472
      rw [pOn_y ⟨hy.1, by omega⟩, pOn_y ⟨hy.1, by omega⟩, ← hy.2.1, ← hy.2.2] at this
      simp (disch := first | assumption | decide +kernel | exact hM _ _ | exact hL _ | exact xG_b | exact xG_bt _ _ | omega) only [w120_226, w120_227, w120_231, w120_233, w120_235, w120_238, w120_240, w120_243, w120_245, w120_247, w120_249, w120_252, w120_254, w120_257, w120_259, w120_261, w120_264, Int.reduceAdd, xup_twice, true_implies, false_implies, not_true_eq_false, not_false_eq_true, and_true, true_and, Int.reduceEq, Int.reduceLE, Int.reduceLT, Int.reduceNeg, xb_eq0, xb_eq1, xup_ne, xup_self, xup_k, xjl_i, xjl_r, xjl_j, xjl_l, Option.toList_some, Option.toList_none, List.cons_append, List.nil_append, xr_0_0, xr_0_1, xr_0_2, xr_0_3, xr_0_4, xr_0_5, xr_0_6, xr_0_7, xr_1_0, xr_1_1, xr_4_5, xr_4_6, xr_4_7, xr_4_8, xr_8_0, xr_10_5, xr_10_6, xr_10_7, xr_10_8, xr_14_0, xr_16_0, xr_16_1, xr_16_2, xr_20_0, xr_21_0, xr_21_1, xr_22_0, xr_24_0, xr_26_0, xr_26_1, xr_26_2, xr_30_0, xr_30_1, xr_30_2, xr_30_3, xr_30_4, xr_30_5, xr_30_6, xr_30_7, xr_31_0, xr_39_0, xr_39_1, xr_39_2, xr_42_0, xr_42_2, xr_42_3, xr_42_4, xr_42_5, xr_42_6, xr_42_8, xr_42_10, xr_42_13, xr_42_14, xr_42_15, xr_42_16, xr_42_23, xr_42_24, xr_42_25, en1]
      exact this
    have no : ¬ (W2 ∧ a = lo ∧ b = hi) → ∀ (M2 : xM), sF M M2 → (∀ i, i ≠ 6 → M2 47 i = M 47 i) → Wp 120 230 [xr 42, xi k, xi v, xi (-4), xi (pOn W2 (a < lo ∨ (a = lo ∧ a + 1 + ((n + 1 : Nat) : Int) ≤ hi)) lo), xi (pOn W2 (a < lo ∨ (a = lo ∧ a + 1 + ((n + 1 : Nat) : Int) ≤ hi)) hi), xi a, xi b, v8] [] M2 Q := fun hy M2 hF2 h472 => by
      have := ih1 (xi 0) M2 hF2 h472
      have ec : W2 → ((a < lo ∨ (a = lo ∧ b ≤ hi)) ↔ (a < lo ∨ (a = lo ∧ a + 1 + ((n + 1 : Nat) : Int) ≤ hi))) := fun hW => by
        have h3 : ¬ (a = lo ∧ b = hi) := fun x => hy ⟨hW, x⟩
        omega
      rw [pOn_c (v := lo) ec, pOn_c (v := hi) ec] at this
      simp (disch := first | assumption | decide +kernel | exact hM _ _ | exact hL _ | exact xG_b | exact xG_bt _ _ | omega) only [w120_230, w120_231, w120_233, w120_235, w120_238, w120_240, w120_243, w120_245, w120_247, w120_249, w120_252, w120_254, w120_257, w120_259, w120_261, w120_264, Int.reduceAdd, xup_twice, true_implies, false_implies, not_true_eq_false, not_false_eq_true, and_true, true_and, Int.reduceEq, Int.reduceLE, Int.reduceLT, Int.reduceNeg, xb_eq0, xb_eq1, xup_ne, xup_self, xup_k, xjl_i, xjl_r, xjl_j, xjl_l, Option.toList_some, Option.toList_none, List.cons_append, List.nil_append, xr_0_0, xr_0_1, xr_0_2, xr_0_3, xr_0_4, xr_0_5, xr_0_6, xr_0_7, xr_1_0, xr_1_1, xr_4_5, xr_4_6, xr_4_7, xr_4_8, xr_8_0, xr_10_5, xr_10_6, xr_10_7, xr_10_8, xr_14_0, xr_16_0, xr_16_1, xr_16_2, xr_20_0, xr_21_0, xr_21_1, xr_22_0, xr_24_0, xr_26_0, xr_26_1, xr_26_2, xr_30_0, xr_30_1, xr_30_2, xr_30_3, xr_30_4, xr_30_5, xr_30_6, xr_30_7, xr_31_0, xr_39_0, xr_39_1, xr_39_2, xr_42_0, xr_42_2, xr_42_3, xr_42_4, xr_42_5, xr_42_6, xr_42_8, xr_42_10, xr_42_13, xr_42_14, xr_42_15, xr_42_16, xr_42_23, xr_42_24, xr_42_25, en1]
      exact this
    simp (disch := first | assumption | decide +kernel | exact hM _ _ | exact hL _ | exact xG_b | exact xG_bt _ _ | omega) only [w120_171, w120_173, w120_175, Int.reduceAdd, xup_twice, true_implies, false_implies, not_true_eq_false, not_false_eq_true, and_true, true_and, Int.reduceEq, Int.reduceLE, Int.reduceLT, Int.reduceNeg, xb_eq0, xb_eq1, xup_ne, xup_self, xup_k, xjl_i, xjl_r, xjl_j, xjl_l, Option.toList_some, Option.toList_none, List.cons_append, List.nil_append, xr_0_0, xr_0_1, xr_0_2, xr_0_3, xr_0_4, xr_0_5, xr_0_6, xr_0_7, xr_1_0, xr_1_1, xr_4_5, xr_4_6, xr_4_7, xr_4_8, xr_8_0, xr_10_5, xr_10_6, xr_10_7, xr_10_8, xr_14_0, xr_16_0, xr_16_1, xr_16_2, xr_20_0, xr_21_0, xr_21_1, xr_22_0, xr_24_0, xr_26_0, xr_26_1, xr_26_2, xr_30_0, xr_30_1, xr_30_2, xr_30_3, xr_30_4, xr_30_5, xr_30_6, xr_30_7, xr_31_0, xr_39_0, xr_39_1, xr_39_2, xr_42_0, xr_42_2, xr_42_3, xr_42_4, xr_42_5, xr_42_6, xr_42_8, xr_42_10, xr_42_13, xr_42_14, xr_42_15, xr_42_16, xr_42_23, xr_42_24, xr_42_25]
    refine ⟨fun h => absurd h (by omega), fun _ => ?_⟩
    simp (disch := first | assumption | decide +kernel | exact hM _ _ | exact hL _ | exact xG_b | exact xG_bt _ _ | omega) only [w120_178, w120_179, w120_182, w120_184, w120_185, w120_186, w120_188, w120_189, w120_190, w120_191, w120_193, w120_194, w120_195, w120_196, w120_197, Int.reduceAdd, xup_twice, true_implies, false_implies, not_true_eq_false, not_false_eq_true, and_true, true_and, Int.reduceEq, Int.reduceLE, Int.reduceLT, Int.reduceNeg, xb_eq0, xb_eq1, xup_ne, xup_self, xup_k, xjl_i, xjl_r, xjl_j, xjl_l, Option.toList_some, Option.toList_none, List.cons_append, List.nil_append, xr_0_0, xr_0_1, xr_0_2, xr_0_3, xr_0_4, xr_0_5, xr_0_6, xr_0_7, xr_1_0, xr_1_1, xr_4_5, xr_4_6, xr_4_7, xr_4_8, xr_8_0, xr_10_5, xr_10_6, xr_10_7, xr_10_8, xr_14_0, xr_16_0, xr_16_1, xr_16_2, xr_20_0, xr_21_0, xr_21_1, xr_22_0, xr_24_0, xr_26_0, xr_26_1, xr_26_2, xr_30_0, xr_30_1, xr_30_2, xr_30_3, xr_30_4, xr_30_5, xr_30_6, xr_30_7, xr_31_0, xr_39_0, xr_39_1, xr_39_2, xr_42_0, xr_42_2, xr_42_3, xr_42_4, xr_42_5, xr_42_6, xr_42_8, xr_42_10, xr_42_13, xr_42_14, xr_42_15, xr_42_16, xr_42_23, xr_42_24, xr_42_25, eu]
    refine q9_run (zW_Q hw gu) hK2 (fun M2 hR hf => ?_)
    rw [hD_Q e47] at hR
    have hF2 : sF M M2 := sF_y (sF_47 hF) hf
    have h47' : ∀ k, k ≠ 6 → M2 47 k = M 47 k := fun k hk => by rw [hf.1 47 (by omega) (by omega), e47 k, if_neg hk]
    have e6 : M2 47 6 = uP (uP v a) b := by rw [hf.1 47 (by omega) (by omega), xup_self]
    have e19 : M2 42 19 = wV w (hD M) (uP (uP v a) b) := hR.2.1
    have g19 : xG (wV w (hD M) (uP (uP v a) b)) := by
      have := (zR_V' (h := hD M) (zW_Q hw gu) (n := 60) (by omega)).2.1
      unfold wV
      constructor <;> omega
    have o1 := xon_b (uP (uP v a) b) 24 (by omega)
    have o2 := xon_b v 24 (by omega)
    simp (disch := first | assumption | decide +kernel | exact hM _ _ | exact hL _ | exact xG_b | exact xG_bt _ _ | omega) only [w120_200, w120_201, w120_204, w120_206, w120_207, Int.reduceAdd, xup_twice, true_implies, false_implies, not_true_eq_false, not_false_eq_true, and_true, true_and, Int.reduceEq, Int.reduceLE, Int.reduceLT, Int.reduceNeg, xb_eq0, xb_eq1, xup_ne, xup_self, xup_k, xjl_i, xjl_r, xjl_j, xjl_l, Option.toList_some, Option.toList_none, List.cons_append, List.nil_append, xr_0_0, xr_0_1, xr_0_2, xr_0_3, xr_0_4, xr_0_5, xr_0_6, xr_0_7, xr_1_0, xr_1_1, xr_4_5, xr_4_6, xr_4_7, xr_4_8, xr_8_0, xr_10_5, xr_10_6, xr_10_7, xr_10_8, xr_14_0, xr_16_0, xr_16_1, xr_16_2, xr_20_0, xr_21_0, xr_21_1, xr_22_0, xr_24_0, xr_26_0, xr_26_1, xr_26_2, xr_30_0, xr_30_1, xr_30_2, xr_30_3, xr_30_4, xr_30_5, xr_30_6, xr_30_7, xr_31_0, xr_39_0, xr_39_1, xr_39_2, xr_42_0, xr_42_2, xr_42_3, xr_42_4, xr_42_5, xr_42_6, xr_42_8, xr_42_10, xr_42_13, xr_42_14, xr_42_15, xr_42_16, xr_42_23, xr_42_24, xr_42_25, e6]
    refine q9_ones ?_
    simp (disch := first | assumption | decide +kernel | exact hM _ _ | exact hL _ | exact xG_b | exact xG_bt _ _ | omega) only [w120_210, w120_211, Int.reduceAdd, xup_twice, true_implies, false_implies, not_true_eq_false, not_false_eq_true, and_true, true_and, Int.reduceEq, Int.reduceLE, Int.reduceLT, Int.reduceNeg, xb_eq0, xb_eq1, xup_ne, xup_self, xup_k, xjl_i, xjl_r, xjl_j, xjl_l, Option.toList_some, Option.toList_none, List.cons_append, List.nil_append, xr_0_0, xr_0_1, xr_0_2, xr_0_3, xr_0_4, xr_0_5, xr_0_6, xr_0_7, xr_1_0, xr_1_1, xr_4_5, xr_4_6, xr_4_7, xr_4_8, xr_8_0, xr_10_5, xr_10_6, xr_10_7, xr_10_8, xr_14_0, xr_16_0, xr_16_1, xr_16_2, xr_20_0, xr_21_0, xr_21_1, xr_22_0, xr_24_0, xr_26_0, xr_26_1, xr_26_2, xr_30_0, xr_30_1, xr_30_2, xr_30_3, xr_30_4, xr_30_5, xr_30_6, xr_30_7, xr_31_0, xr_39_0, xr_39_1, xr_39_2, xr_42_0, xr_42_2, xr_42_3, xr_42_4, xr_42_5, xr_42_6, xr_42_8, xr_42_10, xr_42_13, xr_42_14, xr_42_15, xr_42_16, xr_42_23, xr_42_24, xr_42_25]
    refine q9_ones ?_
    simp (disch := first | assumption | decide +kernel | exact hM _ _ | exact hL _ | exact xG_b | exact xG_bt _ _ | omega) only [w120_214, w120_215, w120_216, Int.reduceAdd, xup_twice, true_implies, false_implies, not_true_eq_false, not_false_eq_true, and_true, true_and, Int.reduceEq, Int.reduceLE, Int.reduceLT, Int.reduceNeg, xb_eq0, xb_eq1, xup_ne, xup_self, xup_k, xjl_i, xjl_r, xjl_j, xjl_l, Option.toList_some, Option.toList_none, List.cons_append, List.nil_append, xr_0_0, xr_0_1, xr_0_2, xr_0_3, xr_0_4, xr_0_5, xr_0_6, xr_0_7, xr_1_0, xr_1_1, xr_4_5, xr_4_6, xr_4_7, xr_4_8, xr_8_0, xr_10_5, xr_10_6, xr_10_7, xr_10_8, xr_14_0, xr_16_0, xr_16_1, xr_16_2, xr_20_0, xr_21_0, xr_21_1, xr_22_0, xr_24_0, xr_26_0, xr_26_1, xr_26_2, xr_30_0, xr_30_1, xr_30_2, xr_30_3, xr_30_4, xr_30_5, xr_30_6, xr_30_7, xr_31_0, xr_39_0, xr_39_1, xr_39_2, xr_42_0, xr_42_2, xr_42_3, xr_42_4, xr_42_5, xr_42_6, xr_42_8, xr_42_10, xr_42_13, xr_42_14, xr_42_15, xr_42_16, xr_42_23, xr_42_24, xr_42_25]
    refine ⟨fun h3 => no (fun x => h3 (heq.mpr x).1) M2 hF2 h47', fun h3 => ?_⟩
    simp (disch := first | assumption | decide +kernel | exact hM _ _ | exact hL _ | exact xG_b | exact xG_bt _ _ | omega) only [w120_219, w120_220, w120_223, Int.reduceAdd, xup_twice, true_implies, false_implies, not_true_eq_false, not_false_eq_true, and_true, true_and, Int.reduceEq, Int.reduceLE, Int.reduceLT, Int.reduceNeg, xb_eq0, xb_eq1, xup_ne, xup_self, xup_k, xjl_i, xjl_r, xjl_j, xjl_l, Option.toList_some, Option.toList_none, List.cons_append, List.nil_append, xr_0_0, xr_0_1, xr_0_2, xr_0_3, xr_0_4, xr_0_5, xr_0_6, xr_0_7, xr_1_0, xr_1_1, xr_4_5, xr_4_6, xr_4_7, xr_4_8, xr_8_0, xr_10_5, xr_10_6, xr_10_7, xr_10_8, xr_14_0, xr_16_0, xr_16_1, xr_16_2, xr_20_0, xr_21_0, xr_21_1, xr_22_0, xr_24_0, xr_26_0, xr_26_1, xr_26_2, xr_30_0, xr_30_1, xr_30_2, xr_30_3, xr_30_4, xr_30_5, xr_30_6, xr_30_7, xr_31_0, xr_39_0, xr_39_1, xr_39_2, xr_42_0, xr_42_2, xr_42_3, xr_42_4, xr_42_5, xr_42_6, xr_42_8, xr_42_10, xr_42_13, xr_42_14, xr_42_15, xr_42_16, xr_42_23, xr_42_24, xr_42_25, e19]
    exact ⟨fun h4 => no (fun x => h4 (heq.mpr x).2) M2 hF2 h47', fun h4 => yes (heq.mp ⟨Classical.not_not.mp h3, Classical.not_not.mp h4⟩) _ _ M2 hF2 h47'⟩
theorem lq_pl2 {k lo hi : Int} {W2 : Prop} [Decidable W2] {v : Int} (hw : zW w) (hK : rK w M) (hgv : xG v) (hlh : 0 ≤ lo ∧ lo < hi ∧ hi < w 0 0) (h2 : ∀ a b, 0 ≤ a → a < b → b < w 0 0 → ((xon (uP (uP v a) b) 24 = xon v 24 + 2 ∧ wV w (hD M) (uP (uP v a) b) = 0) ↔ (W2 ∧ a = lo ∧ b = hi)))
    (hQ : ∀ M' v6 v7 v8, sF M M' → (∀ i, i ≠ 6 → M' 47 i = M 47 i) → Wp 120 273 [xr 42, xi k, xi v, xi (-4), xi (if W2 then lo else -4), xi (if W2 then hi else -4), v6, v7, v8] [] M' Q) :
    ∀ (n : Nat) (v7 v8 : xV) (M1 : xM), (n : Int) ≤ w 0 0 → sF M M1 → (∀ i, i ≠ 6 → M1 47 i = M 47 i) → Wp 120 147 [xr 42, xi k, xi v, xi (-4), xi (pOn W2 ((n : Int) ≤ lo) lo), xi (pOn W2 ((n : Int) ≤ lo) hi), xi ((n : Int) - 1), v7, v8] [] M1 Q := by
  intro n
  have hw1 := hw.1
  have hw3 := hw.2.2.1
  induction n with
  | zero =>
    intro v7 v8 M1 hn hF h47
    have hA := hQ M1 (xi (((0 : Nat) : Int) - 1)) v7 v8 hF h47
    have ec : ∀ u, pOn W2 (((0 : Nat) : Int) ≤ lo) u = if W2 then u else -4 := fun u => by
      by_cases h : W2
      · rw [if_pos h, pOn_y ⟨h, by omega⟩]
      · rw [if_neg h, pOn_n (fun x => h x.1)]
    rw [ec, ec]
    simp (disch := first | assumption | decide +kernel | exact hM _ _ | exact hL _ | exact xG_b | exact xG_bt _ _ | omega) only [w120_147, w120_149, Int.reduceAdd, xup_twice, true_implies, false_implies, not_true_eq_false, not_false_eq_true, and_true, true_and, Int.reduceEq, Int.reduceLE, Int.reduceLT, Int.reduceNeg, xb_eq0, xb_eq1, xup_ne, xup_self, xup_k, xjl_i, xjl_r, xjl_j, xjl_l, Option.toList_some, Option.toList_none, List.cons_append, List.nil_append, xr_0_0, xr_0_1, xr_0_2, xr_0_3, xr_0_4, xr_0_5, xr_0_6, xr_0_7, xr_1_0, xr_1_1, xr_4_5, xr_4_6, xr_4_7, xr_4_8, xr_8_0, xr_10_5, xr_10_6, xr_10_7, xr_10_8, xr_14_0, xr_16_0, xr_16_1, xr_16_2, xr_20_0, xr_21_0, xr_21_1, xr_22_0, xr_24_0, xr_26_0, xr_26_1, xr_26_2, xr_30_0, xr_30_1, xr_30_2, xr_30_3, xr_30_4, xr_30_5, xr_30_6, xr_30_7, xr_31_0, xr_39_0, xr_39_1, xr_39_2, xr_42_0, xr_42_2, xr_42_3, xr_42_4, xr_42_5, xr_42_6, xr_42_8, xr_42_10, xr_42_13, xr_42_14, xr_42_15, xr_42_16, xr_42_23, xr_42_24, xr_42_25]
    exact ⟨fun _ => hA, fun h => absurd h (by omega)⟩
  | succ n ih =>
    intro v7 v8 M1 hn hF h47
    have e : ((n + 1 : Nat) : Int) - 1 = (n : Int) := by omega
    have en1 : (n : Int) + -1 = (n : Int) - 1 := by omega
    have l0 : M1 44 0 = w 0 0 := by rw [hF.1 44 (by omega) (by omega) (by omega)]; exact hK.1.1
    rw [e]
    have ih1 := fun v7 v8 M2 => ih v7 v8 M2 (by omega)
    simp (disch := first | assumption | decide +kernel | exact hM _ _ | exact hL _ | exact xG_b | exact xG_bt _ _ | omega) only [w120_147, w120_149, Int.reduceAdd, xup_twice, true_implies, false_implies, not_true_eq_false, not_false_eq_true, and_true, true_and, Int.reduceEq, Int.reduceLE, Int.reduceLT, Int.reduceNeg, xb_eq0, xb_eq1, xup_ne, xup_self, xup_k, xjl_i, xjl_r, xjl_j, xjl_l, Option.toList_some, Option.toList_none, List.cons_append, List.nil_append, xr_0_0, xr_0_1, xr_0_2, xr_0_3, xr_0_4, xr_0_5, xr_0_6, xr_0_7, xr_1_0, xr_1_1, xr_4_5, xr_4_6, xr_4_7, xr_4_8, xr_8_0, xr_10_5, xr_10_6, xr_10_7, xr_10_8, xr_14_0, xr_16_0, xr_16_1, xr_16_2, xr_20_0, xr_21_0, xr_21_1, xr_22_0, xr_24_0, xr_26_0, xr_26_1, xr_26_2, xr_30_0, xr_30_1, xr_30_2, xr_30_3, xr_30_4, xr_30_5, xr_30_6, xr_30_7, xr_31_0, xr_39_0, xr_39_1, xr_39_2, xr_42_0, xr_42_2, xr_42_3, xr_42_4, xr_42_5, xr_42_6, xr_42_8, xr_42_10, xr_42_13, xr_42_14, xr_42_15, xr_42_16, xr_42_23, xr_42_24, xr_42_25]
    refine ⟨fun h => absurd h (by omega), fun _ => ?_⟩
    simp (disch := first | assumption | decide +kernel | exact hM _ _ | exact hL _ | exact xG_b | exact xG_bt _ _ | omega) only [w120_152, w120_153, w120_156, w120_157, w120_158, w120_161, w120_162, w120_165, w120_166, w120_167, w120_168, w120_169, Int.reduceAdd, xup_twice, true_implies, false_implies, not_true_eq_false, not_false_eq_true, and_true, true_and, Int.reduceEq, Int.reduceLE, Int.reduceLT, Int.reduceNeg, xb_eq0, xb_eq1, xup_ne, xup_self, xup_k, xjl_i, xjl_r, xjl_j, xjl_l, Option.toList_some, Option.toList_none, List.cons_append, List.nil_append, xr_0_0, xr_0_1, xr_0_2, xr_0_3, xr_0_4, xr_0_5, xr_0_6, xr_0_7, xr_1_0, xr_1_1, xr_4_5, xr_4_6, xr_4_7, xr_4_8, xr_8_0, xr_10_5, xr_10_6, xr_10_7, xr_10_8, xr_14_0, xr_16_0, xr_16_1, xr_16_2, xr_20_0, xr_21_0, xr_21_1, xr_22_0, xr_24_0, xr_26_0, xr_26_1, xr_26_2, xr_30_0, xr_30_1, xr_30_2, xr_30_3, xr_30_4, xr_30_5, xr_30_6, xr_30_7, xr_31_0, xr_39_0, xr_39_1, xr_39_2, xr_42_0, xr_42_2, xr_42_3, xr_42_4, xr_42_5, xr_42_6, xr_42_8, xr_42_10, xr_42_13, xr_42_14, xr_42_15, xr_42_16, xr_42_23, xr_42_24, xr_42_25, l0]
    obtain ⟨j, hj⟩ : ∃ j : Nat, w 0 0 - 1 = (n : Int) + j := ⟨(w 0 0 - 1 - n).toNat, by omega⟩
    have ec1 : ((n : Int) < lo ∨ ((n : Int) = lo ∧ (n : Int) + 1 + (j : Int) ≤ hi)) ↔ ((n + 1 : Nat) : Int) ≤ lo := by omega
    rw [hj, ← pOn_c (v := lo) (fun _ => ec1), ← pOn_c (v := hi) (fun _ => ec1)]
    refine lq_pl3 (M := M) hw hK hgv hlh (by omega) (fun b c d => h2 n b (by omega) c d) (fun M2 v7 v8 hF2 h472 => ?_) j v8 M1 (by omega) hF h47
    simp (disch := first | assumption | decide +kernel | exact hM _ _ | exact hL _ | exact xG_b | exact xG_bt _ _ | omega) only [w120_267, w120_270, Int.reduceAdd, xup_twice, true_implies, false_implies, not_true_eq_false, not_false_eq_true, and_true, true_and, Int.reduceEq, Int.reduceLE, Int.reduceLT, Int.reduceNeg, xb_eq0, xb_eq1, xup_ne, xup_self, xup_k, xjl_i, xjl_r, xjl_j, xjl_l, Option.toList_some, Option.toList_none, List.cons_append, List.nil_append, xr_0_0, xr_0_1, xr_0_2, xr_0_3, xr_0_4, xr_0_5, xr_0_6, xr_0_7, xr_1_0, xr_1_1, xr_4_5, xr_4_6, xr_4_7, xr_4_8, xr_8_0, xr_10_5, xr_10_6, xr_10_7, xr_10_8, xr_14_0, xr_16_0, xr_16_1, xr_16_2, xr_20_0, xr_21_0, xr_21_1, xr_22_0, xr_24_0, xr_26_0, xr_26_1, xr_26_2, xr_30_0, xr_30_1, xr_30_2, xr_30_3, xr_30_4, xr_30_5, xr_30_6, xr_30_7, xr_31_0, xr_39_0, xr_39_1, xr_39_2, xr_42_0, xr_42_2, xr_42_3, xr_42_4, xr_42_5, xr_42_6, xr_42_8, xr_42_10, xr_42_13, xr_42_14, xr_42_15, xr_42_16, xr_42_23, xr_42_24, xr_42_25, en1]
    exact ih1 _ _ M2 hF2 h472
theorem xkO_1 : ∀ f : Nat, f < 24 → xkO (xor_ 0 (xshl 1 f)) 24 0 1 = f ∧ xkO (xor_ 0 (xshl 1 f)) 24 0 2 = -4 ∧ xbc (xor_ 0 (xshl 1 f)) = 1 ∧ ¬ xor_ 0 (xshl 1 f) = -4 := by decide +kernel
theorem xkO_2 : ∀ f : Nat, f < 24 → ∀ g : Nat, g < 24 → f ≠ g → xkO (xor_ (xor_ 0 (xshl 1 f)) (xshl 1 g)) 24 0 1 = (if f < g then (f : Int) else g) ∧ xkO (xor_ (xor_ 0 (xshl 1 f)) (xshl 1 g)) 24 0 2 = (if f < g then (g : Int) else f) ∧ xbc (xor_ (xor_ 0 (xshl 1 f)) (xshl 1 g)) = 2 ∧ ¬ xor_ (xor_ 0 (xshl 1 f)) (xshl 1 g) = -4 := by decide +kernel
theorem xkO_0 : xkO 0 24 0 1 = -4 ∧ xkO 0 24 0 2 = -4 ∧ xbc 0 = 0 := by decide +kernel
end RPLACES2
