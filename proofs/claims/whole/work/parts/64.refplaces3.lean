/-! the reference: places, all of it -/
section RPLACES3
variable {w z M : xM} {Q : Option xV → xM → Prop}
theorem w_plEnd {k v found one two : Int} {v6 v7 v8 : xV} {M1 : xM} (hk : 0 ≤ k ∧ k ≤ 2) (g3 : -4 ≤ found ∧ found ≤ 2) (g5 : -4 ≤ two ∧ two ≤ 100) (hQ : Q (some (xi (if k = 0 then (if two = -4 then found else 2) else if k = 1 then one else two))) (xup M1 47 6 v)) : Wp 120 273 [xr 42, xi k, xi v, xi found, xi one, xi two, v6, v7, v8] [] M1 Q := by
  have key : ∀ f, f = (if two = -4 then found else 2) → Wp 120 286 [xr 42, xi k, xi v, xi f, xi one, xi two, v6, v7, v8] [] M1 Q := fun f hf => by
    rw [← hf] at hQ
    rcases (show k = 0 ∨ k = 1 ∨ k = 2 by omega) with rfl | rfl | rfl
    · simp (disch := first | assumption | decide +kernel | exact hM _ _ | exact hL _ | exact xG_b | exact xG_bt _ _ | omega) only [w120_286, w120_287, w120_290, w120_292, w120_293, w120_294, w120_295, w120_298, w120_299, w120_302, w120_303, w120_304, w120_307, w120_309, w120_312, w120_314, Int.reduceAdd, xup_twice, true_implies, false_implies, not_true_eq_false, not_false_eq_true, and_true, true_and, Int.reduceEq, Int.reduceLE, Int.reduceLT, Int.reduceNeg, xb_eq0, xb_eq1, xup_ne, xup_self, xup_k, xjl_i, xjl_r, xjl_j, xjl_l, Option.toList_some, Option.toList_none, List.cons_append, List.nil_append, xr_0_0, xr_0_1, xr_0_2, xr_0_3, xr_0_4, xr_0_5, xr_0_6, xr_0_7, xr_1_0, xr_1_1, xr_4_5, xr_4_6, xr_4_7, xr_4_8, xr_8_0, xr_10_5, xr_10_6, xr_10_7, xr_10_8, xr_14_0, xr_16_0, xr_16_1, xr_16_2, xr_20_0, xr_21_0, xr_21_1, xr_22_0, xr_24_0, xr_26_0, xr_26_1, xr_26_2, xr_30_0, xr_30_1, xr_30_2, xr_30_3, xr_30_4, xr_30_5, xr_30_6, xr_30_7, xr_31_0, xr_39_0, xr_39_1, xr_39_2, xr_42_0, xr_42_2, xr_42_3, xr_42_4, xr_42_5, xr_42_6, xr_42_8, xr_42_10, xr_42_13, xr_42_14, xr_42_15, xr_42_16, xr_42_23, xr_42_24, xr_42_25]
      exact hQ
    · simp (disch := first | assumption | decide +kernel | exact hM _ _ | exact hL _ | exact xG_b | exact xG_bt _ _ | omega) only [w120_286, w120_287, w120_290, w120_292, w120_293, w120_294, w120_295, w120_298, w120_299, w120_302, w120_303, w120_304, w120_307, w120_309, w120_312, w120_314, Int.reduceAdd, xup_twice, true_implies, false_implies, not_true_eq_false, not_false_eq_true, and_true, true_and, Int.reduceEq, Int.reduceLE, Int.reduceLT, Int.reduceNeg, xb_eq0, xb_eq1, xup_ne, xup_self, xup_k, xjl_i, xjl_r, xjl_j, xjl_l, Option.toList_some, Option.toList_none, List.cons_append, List.nil_append, xr_0_0, xr_0_1, xr_0_2, xr_0_3, xr_0_4, xr_0_5, xr_0_6, xr_0_7, xr_1_0, xr_1_1, xr_4_5, xr_4_6, xr_4_7, xr_4_8, xr_8_0, xr_10_5, xr_10_6, xr_10_7, xr_10_8, xr_14_0, xr_16_0, xr_16_1, xr_16_2, xr_20_0, xr_21_0, xr_21_1, xr_22_0, xr_24_0, xr_26_0, xr_26_1, xr_26_2, xr_30_0, xr_30_1, xr_30_2, xr_30_3, xr_30_4, xr_30_5, xr_30_6, xr_30_7, xr_31_0, xr_39_0, xr_39_1, xr_39_2, xr_42_0, xr_42_2, xr_42_3, xr_42_4, xr_42_5, xr_42_6, xr_42_8, xr_42_10, xr_42_13, xr_42_14, xr_42_15, xr_42_16, xr_42_23, xr_42_24, xr_42_25]
      exact hQ
    · simp (disch := first | assumption | decide +kernel | exact hM _ _ | exact hL _ | exact xG_b | exact xG_bt _ _ | omega) only [w120_286, w120_287, w120_290, w120_292, w120_293, w120_294, w120_295, w120_298, w120_299, w120_302, w120_303, w120_304, w120_307, w120_309, w120_312, w120_314, Int.reduceAdd, xup_twice, true_implies, false_implies, not_true_eq_false, not_false_eq_true, and_true, true_and, Int.reduceEq, Int.reduceLE, Int.reduceLT, Int.reduceNeg, xb_eq0, xb_eq1, xup_ne, xup_self, xup_k, xjl_i, xjl_r, xjl_j, xjl_l, Option.toList_some, Option.toList_none, List.cons_append, List.nil_append, xr_0_0, xr_0_1, xr_0_2, xr_0_3, xr_0_4, xr_0_5, xr_0_6, xr_0_7, xr_1_0, xr_1_1, xr_4_5, xr_4_6, xr_4_7, xr_4_8, xr_8_0, xr_10_5, xr_10_6, xr_10_7, xr_10_8, xr_14_0, xr_16_0, xr_16_1, xr_16_2, xr_20_0, xr_21_0, xr_21_1, xr_22_0, xr_24_0, xr_26_0, xr_26_1, xr_26_2, xr_30_0, xr_30_1, xr_30_2, xr_30_3, xr_30_4, xr_30_5, xr_30_6, xr_30_7, xr_31_0, xr_39_0, xr_39_1, xr_39_2, xr_42_0, xr_42_2, xr_42_3, xr_42_4, xr_42_5, xr_42_6, xr_42_8, xr_42_10, xr_42_13, xr_42_14, xr_42_15, xr_42_16, xr_42_23, xr_42_24, xr_42_25]
      exact hQ
  simp (disch := first | assumption | decide +kernel | exact hM _ _ | exact hL _ | exact xG_b | exact xG_bt _ _ | omega) only [w120_273, w120_275, w120_277, Int.reduceAdd, xup_twice, true_implies, false_implies, not_true_eq_false, not_false_eq_true, and_true, true_and, Int.reduceEq, Int.reduceLE, Int.reduceLT, Int.reduceNeg, xb_eq0, xb_eq1, xup_ne, xup_self, xup_k, xjl_i, xjl_r, xjl_j, xjl_l, Option.toList_some, Option.toList_none, List.cons_append, List.nil_append, xr_0_0, xr_0_1, xr_0_2, xr_0_3, xr_0_4, xr_0_5, xr_0_6, xr_0_7, xr_1_0, xr_1_1, xr_4_5, xr_4_6, xr_4_7, xr_4_8, xr_8_0, xr_10_5, xr_10_6, xr_10_7, xr_10_8, xr_14_0, xr_16_0, xr_16_1, xr_16_2, xr_20_0, xr_21_0, xr_21_1, xr_22_0, xr_24_0, xr_26_0, xr_26_1, xr_26_2, xr_30_0, xr_30_1, xr_30_2, xr_30_3, xr_30_4, xr_30_5, xr_30_6, xr_30_7, xr_31_0, xr_39_0, xr_39_1, xr_39_2, xr_42_0, xr_42_2, xr_42_3, xr_42_4, xr_42_5, xr_42_6, xr_42_8, xr_42_10, xr_42_13, xr_42_14, xr_42_15, xr_42_16, xr_42_23, xr_42_24, xr_42_25]
  refine ⟨fun h => ?_, fun h => ?_⟩
  · simp (disch := first | assumption | decide +kernel | exact hM _ _ | exact hL _ | exact xG_b | exact xG_bt _ _ | omega) only [w120_284, w120_285, Int.reduceAdd, xup_twice, true_implies, false_implies, not_true_eq_false, not_false_eq_true, and_true, true_and, Int.reduceEq, Int.reduceLE, Int.reduceLT, Int.reduceNeg, xb_eq0, xb_eq1, xup_ne, xup_self, xup_k, xjl_i, xjl_r, xjl_j, xjl_l, Option.toList_some, Option.toList_none, List.cons_append, List.nil_append, xr_0_0, xr_0_1, xr_0_2, xr_0_3, xr_0_4, xr_0_5, xr_0_6, xr_0_7, xr_1_0, xr_1_1, xr_4_5, xr_4_6, xr_4_7, xr_4_8, xr_8_0, xr_10_5, xr_10_6, xr_10_7, xr_10_8, xr_14_0, xr_16_0, xr_16_1, xr_16_2, xr_20_0, xr_21_0, xr_21_1, xr_22_0, xr_24_0, xr_26_0, xr_26_1, xr_26_2, xr_30_0, xr_30_1, xr_30_2, xr_30_3, xr_30_4, xr_30_5, xr_30_6, xr_30_7, xr_31_0, xr_39_0, xr_39_1, xr_39_2, xr_42_0, xr_42_2, xr_42_3, xr_42_4, xr_42_5, xr_42_6, xr_42_8, xr_42_10, xr_42_13, xr_42_14, xr_42_15, xr_42_16, xr_42_23, xr_42_24, xr_42_25]
    exact key _ (by rw [if_pos h])
  · simp (disch := first | assumption | decide +kernel | exact hM _ _ | exact hL _ | exact xG_b | exact xG_bt _ _ | omega) only [w120_280, w120_281, w120_285, Int.reduceAdd, xup_twice, true_implies, false_implies, not_true_eq_false, not_false_eq_true, and_true, true_and, Int.reduceEq, Int.reduceLE, Int.reduceLT, Int.reduceNeg, xb_eq0, xb_eq1, xup_ne, xup_self, xup_k, xjl_i, xjl_r, xjl_j, xjl_l, Option.toList_some, Option.toList_none, List.cons_append, List.nil_append, xr_0_0, xr_0_1, xr_0_2, xr_0_3, xr_0_4, xr_0_5, xr_0_6, xr_0_7, xr_1_0, xr_1_1, xr_4_5, xr_4_6, xr_4_7, xr_4_8, xr_8_0, xr_10_5, xr_10_6, xr_10_7, xr_10_8, xr_14_0, xr_16_0, xr_16_1, xr_16_2, xr_20_0, xr_21_0, xr_21_1, xr_22_0, xr_24_0, xr_26_0, xr_26_1, xr_26_2, xr_30_0, xr_30_1, xr_30_2, xr_30_3, xr_30_4, xr_30_5, xr_30_6, xr_30_7, xr_31_0, xr_39_0, xr_39_1, xr_39_2, xr_42_0, xr_42_2, xr_42_3, xr_42_4, xr_42_5, xr_42_6, xr_42_8, xr_42_10, xr_42_13, xr_42_14, xr_42_15, xr_42_16, xr_42_23, xr_42_24, xr_42_25]
    exact key _ (by rw [if_neg h])
theorem xor_0 {v : Int} (hv : xG v) : xor_ v 0 = v := by
  refine xt_extG (xG_or _ _) hv (fun k _ => ?_)
  rw [xt_or, xt_0, Bool.or_false]
theorem xor_b1 {v f : Int} : xor_ v (xor_ 0 (xshl 1 f)) = uP v f := by
  unfold uP
  refine xt_extG (xG_or _ _) (xG_or _ _) (fun k _ => ?_)
  rw [xt_or, xt_or, xt_or, xt_0, Bool.false_or]
theorem xor_b2 {v f g : Int} : xor_ v (xor_ (xor_ 0 (xshl 1 f)) (xshl 1 g)) = uP (uP v f) g := by
  unfold uP
  refine xt_extG (xG_or _ _) (xG_or _ _) (fun k _ => ?_)
  rw [xt_or, xt_or, xt_or, xt_or, xt_or, xt_0, Bool.false_or, Bool.or_assoc]
theorem pFew_3 {h : Int → Int → Int} (hv : xG (w 0 3)) : pFew w h 3 0 = if wV w h (w 0 3) = 0 then 0 else if wV w h (uP (w 0 3) (fV w h (w 0 3))) = 0 then xor_ 0 (xshl 1 (fV w h (w 0 3))) else if wV w h (uP (uP (w 0 3) (fV w h (w 0 3))) (fV w h (uP (w 0 3) (fV w h (w 0 3))))) = 0 then xor_ (xor_ 0 (xshl 1 (fV w h (w 0 3)))) (xshl 1 (fV w h (uP (w 0 3) (fV w h (w 0 3))))) else -4 := by
  have e0 : pWaits w h 0 = wV w h (w 0 3) := by
    show zR (wP w 0) h 60 6 0 = _
    unfold wP
    rw [xor_0 hv]; rfl
  have f0 : pFull w h 0 = fV w h (w 0 3) := by
    show zR (wP w 0) h 60 6 1 = _
    unfold wP
    rw [xor_0 hv]; rfl
  have e1 : ∀ f, pWaits w h (xor_ 0 (xshl 1 f)) = wV w h (uP (w 0 3) f) := fun f => by
    show zR (wP w _) h 60 6 0 = _
    unfold wP
    rw [xor_b1]; rfl
  have f1 : ∀ f, pFull w h (xor_ 0 (xshl 1 f)) = fV w h (uP (w 0 3) f) := fun f => by
    show zR (wP w _) h 60 6 1 = _
    unfold wP
    rw [xor_b1]; rfl
  have e2 : ∀ f g, pWaits w h (xor_ (xor_ 0 (xshl 1 f)) (xshl 1 g)) = wV w h (uP (uP (w 0 3) f) g) := fun f g => by
    show zR (wP w _) h 60 6 0 = _
    unfold wP
    rw [xor_b2]; rfl
  simp only [pFew]
  rw [e0, f0, e1, f1, e2]
theorem q9_places {k : Int} (hk : xG k) (hw : zW w) (hK : rK w M) (hQ : ∀ M', gF M M' → Q (some (xi (aPlaces w (hD M) k))) M') : Wc 120 [xr 42, xi k] M Q := by
  have hw1 := hw.1
  have l0 := hK.1.1
  have hv : xG (w 0 3) := hw.2.2.2.2.2.1
  simp (disch := first | assumption | decide +kernel | exact hM _ _ | exact hL _ | exact xG_b | exact xG_bt _ _ | omega) only [w120_0, w120_1, w120_2, w120_3, wc120, Int.reduceAdd, xup_twice, true_implies, false_implies, not_true_eq_false, not_false_eq_true, and_true, true_and, Int.reduceEq, Int.reduceLE, Int.reduceLT, Int.reduceNeg, xb_eq0, xb_eq1, xup_ne, xup_self, xup_k, xjl_i, xjl_r, xjl_j, xjl_l, Option.toList_some, Option.toList_none, List.cons_append, List.nil_append, xr_0_0, xr_0_1, xr_0_2, xr_0_3, xr_0_4, xr_0_5, xr_0_6, xr_0_7, xr_1_0, xr_1_1, xr_4_5, xr_4_6, xr_4_7, xr_4_8, xr_8_0, xr_10_5, xr_10_6, xr_10_7, xr_10_8, xr_14_0, xr_16_0, xr_16_1, xr_16_2, xr_20_0, xr_21_0, xr_21_1, xr_22_0, xr_24_0, xr_26_0, xr_26_1, xr_26_2, xr_30_0, xr_30_1, xr_30_2, xr_30_3, xr_30_4, xr_30_5, xr_30_6, xr_30_7, xr_31_0, xr_39_0, xr_39_1, xr_39_2, xr_42_0, xr_42_2, xr_42_3, xr_42_4, xr_42_5, xr_42_6, xr_42_8, xr_42_10, xr_42_13, xr_42_14, xr_42_15, xr_42_16, xr_42_23, xr_42_24, xr_42_25, q9_in]
  by_cases hk2 : 0 ≤ k ∧ k ≤ 2
  · rw [if_pos hk2]
    have e6 : M 47 6 = w 0 3 := hK.2.1.2
    have hend : ∀ M1 : xM, sF M M1 → (∀ i, i ≠ 6 → M1 47 i = M 47 i) → Q (some (xi (aPlaces w (hD M) k))) (xup M1 47 6 (w 0 3)) := fun M1 hF h47 => hQ _ (gF_s (sF_47 hF) (by
      funext i
      rw [xup_at]
      by_cases e : i = 6
      · rw [if_pos e, e]; exact e6.symm
      · rw [if_neg e]; exact h47 i e))
    unfold aPlaces at hend
    rw [if_pos hk2, pFew_3 hv] at hend
    simp (disch := first | assumption | decide +kernel | exact hM _ _ | exact hL _ | exact xG_b | exact xG_bt _ _ | omega) only [w120_6, w120_11, w120_12, w120_15, w120_17, w120_18, w120_19, w120_20, Int.reduceAdd, xup_twice, true_implies, false_implies, not_true_eq_false, not_false_eq_true, and_true, true_and, Int.reduceEq, Int.reduceLE, Int.reduceLT, Int.reduceNeg, xb_eq0, xb_eq1, xup_ne, xup_self, xup_k, xjl_i, xjl_r, xjl_j, xjl_l, Option.toList_some, Option.toList_none, List.cons_append, List.nil_append, xr_0_0, xr_0_1, xr_0_2, xr_0_3, xr_0_4, xr_0_5, xr_0_6, xr_0_7, xr_1_0, xr_1_1, xr_4_5, xr_4_6, xr_4_7, xr_4_8, xr_8_0, xr_10_5, xr_10_6, xr_10_7, xr_10_8, xr_14_0, xr_16_0, xr_16_1, xr_16_2, xr_20_0, xr_21_0, xr_21_1, xr_22_0, xr_24_0, xr_26_0, xr_26_1, xr_26_2, xr_30_0, xr_30_1, xr_30_2, xr_30_3, xr_30_4, xr_30_5, xr_30_6, xr_30_7, xr_31_0, xr_39_0, xr_39_1, xr_39_2, xr_42_0, xr_42_2, xr_42_3, xr_42_4, xr_42_5, xr_42_6, xr_42_8, xr_42_10, xr_42_13, xr_42_14, xr_42_15, xr_42_16, xr_42_23, xr_42_24, xr_42_25, e6]
    refine q9_run hw hK (fun M1 hR hf => ?_)
    have hF1 : sF M M1 := sF_y sF_rf hf
    have h471 : ∀ i, i ≠ 6 → M1 47 i = M 47 i := fun i _ => by rw [hf.1 47 (by omega) (by omega)]
    have e19 : M1 42 19 = wV w (hD M) (w 0 3) := by rw [hR.2.1]; unfold wV; rw [wQ_w]
    have l01 : M1 44 0 = w 0 0 := by rw [hf.1 44 (by omega) (by omega)]; exact l0
    have g19 : xG (wV w (hD M) (w 0 3)) := by
      have := (zR_V' (h := hD M) (zW_Q hw hv) (n := 60) (by omega)).2.1
      unfold wV
      constructor <;> omega
    have hF1r := fV_rng (h := hD M) (v := w 0 3) hw hv
    have hF2r := fV_rng (h := hD M) (v := uP (w 0 3) (fV w (hD M) (w 0 3))) hw xG_uP
    simp (disch := first | assumption | decide +kernel | exact hM _ _ | exact hL _ | exact xG_b | exact xG_bt _ _ | omega) only [w120_23, w120_24, w120_27, Int.reduceAdd, xup_twice, true_implies, false_implies, not_true_eq_false, not_false_eq_true, and_true, true_and, Int.reduceEq, Int.reduceLE, Int.reduceLT, Int.reduceNeg, xb_eq0, xb_eq1, xup_ne, xup_self, xup_k, xjl_i, xjl_r, xjl_j, xjl_l, Option.toList_some, Option.toList_none, List.cons_append, List.nil_append, xr_0_0, xr_0_1, xr_0_2, xr_0_3, xr_0_4, xr_0_5, xr_0_6, xr_0_7, xr_1_0, xr_1_1, xr_4_5, xr_4_6, xr_4_7, xr_4_8, xr_8_0, xr_10_5, xr_10_6, xr_10_7, xr_10_8, xr_14_0, xr_16_0, xr_16_1, xr_16_2, xr_20_0, xr_21_0, xr_21_1, xr_22_0, xr_24_0, xr_26_0, xr_26_1, xr_26_2, xr_30_0, xr_30_1, xr_30_2, xr_30_3, xr_30_4, xr_30_5, xr_30_6, xr_30_7, xr_31_0, xr_39_0, xr_39_1, xr_39_2, xr_42_0, xr_42_2, xr_42_3, xr_42_4, xr_42_5, xr_42_6, xr_42_8, xr_42_10, xr_42_13, xr_42_14, xr_42_15, xr_42_16, xr_42_23, xr_42_24, xr_42_25, e19]
    refine ⟨fun h0 => ?_, fun h0 => ?_⟩
    rotate_left
    · have h0' := Classical.not_not.mp h0
      rw [if_pos h0'] at hend
      simp (disch := first | assumption | decide +kernel | exact hM _ _ | exact hL _ | exact xG_b | exact xG_bt _ _ | omega) only [w120_30, w120_31, w120_36, w120_37, w120_39, w120_41, w120_43, w120_45, w120_46, w120_49, w120_50, w120_51, w120_52, w120_53, w120_55, w120_57, Int.reduceAdd, xup_twice, true_implies, false_implies, not_true_eq_false, not_false_eq_true, and_true, true_and, Int.reduceEq, Int.reduceLE, Int.reduceLT, Int.reduceNeg, xb_eq0, xb_eq1, xup_ne, xup_self, xup_k, xjl_i, xjl_r, xjl_j, xjl_l, Option.toList_some, Option.toList_none, List.cons_append, List.nil_append, xr_0_0, xr_0_1, xr_0_2, xr_0_3, xr_0_4, xr_0_5, xr_0_6, xr_0_7, xr_1_0, xr_1_1, xr_4_5, xr_4_6, xr_4_7, xr_4_8, xr_8_0, xr_10_5, xr_10_6, xr_10_7, xr_10_8, xr_14_0, xr_16_0, xr_16_1, xr_16_2, xr_20_0, xr_21_0, xr_21_1, xr_22_0, xr_24_0, xr_26_0, xr_26_1, xr_26_2, xr_30_0, xr_30_1, xr_30_2, xr_30_3, xr_30_4, xr_30_5, xr_30_6, xr_30_7, xr_31_0, xr_39_0, xr_39_1, xr_39_2, xr_42_0, xr_42_2, xr_42_3, xr_42_4, xr_42_5, xr_42_6, xr_42_8, xr_42_10, xr_42_13, xr_42_14, xr_42_15, xr_42_16, xr_42_23, xr_42_24, xr_42_25, l01]
      refine ⟨fun h => absurd h (by omega), fun _ => ?_⟩
      simp (disch := first | assumption | decide +kernel | exact hM _ _ | exact hL _ | exact xG_b | exact xG_bt _ _ | omega) only [w120_60, w120_61, w120_137, w120_138, w120_141, w120_142, w120_143, w120_144, w120_145, w120_147, w120_149, Int.reduceAdd, xup_twice, true_implies, false_implies, not_true_eq_false, not_false_eq_true, and_true, true_and, Int.reduceEq, Int.reduceLE, Int.reduceLT, Int.reduceNeg, xb_eq0, xb_eq1, xup_ne, xup_self, xup_k, xjl_i, xjl_r, xjl_j, xjl_l, Option.toList_some, Option.toList_none, List.cons_append, List.nil_append, xr_0_0, xr_0_1, xr_0_2, xr_0_3, xr_0_4, xr_0_5, xr_0_6, xr_0_7, xr_1_0, xr_1_1, xr_4_5, xr_4_6, xr_4_7, xr_4_8, xr_8_0, xr_10_5, xr_10_6, xr_10_7, xr_10_8, xr_14_0, xr_16_0, xr_16_1, xr_16_2, xr_20_0, xr_21_0, xr_21_1, xr_22_0, xr_24_0, xr_26_0, xr_26_1, xr_26_2, xr_30_0, xr_30_1, xr_30_2, xr_30_3, xr_30_4, xr_30_5, xr_30_6, xr_30_7, xr_31_0, xr_39_0, xr_39_1, xr_39_2, xr_42_0, xr_42_2, xr_42_3, xr_42_4, xr_42_5, xr_42_6, xr_42_8, xr_42_10, xr_42_13, xr_42_14, xr_42_15, xr_42_16, xr_42_23, xr_42_24, xr_42_25, l01]
      refine ⟨fun h => absurd h (by omega), fun _ => ?_⟩
      simp (disch := first | assumption | decide +kernel | exact hM _ _ | exact hL _ | exact xG_b | exact xG_bt _ _ | omega) only [w120_152, w120_153, Int.reduceAdd, xup_twice, true_implies, false_implies, not_true_eq_false, not_false_eq_true, and_true, true_and, Int.reduceEq, Int.reduceLE, Int.reduceLT, Int.reduceNeg, xb_eq0, xb_eq1, xup_ne, xup_self, xup_k, xjl_i, xjl_r, xjl_j, xjl_l, Option.toList_some, Option.toList_none, List.cons_append, List.nil_append, xr_0_0, xr_0_1, xr_0_2, xr_0_3, xr_0_4, xr_0_5, xr_0_6, xr_0_7, xr_1_0, xr_1_1, xr_4_5, xr_4_6, xr_4_7, xr_4_8, xr_8_0, xr_10_5, xr_10_6, xr_10_7, xr_10_8, xr_14_0, xr_16_0, xr_16_1, xr_16_2, xr_20_0, xr_21_0, xr_21_1, xr_22_0, xr_24_0, xr_26_0, xr_26_1, xr_26_2, xr_30_0, xr_30_1, xr_30_2, xr_30_3, xr_30_4, xr_30_5, xr_30_6, xr_30_7, xr_31_0, xr_39_0, xr_39_1, xr_39_2, xr_42_0, xr_42_2, xr_42_3, xr_42_4, xr_42_5, xr_42_6, xr_42_8, xr_42_10, xr_42_13, xr_42_14, xr_42_15, xr_42_16, xr_42_23, xr_42_24, xr_42_25]
      refine w_plEnd hk2 (by omega) (by omega) ?_
      have := hend M1 hF1 h471
      rw [if_neg (by decide)] at this
      obtain ⟨x1, x2, x3⟩ := xkO_0
      rcases (show k = 0 ∨ k = 1 ∨ k = 2 by omega) with rfl | rfl | rfl
      · rw [if_pos rfl, x3] at this
        exact this
      · rw [if_neg (by decide), x1] at this
        exact this
      · rw [if_neg (by decide), x2] at this
        exact this
    · rw [if_neg h0] at hend
      simp (disch := first | assumption | decide +kernel | exact hM _ _ | exact hL _ | exact xG_b | exact xG_bt _ _ | omega) only [w120_34, w120_36, w120_37, w120_39, w120_41, w120_43, w120_45, w120_46, w120_49, w120_50, w120_51, w120_52, w120_53, Int.reduceAdd, xup_twice, true_implies, false_implies, not_true_eq_false, not_false_eq_true, and_true, true_and, Int.reduceEq, Int.reduceLE, Int.reduceLT, Int.reduceNeg, xb_eq0, xb_eq1, xup_ne, xup_self, xup_k, xjl_i, xjl_r, xjl_j, xjl_l, Option.toList_some, Option.toList_none, List.cons_append, List.nil_append, xr_0_0, xr_0_1, xr_0_2, xr_0_3, xr_0_4, xr_0_5, xr_0_6, xr_0_7, xr_1_0, xr_1_1, xr_4_5, xr_4_6, xr_4_7, xr_4_8, xr_8_0, xr_10_5, xr_10_6, xr_10_7, xr_10_8, xr_14_0, xr_16_0, xr_16_1, xr_16_2, xr_20_0, xr_21_0, xr_21_1, xr_22_0, xr_24_0, xr_26_0, xr_26_1, xr_26_2, xr_30_0, xr_30_1, xr_30_2, xr_30_3, xr_30_4, xr_30_5, xr_30_6, xr_30_7, xr_31_0, xr_39_0, xr_39_1, xr_39_2, xr_42_0, xr_42_2, xr_42_3, xr_42_4, xr_42_5, xr_42_6, xr_42_8, xr_42_10, xr_42_13, xr_42_14, xr_42_15, xr_42_16, xr_42_23, xr_42_24, xr_42_25, l01]
      obtain ⟨N, hN⟩ : ∃ N : Nat, w 0 0 = N := ⟨(w 0 0).toNat, by omega⟩
      have hpl1 := lq_pl1 (Q := Q) (M := M) (k := k) (f1 := fV w (hD M) (w 0 3)) (W1 := wV w (hD M) (uP (w 0 3) (fV w (hD M) (w 0 3))) = 0) (v := w 0 3) hw hK rfl hv hF1r (fun a a0 a1 => ⟨fun x => by
        have := one_more hw hv ⟨a0, a1⟩ h0 x.2
        refine ⟨?_, this.1⟩
        rw [← this.1]; exact x.2, fun x => by
        have := one_more hw hv hF1r h0 x.1
        rw [x.2]
        exact ⟨uP_ne (by omega) this.2, x.1⟩⟩) (fun M2 v6 v7 v8 hF2 h472 => ?_) N xj xj M1 (by omega) hF1 h471
      · rw [if_neg (fun x => by omega), if_neg (fun x => by omega), ← hN] at hpl1
        exact hpl1
      · have l02 : M2 44 0 = w 0 0 := by rw [hF2.1 44 (by omega) (by omega) (by omega)]; exact l0
        by_cases hW1 : wV w (hD M) (uP (w 0 3) (fV w (hD M) (w 0 3))) = 0
        · rw [if_pos hW1] at hend
          rw [if_pos hW1, if_pos hW1]
          simp (disch := first | assumption | decide +kernel | exact hM _ _ | exact hL _ | exact xG_b | exact xG_bt _ _ | omega) only [w120_137, w120_138, w120_141, w120_142, w120_143, w120_144, w120_145, w120_147, w120_149, Int.reduceAdd, xup_twice, true_implies, false_implies, not_true_eq_false, not_false_eq_true, and_true, true_and, Int.reduceEq, Int.reduceLE, Int.reduceLT, Int.reduceNeg, xb_eq0, xb_eq1, xup_ne, xup_self, xup_k, xjl_i, xjl_r, xjl_j, xjl_l, Option.toList_some, Option.toList_none, List.cons_append, List.nil_append, xr_0_0, xr_0_1, xr_0_2, xr_0_3, xr_0_4, xr_0_5, xr_0_6, xr_0_7, xr_1_0, xr_1_1, xr_4_5, xr_4_6, xr_4_7, xr_4_8, xr_8_0, xr_10_5, xr_10_6, xr_10_7, xr_10_8, xr_14_0, xr_16_0, xr_16_1, xr_16_2, xr_20_0, xr_21_0, xr_21_1, xr_22_0, xr_24_0, xr_26_0, xr_26_1, xr_26_2, xr_30_0, xr_30_1, xr_30_2, xr_30_3, xr_30_4, xr_30_5, xr_30_6, xr_30_7, xr_31_0, xr_39_0, xr_39_1, xr_39_2, xr_42_0, xr_42_2, xr_42_3, xr_42_4, xr_42_5, xr_42_6, xr_42_8, xr_42_10, xr_42_13, xr_42_14, xr_42_15, xr_42_16, xr_42_23, xr_42_24, xr_42_25, l02]
          refine ⟨fun h => absurd h (by omega), fun _ => ?_⟩
          simp (disch := first | assumption | decide +kernel | exact hM _ _ | exact hL _ | exact xG_b | exact xG_bt _ _ | omega) only [w120_152, w120_153, w120_156, w120_157, w120_158, Int.reduceAdd, xup_twice, true_implies, false_implies, not_true_eq_false, not_false_eq_true, and_true, true_and, Int.reduceEq, Int.reduceLE, Int.reduceLT, Int.reduceNeg, xb_eq0, xb_eq1, xup_ne, xup_self, xup_k, xjl_i, xjl_r, xjl_j, xjl_l, Option.toList_some, Option.toList_none, List.cons_append, List.nil_append, xr_0_0, xr_0_1, xr_0_2, xr_0_3, xr_0_4, xr_0_5, xr_0_6, xr_0_7, xr_1_0, xr_1_1, xr_4_5, xr_4_6, xr_4_7, xr_4_8, xr_8_0, xr_10_5, xr_10_6, xr_10_7, xr_10_8, xr_14_0, xr_16_0, xr_16_1, xr_16_2, xr_20_0, xr_21_0, xr_21_1, xr_22_0, xr_24_0, xr_26_0, xr_26_1, xr_26_2, xr_30_0, xr_30_1, xr_30_2, xr_30_3, xr_30_4, xr_30_5, xr_30_6, xr_30_7, xr_31_0, xr_39_0, xr_39_1, xr_39_2, xr_42_0, xr_42_2, xr_42_3, xr_42_4, xr_42_5, xr_42_6, xr_42_8, xr_42_10, xr_42_13, xr_42_14, xr_42_15, xr_42_16, xr_42_23, xr_42_24, xr_42_25]
          refine w_plEnd hk2 (by omega) (by omega) ?_
          have := hend M2 hF2 h472
          generalize fV w (hD M) (w 0 3) = F at *
          obtain ⟨f, rfl⟩ : ∃ f : Nat, F = f := ⟨F.toNat, by omega⟩
          obtain ⟨x1, x2, x3, x4⟩ := xkO_1 f (by omega)
          rw [if_neg x4] at this
          rcases (show k = 0 ∨ k = 1 ∨ k = 2 by omega) with rfl | rfl | rfl
          · rw [if_pos rfl, x3] at this
            exact this
          · rw [if_neg (by decide), x1] at this
            exact this
          · rw [if_neg (by decide), x2] at this
            exact this
        · rw [if_neg hW1] at hend
          rw [if_neg hW1, if_neg hW1]
          simp (disch := first | assumption | decide +kernel | exact hM _ _ | exact hL _ | exact xG_b | exact xG_bt _ _ | omega) only [w120_137, w120_138, w120_141, w120_142, w120_143, w120_144, w120_145, Int.reduceAdd, xup_twice, true_implies, false_implies, not_true_eq_false, not_false_eq_true, and_true, true_and, Int.reduceEq, Int.reduceLE, Int.reduceLT, Int.reduceNeg, xb_eq0, xb_eq1, xup_ne, xup_self, xup_k, xjl_i, xjl_r, xjl_j, xjl_l, Option.toList_some, Option.toList_none, List.cons_append, List.nil_append, xr_0_0, xr_0_1, xr_0_2, xr_0_3, xr_0_4, xr_0_5, xr_0_6, xr_0_7, xr_1_0, xr_1_1, xr_4_5, xr_4_6, xr_4_7, xr_4_8, xr_8_0, xr_10_5, xr_10_6, xr_10_7, xr_10_8, xr_14_0, xr_16_0, xr_16_1, xr_16_2, xr_20_0, xr_21_0, xr_21_1, xr_22_0, xr_24_0, xr_26_0, xr_26_1, xr_26_2, xr_30_0, xr_30_1, xr_30_2, xr_30_3, xr_30_4, xr_30_5, xr_30_6, xr_30_7, xr_31_0, xr_39_0, xr_39_1, xr_39_2, xr_42_0, xr_42_2, xr_42_3, xr_42_4, xr_42_5, xr_42_6, xr_42_8, xr_42_10, xr_42_13, xr_42_14, xr_42_15, xr_42_16, xr_42_23, xr_42_24, xr_42_25, l02]
          have htwo : ∀ a b, 0 ≤ a → a < b → b < w 0 0 → wV w (hD M) (uP (uP (w 0 3) a) b) = 0 → _ := fun a b a0 a1 a2 hz => two_more (h := hD M) (v := w 0 3) (a := a) (b := b) hw hv (by omega) (by omega) h0 hW1 hz
          have hself := fun hz => two_more (h := hD M) (v := w 0 3) hw hv hF1r hF2r h0 hW1 hz
          generalize hG : fV w (hD M) (uP (w 0 3) (fV w (hD M) (w 0 3))) = G at *
          generalize hFg : fV w (hD M) (w 0 3) = F at *
          have hbits : ∀ a b, 0 ≤ a → a < b → b < w 0 0 → xbt (w 0 3) a = 0 → xbt (w 0 3) b = 0 → xon (uP (uP (w 0 3) a) b) 24 = xon (w 0 3) 24 + 2 := fun a b a0 a1 a2 b1 b2 => by
            rw [xon_uP (by omega), xon_uP (by omega), uP_bt (by omega) (by omega), if_neg (by omega), b1, b2]
            omega
          have hstart : ∀ (lo hi : Int) (W2 : Prop) [Decidable W2], (0 ≤ lo ∧ lo < hi ∧ hi < w 0 0) → (∀ a b, 0 ≤ a → a < b → b < w 0 0 → ((xon (uP (uP (w 0 3) a) b) 24 = xon (w 0 3) 24 + 2 ∧ wV w (hD M) (uP (uP (w 0 3) a) b) = 0) ↔ (W2 ∧ a = lo ∧ b = hi))) → (∀ M', sF M M' → (∀ i, i ≠ 6 → M' 47 i = M 47 i) → Q (some (xi (if k = 0 then (if (if W2 then hi else -4) = -4 then -4 else 2) else if k = 1 then (if W2 then lo else -4) else (if W2 then hi else -4)))) (xup M' 47 6 (w 0 3))) → Wp 120 147 [xr 42, xi k, xi (w 0 3), xi (-4), xi (-4), xi (-4), xi (w 0 0 - 1), v7, v8] [] M2 Q := fun lo hi W2 _ hlh heq hq => by
            have := lq_pl2 (Q := Q) (M := M) (k := k) (lo := lo) (hi := hi) (W2 := W2) hw hK hv hlh heq (fun M3 v6 v7 v8 hF3 h473 => ?_) N v7 v8 M2 (by omega) hF2 h472
            · rw [pOn_n (fun x => by omega), pOn_n (fun x => by omega), ← hN] at this
              exact this
            · refine w_plEnd hk2 (by omega) ?_ (hq M3 hF3 h473)
              split <;> omega
          by_cases hE : F = G
          · refine hstart 0 1 False (by omega) (fun a b a0 a1 a2 => ⟨fun x => absurd hE (htwo a b a0 a1 a2 x.2).2.2.1, fun x => x.1.elim⟩) (fun M3 hF3 h473 => ?_)
            have := hend M3 hF3 h473
            rw [if_neg (fun x => (hself x).2.2.1 hE), if_pos rfl] at this
            simp only [if_false]
            rcases (show k = 0 ∨ k = 1 ∨ k = 2 by omega) with rfl | rfl | rfl
            · exact this
            · exact this
            · exact this
          · have hlt : ∀ (lo hi : Int), (lo = F ∧ hi = G) ∨ (lo = G ∧ hi = F) → lo < hi → (if F < G then F else G) = lo → (if F < G then G else F) = hi → Wp 120 147 [xr 42, xi k, xi (w 0 3), xi (-4), xi (-4), xi (-4), xi (w 0 0 - 1), v7, v8] [] M2 Q := fun lo hi hor hl hlo hhi => by
              have ecom : uP (uP (w 0 3) lo) hi = uP (uP (w 0 3) F) G := by
                rcases hor with ⟨rfl, rfl⟩ | ⟨rfl, rfl⟩
                · rfl
                · exact uP_comm (by omega) (by omega)
              refine hstart lo hi (wV w (hD M) (uP (uP (w 0 3) F) G) = 0) (by omega) (fun a b a0 a1 a2 => ⟨fun x => ?_, fun x => ?_⟩) (fun M3 hF3 h473 => ?_)
              · have ht := (htwo a b a0 a1 a2 x.2).2.2.2
                have hab : a = lo ∧ b = hi := by omega
                refine ⟨?_, hab⟩
                rw [← ecom, ← hab.1, ← hab.2]
                exact x.2
              · obtain ⟨x1, x2, x3⟩ := x
                have hs := hself x1
                rw [x2, x3]
                refine ⟨hbits lo hi (by omega) hl (by omega) ?_ ?_, by rw [ecom]; exact x1⟩
                · rcases hor with ⟨rfl, rfl⟩ | ⟨rfl, rfl⟩
                  · exact hs.1
                  · exact hs.2.1
                · rcases hor with ⟨rfl, rfl⟩ | ⟨rfl, rfl⟩
                  · exact hs.2.1
                  · exact hs.1
              · have := hend M3 hF3 h473
                by_cases hW2 : wV w (hD M) (uP (uP (w 0 3) F) G) = 0
                · rw [if_pos hW2] at this
                  simp only [if_pos hW2]
                  obtain ⟨f, rfl⟩ : ∃ f : Nat, F = f := ⟨F.toNat, by omega⟩
                  obtain ⟨g, rfl⟩ : ∃ g : Nat, G = g := ⟨G.toNat, by omega⟩
                  obtain ⟨x1, x2, x3, x4⟩ := xkO_2 f (by omega) g (by omega) (by omega)
                  have eif : ∀ X Y : Int, (if f < g then X else Y) = if (f : Int) < (g : Int) then X else Y := fun X Y => by
                    by_cases c : f < g
                    · rw [if_pos c, if_pos (by omega)]
                    · rw [if_neg c, if_neg (by omega)]
                  rw [eif, hlo] at x1
                  rw [eif, hhi] at x2
                  rw [if_neg x4] at this
                  rcases (show k = 0 ∨ k = 1 ∨ k = 2 by omega) with rfl | rfl | rfl
                  · rw [if_pos rfl, x3] at this
                    rw [if_pos rfl, if_neg (by omega)]
                    exact this
                  · rw [if_neg (by decide), x1] at this
                    exact this
                  · rw [if_neg (by decide), x2] at this
                    exact this
                · rw [if_neg hW2, if_pos rfl] at this
                  simp only [if_neg hW2]
                  rcases (show k = 0 ∨ k = 1 ∨ k = 2 by omega) with rfl | rfl | rfl
                  · exact this
                  · exact this
                  · exact this
            by_cases hlt2 : F < G
            · exact hlt F G (Or.inl ⟨rfl, rfl⟩) hlt2 (if_pos hlt2) (if_pos hlt2)
            · exact hlt G F (Or.inr ⟨rfl, rfl⟩) (by omega) (if_neg hlt2) (if_neg hlt2)
  · rw [if_neg hk2]
    simp (disch := first | assumption | decide +kernel | exact hM _ _ | exact hL _ | exact xG_b | exact xG_bt _ _ | omega) only [w120_6, w120_9, w120_10, Int.reduceAdd, xup_twice, true_implies, false_implies, not_true_eq_false, not_false_eq_true, and_true, true_and, Int.reduceEq, Int.reduceLE, Int.reduceLT, Int.reduceNeg, xb_eq0, xb_eq1, xup_ne, xup_self, xup_k, xjl_i, xjl_r, xjl_j, xjl_l, Option.toList_some, Option.toList_none, List.cons_append, List.nil_append, xr_0_0, xr_0_1, xr_0_2, xr_0_3, xr_0_4, xr_0_5, xr_0_6, xr_0_7, xr_1_0, xr_1_1, xr_4_5, xr_4_6, xr_4_7, xr_4_8, xr_8_0, xr_10_5, xr_10_6, xr_10_7, xr_10_8, xr_14_0, xr_16_0, xr_16_1, xr_16_2, xr_20_0, xr_21_0, xr_21_1, xr_22_0, xr_24_0, xr_26_0, xr_26_1, xr_26_2, xr_30_0, xr_30_1, xr_30_2, xr_30_3, xr_30_4, xr_30_5, xr_30_6, xr_30_7, xr_31_0, xr_39_0, xr_39_1, xr_39_2, xr_42_0, xr_42_2, xr_42_3, xr_42_4, xr_42_5, xr_42_6, xr_42_8, xr_42_10, xr_42_13, xr_42_14, xr_42_15, xr_42_16, xr_42_23, xr_42_24, xr_42_25]
    have := hQ M gF_rf
    rw [aPlaces, if_neg hk2] at this
    exact this
end RPLACES3
