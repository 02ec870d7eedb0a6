/-! the reference reads a number -/
section NUM
variable {w M : xM} {Q : Option xV → xM → Prop}
/-- the letters that the reference holds -/
def rW (M : xM) : Prop := (0 ≤ M 42 1 ∧ M 42 1 ≤ 200) ∧ (∀ i, 0 ≤ i → i < M 42 1 → 32 ≤ M 43 i ∧ M 43 i ≤ 126)
theorem fL_in {n : Int} {L : Int → Int} {k : Int} (h : k < n) : fL n L k = L k := if_pos h
theorem fL_out {n : Int} {L : Int → Int} {k : Int} (h : ¬ k < n) : fL n L k = -1 := if_neg h
theorem fL_fig {n : Int} {L : Int → Int} {k : Int} : (48 ≤ fL n L k ∧ fL n L k ≤ 57) ↔ (k < n ∧ pFig (L k) = true) := by
  unfold fL pFig
  by_cases h : k < n
  · simp [h]
  · simp [h]
theorem fL_is {n : Int} {L : Int → Int} {k e : Int} (he : 0 ≤ e) : fL n L k = e ↔ (k < n ∧ L k = e) := by
  unfold fL
  by_cases h : k < n
  · simp [h]
  · simp [h]; omega
theorem fL_G {k : Int} (hT : rW M) (hk : 0 ≤ k) : -1 ≤ fL (M 42 1) (M 43) k ∧ fL (M 42 1) (M 43) k ≤ 126 := by
  unfold fL
  split
  · have := hT.2 k hk ‹_›; omega
  · omega
theorem q9_letterAt' {k b : Int} (hk : 0 ≤ k ∧ k ≤ 1000) (hn : 0 ≤ M 42 1 ∧ M 42 1 ≤ 200) : Wc 86 [xr 42, xi k] (xup M 42 12 b) Q = Q (some (xi (fL (M 42 1) (M 43) k))) (xup M 42 12 b) := by
  have e1 : xup M 42 12 b 42 1 = M 42 1 := xup_k (by omega)
  rw [q9_letterAt hk (by rw [e1]; exact hn), e1, xup_ne (by omega)]
theorem w_numRest {lo hi e v b : Int} (hlo : 0 ≤ lo ∧ lo ≤ 100) (hhi : -1 ≤ hi ∧ hi ≤ 100) (he : 0 ≤ e ∧ e ≤ 200) (hv : 0 ≤ v ∧ v ≤ 99) (hT : rW M) (hb : 0 ≤ b ∧ b ≤ 300)
    (hN : ¬ ((b < M 42 1 ∧ M 43 b = e) ∧ lo ≤ v ∧ v ≤ hi) → Q (some (xi (-1))) (xup M 42 12 (b + 1)))
    (hY : (b < M 42 1 ∧ M 43 b = e) → (lo ≤ v ∧ v ≤ hi) → Q (some (xi v)) (xup M 42 12 (b + 1))) :
    Wp 88 82 [xr 42, xi lo, xi hi, xi e, xi v, xj] [] (xup M 42 12 b) Q := by
  have hn := hT.1
  have g1 := fL_G hT hb.1
  simp (disch := first | assumption | decide +kernel | exact hM _ _ | exact hL _ | exact xG_b | exact xG_bt _ _ | omega) only [w88_82, w88_83, w88_84, w88_87, w88_90, w88_91, Int.reduceAdd, xup_twice, true_implies, false_implies, not_true_eq_false, not_false_eq_true, and_true, true_and, Int.reduceEq, Int.reduceLE, Int.reduceLT, Int.reduceNeg, xb_eq0, xb_eq1, xup_ne, xup_self, xup_k, xjl_i, xjl_r, xjl_j, xjl_l, Option.toList_some, Option.toList_none, List.cons_append, List.nil_append, xr_0_0, xr_0_1, xr_0_2, xr_0_3, xr_0_4, xr_0_5, xr_0_6, xr_0_7, xr_1_0, xr_1_1, xr_4_5, xr_4_6, xr_4_7, xr_4_8, xr_8_0, xr_10_5, xr_10_6, xr_10_7, xr_10_8, xr_14_0, xr_16_0, xr_16_1, xr_16_2, xr_20_0, xr_21_0, xr_21_1, xr_22_0, xr_24_0, xr_26_0, xr_26_1, xr_26_2, xr_30_0, xr_30_1, xr_30_2, xr_30_3, xr_30_4, xr_30_5, xr_30_6, xr_30_7, xr_31_0, xr_39_0, xr_39_1, xr_39_2, xr_42_0, xr_42_2, xr_42_3, xr_42_4, xr_42_5, xr_42_6, xr_42_8, xr_42_10, xr_42_13, xr_42_14, xr_42_15, xr_42_16, xr_42_23, xr_42_24, xr_42_25, q9_letterAt', q9_letterAt]
  have hno : ¬ ((b < M 42 1 ∧ M 43 b = e) ∧ lo ≤ v ∧ v ≤ hi) → Wp 88 108 [xr 42, xi lo, xi hi, xi e, xi v, xj] [] (xup M 42 12 b) Q := fun h => by
    simp (disch := first | assumption | decide +kernel | exact hM _ _ | exact hL _ | exact xG_b | exact xG_bt _ _ | omega) only [w88_108, w88_109, w88_111, w88_112, w88_113, w88_116, w88_117, w88_118, w88_121, w88_123, w88_126, w88_128, w88_131, w88_132, Int.reduceAdd, xup_twice, true_implies, false_implies, not_true_eq_false, not_false_eq_true, and_true, true_and, Int.reduceEq, Int.reduceLE, Int.reduceLT, Int.reduceNeg, xb_eq0, xb_eq1, xup_ne, xup_self, xup_k, xjl_i, xjl_r, xjl_j, xjl_l, Option.toList_some, Option.toList_none, List.cons_append, List.nil_append, xr_0_0, xr_0_1, xr_0_2, xr_0_3, xr_0_4, xr_0_5, xr_0_6, xr_0_7, xr_1_0, xr_1_1, xr_4_5, xr_4_6, xr_4_7, xr_4_8, xr_8_0, xr_10_5, xr_10_6, xr_10_7, xr_10_8, xr_14_0, xr_16_0, xr_16_1, xr_16_2, xr_20_0, xr_21_0, xr_21_1, xr_22_0, xr_24_0, xr_26_0, xr_26_1, xr_26_2, xr_30_0, xr_30_1, xr_30_2, xr_30_3, xr_30_4, xr_30_5, xr_30_6, xr_30_7, xr_31_0, xr_39_0, xr_39_1, xr_39_2, xr_42_0, xr_42_2, xr_42_3, xr_42_4, xr_42_5, xr_42_6, xr_42_8, xr_42_10, xr_42_13, xr_42_14, xr_42_15, xr_42_16, xr_42_23, xr_42_24, xr_42_25]
    exact hN h
  refine ⟨fun h1 => hno (fun q => h1 ((fL_is he.1).mpr q.1)), fun h1 => ?_⟩
  have h2 := (fL_is he.1).mp (Classical.not_not.mp h1)
  simp (disch := first | assumption | decide +kernel | exact hM _ _ | exact hL _ | exact xG_b | exact xG_bt _ _ | omega) only [w88_94, w88_96, w88_97, w88_98, Int.reduceAdd, xup_twice, true_implies, false_implies, not_true_eq_false, not_false_eq_true, and_true, true_and, Int.reduceEq, Int.reduceLE, Int.reduceLT, Int.reduceNeg, xb_eq0, xb_eq1, xup_ne, xup_self, xup_k, xjl_i, xjl_r, xjl_j, xjl_l, Option.toList_some, Option.toList_none, List.cons_append, List.nil_append, xr_0_0, xr_0_1, xr_0_2, xr_0_3, xr_0_4, xr_0_5, xr_0_6, xr_0_7, xr_1_0, xr_1_1, xr_4_5, xr_4_6, xr_4_7, xr_4_8, xr_8_0, xr_10_5, xr_10_6, xr_10_7, xr_10_8, xr_14_0, xr_16_0, xr_16_1, xr_16_2, xr_20_0, xr_21_0, xr_21_1, xr_22_0, xr_24_0, xr_26_0, xr_26_1, xr_26_2, xr_30_0, xr_30_1, xr_30_2, xr_30_3, xr_30_4, xr_30_5, xr_30_6, xr_30_7, xr_31_0, xr_39_0, xr_39_1, xr_39_2, xr_42_0, xr_42_2, xr_42_3, xr_42_4, xr_42_5, xr_42_6, xr_42_8, xr_42_10, xr_42_13, xr_42_14, xr_42_15, xr_42_16, xr_42_23, xr_42_24, xr_42_25, q9_in]
  by_cases h3 : lo ≤ v ∧ v ≤ hi
  · rw [if_pos h3]
    simp (disch := first | assumption | decide +kernel | exact hM _ _ | exact hL _ | exact xG_b | exact xG_bt _ _ | omega) only [w88_101, w88_104, w88_105, w88_108, w88_109, w88_111, w88_112, w88_113, w88_116, w88_117, w88_118, w88_121, w88_123, w88_126, w88_128, w88_131, w88_132, Int.reduceAdd, xup_twice, true_implies, false_implies, not_true_eq_false, not_false_eq_true, and_true, true_and, Int.reduceEq, Int.reduceLE, Int.reduceLT, Int.reduceNeg, xb_eq0, xb_eq1, xup_ne, xup_self, xup_k, xjl_i, xjl_r, xjl_j, xjl_l, Option.toList_some, Option.toList_none, List.cons_append, List.nil_append, xr_0_0, xr_0_1, xr_0_2, xr_0_3, xr_0_4, xr_0_5, xr_0_6, xr_0_7, xr_1_0, xr_1_1, xr_4_5, xr_4_6, xr_4_7, xr_4_8, xr_8_0, xr_10_5, xr_10_6, xr_10_7, xr_10_8, xr_14_0, xr_16_0, xr_16_1, xr_16_2, xr_20_0, xr_21_0, xr_21_1, xr_22_0, xr_24_0, xr_26_0, xr_26_1, xr_26_2, xr_30_0, xr_30_1, xr_30_2, xr_30_3, xr_30_4, xr_30_5, xr_30_6, xr_30_7, xr_31_0, xr_39_0, xr_39_1, xr_39_2, xr_42_0, xr_42_2, xr_42_3, xr_42_4, xr_42_5, xr_42_6, xr_42_8, xr_42_10, xr_42_13, xr_42_14, xr_42_15, xr_42_16, xr_42_23, xr_42_24, xr_42_25]
    exact hY h2 h3
  · rw [if_neg h3]
    simp (disch := first | assumption | decide +kernel | exact hM _ _ | exact hL _ | exact xG_b | exact xG_bt _ _ | omega) only [w88_101, Int.reduceAdd, xup_twice, true_implies, false_implies, not_true_eq_false, not_false_eq_true, and_true, true_and, Int.reduceEq, Int.reduceLE, Int.reduceLT, Int.reduceNeg, xb_eq0, xb_eq1, xup_ne, xup_self, xup_k, xjl_i, xjl_r, xjl_j, xjl_l, Option.toList_some, Option.toList_none, List.cons_append, List.nil_append, xr_0_0, xr_0_1, xr_0_2, xr_0_3, xr_0_4, xr_0_5, xr_0_6, xr_0_7, xr_1_0, xr_1_1, xr_4_5, xr_4_6, xr_4_7, xr_4_8, xr_8_0, xr_10_5, xr_10_6, xr_10_7, xr_10_8, xr_14_0, xr_16_0, xr_16_1, xr_16_2, xr_20_0, xr_21_0, xr_21_1, xr_22_0, xr_24_0, xr_26_0, xr_26_1, xr_26_2, xr_30_0, xr_30_1, xr_30_2, xr_30_3, xr_30_4, xr_30_5, xr_30_6, xr_30_7, xr_31_0, xr_39_0, xr_39_1, xr_39_2, xr_42_0, xr_42_2, xr_42_3, xr_42_4, xr_42_5, xr_42_6, xr_42_8, xr_42_10, xr_42_13, xr_42_14, xr_42_15, xr_42_16, xr_42_23, xr_42_24, xr_42_25]
    exact hno (fun q => h3 q.2)
theorem q9_number {lo hi e : Int} (hlo : 0 ≤ lo ∧ lo ≤ 100) (hhi : -1 ≤ hi ∧ hi ≤ 100) (he : 0 ≤ e ∧ e ≤ 200) (hT : rW M) (ha : 0 ≤ M 42 12 ∧ M 42 12 ≤ 200)
    (hN : ∀ b, (∀ v a', pN (M 43) (M 42 1) (M 42 12) e = some (v, a') → ¬ (lo ≤ v ∧ v ≤ hi)) → Q (some (xi (-1))) (xup M 42 12 b))
    (hY : ∀ v a', pN (M 43) (M 42 1) (M 42 12) e = some (v, a') → (lo ≤ v ∧ v ≤ hi) → Q (some (xi v)) (xup M 42 12 a')) : Wc 88 [xr 42, xi lo, xi hi, xi e] M Q := by
  have hn := hT.1
  have g0 := fL_G hT ha.1
  have g1 := fL_G hT (k := M 42 12 + 1) (by omega)
  simp (disch := first | assumption | decide +kernel | exact hM _ _ | exact hL _ | exact xG_b | exact xG_bt _ _ | omega) only [w88_0, w88_1, w88_2, w88_5, w88_8, w88_11, wc88, Int.reduceAdd, xup_twice, true_implies, false_implies, not_true_eq_false, not_false_eq_true, and_true, true_and, Int.reduceEq, Int.reduceLE, Int.reduceLT, Int.reduceNeg, xb_eq0, xb_eq1, xup_ne, xup_self, xup_k, xjl_i, xjl_r, xjl_j, xjl_l, Option.toList_some, Option.toList_none, List.cons_append, List.nil_append, xr_0_0, xr_0_1, xr_0_2, xr_0_3, xr_0_4, xr_0_5, xr_0_6, xr_0_7, xr_1_0, xr_1_1, xr_4_5, xr_4_6, xr_4_7, xr_4_8, xr_8_0, xr_10_5, xr_10_6, xr_10_7, xr_10_8, xr_14_0, xr_16_0, xr_16_1, xr_16_2, xr_20_0, xr_21_0, xr_21_1, xr_22_0, xr_24_0, xr_26_0, xr_26_1, xr_26_2, xr_30_0, xr_30_1, xr_30_2, xr_30_3, xr_30_4, xr_30_5, xr_30_6, xr_30_7, xr_31_0, xr_39_0, xr_39_1, xr_39_2, xr_42_0, xr_42_2, xr_42_3, xr_42_4, xr_42_5, xr_42_6, xr_42_8, xr_42_10, xr_42_13, xr_42_14, xr_42_15, xr_42_16, xr_42_23, xr_42_24, xr_42_25, q9_letterAt', q9_letterAt, q9_isFigure]
  refine ⟨fun h1 => ?_, fun h1 => ?_⟩
  rotate_left
  · simp (disch := first | assumption | decide +kernel | exact hM _ _ | exact hL _ | exact xG_b | exact xG_bt _ _ | omega) only [w88_14, w88_15, Int.reduceAdd, xup_twice, true_implies, false_implies, not_true_eq_false, not_false_eq_true, and_true, true_and, Int.reduceEq, Int.reduceLE, Int.reduceLT, Int.reduceNeg, xb_eq0, xb_eq1, xup_ne, xup_self, xup_k, xjl_i, xjl_r, xjl_j, xjl_l, Option.toList_some, Option.toList_none, List.cons_append, List.nil_append, xr_0_0, xr_0_1, xr_0_2, xr_0_3, xr_0_4, xr_0_5, xr_0_6, xr_0_7, xr_1_0, xr_1_1, xr_4_5, xr_4_6, xr_4_7, xr_4_8, xr_8_0, xr_10_5, xr_10_6, xr_10_7, xr_10_8, xr_14_0, xr_16_0, xr_16_1, xr_16_2, xr_20_0, xr_21_0, xr_21_1, xr_22_0, xr_24_0, xr_26_0, xr_26_1, xr_26_2, xr_30_0, xr_30_1, xr_30_2, xr_30_3, xr_30_4, xr_30_5, xr_30_6, xr_30_7, xr_31_0, xr_39_0, xr_39_1, xr_39_2, xr_42_0, xr_42_2, xr_42_3, xr_42_4, xr_42_5, xr_42_6, xr_42_8, xr_42_10, xr_42_13, xr_42_14, xr_42_15, xr_42_16, xr_42_23, xr_42_24, xr_42_25]
    have h0 : ¬ (M 42 12 < M 42 1 ∧ pFig (M 43 (M 42 12)) = true) := fun q => h1 (not_not_intro (fL_fig.mpr q))
    have := hN (M 42 12) (fun v a' hp => by unfold pN at hp; rw [if_neg h0] at hp; cases hp)
    rw [xup_id rfl] at this
    exact this
  have h0 : M 42 12 < M 42 1 ∧ pFig (M 43 (M 42 12)) = true := fL_fig.mp (Classical.not_not.mp h1)
  have f0 := of_decide_eq_true h0.2
  have e0 : fL (M 42 1) (M 43) (M 42 12) = M 43 (M 42 12) := fL_in h0.1
  simp (disch := first | assumption | decide +kernel | exact hM _ _ | exact hL _ | exact xG_b | exact xG_bt _ _ | omega) only [w88_16, w88_17, w88_18, w88_21, w88_24, w88_26, w88_27, w88_29, w88_30, w88_31, w88_34, w88_35, w88_36, w88_39, w88_40, w88_41, w88_44, w88_47, w88_50, Int.reduceAdd, xup_twice, true_implies, false_implies, not_true_eq_false, not_false_eq_true, and_true, true_and, Int.reduceEq, Int.reduceLE, Int.reduceLT, Int.reduceNeg, xb_eq0, xb_eq1, xup_ne, xup_self, xup_k, xjl_i, xjl_r, xjl_j, xjl_l, Option.toList_some, Option.toList_none, List.cons_append, List.nil_append, xr_0_0, xr_0_1, xr_0_2, xr_0_3, xr_0_4, xr_0_5, xr_0_6, xr_0_7, xr_1_0, xr_1_1, xr_4_5, xr_4_6, xr_4_7, xr_4_8, xr_8_0, xr_10_5, xr_10_6, xr_10_7, xr_10_8, xr_14_0, xr_16_0, xr_16_1, xr_16_2, xr_20_0, xr_21_0, xr_21_1, xr_22_0, xr_24_0, xr_26_0, xr_26_1, xr_26_2, xr_30_0, xr_30_1, xr_30_2, xr_30_3, xr_30_4, xr_30_5, xr_30_6, xr_30_7, xr_31_0, xr_39_0, xr_39_1, xr_39_2, xr_42_0, xr_42_2, xr_42_3, xr_42_4, xr_42_5, xr_42_6, xr_42_8, xr_42_10, xr_42_13, xr_42_14, xr_42_15, xr_42_16, xr_42_23, xr_42_24, xr_42_25, q9_letterAt', q9_letterAt, q9_isFigure, e0]
  refine ⟨fun h2 => ?_, fun h2 => ?_⟩
  · have h3 : ¬ (M 42 12 + 1 < M 42 1 ∧ pFig (M 43 (M 42 12 + 1)) = true) := fun q => h2 (fL_fig.mpr q)
    refine w_numRest hlo hhi he (by omega) hT (by omega) (fun h4 => ?_) (fun h4 h5 => ?_)
    · refine hN _ (fun v a' hp hr => ?_)
      unfold pN at hp
      rw [if_pos h0, if_neg h3] at hp
      split at hp
      · cases hp
        exact h4 ⟨‹_›, hr⟩
      · cases hp
    · have := hY (M 43 (M 42 12) - 48) (M 42 12 + 2) (by unfold pN; rw [if_pos h0, if_neg h3, if_pos h4]) h5
      rw [show M 42 12 + 1 + 1 = M 42 12 + 2 by omega]
      exact this
  · have h3 : M 42 12 + 1 < M 42 1 ∧ pFig (M 43 (M 42 12 + 1)) = true := fL_fig.mp (Classical.not_not.mp h2)
    have f1 := of_decide_eq_true h3.2
    have e1 : fL (M 42 1) (M 43) (M 42 12 + 1) = M 43 (M 42 12 + 1) := fL_in h3.1
    simp (disch := first | assumption | decide +kernel | exact hM _ _ | exact hL _ | exact xG_b | exact xG_bt _ _ | omega) only [w88_53, w88_55, w88_57, w88_58, w88_59, w88_60, w88_63, w88_66, w88_67, w88_69, w88_70, w88_72, w88_73, w88_74, w88_77, w88_78, w88_79, Int.reduceAdd, xup_twice, true_implies, false_implies, not_true_eq_false, not_false_eq_true, and_true, true_and, Int.reduceEq, Int.reduceLE, Int.reduceLT, Int.reduceNeg, xb_eq0, xb_eq1, xup_ne, xup_self, xup_k, xjl_i, xjl_r, xjl_j, xjl_l, Option.toList_some, Option.toList_none, List.cons_append, List.nil_append, xr_0_0, xr_0_1, xr_0_2, xr_0_3, xr_0_4, xr_0_5, xr_0_6, xr_0_7, xr_1_0, xr_1_1, xr_4_5, xr_4_6, xr_4_7, xr_4_8, xr_8_0, xr_10_5, xr_10_6, xr_10_7, xr_10_8, xr_14_0, xr_16_0, xr_16_1, xr_16_2, xr_20_0, xr_21_0, xr_21_1, xr_22_0, xr_24_0, xr_26_0, xr_26_1, xr_26_2, xr_30_0, xr_30_1, xr_30_2, xr_30_3, xr_30_4, xr_30_5, xr_30_6, xr_30_7, xr_31_0, xr_39_0, xr_39_1, xr_39_2, xr_42_0, xr_42_2, xr_42_3, xr_42_4, xr_42_5, xr_42_6, xr_42_8, xr_42_10, xr_42_13, xr_42_14, xr_42_15, xr_42_16, xr_42_23, xr_42_24, xr_42_25, q9_letterAt', q9_letterAt, e1]
    have em : M 42 12 + 1 + 1 = M 42 12 + 2 := by omega
    have em' : M 42 12 + 2 + 1 = M 42 12 + 3 := by omega
    try rw [em]
    refine w_numRest hlo hhi he (by omega) hT (by omega) (fun h4 => ?_) (fun h4 h5 => ?_)
    · refine hN _ (fun v a' hp hr => ?_)
      unfold pN at hp
      rw [if_pos h0, if_pos h3] at hp
      split at hp
      · cases hp
        exact h4 ⟨‹_›, hr.1, hr.2⟩
      · cases hp
    · have := hY (10 * (M 43 (M 42 12) - 48) + M 43 (M 42 12 + 1) - 48) (M 42 12 + 3) (by unfold pN; rw [if_pos h0, if_pos h3, if_pos h4]) h5
      rw [em']
      exact this
end NUM
section NUM2
variable {w M : xM} {Q : Option xV → xM → Prop}
theorem rW_at {a : Int} (hT : rW M) : rW (xup M 42 12 a) := by
  unfold rW
  rw [xup_k (by omega), xup_ne (by omega)]
  exact hT
/-- the same from a place that was reached -/
theorem q9_number' {lo hi e a : Int} (hlo : 0 ≤ lo ∧ lo ≤ 100) (hhi : -1 ≤ hi ∧ hi ≤ 100) (he : 0 ≤ e ∧ e ≤ 200) (hT : rW M) (ha : 0 ≤ a ∧ a ≤ 200)
    (hN : ∀ b, (∀ v a', pN (M 43) (M 42 1) a e = some (v, a') → ¬ (lo ≤ v ∧ v ≤ hi)) → Q (some (xi (-1))) (xup M 42 12 b))
    (hY : ∀ v a', pN (M 43) (M 42 1) a e = some (v, a') → (lo ≤ v ∧ v ≤ hi) → Q (some (xi v)) (xup M 42 12 a')) : Wc 88 [xr 42, xi lo, xi hi, xi e] (xup M 42 12 a) Q := by
  have e1 : xup M 42 12 a 43 = M 43 := xup_ne (by omega)
  have e2 : xup M 42 12 a 42 1 = M 42 1 := xup_k (by omega)
  have e3 : xup M 42 12 a 42 12 = a := xup_self _ _ _ _
  refine q9_number hlo hhi he (rW_at hT) (by rw [e3]; exact ha) (fun b hv => ?_) (fun v a' hp hr => ?_)
  · rw [e1, e2, e3] at hv
    rw [xup_twice]
    exact hN b hv
  · rw [e1, e2, e3] at hp
    rw [xup_twice]
    exact hY v a' hp hr
end NUM2
