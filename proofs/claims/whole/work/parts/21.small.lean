/-! the class's small readers -/
section SMALL
variable {M : xM} {Q : Option xV → xM → Prop}
theorem q_hasCell {c : Nat} (hc : x_c c = 3) {x : Int} (hx : xG x) (hm : xG (M c 0)) : Wc 7 [xr c, xi x] M Q = Q (some (xi (if 0 ≤ x ∧ x < M c 0 then 1 else 0))) M := by
  simp (disch := first | assumption | decide +kernel | exact hM _ _ | exact hL _ | exact xG_b | exact xG_bt _ _ | omega) only [wc7, w7_0, w7_1, w7_4, w7_5, w7_6, w7_9, w7_12, w7_13, w7_16, w7_17, true_implies, false_implies, not_true_eq_false, not_false_eq_true, and_true, true_and, Int.reduceEq, Int.reduceLE, Int.reduceLT, Int.reduceNeg, xb_eq0, xb_eq1, xup_ne, xup_self, xup_k, xjl_i, xjl_r, xjl_j, xjl_l, Option.toList_some, Option.toList_none, List.cons_append, List.nil_append, xr_0_0, xr_0_1, xr_0_2, xr_0_3, xr_0_4, xr_0_5, xr_0_6, xr_0_7, xr_1_0, xr_1_1, xr_4_5, xr_4_6, xr_4_7, xr_4_8, xr_8_0, xr_10_5, xr_10_6, xr_10_7, xr_10_8, xr_14_0, xr_16_0, xr_16_1, xr_16_2, xr_20_0, xr_21_0, xr_21_1, xr_22_0, xr_24_0, xr_26_0, xr_26_1, xr_26_2, xr_30_0, xr_30_1, xr_30_2, xr_30_3, xr_30_4, xr_30_5, xr_30_6, xr_30_7, xr_31_0, xr_39_0, xr_39_1, xr_39_2, xr_42_0, xr_42_2, xr_42_3, xr_42_4, xr_42_5, xr_42_6, xr_42_8, xr_42_10, xr_42_13, xr_42_14, xr_42_15, xr_42_16, xr_42_23, xr_42_24, xr_42_25]
  by_cases h1 : x < 0
  · rw [xbr_t h1, if_neg (by omega)]
  · rw [xbr_f h1]
    by_cases h2 : M c 0 ≤ x
    · rw [xbr_t h2, if_neg (by omega)]
    · rw [xbr_f h2, if_pos (by omega)]
theorem q_hasTrain {c : Nat} (hc : x_c c = 3) {x : Int} (hx : xG x) (hm : xG (M c 1)) : Wc 8 [xr c, xi x] M Q = Q (some (xi (if 0 ≤ x ∧ x < M c 1 then 1 else 0))) M := by
  simp (disch := first | assumption | decide +kernel | exact hM _ _ | exact hL _ | exact xG_b | exact xG_bt _ _ | omega) only [wc8, w8_0, w8_1, w8_4, w8_5, w8_6, w8_9, w8_12, w8_13, w8_16, w8_17, true_implies, false_implies, not_true_eq_false, not_false_eq_true, and_true, true_and, Int.reduceEq, Int.reduceLE, Int.reduceLT, Int.reduceNeg, xb_eq0, xb_eq1, xup_ne, xup_self, xup_k, xjl_i, xjl_r, xjl_j, xjl_l, Option.toList_some, Option.toList_none, List.cons_append, List.nil_append, xr_0_0, xr_0_1, xr_0_2, xr_0_3, xr_0_4, xr_0_5, xr_0_6, xr_0_7, xr_1_0, xr_1_1, xr_4_5, xr_4_6, xr_4_7, xr_4_8, xr_8_0, xr_10_5, xr_10_6, xr_10_7, xr_10_8, xr_14_0, xr_16_0, xr_16_1, xr_16_2, xr_20_0, xr_21_0, xr_21_1, xr_22_0, xr_24_0, xr_26_0, xr_26_1, xr_26_2, xr_30_0, xr_30_1, xr_30_2, xr_30_3, xr_30_4, xr_30_5, xr_30_6, xr_30_7, xr_31_0, xr_39_0, xr_39_1, xr_39_2, xr_42_0, xr_42_2, xr_42_3, xr_42_4, xr_42_5, xr_42_6, xr_42_8, xr_42_10, xr_42_13, xr_42_14, xr_42_15, xr_42_16, xr_42_23, xr_42_24, xr_42_25]
  by_cases h1 : x < 0
  · rw [xbr_t h1, if_neg (by omega)]
  · rw [xbr_f h1]
    by_cases h2 : M c 1 ≤ x
    · rw [xbr_t h2, if_neg (by omega)]
    · rw [xbr_f h2, if_pos (by omega)]
theorem q_hasPlatform {c : Nat} (hc : x_c c = 3) {x : Int} (hx : xG x) (hm : xG (M c 2)) : Wc 9 [xr c, xi x] M Q = Q (some (xi (if 0 ≤ x ∧ x < M c 2 then 1 else 0))) M := by
  simp (disch := first | assumption | decide +kernel | exact hM _ _ | exact hL _ | exact xG_b | exact xG_bt _ _ | omega) only [wc9, w9_0, w9_1, w9_4, w9_5, w9_6, w9_9, w9_12, w9_13, w9_16, w9_17, true_implies, false_implies, not_true_eq_false, not_false_eq_true, and_true, true_and, Int.reduceEq, Int.reduceLE, Int.reduceLT, Int.reduceNeg, xb_eq0, xb_eq1, xup_ne, xup_self, xup_k, xjl_i, xjl_r, xjl_j, xjl_l, Option.toList_some, Option.toList_none, List.cons_append, List.nil_append, xr_0_0, xr_0_1, xr_0_2, xr_0_3, xr_0_4, xr_0_5, xr_0_6, xr_0_7, xr_1_0, xr_1_1, xr_4_5, xr_4_6, xr_4_7, xr_4_8, xr_8_0, xr_10_5, xr_10_6, xr_10_7, xr_10_8, xr_14_0, xr_16_0, xr_16_1, xr_16_2, xr_20_0, xr_21_0, xr_21_1, xr_22_0, xr_24_0, xr_26_0, xr_26_1, xr_26_2, xr_30_0, xr_30_1, xr_30_2, xr_30_3, xr_30_4, xr_30_5, xr_30_6, xr_30_7, xr_31_0, xr_39_0, xr_39_1, xr_39_2, xr_42_0, xr_42_2, xr_42_3, xr_42_4, xr_42_5, xr_42_6, xr_42_8, xr_42_10, xr_42_13, xr_42_14, xr_42_15, xr_42_16, xr_42_23, xr_42_24, xr_42_25]
  by_cases h1 : x < 0
  · rw [xbr_t h1, if_neg (by omega)]
  · rw [xbr_f h1]
    by_cases h2 : M c 2 ≤ x
    · rw [xbr_t h2, if_neg (by omega)]
    · rw [xbr_f h2, if_pos (by omega)]
theorem q_isEither {x : Int} (hx : xG x) : Wc 72 [xi x] M Q = Q (some (xi (if x = 0 ∨ x = 1 then 1 else 0))) M := by
  simp (disch := first | assumption | decide +kernel | exact hM _ _ | exact hL _ | exact xG_b | exact xG_bt _ _ | omega) only [wc72, w72_0, w72_1, w72_4, w72_5, w72_6, w72_9, w72_10, w72_13, w72_14, true_implies, false_implies, not_true_eq_false, not_false_eq_true, and_true, true_and, Int.reduceEq, Int.reduceLE, Int.reduceLT, Int.reduceNeg, xb_eq0, xb_eq1, xup_ne, xup_self, xup_k, xjl_i, xjl_r, xjl_j, xjl_l, Option.toList_some, Option.toList_none, List.cons_append, List.nil_append, xr_0_0, xr_0_1, xr_0_2, xr_0_3, xr_0_4, xr_0_5, xr_0_6, xr_0_7, xr_1_0, xr_1_1, xr_4_5, xr_4_6, xr_4_7, xr_4_8, xr_8_0, xr_10_5, xr_10_6, xr_10_7, xr_10_8, xr_14_0, xr_16_0, xr_16_1, xr_16_2, xr_20_0, xr_21_0, xr_21_1, xr_22_0, xr_24_0, xr_26_0, xr_26_1, xr_26_2, xr_30_0, xr_30_1, xr_30_2, xr_30_3, xr_30_4, xr_30_5, xr_30_6, xr_30_7, xr_31_0, xr_39_0, xr_39_1, xr_39_2, xr_42_0, xr_42_2, xr_42_3, xr_42_4, xr_42_5, xr_42_6, xr_42_8, xr_42_10, xr_42_13, xr_42_14, xr_42_15, xr_42_16, xr_42_23, xr_42_24, xr_42_25]
  by_cases h1 : x = 0
  · rw [xbr_t h1, if_pos (Or.inl h1)]
  · rw [xbr_f h1]
    by_cases h2 : x = 1
    · rw [xbr_t' h2, if_pos (Or.inr h2)]
    · rw [xbr_f' h2, if_neg (by omega)]
theorem q_bit {b p : Int} : Wc 73 [xi b, xi p] M Q = Q (some (xi (xbt b p))) M := by
  simp (disch := first | assumption | decide +kernel | exact hM _ _ | exact hL _ | exact xG_b | exact xG_bt _ _ | omega) only [wc73, w73_0, w73_1, w73_2, w73_3, w73_4, w73_5, true_implies, false_implies, not_true_eq_false, not_false_eq_true, and_true, true_and, Int.reduceEq, Int.reduceLE, Int.reduceLT, Int.reduceNeg, xb_eq0, xb_eq1, xup_ne, xup_self, xup_k, xjl_i, xjl_r, xjl_j, xjl_l, Option.toList_some, Option.toList_none, List.cons_append, List.nil_append, xr_0_0, xr_0_1, xr_0_2, xr_0_3, xr_0_4, xr_0_5, xr_0_6, xr_0_7, xr_1_0, xr_1_1, xr_4_5, xr_4_6, xr_4_7, xr_4_8, xr_8_0, xr_10_5, xr_10_6, xr_10_7, xr_10_8, xr_14_0, xr_16_0, xr_16_1, xr_16_2, xr_20_0, xr_21_0, xr_21_1, xr_22_0, xr_24_0, xr_26_0, xr_26_1, xr_26_2, xr_30_0, xr_30_1, xr_30_2, xr_30_3, xr_30_4, xr_30_5, xr_30_6, xr_30_7, xr_31_0, xr_39_0, xr_39_1, xr_39_2, xr_42_0, xr_42_2, xr_42_3, xr_42_4, xr_42_5, xr_42_6, xr_42_8, xr_42_10, xr_42_13, xr_42_14, xr_42_15, xr_42_16, xr_42_23, xr_42_24, xr_42_25, xbt]
theorem q_isFigure {x : Int} (hx : xG x) : Wc 23 [xi x] M Q = Q (some (xi (if 48 ≤ x ∧ x ≤ 57 then 1 else 0))) M := by
  simp (disch := first | assumption | decide +kernel | exact hM _ _ | exact hL _ | exact xG_b | exact xG_bt _ _ | omega) only [wc23, w23_0, w23_1, w23_3, w23_6, w23_7, w23_9, w23_12, w23_13, w23_16, w23_17, true_implies, false_implies, not_true_eq_false, not_false_eq_true, and_true, true_and, Int.reduceEq, Int.reduceLE, Int.reduceLT, Int.reduceNeg, xb_eq0, xb_eq1, xup_ne, xup_self, xup_k, xjl_i, xjl_r, xjl_j, xjl_l, Option.toList_some, Option.toList_none, List.cons_append, List.nil_append, xr_0_0, xr_0_1, xr_0_2, xr_0_3, xr_0_4, xr_0_5, xr_0_6, xr_0_7, xr_1_0, xr_1_1, xr_4_5, xr_4_6, xr_4_7, xr_4_8, xr_8_0, xr_10_5, xr_10_6, xr_10_7, xr_10_8, xr_14_0, xr_16_0, xr_16_1, xr_16_2, xr_20_0, xr_21_0, xr_21_1, xr_22_0, xr_24_0, xr_26_0, xr_26_1, xr_26_2, xr_30_0, xr_30_1, xr_30_2, xr_30_3, xr_30_4, xr_30_5, xr_30_6, xr_30_7, xr_31_0, xr_39_0, xr_39_1, xr_39_2, xr_42_0, xr_42_2, xr_42_3, xr_42_4, xr_42_5, xr_42_6, xr_42_8, xr_42_10, xr_42_13, xr_42_14, xr_42_15, xr_42_16, xr_42_23, xr_42_24, xr_42_25]
  by_cases h1 : x < 48
  · rw [xbr_t h1, if_neg (by omega)]
  · rw [xbr_f h1]
    by_cases h2 : 57 < x
    · rw [xbr_t h2, if_neg (by omega)]
    · rw [xbr_f h2, if_pos (by omega)]
/-- the next cell -/
def xnext (N x d : Int) : Int := if d = 0 then (if N ≤ x + 1 then 0 else x + 1) else (if x ≤ 0 then N - 1 else x - 1)
theorem q_nextCell {c : Nat} (hc : x_c c = 3) {x d : Int} (hx : xG x) (hd : xG d) (hm : xG (M c 0)) (hx2 : xG (x + 1)) : Wc 17 [xr c, xi x, xi d] M Q = Q (some (xi (xnext (M c 0) x d))) M := by
  simp (disch := first | assumption | decide +kernel | exact hM _ _ | exact hL _ | exact xG_b | exact xG_bt _ _ | omega) only [wc17, w17_0, w17_1, w17_4, w17_5, w17_8, w17_9, w17_10, w17_11, w17_14, w17_15, w17_18, w17_19, w17_20, w17_21, w17_22, w17_23, w17_24, w17_25, w17_28, w17_31, w17_32, w17_33, w17_34, w17_37, w17_38, true_implies, false_implies, not_true_eq_false, not_false_eq_true, and_true, true_and, Int.reduceEq, Int.reduceLE, Int.reduceLT, Int.reduceNeg, xb_eq0, xb_eq1, xup_ne, xup_self, xup_k, xjl_i, xjl_r, xjl_j, xjl_l, Option.toList_some, Option.toList_none, List.cons_append, List.nil_append, xr_0_0, xr_0_1, xr_0_2, xr_0_3, xr_0_4, xr_0_5, xr_0_6, xr_0_7, xr_1_0, xr_1_1, xr_4_5, xr_4_6, xr_4_7, xr_4_8, xr_8_0, xr_10_5, xr_10_6, xr_10_7, xr_10_8, xr_14_0, xr_16_0, xr_16_1, xr_16_2, xr_20_0, xr_21_0, xr_21_1, xr_22_0, xr_24_0, xr_26_0, xr_26_1, xr_26_2, xr_30_0, xr_30_1, xr_30_2, xr_30_3, xr_30_4, xr_30_5, xr_30_6, xr_30_7, xr_31_0, xr_39_0, xr_39_1, xr_39_2, xr_42_0, xr_42_2, xr_42_3, xr_42_4, xr_42_5, xr_42_6, xr_42_8, xr_42_10, xr_42_13, xr_42_14, xr_42_15, xr_42_16, xr_42_23, xr_42_24, xr_42_25]
  unfold xnext
  by_cases h1 : d = 0
  · rw [xbr_t h1, if_pos h1]
    by_cases h2 : M c 0 ≤ x + 1
    · rw [xbr_t h2, if_pos h2]
    · rw [xbr_f h2, if_neg h2]
  · rw [xbr_f h1, if_neg h1]
    by_cases h2 : x ≤ 0
    · rw [xbr_t h2, if_pos h2]
    · rw [xbr_f h2, if_neg h2]
def xround (N x : Int) : Int := if 2 * x ≤ N then (if 2 * x ≤ -N then x + N else x) else x - N
theorem q_byRound {c : Nat} (hc : x_c c = 3) {x : Int} (hx : -100 ≤ x ∧ x ≤ 100) (hm : 0 ≤ M c 0 ∧ M c 0 ≤ 100) : Wc 18 [xr c, xi x] M Q = Q (some (xi (xround (M c 0) x))) M := by
  simp (disch := first | assumption | decide +kernel | exact hM _ _ | exact hL _ | exact xG_b | exact xG_bt _ _ | omega) only [wc18, w18_0, w18_1, w18_2, w18_3, w18_4, w18_7, w18_10, w18_11, w18_12, w18_15, w18_16, w18_17, w18_18, w18_19, w18_20, w18_21, w18_24, w18_25, w18_28, w18_29, w18_30, w18_33, w18_34, w18_37, w18_38, true_implies, false_implies, not_true_eq_false, not_false_eq_true, and_true, true_and, Int.reduceEq, Int.reduceLE, Int.reduceLT, Int.reduceNeg, xb_eq0, xb_eq1, xup_ne, xup_self, xup_k, xjl_i, xjl_r, xjl_j, xjl_l, Option.toList_some, Option.toList_none, List.cons_append, List.nil_append, xr_0_0, xr_0_1, xr_0_2, xr_0_3, xr_0_4, xr_0_5, xr_0_6, xr_0_7, xr_1_0, xr_1_1, xr_4_5, xr_4_6, xr_4_7, xr_4_8, xr_8_0, xr_10_5, xr_10_6, xr_10_7, xr_10_8, xr_14_0, xr_16_0, xr_16_1, xr_16_2, xr_20_0, xr_21_0, xr_21_1, xr_22_0, xr_24_0, xr_26_0, xr_26_1, xr_26_2, xr_30_0, xr_30_1, xr_30_2, xr_30_3, xr_30_4, xr_30_5, xr_30_6, xr_30_7, xr_31_0, xr_39_0, xr_39_1, xr_39_2, xr_42_0, xr_42_2, xr_42_3, xr_42_4, xr_42_5, xr_42_6, xr_42_8, xr_42_10, xr_42_13, xr_42_14, xr_42_15, xr_42_16, xr_42_23, xr_42_24, xr_42_25]
  unfold xround
  by_cases h1 : 2 * x ≤ M c 0
  · rw [xbr_t h1, if_pos h1]
    by_cases h2 : -M c 0 < 2 * x
    · rw [xbr_t h2, if_neg (by omega)]
    · rw [xbr_f h2, if_pos (by omega)]
  · rw [xbr_f h1, if_neg h1]
theorem lp_toldIn {c pl : Nat} (hc : x_c c = 3) (hpl : x_r c 7 = pl) (h20 : x_c pl = 20) (h5 : x_n pl = 5) {x : Int} (hx : xG x) (hP : M c 2 ≤ 5) (hG : ∀ p, 0 ≤ p → p < M c 2 → xG (M pl p)) : ∀ (k : Nat) (i m : Int), i + k = M c 2 → 0 ≤ i → m = xcn (fun p => decide (M pl p = x)) i.toNat → Wp 10 4 [xr c, xi x, xi m, xi i] [] M Q = Q (some (xi (xcn (fun p => decide (M pl p = x)) (M c 2).toNat))) M := by
  intro k
  induction k with
  | zero =>
    intro i m hi h0 hm
    rw [w10_4]
    simp (disch := first | assumption | decide +kernel | exact hM _ _ | exact hL _ | exact xG_b | exact xG_bt _ _ | omega) only [wc10, w10_0, w10_1, w10_2, w10_3, w10_5, w10_6, w10_9, w10_12, w10_13, w10_16, w10_17, w10_18, w10_19, w10_22, w10_25, w10_28, w10_31, w10_32, true_implies, false_implies, not_true_eq_false, not_false_eq_true, and_true, true_and, Int.reduceEq, Int.reduceLE, Int.reduceLT, Int.reduceNeg, xb_eq0, xb_eq1, xup_ne, xup_self, xup_k, xjl_i, xjl_r, xjl_j, xjl_l, Option.toList_some, Option.toList_none, List.cons_append, List.nil_append, xr_0_0, xr_0_1, xr_0_2, xr_0_3, xr_0_4, xr_0_5, xr_0_6, xr_0_7, xr_1_0, xr_1_1, xr_4_5, xr_4_6, xr_4_7, xr_4_8, xr_8_0, xr_10_5, xr_10_6, xr_10_7, xr_10_8, xr_14_0, xr_16_0, xr_16_1, xr_16_2, xr_20_0, xr_21_0, xr_21_1, xr_22_0, xr_24_0, xr_26_0, xr_26_1, xr_26_2, xr_30_0, xr_30_1, xr_30_2, xr_30_3, xr_30_4, xr_30_5, xr_30_6, xr_30_7, xr_31_0, xr_39_0, xr_39_1, xr_39_2, xr_42_0, xr_42_2, xr_42_3, xr_42_4, xr_42_5, xr_42_6, xr_42_8, xr_42_10, xr_42_13, xr_42_14, xr_42_15, xr_42_16, xr_42_23, xr_42_24, xr_42_25]
    rw [xbr_t (by omega), hm, show i = M c 2 by omega]
  | succ k ih =>
    intro i m hi h0 hm
    have hg := hG i h0 (by omega)
    rw [w10_4]
    simp (disch := first | assumption | decide +kernel | exact hM _ _ | exact hL _ | exact xG_b | exact xG_bt _ _ | omega) only [wc10, w10_0, w10_1, w10_2, w10_3, w10_5, w10_6, w10_9, w10_12, w10_13, w10_16, w10_17, w10_18, w10_19, w10_22, w10_28, w10_31, w10_32, true_implies, false_implies, not_true_eq_false, not_false_eq_true, and_true, true_and, Int.reduceEq, Int.reduceLE, Int.reduceLT, Int.reduceNeg, xb_eq0, xb_eq1, xup_ne, xup_self, xup_k, xjl_i, xjl_r, xjl_j, xjl_l, Option.toList_some, Option.toList_none, List.cons_append, List.nil_append, xr_0_0, xr_0_1, xr_0_2, xr_0_3, xr_0_4, xr_0_5, xr_0_6, xr_0_7, xr_1_0, xr_1_1, xr_4_5, xr_4_6, xr_4_7, xr_4_8, xr_8_0, xr_10_5, xr_10_6, xr_10_7, xr_10_8, xr_14_0, xr_16_0, xr_16_1, xr_16_2, xr_20_0, xr_21_0, xr_21_1, xr_22_0, xr_24_0, xr_26_0, xr_26_1, xr_26_2, xr_30_0, xr_30_1, xr_30_2, xr_30_3, xr_30_4, xr_30_5, xr_30_6, xr_30_7, xr_31_0, xr_39_0, xr_39_1, xr_39_2, xr_42_0, xr_42_2, xr_42_3, xr_42_4, xr_42_5, xr_42_6, xr_42_8, xr_42_10, xr_42_13, xr_42_14, xr_42_15, xr_42_16, xr_42_23, xr_42_24, xr_42_25, hpl]
    rw [xbr_f (by omega)]
    by_cases h1 : M pl i = x
    · rw [xbr_t' h1]
      simp (disch := first | assumption | decide +kernel | exact hM _ _ | exact hL _ | exact xG_b | exact xG_bt _ _ | omega) only [w10_25, w10_28, true_implies, false_implies, not_true_eq_false, not_false_eq_true, and_true, true_and, Int.reduceEq, Int.reduceLE, Int.reduceLT, Int.reduceNeg, xb_eq0, xb_eq1, xup_ne, xup_self, xup_k, xjl_i, xjl_r, xjl_j, xjl_l, Option.toList_some, Option.toList_none, List.cons_append, List.nil_append, xr_0_0, xr_0_1, xr_0_2, xr_0_3, xr_0_4, xr_0_5, xr_0_6, xr_0_7, xr_1_0, xr_1_1, xr_4_5, xr_4_6, xr_4_7, xr_4_8, xr_8_0, xr_10_5, xr_10_6, xr_10_7, xr_10_8, xr_14_0, xr_16_0, xr_16_1, xr_16_2, xr_20_0, xr_21_0, xr_21_1, xr_22_0, xr_24_0, xr_26_0, xr_26_1, xr_26_2, xr_30_0, xr_30_1, xr_30_2, xr_30_3, xr_30_4, xr_30_5, xr_30_6, xr_30_7, xr_31_0, xr_39_0, xr_39_1, xr_39_2, xr_42_0, xr_42_2, xr_42_3, xr_42_4, xr_42_5, xr_42_6, xr_42_8, xr_42_10, xr_42_13, xr_42_14, xr_42_15, xr_42_16, xr_42_23, xr_42_24, xr_42_25]
      exact ih (i + 1) (m + 1) (by omega) (by omega) (by rw [xcn_i h0, hm]; simp [h1])
    · rw [xbr_f' h1]
      simp (disch := first | assumption | decide +kernel | exact hM _ _ | exact hL _ | exact xG_b | exact xG_bt _ _ | omega) only [w10_25, w10_28, true_implies, false_implies, not_true_eq_false, not_false_eq_true, and_true, true_and, Int.reduceEq, Int.reduceLE, Int.reduceLT, Int.reduceNeg, xb_eq0, xb_eq1, xup_ne, xup_self, xup_k, xjl_i, xjl_r, xjl_j, xjl_l, Option.toList_some, Option.toList_none, List.cons_append, List.nil_append, xr_0_0, xr_0_1, xr_0_2, xr_0_3, xr_0_4, xr_0_5, xr_0_6, xr_0_7, xr_1_0, xr_1_1, xr_4_5, xr_4_6, xr_4_7, xr_4_8, xr_8_0, xr_10_5, xr_10_6, xr_10_7, xr_10_8, xr_14_0, xr_16_0, xr_16_1, xr_16_2, xr_20_0, xr_21_0, xr_21_1, xr_22_0, xr_24_0, xr_26_0, xr_26_1, xr_26_2, xr_30_0, xr_30_1, xr_30_2, xr_30_3, xr_30_4, xr_30_5, xr_30_6, xr_30_7, xr_31_0, xr_39_0, xr_39_1, xr_39_2, xr_42_0, xr_42_2, xr_42_3, xr_42_4, xr_42_5, xr_42_6, xr_42_8, xr_42_10, xr_42_13, xr_42_14, xr_42_15, xr_42_16, xr_42_23, xr_42_24, xr_42_25]
      exact ih (i + 1) m (by omega) (by omega) (by rw [xcn_i h0, hm]; simp [h1])
theorem q_toldIn {c pl : Nat} (hc : x_c c = 3) (hpl : x_r c 7 = pl) (h20 : x_c pl = 20) (h5 : x_n pl = 5) {x : Int} (hx : xG x) (hP : 0 ≤ M c 2 ∧ M c 2 ≤ 5) (hG : ∀ p, 0 ≤ p → p < M c 2 → xG (M pl p)) : Wc 10 [xr c, xi x] M Q = Q (some (xi (xcn (fun p => decide (M pl p = x)) (M c 2).toNat))) M := by
  simp (disch := first | assumption | decide +kernel | exact hM _ _ | exact hL _ | exact xG_b | exact xG_bt _ _ | omega) only [wc10, w10_0, w10_1, w10_2, w10_3, w10_5, w10_6, w10_9, w10_12, w10_13, w10_16, w10_17, w10_18, w10_19, w10_22, w10_25, w10_28, w10_31, w10_32, true_implies, false_implies, not_true_eq_false, not_false_eq_true, and_true, true_and, Int.reduceEq, Int.reduceLE, Int.reduceLT, Int.reduceNeg, xb_eq0, xb_eq1, xup_ne, xup_self, xup_k, xjl_i, xjl_r, xjl_j, xjl_l, Option.toList_some, Option.toList_none, List.cons_append, List.nil_append, xr_0_0, xr_0_1, xr_0_2, xr_0_3, xr_0_4, xr_0_5, xr_0_6, xr_0_7, xr_1_0, xr_1_1, xr_4_5, xr_4_6, xr_4_7, xr_4_8, xr_8_0, xr_10_5, xr_10_6, xr_10_7, xr_10_8, xr_14_0, xr_16_0, xr_16_1, xr_16_2, xr_20_0, xr_21_0, xr_21_1, xr_22_0, xr_24_0, xr_26_0, xr_26_1, xr_26_2, xr_30_0, xr_30_1, xr_30_2, xr_30_3, xr_30_4, xr_30_5, xr_30_6, xr_30_7, xr_31_0, xr_39_0, xr_39_1, xr_39_2, xr_42_0, xr_42_2, xr_42_3, xr_42_4, xr_42_5, xr_42_6, xr_42_8, xr_42_10, xr_42_13, xr_42_14, xr_42_15, xr_42_16, xr_42_23, xr_42_24, xr_42_25]
  exact lp_toldIn hc hpl h20 h5 hx hP.2 hG (M c 2).toNat 0 0 (by omega) (by omega) rfl
theorem lp_standsIn {c pl : Nat} (hc : x_c c = 3) (hpl : x_r c 5 = pl) (h20 : x_c pl = 20) (h5 : x_n pl = 5) {x : Int} (hx : xG x) (hP : M c 1 ≤ 5) (hG : ∀ p, 0 ≤ p → p < M c 1 → xG (M pl p)) : ∀ (k : Nat) (i : Int), i + k = M c 1 → 0 ≤ i → xcn (fun p => decide (M pl p = x)) i.toNat = 0 → Wp 11 2 [xr c, xi x, xi i] [] M Q = Q (some (xi (if 0 < xcn (fun p => decide (M pl p = x)) (M c 1).toNat then 1 else 0))) M := by
  intro k
  induction k with
  | zero =>
    intro i hi h0 hm
    rw [w11_2]
    simp (disch := first | assumption | decide +kernel | exact hM _ _ | exact hL _ | exact xG_b | exact xG_bt _ _ | omega) only [wc11, w11_0, w11_1, w11_3, w11_4, w11_7, w11_10, w11_11, w11_14, w11_15, w11_16, w11_17, w11_20, w11_21, w11_22, w11_25, w11_28, w11_29, true_implies, false_implies, not_true_eq_false, not_false_eq_true, and_true, true_and, Int.reduceEq, Int.reduceLE, Int.reduceLT, Int.reduceNeg, xb_eq0, xb_eq1, xup_ne, xup_self, xup_k, xjl_i, xjl_r, xjl_j, xjl_l, Option.toList_some, Option.toList_none, List.cons_append, List.nil_append, xr_0_0, xr_0_1, xr_0_2, xr_0_3, xr_0_4, xr_0_5, xr_0_6, xr_0_7, xr_1_0, xr_1_1, xr_4_5, xr_4_6, xr_4_7, xr_4_8, xr_8_0, xr_10_5, xr_10_6, xr_10_7, xr_10_8, xr_14_0, xr_16_0, xr_16_1, xr_16_2, xr_20_0, xr_21_0, xr_21_1, xr_22_0, xr_24_0, xr_26_0, xr_26_1, xr_26_2, xr_30_0, xr_30_1, xr_30_2, xr_30_3, xr_30_4, xr_30_5, xr_30_6, xr_30_7, xr_31_0, xr_39_0, xr_39_1, xr_39_2, xr_42_0, xr_42_2, xr_42_3, xr_42_4, xr_42_5, xr_42_6, xr_42_8, xr_42_10, xr_42_13, xr_42_14, xr_42_15, xr_42_16, xr_42_23, xr_42_24, xr_42_25]
    rw [xbr_t (by omega), if_neg]
    rw [show M c 1 = i by omega, hm]
    omega
  | succ k ih =>
    intro i hi h0 hm
    have hg := hG i h0 (by omega)
    rw [w11_2]
    simp (disch := first | assumption | decide +kernel | exact hM _ _ | exact hL _ | exact xG_b | exact xG_bt _ _ | omega) only [wc11, w11_0, w11_1, w11_3, w11_4, w11_7, w11_10, w11_11, w11_14, w11_15, w11_16, w11_17, w11_20, w11_21, w11_25, w11_28, w11_29, true_implies, false_implies, not_true_eq_false, not_false_eq_true, and_true, true_and, Int.reduceEq, Int.reduceLE, Int.reduceLT, Int.reduceNeg, xb_eq0, xb_eq1, xup_ne, xup_self, xup_k, xjl_i, xjl_r, xjl_j, xjl_l, Option.toList_some, Option.toList_none, List.cons_append, List.nil_append, xr_0_0, xr_0_1, xr_0_2, xr_0_3, xr_0_4, xr_0_5, xr_0_6, xr_0_7, xr_1_0, xr_1_1, xr_4_5, xr_4_6, xr_4_7, xr_4_8, xr_8_0, xr_10_5, xr_10_6, xr_10_7, xr_10_8, xr_14_0, xr_16_0, xr_16_1, xr_16_2, xr_20_0, xr_21_0, xr_21_1, xr_22_0, xr_24_0, xr_26_0, xr_26_1, xr_26_2, xr_30_0, xr_30_1, xr_30_2, xr_30_3, xr_30_4, xr_30_5, xr_30_6, xr_30_7, xr_31_0, xr_39_0, xr_39_1, xr_39_2, xr_42_0, xr_42_2, xr_42_3, xr_42_4, xr_42_5, xr_42_6, xr_42_8, xr_42_10, xr_42_13, xr_42_14, xr_42_15, xr_42_16, xr_42_23, xr_42_24, xr_42_25, hpl]
    rw [xbr_f (by omega)]
    by_cases h1 : M pl i = x
    · rw [xbr_t' h1, if_pos]
      exact xcn_pos.mpr ⟨i.toNat, by omega, by rw [Int.toNat_of_nonneg h0]; simp [h1]⟩
    · rw [xbr_f' h1]
      simp (disch := first | assumption | decide +kernel | exact hM _ _ | exact hL _ | exact xG_b | exact xG_bt _ _ | omega) only [w11_22, w11_25, true_implies, false_implies, not_true_eq_false, not_false_eq_true, and_true, true_and, Int.reduceEq, Int.reduceLE, Int.reduceLT, Int.reduceNeg, xb_eq0, xb_eq1, xup_ne, xup_self, xup_k, xjl_i, xjl_r, xjl_j, xjl_l, Option.toList_some, Option.toList_none, List.cons_append, List.nil_append, xr_0_0, xr_0_1, xr_0_2, xr_0_3, xr_0_4, xr_0_5, xr_0_6, xr_0_7, xr_1_0, xr_1_1, xr_4_5, xr_4_6, xr_4_7, xr_4_8, xr_8_0, xr_10_5, xr_10_6, xr_10_7, xr_10_8, xr_14_0, xr_16_0, xr_16_1, xr_16_2, xr_20_0, xr_21_0, xr_21_1, xr_22_0, xr_24_0, xr_26_0, xr_26_1, xr_26_2, xr_30_0, xr_30_1, xr_30_2, xr_30_3, xr_30_4, xr_30_5, xr_30_6, xr_30_7, xr_31_0, xr_39_0, xr_39_1, xr_39_2, xr_42_0, xr_42_2, xr_42_3, xr_42_4, xr_42_5, xr_42_6, xr_42_8, xr_42_10, xr_42_13, xr_42_14, xr_42_15, xr_42_16, xr_42_23, xr_42_24, xr_42_25]
      exact ih (i + 1) (by omega) (by omega) (by rw [xcn_i h0, hm]; simp [h1])
theorem q_standsIn {c pl : Nat} (hc : x_c c = 3) (hpl : x_r c 5 = pl) (h20 : x_c pl = 20) (h5 : x_n pl = 5) {x : Int} (hx : xG x) (hP : 0 ≤ M c 1 ∧ M c 1 ≤ 5) (hG : ∀ p, 0 ≤ p → p < M c 1 → xG (M pl p)) : Wc 11 [xr c, xi x] M Q = Q (some (xi (if 0 < xcn (fun p => decide (M pl p = x)) (M c 1).toNat then 1 else 0))) M := by
  simp (disch := first | assumption | decide +kernel | exact hM _ _ | exact hL _ | exact xG_b | exact xG_bt _ _ | omega) only [wc11, w11_0, w11_1, w11_3, w11_4, w11_7, w11_10, w11_11, w11_14, w11_15, w11_16, w11_17, w11_20, w11_21, w11_22, w11_25, w11_28, w11_29, true_implies, false_implies, not_true_eq_false, not_false_eq_true, and_true, true_and, Int.reduceEq, Int.reduceLE, Int.reduceLT, Int.reduceNeg, xb_eq0, xb_eq1, xup_ne, xup_self, xup_k, xjl_i, xjl_r, xjl_j, xjl_l, Option.toList_some, Option.toList_none, List.cons_append, List.nil_append, xr_0_0, xr_0_1, xr_0_2, xr_0_3, xr_0_4, xr_0_5, xr_0_6, xr_0_7, xr_1_0, xr_1_1, xr_4_5, xr_4_6, xr_4_7, xr_4_8, xr_8_0, xr_10_5, xr_10_6, xr_10_7, xr_10_8, xr_14_0, xr_16_0, xr_16_1, xr_16_2, xr_20_0, xr_21_0, xr_21_1, xr_22_0, xr_24_0, xr_26_0, xr_26_1, xr_26_2, xr_30_0, xr_30_1, xr_30_2, xr_30_3, xr_30_4, xr_30_5, xr_30_6, xr_30_7, xr_31_0, xr_39_0, xr_39_1, xr_39_2, xr_42_0, xr_42_2, xr_42_3, xr_42_4, xr_42_5, xr_42_6, xr_42_8, xr_42_10, xr_42_13, xr_42_14, xr_42_15, xr_42_16, xr_42_23, xr_42_24, xr_42_25]
  exact lp_standsIn hc hpl h20 h5 hx hP.2 hG (M c 1).toNat 0 (by omega) (by omega) rfl
theorem q_standsIn4 {x : Int} (hx : xG x) (hP : 0 ≤ M 4 1 ∧ M 4 1 ≤ 5) (hG : ∀ p, 0 ≤ p → p < M 4 1 → xG (M 5 p)) : Wc 11 [xr 4, xi x] M Q = Q (some (xi (if 0 < xcn (fun p => decide (M 5 p = x)) (M 4 1).toNat then 1 else 0))) M := q_standsIn rfl rfl rfl rfl hx hP hG
def xdraw (z p : Int) : Int := (7919 * z + 331 * p + 1) * (7919 * z + 331 * p + 1) % 65521 / 8 % 31
theorem xdraw_sq {z p : Int} (hz : 0 ≤ z ∧ z ≤ 9999) (hp : 0 ≤ p ∧ p ≤ 4) : 0 ≤ (7919 * z + 331 * p + 1) * (7919 * z + 331 * p + 1) ∧ (7919 * z + 331 * p + 1) * (7919 * z + 331 * p + 1) ≤ 79183406 * 79183406 := by
  generalize hx : 7919 * z + 331 * p + 1 = x
  have h0 : 0 ≤ x := by omega
  have h1 : x ≤ 79183406 := by omega
  exact ⟨Int.mul_nonneg h0 h0, Int.mul_le_mul h1 h1 h0 (by omega)⟩
theorem q_drawnStart {z p : Int} (hz : 0 ≤ z ∧ z ≤ 9999) (hp : 0 ≤ p ∧ p ≤ 4) : Wc 78 [xi z, xi p] M Q = Q (some (xi (xdraw z p))) M := by
  simp (disch := first | assumption | decide +kernel | exact hM _ _ | exact hL _ | exact xG_b | exact xG_bt _ _ | omega) only [wc78, w78_0, w78_3, w78_4, w78_5, w78_6, w78_9, w78_10, w78_11, w78_12, w78_13, w78_14, w78_15, w78_16, w78_17, w78_18, w78_19, w78_22, w78_23, w78_26, w78_27, w78_29, w78_31, w78_34, w78_35, w78_36, true_implies, false_implies, not_true_eq_false, not_false_eq_true, and_true, true_and, Int.reduceEq, Int.reduceLE, Int.reduceLT, Int.reduceNeg, xb_eq0, xb_eq1, xup_ne, xup_self, xup_k, xjl_i, xjl_r, xjl_j, xjl_l, Option.toList_some, Option.toList_none, List.cons_append, List.nil_append, xr_0_0, xr_0_1, xr_0_2, xr_0_3, xr_0_4, xr_0_5, xr_0_6, xr_0_7, xr_1_0, xr_1_1, xr_4_5, xr_4_6, xr_4_7, xr_4_8, xr_8_0, xr_10_5, xr_10_6, xr_10_7, xr_10_8, xr_14_0, xr_16_0, xr_16_1, xr_16_2, xr_20_0, xr_21_0, xr_21_1, xr_22_0, xr_24_0, xr_26_0, xr_26_1, xr_26_2, xr_30_0, xr_30_1, xr_30_2, xr_30_3, xr_30_4, xr_30_5, xr_30_6, xr_30_7, xr_31_0, xr_39_0, xr_39_1, xr_39_2, xr_42_0, xr_42_2, xr_42_3, xr_42_4, xr_42_5, xr_42_6, xr_42_8, xr_42_10, xr_42_13, xr_42_14, xr_42_15, xr_42_16, xr_42_23, xr_42_24, xr_42_25]
  obtain ⟨s1, s2⟩ := xdraw_sq hz hp
  rw [xn_of (x := z) (by omega) (by omega), xn_of (x := p) (by omega) (by omega)]
  unfold xdraw
  generalize (7919 * z + 331 * p + 1) * (7919 * z + 331 * p + 1) = S at s1 s2 ⊢
  rw [xnl64_of (x := S) (by omega) (by omega), xnl64_of (x := 65521) (by omega) (by omega), xnl64_of (x := 8) (by omega) (by omega), xnl64_of (x := 31) (by omega) (by omega)]
  rw [Int.tmod_eq_emod_of_nonneg s1]
  have a1 : 0 ≤ S % 65521 := by omega
  rw [xnl64_of (x := S % 65521) (by omega) (by omega), Int.tdiv_eq_ediv_of_nonneg a1]
  rw [xnl64_of (x := S % 65521 / 8) (by omega) (by omega), Int.tmod_eq_emod_of_nonneg (by omega)]
  simp
theorem q_isAt {p t : Int} (hp : 0 ≤ p ∧ p < 5) (ht : 0 ≤ t ∧ t < 5) (h1 : xG (M 33 p)) (h2 : xG (M 5 t)) : Wc 30 [xr 30, xi p, xi t] M Q = Q (some (xi (if M 33 p = M 5 t then 1 else 0))) M := by
  simp (disch := first | assumption | decide +kernel | exact hM _ _ | exact hL _ | exact xG_b | exact xG_bt _ _ | omega) only [wc30, w30_0, w30_1, w30_4, w30_5, w30_6, w30_7, w30_10, w30_13, w30_14, w30_15, w30_18, w30_19, w30_22, w30_23, true_implies, false_implies, not_true_eq_false, not_false_eq_true, and_true, true_and, Int.reduceEq, Int.reduceLE, Int.reduceLT, Int.reduceNeg, xb_eq0, xb_eq1, xup_ne, xup_self, xup_k, xjl_i, xjl_r, xjl_j, xjl_l, Option.toList_some, Option.toList_none, List.cons_append, List.nil_append, xr_0_0, xr_0_1, xr_0_2, xr_0_3, xr_0_4, xr_0_5, xr_0_6, xr_0_7, xr_1_0, xr_1_1, xr_4_5, xr_4_6, xr_4_7, xr_4_8, xr_8_0, xr_10_5, xr_10_6, xr_10_7, xr_10_8, xr_14_0, xr_16_0, xr_16_1, xr_16_2, xr_20_0, xr_21_0, xr_21_1, xr_22_0, xr_24_0, xr_26_0, xr_26_1, xr_26_2, xr_30_0, xr_30_1, xr_30_2, xr_30_3, xr_30_4, xr_30_5, xr_30_6, xr_30_7, xr_31_0, xr_39_0, xr_39_1, xr_39_2, xr_42_0, xr_42_2, xr_42_3, xr_42_4, xr_42_5, xr_42_6, xr_42_8, xr_42_10, xr_42_13, xr_42_14, xr_42_15, xr_42_16, xr_42_23, xr_42_24, xr_42_25]
  by_cases h : M 33 p = M 5 t
  · rw [xbr_t' h, if_pos h]
  · rw [xbr_f' h, if_neg h]
theorem q_someAt {t : Int} (ht : 0 ≤ t ∧ t < 5) (h1 : 0 ≤ M 5 t ∧ M 5 t < 24) (h2 : xG (M 38 (M 5 t))) : Wc 31 [xr 30, xi t] M Q = Q (some (xi (if 0 < M 38 (M 5 t) then 1 else 0))) M := by
  simp (disch := first | assumption | decide +kernel | exact hM _ _ | exact hL _ | exact xG_b | exact xG_bt _ _ | omega) only [wc31, w31_0, w31_1, w31_4, w31_5, w31_8, w31_11, w31_12, w31_13, w31_14, w31_17, w31_18, w31_21, w31_22, true_implies, false_implies, not_true_eq_false, not_false_eq_true, and_true, true_and, Int.reduceEq, Int.reduceLE, Int.reduceLT, Int.reduceNeg, xb_eq0, xb_eq1, xup_ne, xup_self, xup_k, xjl_i, xjl_r, xjl_j, xjl_l, Option.toList_some, Option.toList_none, List.cons_append, List.nil_append, xr_0_0, xr_0_1, xr_0_2, xr_0_3, xr_0_4, xr_0_5, xr_0_6, xr_0_7, xr_1_0, xr_1_1, xr_4_5, xr_4_6, xr_4_7, xr_4_8, xr_8_0, xr_10_5, xr_10_6, xr_10_7, xr_10_8, xr_14_0, xr_16_0, xr_16_1, xr_16_2, xr_20_0, xr_21_0, xr_21_1, xr_22_0, xr_24_0, xr_26_0, xr_26_1, xr_26_2, xr_30_0, xr_30_1, xr_30_2, xr_30_3, xr_30_4, xr_30_5, xr_30_6, xr_30_7, xr_31_0, xr_39_0, xr_39_1, xr_39_2, xr_42_0, xr_42_2, xr_42_3, xr_42_4, xr_42_5, xr_42_6, xr_42_8, xr_42_10, xr_42_13, xr_42_14, xr_42_15, xr_42_16, xr_42_23, xr_42_24, xr_42_25]
  by_cases h : 0 < M 38 (M 5 t)
  · rw [if_pos h, xbr_f (by omega)]
  · rw [if_neg h, xbr_t (by omega)]
theorem q_cellsUpTo {p t : Int} (hp : 0 ≤ p ∧ p < 5) (ht : 0 ≤ t ∧ t < 5) (h1 : 0 ≤ M 33 p ∧ M 33 p < 24) (h2 : 0 ≤ M 5 t ∧ M 5 t < 24) : Wc 32 [xr 30, xi p, xi t] M Q = Q (some (xi (if M 5 t - M 33 p < 0 then M 5 t - M 33 p + M 4 0 else M 5 t - M 33 p))) M := by
  simp (disch := first | assumption | decide +kernel | exact hM _ _ | exact hL _ | exact xG_b | exact xG_bt _ _ | omega) only [wc32, w32_0, w32_1, w32_4, w32_7, w32_8, w32_9, w32_10, w32_13, w32_14, w32_15, w32_16, w32_17, w32_18, w32_21, w32_22, w32_23, w32_26, w32_29, w32_30, w32_33, w32_34, true_implies, false_implies, not_true_eq_false, not_false_eq_true, and_true, true_and, Int.reduceEq, Int.reduceLE, Int.reduceLT, Int.reduceNeg, xb_eq0, xb_eq1, xup_ne, xup_self, xup_k, xjl_i, xjl_r, xjl_j, xjl_l, Option.toList_some, Option.toList_none, List.cons_append, List.nil_append, xr_0_0, xr_0_1, xr_0_2, xr_0_3, xr_0_4, xr_0_5, xr_0_6, xr_0_7, xr_1_0, xr_1_1, xr_4_5, xr_4_6, xr_4_7, xr_4_8, xr_8_0, xr_10_5, xr_10_6, xr_10_7, xr_10_8, xr_14_0, xr_16_0, xr_16_1, xr_16_2, xr_20_0, xr_21_0, xr_21_1, xr_22_0, xr_24_0, xr_26_0, xr_26_1, xr_26_2, xr_30_0, xr_30_1, xr_30_2, xr_30_3, xr_30_4, xr_30_5, xr_30_6, xr_30_7, xr_31_0, xr_39_0, xr_39_1, xr_39_2, xr_42_0, xr_42_2, xr_42_3, xr_42_4, xr_42_5, xr_42_6, xr_42_8, xr_42_10, xr_42_13, xr_42_14, xr_42_15, xr_42_16, xr_42_23, xr_42_24, xr_42_25]
  by_cases h : 0 ≤ M 5 t - M 33 p
  · rw [xbr_t h, if_neg (by omega)]
  · rw [xbr_f h, if_pos (by omega)]
theorem q_hangs {p : Int} (hp : 0 ≤ p ∧ p < 5) (h2 : xG (M 36 p)) : Wc 34 [xr 30, xi p] M Q = Q (some (xi (if xbt (M 31 1) p = 0 ∧ M 36 p ≤ 30 then 1 else 0))) M := by
  simp (disch := first | assumption | decide +kernel | exact hM _ _ | exact hL _ | exact xG_b | exact xG_bt _ _ | omega) only [wc34, w34_0, w34_1, w34_4, w34_7, w34_8, w34_11, w34_14, w34_15, w34_18, w34_19, w34_20, w34_22, w34_25, w34_26, w34_29, w34_30, true_implies, false_implies, not_true_eq_false, not_false_eq_true, and_true, true_and, Int.reduceEq, Int.reduceLE, Int.reduceLT, Int.reduceNeg, xb_eq0, xb_eq1, xup_ne, xup_self, xup_k, xjl_i, xjl_r, xjl_j, xjl_l, Option.toList_some, Option.toList_none, List.cons_append, List.nil_append, xr_0_0, xr_0_1, xr_0_2, xr_0_3, xr_0_4, xr_0_5, xr_0_6, xr_0_7, xr_1_0, xr_1_1, xr_4_5, xr_4_6, xr_4_7, xr_4_8, xr_8_0, xr_10_5, xr_10_6, xr_10_7, xr_10_8, xr_14_0, xr_16_0, xr_16_1, xr_16_2, xr_20_0, xr_21_0, xr_21_1, xr_22_0, xr_24_0, xr_26_0, xr_26_1, xr_26_2, xr_30_0, xr_30_1, xr_30_2, xr_30_3, xr_30_4, xr_30_5, xr_30_6, xr_30_7, xr_31_0, xr_39_0, xr_39_1, xr_39_2, xr_42_0, xr_42_2, xr_42_3, xr_42_4, xr_42_5, xr_42_6, xr_42_8, xr_42_10, xr_42_13, xr_42_14, xr_42_15, xr_42_16, xr_42_23, xr_42_24, xr_42_25, q_bit]
  by_cases h : xbt (M 31 1) p = 0
  · rw [xbr_t' h]
    by_cases h3 : 30 < M 36 p
    · rw [xbr_t h3, if_neg (by omega)]
    · rw [xbr_f h3, if_pos (by omega)]
  · rw [xbr_f' h, if_neg (by omega)]
end SMALL
