/-! how a text is read -/
def pFig (x : Int) : Bool := decide (48 ≤ x ∧ x ≤ 57)
/-- a number at place a that the sign e ends: it, and the place behind -/
def pN (L : Int → Int) (n a e : Int) : Option (Int × Int) :=
  if a < n ∧ pFig (L a) = true then
    (if a + 1 < n ∧ pFig (L (a + 1)) = true then
      (if a + 2 < n ∧ L (a + 2) = e then some (10 * (L a - 48) + L (a + 1) - 48, a + 3) else none)
     else (if a + 1 < n ∧ L (a + 1) = e then some (L a - 48, a + 2) else none))
  else none
section TEXT
variable {w M : xM} {Q : Option xV → xM → Prop}
def tW (M : xM) : Prop := (0 ≤ M 1 2 ∧ M 1 2 ≤ 200) ∧ (∀ i, 0 ≤ i → i < M 1 2 → 32 ≤ M 2 i ∧ M 2 i ≤ 126) ∧ (∀ i, xG (M 2 i))
theorem w_numEnd {k e v f : Int} (hk : 0 ≤ k ∧ k < 4) (he : xG e) (hT : tW M) (ha : 0 ≤ M 1 3 ∧ M 1 3 ≤ 1000) (hf : 1 ≤ f ∧ f ≤ 2) : Wp 22 71 [xr 1, xi k, xi e, xi v, xi f] [] M Q = if M 1 3 < M 1 2 ∧ M 2 (M 1 3) = e then Q (some (xi 1)) (xup (xup M 1 3 (M 1 3 + 1)) 3 k v) else Q (some (xi 0)) M := by
  obtain ⟨hn, hl, hL⟩ := hT
  simp (disch := first | assumption | decide +kernel | exact hM _ _ | exact hL _ | exact xG_b | exact xG_bt _ _ | omega) only [w22_71, w22_73, w22_76, w22_77, w22_80, w22_81, w22_84, Int.reduceAdd, xup_twice, true_implies, false_implies, not_true_eq_false, not_false_eq_true, and_true, true_and, Int.reduceEq, Int.reduceLE, Int.reduceLT, Int.reduceNeg, xb_eq0, xb_eq1, xup_ne, xup_self, xup_k, xjl_i, xjl_r, xjl_j, xjl_l, Option.toList_some, Option.toList_none, List.cons_append, List.nil_append, xr_0_0, xr_0_1, xr_0_2, xr_0_3, xr_0_4, xr_0_5, xr_0_6, xr_0_7, xr_1_0, xr_1_1, xr_4_5, xr_4_6, xr_4_7, xr_4_8, xr_8_0, xr_10_5, xr_10_6, xr_10_7, xr_10_8, xr_14_0, xr_16_0, xr_16_1, xr_16_2, xr_20_0, xr_21_0, xr_21_1, xr_22_0, xr_24_0, xr_26_0, xr_26_1, xr_26_2, xr_30_0, xr_30_1, xr_30_2, xr_30_3, xr_30_4, xr_30_5, xr_30_6, xr_30_7, xr_31_0, xr_39_0, xr_39_1, xr_39_2, xr_42_0, xr_42_2, xr_42_3, xr_42_4, xr_42_5, xr_42_6, xr_42_8, xr_42_10, xr_42_13, xr_42_14, xr_42_15, xr_42_16, xr_42_23, xr_42_24, xr_42_25]
  rw [xbr_f (by omega)]
  by_cases h1 : M 1 2 ≤ M 1 3
  · rw [xbr_t h1, if_neg (by omega)]
    simp (disch := first | assumption | decide +kernel | exact hM _ _ | exact hL _ | exact xG_b | exact xG_bt _ _ | omega) only [w22_100, w22_101, Int.reduceAdd, xup_twice, true_implies, false_implies, not_true_eq_false, not_false_eq_true, and_true, true_and, Int.reduceEq, Int.reduceLE, Int.reduceLT, Int.reduceNeg, xb_eq0, xb_eq1, xup_ne, xup_self, xup_k, xjl_i, xjl_r, xjl_j, xjl_l, Option.toList_some, Option.toList_none, List.cons_append, List.nil_append, xr_0_0, xr_0_1, xr_0_2, xr_0_3, xr_0_4, xr_0_5, xr_0_6, xr_0_7, xr_1_0, xr_1_1, xr_4_5, xr_4_6, xr_4_7, xr_4_8, xr_8_0, xr_10_5, xr_10_6, xr_10_7, xr_10_8, xr_14_0, xr_16_0, xr_16_1, xr_16_2, xr_20_0, xr_21_0, xr_21_1, xr_22_0, xr_24_0, xr_26_0, xr_26_1, xr_26_2, xr_30_0, xr_30_1, xr_30_2, xr_30_3, xr_30_4, xr_30_5, xr_30_6, xr_30_7, xr_31_0, xr_39_0, xr_39_1, xr_39_2, xr_42_0, xr_42_2, xr_42_3, xr_42_4, xr_42_5, xr_42_6, xr_42_8, xr_42_10, xr_42_13, xr_42_14, xr_42_15, xr_42_16, xr_42_23, xr_42_24, xr_42_25]
  · rw [xbr_f h1]
    simp (disch := first | assumption | decide +kernel | exact hM _ _ | exact hL _ | exact xG_b | exact xG_bt _ _ | omega) only [w22_87, w22_88, w22_91, w22_92, w22_95, w22_96, w22_97, w22_100, w22_101, w22_102, w22_103, w22_104, w22_107, w22_108, w22_109, w22_112, w22_113, w22_116, w22_117, w22_118, w22_119, w22_120, Int.reduceAdd, xup_twice, true_implies, false_implies, not_true_eq_false, not_false_eq_true, and_true, true_and, Int.reduceEq, Int.reduceLE, Int.reduceLT, Int.reduceNeg, xb_eq0, xb_eq1, xup_ne, xup_self, xup_k, xjl_i, xjl_r, xjl_j, xjl_l, Option.toList_some, Option.toList_none, List.cons_append, List.nil_append, xr_0_0, xr_0_1, xr_0_2, xr_0_3, xr_0_4, xr_0_5, xr_0_6, xr_0_7, xr_1_0, xr_1_1, xr_4_5, xr_4_6, xr_4_7, xr_4_8, xr_8_0, xr_10_5, xr_10_6, xr_10_7, xr_10_8, xr_14_0, xr_16_0, xr_16_1, xr_16_2, xr_20_0, xr_21_0, xr_21_1, xr_22_0, xr_24_0, xr_26_0, xr_26_1, xr_26_2, xr_30_0, xr_30_1, xr_30_2, xr_30_3, xr_30_4, xr_30_5, xr_30_6, xr_30_7, xr_31_0, xr_39_0, xr_39_1, xr_39_2, xr_42_0, xr_42_2, xr_42_3, xr_42_4, xr_42_5, xr_42_6, xr_42_8, xr_42_10, xr_42_13, xr_42_14, xr_42_15, xr_42_16, xr_42_23, xr_42_24, xr_42_25]
    by_cases h2 : M 2 (M 1 3) = e
    · rw [xbr_t h2, if_pos ⟨by omega, h2⟩]
    · rw [xbr_f h2, if_neg (fun q => h2 q.2)]
theorem w_numEnd0 {k e v : Int} : Wp 22 71 [xr 1, xi k, xi e, xi v, xi 0] [] M Q = Q (some (xi 0)) M := by
  simp (disch := first | assumption | decide +kernel | exact hM _ _ | exact hL _ | exact xG_b | exact xG_bt _ _ | omega) only [w22_71, w22_73, w22_100, w22_101, Int.reduceAdd, xup_twice, true_implies, false_implies, not_true_eq_false, not_false_eq_true, and_true, true_and, Int.reduceEq, Int.reduceLE, Int.reduceLT, Int.reduceNeg, xb_eq0, xb_eq1, xup_ne, xup_self, xup_k, xjl_i, xjl_r, xjl_j, xjl_l, Option.toList_some, Option.toList_none, List.cons_append, List.nil_append, xr_0_0, xr_0_1, xr_0_2, xr_0_3, xr_0_4, xr_0_5, xr_0_6, xr_0_7, xr_1_0, xr_1_1, xr_4_5, xr_4_6, xr_4_7, xr_4_8, xr_8_0, xr_10_5, xr_10_6, xr_10_7, xr_10_8, xr_14_0, xr_16_0, xr_16_1, xr_16_2, xr_20_0, xr_21_0, xr_21_1, xr_22_0, xr_24_0, xr_26_0, xr_26_1, xr_26_2, xr_30_0, xr_30_1, xr_30_2, xr_30_3, xr_30_4, xr_30_5, xr_30_6, xr_30_7, xr_31_0, xr_39_0, xr_39_1, xr_39_2, xr_42_0, xr_42_2, xr_42_3, xr_42_4, xr_42_5, xr_42_6, xr_42_8, xr_42_10, xr_42_13, xr_42_14, xr_42_15, xr_42_16, xr_42_23, xr_42_24, xr_42_25]
theorem w_numStep {k e v f : Int} (hT : tW M) (ha : 0 ≤ M 1 3 ∧ M 1 3 ≤ 1000) (hf : 0 ≤ f ∧ f ≤ 1) : Wp 22 5 [xr 1, xi k, xi e, xi v, xi f] [] M Q = if M 1 3 < M 1 2 ∧ pFig (M 2 (M 1 3)) = true then Wp 22 5 [xr 1, xi k, xi e, xi (10 * v + M 2 (M 1 3) - 48), xi (f + 1)] [] (xup M 1 3 (M 1 3 + 1)) Q else Wp 22 71 [xr 1, xi k, xi e, xi v, xi f] [] M Q := by
  obtain ⟨hn, hl, hL⟩ := hT
  rw [w22_5]
  simp (disch := first | assumption | decide +kernel | exact hM _ _ | exact hL _ | exact xG_b | exact xG_bt _ _ | omega) only [w22_7, w22_8, w22_11, w22_12, w22_15, w22_16, w22_19, Int.reduceAdd, xup_twice, true_implies, false_implies, not_true_eq_false, not_false_eq_true, and_true, true_and, Int.reduceEq, Int.reduceLE, Int.reduceLT, Int.reduceNeg, xb_eq0, xb_eq1, xup_ne, xup_self, xup_k, xjl_i, xjl_r, xjl_j, xjl_l, Option.toList_some, Option.toList_none, List.cons_append, List.nil_append, xr_0_0, xr_0_1, xr_0_2, xr_0_3, xr_0_4, xr_0_5, xr_0_6, xr_0_7, xr_1_0, xr_1_1, xr_4_5, xr_4_6, xr_4_7, xr_4_8, xr_8_0, xr_10_5, xr_10_6, xr_10_7, xr_10_8, xr_14_0, xr_16_0, xr_16_1, xr_16_2, xr_20_0, xr_21_0, xr_21_1, xr_22_0, xr_24_0, xr_26_0, xr_26_1, xr_26_2, xr_30_0, xr_30_1, xr_30_2, xr_30_3, xr_30_4, xr_30_5, xr_30_6, xr_30_7, xr_31_0, xr_39_0, xr_39_1, xr_39_2, xr_42_0, xr_42_2, xr_42_3, xr_42_4, xr_42_5, xr_42_6, xr_42_8, xr_42_10, xr_42_13, xr_42_14, xr_42_15, xr_42_16, xr_42_23, xr_42_24, xr_42_25]
  rw [xbr_f (by omega)]
  by_cases h1 : M 1 2 ≤ M 1 3
  · rw [xbr_t h1, if_neg (by omega)]
  · rw [xbr_f h1]
    simp (disch := first | assumption | decide +kernel | exact hM _ _ | exact hL _ | exact xG_b | exact xG_bt _ _ | omega) only [w22_22, w22_23, w22_26, w22_27, w22_30, w22_31, w22_34, w22_37, w22_39, w22_40, w22_41, w22_42, w22_45, w22_46, w22_49, w22_50, w22_51, w22_53, w22_54, w22_55, w22_56, w22_57, w22_60, w22_61, w22_62, w22_65, w22_68, Int.reduceAdd, xup_twice, true_implies, false_implies, not_true_eq_false, not_false_eq_true, and_true, true_and, Int.reduceEq, Int.reduceLE, Int.reduceLT, Int.reduceNeg, xb_eq0, xb_eq1, xup_ne, xup_self, xup_k, xjl_i, xjl_r, xjl_j, xjl_l, Option.toList_some, Option.toList_none, List.cons_append, List.nil_append, xr_0_0, xr_0_1, xr_0_2, xr_0_3, xr_0_4, xr_0_5, xr_0_6, xr_0_7, xr_1_0, xr_1_1, xr_4_5, xr_4_6, xr_4_7, xr_4_8, xr_8_0, xr_10_5, xr_10_6, xr_10_7, xr_10_8, xr_14_0, xr_16_0, xr_16_1, xr_16_2, xr_20_0, xr_21_0, xr_21_1, xr_22_0, xr_24_0, xr_26_0, xr_26_1, xr_26_2, xr_30_0, xr_30_1, xr_30_2, xr_30_3, xr_30_4, xr_30_5, xr_30_6, xr_30_7, xr_31_0, xr_39_0, xr_39_1, xr_39_2, xr_42_0, xr_42_2, xr_42_3, xr_42_4, xr_42_5, xr_42_6, xr_42_8, xr_42_10, xr_42_13, xr_42_14, xr_42_15, xr_42_16, xr_42_23, xr_42_24, xr_42_25, q_isFigure]
    by_cases h2 : 48 ≤ M 2 (M 1 3) ∧ M 2 (M 1 3) ≤ 57
    · rw [xbr_t' h2, if_pos ⟨by omega, by rw [pFig, decide_eq_true_eq]; exact h2⟩]
    · rw [xbr_f' h2, if_neg (fun q => h2 (by have := q.2; rwa [pFig, decide_eq_true_eq] at this))]
theorem tW_3 {v : Int} (hT : tW M) : tW (xup M 1 3 v) := by
  obtain ⟨h1, h2, h3⟩ := hT
  exact ⟨by simpa [xup_app] using h1, by simpa [xup_app] using h2, h3⟩
theorem w_num2 {k e v : Int} : Wp 22 5 [xr 1, xi k, xi e, xi v, xi 2] [] M Q = Wp 22 71 [xr 1, xi k, xi e, xi v, xi 2] [] M Q := by
  rw [w22_5]
  simp (disch := first | assumption | decide +kernel | exact hM _ _ | exact hL _ | exact xG_b | exact xG_bt _ _ | omega) only [w22_7, w22_8, Int.reduceAdd, xup_twice, true_implies, false_implies, not_true_eq_false, not_false_eq_true, and_true, true_and, Int.reduceEq, Int.reduceLE, Int.reduceLT, Int.reduceNeg, xb_eq0, xb_eq1, xup_ne, xup_self, xup_k, xjl_i, xjl_r, xjl_j, xjl_l, Option.toList_some, Option.toList_none, List.cons_append, List.nil_append, xr_0_0, xr_0_1, xr_0_2, xr_0_3, xr_0_4, xr_0_5, xr_0_6, xr_0_7, xr_1_0, xr_1_1, xr_4_5, xr_4_6, xr_4_7, xr_4_8, xr_8_0, xr_10_5, xr_10_6, xr_10_7, xr_10_8, xr_14_0, xr_16_0, xr_16_1, xr_16_2, xr_20_0, xr_21_0, xr_21_1, xr_22_0, xr_24_0, xr_26_0, xr_26_1, xr_26_2, xr_30_0, xr_30_1, xr_30_2, xr_30_3, xr_30_4, xr_30_5, xr_30_6, xr_30_7, xr_31_0, xr_39_0, xr_39_1, xr_39_2, xr_42_0, xr_42_2, xr_42_3, xr_42_4, xr_42_5, xr_42_6, xr_42_8, xr_42_10, xr_42_13, xr_42_14, xr_42_15, xr_42_16, xr_42_23, xr_42_24, xr_42_25]
theorem q_readNumber {k e : Int} (hk : 0 ≤ k ∧ k < 4) (he : xG e) (hT : tW M) (ha : 0 ≤ M 1 3 ∧ M 1 3 ≤ 900)
    (hY : ∀ v a, pN (M 2) (M 1 2) (M 1 3) e = some (v, a) → Q (some (xi 1)) (xup (xup M 1 3 a) 3 k v))
    (hN : ∀ M', pN (M 2) (M 1 2) (M 1 3) e = none → (∀ c, c ≠ 1 → c ≠ 3 → M' c = M c) → (∀ k, k ≠ 3 → M' 1 k = M 1 k) → Q (some (xi 0)) M') : Wc 22 [xr 1, xi k, xi e] M Q := by
  have hnx : ∀ (a : Int), (∀ c, c ≠ 1 → c ≠ 3 → (xup M 1 3 a) c = M c) ∧ (∀ k, k ≠ 3 → (xup M 1 3 a) 1 k = M 1 k) := fun a => ⟨fun c h1 h2 => xup_ne h1, fun k h => xup_k h⟩
  have e2 : ∀ a : Int, (xup M 1 3 a) 2 = M 2 := fun a => xup_ne (by decide)
  have e12 : ∀ a : Int, (xup M 1 3 a) 1 2 = M 1 2 := fun a => xup_k (by decide)
  have e13 : ∀ a : Int, (xup M 1 3 a) 1 3 = a := fun a => xup_self _ _ _ _
  simp (disch := first | assumption | decide +kernel | exact hM _ _ | exact hL _ | exact xG_b | exact xG_bt _ _ | omega) only [w22_0, w22_1, w22_2, w22_3, wc22, Int.reduceAdd, xup_twice, true_implies, false_implies, not_true_eq_false, not_false_eq_true, and_true, true_and, Int.reduceEq, Int.reduceLE, Int.reduceLT, Int.reduceNeg, xb_eq0, xb_eq1, xup_ne, xup_self, xup_k, xjl_i, xjl_r, xjl_j, xjl_l, Option.toList_some, Option.toList_none, List.cons_append, List.nil_append, xr_0_0, xr_0_1, xr_0_2, xr_0_3, xr_0_4, xr_0_5, xr_0_6, xr_0_7, xr_1_0, xr_1_1, xr_4_5, xr_4_6, xr_4_7, xr_4_8, xr_8_0, xr_10_5, xr_10_6, xr_10_7, xr_10_8, xr_14_0, xr_16_0, xr_16_1, xr_16_2, xr_20_0, xr_21_0, xr_21_1, xr_22_0, xr_24_0, xr_26_0, xr_26_1, xr_26_2, xr_30_0, xr_30_1, xr_30_2, xr_30_3, xr_30_4, xr_30_5, xr_30_6, xr_30_7, xr_31_0, xr_39_0, xr_39_1, xr_39_2, xr_42_0, xr_42_2, xr_42_3, xr_42_4, xr_42_5, xr_42_6, xr_42_8, xr_42_10, xr_42_13, xr_42_14, xr_42_15, xr_42_16, xr_42_23, xr_42_24, xr_42_25]
  rw [w_numStep hT (by omega) (by omega)]
  by_cases h1 : M 1 3 < M 1 2 ∧ pFig (M 2 (M 1 3)) = true
  · rw [if_pos h1, w_numStep (tW_3 hT) (by rw [e13]; omega) (by omega), e2, e12, e13]
    by_cases h2 : M 1 3 + 1 < M 1 2 ∧ pFig (M 2 (M 1 3 + 1)) = true
    · rw [if_pos h2, show (0 : Int) + 1 + 1 = 2 from rfl, w_num2, xup_twice, w_numEnd hk he (tW_3 hT) (by rw [e13]; omega) (by omega), e2, e12, e13]
      by_cases h3 : M 1 3 + 2 < M 1 2 ∧ M 2 (M 1 3 + 2) = e
      · have h3' : M 1 3 + 1 + 1 < M 1 2 ∧ M 2 (M 1 3 + 1 + 1) = e := by rw [show M 1 3 + 1 + 1 = M 1 3 + 2 by omega]; exact h3
        rw [if_pos h3', xup_twice]
        have := hY _ _ (by rw [pN, if_pos h1, if_pos h2, if_pos h3])
        rw [show M 1 3 + 1 + 1 + 1 = M 1 3 + 3 by omega, show 10 * (10 * 0 + M 2 (M 1 3) - 48) + M 2 (M 1 3 + 1) - 48 = 10 * (M 2 (M 1 3) - 48) + M 2 (M 1 3 + 1) - 48 by omega]
        exact this
      · have h3' : ¬ (M 1 3 + 1 + 1 < M 1 2 ∧ M 2 (M 1 3 + 1 + 1) = e) := by rw [show M 1 3 + 1 + 1 = M 1 3 + 2 by omega]; exact h3
        rw [if_neg h3']
        exact hN _ (by rw [pN, if_pos h1, if_pos h2, if_neg h3]) (hnx _).1 (hnx _).2
    · rw [if_neg h2, w_numEnd hk he (tW_3 hT) (by rw [e13]; omega) (by omega), e2, e12, e13]
      by_cases h3 : M 1 3 + 1 < M 1 2 ∧ M 2 (M 1 3 + 1) = e
      · rw [if_pos h3, xup_twice]
        have := hY _ _ (by rw [pN, if_pos h1, if_neg h2, if_pos h3])
        rw [show M 1 3 + 1 + 1 = M 1 3 + 2 by omega, show 10 * 0 + M 2 (M 1 3) - 48 = M 2 (M 1 3) - 48 by omega]
        exact this
      · rw [if_neg h3]
        exact hN _ (by rw [pN, if_pos h1, if_neg h2, if_neg h3]) (hnx _).1 (hnx _).2
  · rw [if_neg h1, w_numEnd0]
    exact hN M (by rw [pN, if_neg h1]) (fun _ _ _ => rfl) (fun _ _ => rfl)
end TEXT
