/-! whole texts: fault, lay -/
theorem pAll_ge {L : Int → Int} {n : Int} : ∀ (f : Nat) (a o : Int) (w : xM), 0 ≤ a → (pAll L n f a o w).1 = -4 ∨ (0 ≤ (pAll L n f a o w).1 ∧ (pAll L n f a o w).1 < n)
  | 0, _, _, _, _ => Or.inl rfl
  | f + 1, a, o, w, ha => by
    rw [pAll]
    split
    · rename_i hlt
      cases hq : pI L n a o w with
      | none => exact Or.inr ⟨ha, hlt⟩
      | some q => exact pAll_ge f q.1 q.2.1 q.2.2 (by have := pI_next hq; omega)
    · exact Or.inl rfl
/-- with as many rounds as letters all is read -/
theorem pAll_fuel {L : Int → Int} {n : Int} : ∀ (f g : Nat) (a o : Int) (w : xM), n - a ≤ f → n - a ≤ g → pAll L n f a o w = pAll L n g a o w
  | 0, 0, _, _, _, _, _ => rfl
  | 0, g + 1, a, o, w, hf, _ => by
    rw [pAll, pAll, if_neg (by omega)]
  | f + 1, 0, a, o, w, _, hg => by
    rw [pAll, pAll, if_neg (by omega)]
  | f + 1, g + 1, a, o, w, hf, hg => by
    rw [pAll, pAll]
    split
    · cases hq : pI L n a o w with
      | none => rfl
      | some q =>
        have := pI_next hq
        exact pAll_fuel f g q.1 q.2.1 q.2.2 (by omega) (by omega)
    · rfl
def pRes (M : xM) : Int × xM := pAll (M 2) (M 1 2) 200 0 1 pW0
section LAY
variable {M : xM} {Q : Option xV → xM → Prop}
theorem lp4_readInto (hT : tW M) (hQ : ∀ M', ((pRes M).1 = -4 → cT4 (pRes M).2 M') → tX4 M M' → Q (some (xi (pRes M).1)) M') : ∀ (f : Nat) (a o : Int) (w M1 : xM) (v : xV), f ≤ 200 →
    pRes M = pAll (M 2) (M 1 2) f a o w → pV o w → tX4 M M1 → cT4 w M1 → M1 1 3 = a → M1 1 4 = o → 0 ≤ a → a ≤ M 1 2 → Wp 20 16 [xr 1, xr 4, xi (200 - f), v] [] M1 Q := by
  intro f
  induction f with
  | zero =>
    intro a o w M1 v hf he hv hX hC h3 h4 ha0 ha
    rw [pAll] at he
    simp (disch := first | assumption | decide +kernel | exact hM _ _ | exact hL _ | exact xG_b | exact xG_bt _ _ | omega) only [w20_16, w20_17, w20_20, Int.reduceAdd, xup_twice, true_implies, false_implies, not_true_eq_false, not_false_eq_true, and_true, true_and, Int.reduceEq, Int.reduceLE, Int.reduceLT, Int.reduceNeg, xb_eq0, xb_eq1, xup_ne, xup_self, xup_k, xjl_i, xjl_r, xjl_j, xjl_l, Option.toList_some, Option.toList_none, List.cons_append, List.nil_append, xr_0_0, xr_0_1, xr_0_2, xr_0_3, xr_0_4, xr_0_5, xr_0_6, xr_0_7, xr_1_0, xr_1_1, xr_4_5, xr_4_6, xr_4_7, xr_4_8, xr_8_0, xr_10_5, xr_10_6, xr_10_7, xr_10_8, xr_14_0, xr_16_0, xr_16_1, xr_16_2, xr_20_0, xr_21_0, xr_21_1, xr_22_0, xr_24_0, xr_26_0, xr_26_1, xr_26_2, xr_30_0, xr_30_1, xr_30_2, xr_30_3, xr_30_4, xr_30_5, xr_30_6, xr_30_7, xr_31_0, xr_39_0, xr_39_1, xr_39_2, xr_42_0, xr_42_2, xr_42_3, xr_42_4, xr_42_5, xr_42_6, xr_42_8, xr_42_10, xr_42_13, xr_42_14, xr_42_15, xr_42_16, xr_42_23, xr_42_24, xr_42_25]
    refine ⟨fun _ => ?_, fun h => absurd h (by omega)⟩
    simp (disch := first | assumption | decide +kernel | exact hM _ _ | exact hL _ | exact xG_b | exact xG_bt _ _ | omega) only [w20_55, w20_57, Int.reduceAdd, xup_twice, true_implies, false_implies, not_true_eq_false, not_false_eq_true, and_true, true_and, Int.reduceEq, Int.reduceLE, Int.reduceLT, Int.reduceNeg, xb_eq0, xb_eq1, xup_ne, xup_self, xup_k, xjl_i, xjl_r, xjl_j, xjl_l, Option.toList_some, Option.toList_none, List.cons_append, List.nil_append, xr_0_0, xr_0_1, xr_0_2, xr_0_3, xr_0_4, xr_0_5, xr_0_6, xr_0_7, xr_1_0, xr_1_1, xr_4_5, xr_4_6, xr_4_7, xr_4_8, xr_8_0, xr_10_5, xr_10_6, xr_10_7, xr_10_8, xr_14_0, xr_16_0, xr_16_1, xr_16_2, xr_20_0, xr_21_0, xr_21_1, xr_22_0, xr_24_0, xr_26_0, xr_26_1, xr_26_2, xr_30_0, xr_30_1, xr_30_2, xr_30_3, xr_30_4, xr_30_5, xr_30_6, xr_30_7, xr_31_0, xr_39_0, xr_39_1, xr_39_2, xr_42_0, xr_42_2, xr_42_3, xr_42_4, xr_42_5, xr_42_6, xr_42_8, xr_42_10, xr_42_13, xr_42_14, xr_42_15, xr_42_16, xr_42_23, xr_42_24, xr_42_25]
    have := hQ M1 (fun _ => by rw [he]; exact hC) hX
    rw [he] at this
    exact this
  | succ f ih =>
    intro a o w M1 v hf he hv hX hC h3 h4 ha0 ha
    have l2 : M1 1 2 = M 1 2 := hX.2
    obtain ⟨hn, hl, hL⟩ := id hT
    have L1 : M1 2 = M 2 := hX.1 2 (by decide) (by decide) (by omega)
    have T1 : tW M1 := by unfold tW; rw [L1, l2]; exact hT
    simp (disch := first | assumption | decide +kernel | exact hM _ _ | exact hL _ | exact xG_b | exact xG_bt _ _ | omega) only [w20_16, w20_17, w20_20, w20_23, w20_24, w20_27, w20_28, w20_31, Int.reduceAdd, xup_twice, true_implies, false_implies, not_true_eq_false, not_false_eq_true, and_true, true_and, Int.reduceEq, Int.reduceLE, Int.reduceLT, Int.reduceNeg, xb_eq0, xb_eq1, xup_ne, xup_self, xup_k, xjl_i, xjl_r, xjl_j, xjl_l, Option.toList_some, Option.toList_none, List.cons_append, List.nil_append, xr_0_0, xr_0_1, xr_0_2, xr_0_3, xr_0_4, xr_0_5, xr_0_6, xr_0_7, xr_1_0, xr_1_1, xr_4_5, xr_4_6, xr_4_7, xr_4_8, xr_8_0, xr_10_5, xr_10_6, xr_10_7, xr_10_8, xr_14_0, xr_16_0, xr_16_1, xr_16_2, xr_20_0, xr_21_0, xr_21_1, xr_22_0, xr_24_0, xr_26_0, xr_26_1, xr_26_2, xr_30_0, xr_30_1, xr_30_2, xr_30_3, xr_30_4, xr_30_5, xr_30_6, xr_30_7, xr_31_0, xr_39_0, xr_39_1, xr_39_2, xr_42_0, xr_42_2, xr_42_3, xr_42_4, xr_42_5, xr_42_6, xr_42_8, xr_42_10, xr_42_13, xr_42_14, xr_42_15, xr_42_16, xr_42_23, xr_42_24, xr_42_25]
    refine ⟨fun h => absurd h (by omega), fun _ => ?_⟩
    rw [h3, l2]
    rw [pAll] at he
    refine ⟨fun h => ?_, fun h => ?_⟩
    · rw [if_neg (by omega)] at he
      simp (disch := first | assumption | decide +kernel | exact hM _ _ | exact hL _ | exact xG_b | exact xG_bt _ _ | omega) only [w20_55, w20_57, Int.reduceAdd, xup_twice, true_implies, false_implies, not_true_eq_false, not_false_eq_true, and_true, true_and, Int.reduceEq, Int.reduceLE, Int.reduceLT, Int.reduceNeg, xb_eq0, xb_eq1, xup_ne, xup_self, xup_k, xjl_i, xjl_r, xjl_j, xjl_l, Option.toList_some, Option.toList_none, List.cons_append, List.nil_append, xr_0_0, xr_0_1, xr_0_2, xr_0_3, xr_0_4, xr_0_5, xr_0_6, xr_0_7, xr_1_0, xr_1_1, xr_4_5, xr_4_6, xr_4_7, xr_4_8, xr_8_0, xr_10_5, xr_10_6, xr_10_7, xr_10_8, xr_14_0, xr_16_0, xr_16_1, xr_16_2, xr_20_0, xr_21_0, xr_21_1, xr_22_0, xr_24_0, xr_26_0, xr_26_1, xr_26_2, xr_30_0, xr_30_1, xr_30_2, xr_30_3, xr_30_4, xr_30_5, xr_30_6, xr_30_7, xr_31_0, xr_39_0, xr_39_1, xr_39_2, xr_42_0, xr_42_2, xr_42_3, xr_42_4, xr_42_5, xr_42_6, xr_42_8, xr_42_10, xr_42_13, xr_42_14, xr_42_15, xr_42_16, xr_42_23, xr_42_24, xr_42_25]
      have := hQ M1 (fun _ => by rw [he]; exact hC) hX
      rw [he] at this
      exact this
    · rw [if_pos (by omega)] at he
      simp (disch := first | assumption | decide +kernel | exact hM _ _ | exact hL _ | exact xG_b | exact xG_bt _ _ | omega) only [w20_34, w20_35, w20_38, w20_39, w20_40, w20_41, Int.reduceAdd, xup_twice, true_implies, false_implies, not_true_eq_false, not_false_eq_true, and_true, true_and, Int.reduceEq, Int.reduceLE, Int.reduceLT, Int.reduceNeg, xb_eq0, xb_eq1, xup_ne, xup_self, xup_k, xjl_i, xjl_r, xjl_j, xjl_l, Option.toList_some, Option.toList_none, List.cons_append, List.nil_append, xr_0_0, xr_0_1, xr_0_2, xr_0_3, xr_0_4, xr_0_5, xr_0_6, xr_0_7, xr_1_0, xr_1_1, xr_4_5, xr_4_6, xr_4_7, xr_4_8, xr_8_0, xr_10_5, xr_10_6, xr_10_7, xr_10_8, xr_14_0, xr_16_0, xr_16_1, xr_16_2, xr_20_0, xr_21_0, xr_21_1, xr_22_0, xr_24_0, xr_26_0, xr_26_1, xr_26_2, xr_30_0, xr_30_1, xr_30_2, xr_30_3, xr_30_4, xr_30_5, xr_30_6, xr_30_7, xr_31_0, xr_39_0, xr_39_1, xr_39_2, xr_42_0, xr_42_2, xr_42_3, xr_42_4, xr_42_5, xr_42_6, xr_42_8, xr_42_10, xr_42_13, xr_42_14, xr_42_15, xr_42_16, xr_42_23, xr_42_24, xr_42_25, h3]
      refine q4_readItem T1 hv h4 (by rw [h3, l2]; omega) hC (fun q M2 hq hC2 q3 q4 hX2 => ?_) (fun M2 hq hX2 => ?_)
      · simp (disch := first | assumption | decide +kernel | exact hM _ _ | exact hL _ | exact xG_b | exact xG_bt _ _ | omega) only [w20_44, w20_49, w20_52, Int.reduceAdd, xup_twice, true_implies, false_implies, not_true_eq_false, not_false_eq_true, and_true, true_and, Int.reduceEq, Int.reduceLE, Int.reduceLT, Int.reduceNeg, xb_eq0, xb_eq1, xup_ne, xup_self, xup_k, xjl_i, xjl_r, xjl_j, xjl_l, Option.toList_some, Option.toList_none, List.cons_append, List.nil_append, xr_0_0, xr_0_1, xr_0_2, xr_0_3, xr_0_4, xr_0_5, xr_0_6, xr_0_7, xr_1_0, xr_1_1, xr_4_5, xr_4_6, xr_4_7, xr_4_8, xr_8_0, xr_10_5, xr_10_6, xr_10_7, xr_10_8, xr_14_0, xr_16_0, xr_16_1, xr_16_2, xr_20_0, xr_21_0, xr_21_1, xr_22_0, xr_24_0, xr_26_0, xr_26_1, xr_26_2, xr_30_0, xr_30_1, xr_30_2, xr_30_3, xr_30_4, xr_30_5, xr_30_6, xr_30_7, xr_31_0, xr_39_0, xr_39_1, xr_39_2, xr_42_0, xr_42_2, xr_42_3, xr_42_4, xr_42_5, xr_42_6, xr_42_8, xr_42_10, xr_42_13, xr_42_14, xr_42_15, xr_42_16, xr_42_23, xr_42_24, xr_42_25]
        rw [L1, l2, h3] at hq
        rw [hq] at he
        have hr := pI_next hq
        have := ih q.1 q.2.1 q.2.2 M2 (xi a) (by omega) he (pI_V hv hq) (tX4_tr hX hX2) hC2 q3 q4 (by omega) hr.2
        have ee : (200 : Int) - ((f + 1 : Nat) : Int) + 1 = 200 - f := by omega
        rw [ee]
        exact this
      · simp (disch := first | assumption | decide +kernel | exact hM _ _ | exact hL _ | exact xG_b | exact xG_bt _ _ | omega) only [w20_44, w20_47, w20_48, Int.reduceAdd, xup_twice, true_implies, false_implies, not_true_eq_false, not_false_eq_true, and_true, true_and, Int.reduceEq, Int.reduceLE, Int.reduceLT, Int.reduceNeg, xb_eq0, xb_eq1, xup_ne, xup_self, xup_k, xjl_i, xjl_r, xjl_j, xjl_l, Option.toList_some, Option.toList_none, List.cons_append, List.nil_append, xr_0_0, xr_0_1, xr_0_2, xr_0_3, xr_0_4, xr_0_5, xr_0_6, xr_0_7, xr_1_0, xr_1_1, xr_4_5, xr_4_6, xr_4_7, xr_4_8, xr_8_0, xr_10_5, xr_10_6, xr_10_7, xr_10_8, xr_14_0, xr_16_0, xr_16_1, xr_16_2, xr_20_0, xr_21_0, xr_21_1, xr_22_0, xr_24_0, xr_26_0, xr_26_1, xr_26_2, xr_30_0, xr_30_1, xr_30_2, xr_30_3, xr_30_4, xr_30_5, xr_30_6, xr_30_7, xr_31_0, xr_39_0, xr_39_1, xr_39_2, xr_42_0, xr_42_2, xr_42_3, xr_42_4, xr_42_5, xr_42_6, xr_42_8, xr_42_10, xr_42_13, xr_42_14, xr_42_15, xr_42_16, xr_42_23, xr_42_24, xr_42_25]
        rw [L1, l2, h3] at hq
        rw [hq] at he
        have := hQ M2 (fun e => by rw [he] at e; dsimp at e; omega) (tX4_tr hX hX2)
        rw [he] at this
        exact this
theorem q4_readInto (hT : tW M) (hQ : ∀ M', ((pRes M).1 = -4 → cT4 (pRes M).2 M') → tX4 M M' → Q (some (xi (pRes M).1)) M') : Wc 20 [xr 1, xr 4] M Q := by
  simp (disch := first | assumption | decide +kernel | exact hM _ _ | exact hL _ | exact xG_b | exact xG_bt _ _ | omega) only [w20_0, w20_1, wc20, Int.reduceAdd, xup_twice, true_implies, false_implies, not_true_eq_false, not_false_eq_true, and_true, true_and, Int.reduceEq, Int.reduceLE, Int.reduceLT, Int.reduceNeg, xb_eq0, xb_eq1, xup_ne, xup_self, xup_k, xjl_i, xjl_r, xjl_j, xjl_l, Option.toList_some, Option.toList_none, List.cons_append, List.nil_append, xr_0_0, xr_0_1, xr_0_2, xr_0_3, xr_0_4, xr_0_5, xr_0_6, xr_0_7, xr_1_0, xr_1_1, xr_4_5, xr_4_6, xr_4_7, xr_4_8, xr_8_0, xr_10_5, xr_10_6, xr_10_7, xr_10_8, xr_14_0, xr_16_0, xr_16_1, xr_16_2, xr_20_0, xr_21_0, xr_21_1, xr_22_0, xr_24_0, xr_26_0, xr_26_1, xr_26_2, xr_30_0, xr_30_1, xr_30_2, xr_30_3, xr_30_4, xr_30_5, xr_30_6, xr_30_7, xr_31_0, xr_39_0, xr_39_1, xr_39_2, xr_42_0, xr_42_2, xr_42_3, xr_42_4, xr_42_5, xr_42_6, xr_42_8, xr_42_10, xr_42_13, xr_42_14, xr_42_15, xr_42_16, xr_42_23, xr_42_24, xr_42_25]
  refine q4_clear (fun M1 hC hX => ?_)
  simp (disch := first | assumption | decide +kernel | exact hM _ _ | exact hL _ | exact xG_b | exact xG_bt _ _ | omega) only [w20_4, w20_5, w20_6, w20_9, w20_10, w20_11, w20_14, w20_15, Int.reduceAdd, xup_twice, true_implies, false_implies, not_true_eq_false, not_false_eq_true, and_true, true_and, Int.reduceEq, Int.reduceLE, Int.reduceLT, Int.reduceNeg, xb_eq0, xb_eq1, xup_ne, xup_self, xup_k, xjl_i, xjl_r, xjl_j, xjl_l, Option.toList_some, Option.toList_none, List.cons_append, List.nil_append, xr_0_0, xr_0_1, xr_0_2, xr_0_3, xr_0_4, xr_0_5, xr_0_6, xr_0_7, xr_1_0, xr_1_1, xr_4_5, xr_4_6, xr_4_7, xr_4_8, xr_8_0, xr_10_5, xr_10_6, xr_10_7, xr_10_8, xr_14_0, xr_16_0, xr_16_1, xr_16_2, xr_20_0, xr_21_0, xr_21_1, xr_22_0, xr_24_0, xr_26_0, xr_26_1, xr_26_2, xr_30_0, xr_30_1, xr_30_2, xr_30_3, xr_30_4, xr_30_5, xr_30_6, xr_30_7, xr_31_0, xr_39_0, xr_39_1, xr_39_2, xr_42_0, xr_42_2, xr_42_3, xr_42_4, xr_42_5, xr_42_6, xr_42_8, xr_42_10, xr_42_13, xr_42_14, xr_42_15, xr_42_16, xr_42_23, xr_42_24, xr_42_25]
  exact lp4_readInto hT hQ 200 0 1 pW0 _ xj (by omega) rfl pV_0 (tX4_tr (tX4_X hX) ⟨fun c c1 c3 _ => by rw [xup_ne c1, xup_ne c1], by simp [xup_app]⟩) (cT4_F hC (fun d a b => by rw [xup_ne (by omega), xup_ne (by omega)])) (by simp [xup_app]) (by simp [xup_app]) (by omega) hT.1.1
theorem lp10_readInto (hT : tW M) (hQ : ∀ M', ((pRes M).1 = -4 → cT10 (pRes M).2 M') → tX10 M M' → Q (some (xi (pRes M).1)) M') : ∀ (f : Nat) (a o : Int) (w M1 : xM) (v : xV), f ≤ 200 →
    pRes M = pAll (M 2) (M 1 2) f a o w → pV o w → tX10 M M1 → cT10 w M1 → M1 1 3 = a → M1 1 4 = o → 0 ≤ a → a ≤ M 1 2 → Wp 20 16 [xr 1, xr 10, xi (200 - f), v] [] M1 Q := by
  intro f
  induction f with
  | zero =>
    intro a o w M1 v hf he hv hX hC h3 h4 ha0 ha
    rw [pAll] at he
    simp (disch := first | assumption | decide +kernel | exact hM _ _ | exact hL _ | exact xG_b | exact xG_bt _ _ | omega) only [w20_16, w20_17, w20_20, Int.reduceAdd, xup_twice, true_implies, false_implies, not_true_eq_false, not_false_eq_true, and_true, true_and, Int.reduceEq, Int.reduceLE, Int.reduceLT, Int.reduceNeg, xb_eq0, xb_eq1, xup_ne, xup_self, xup_k, xjl_i, xjl_r, xjl_j, xjl_l, Option.toList_some, Option.toList_none, List.cons_append, List.nil_append, xr_0_0, xr_0_1, xr_0_2, xr_0_3, xr_0_4, xr_0_5, xr_0_6, xr_0_7, xr_1_0, xr_1_1, xr_4_5, xr_4_6, xr_4_7, xr_4_8, xr_8_0, xr_10_5, xr_10_6, xr_10_7, xr_10_8, xr_14_0, xr_16_0, xr_16_1, xr_16_2, xr_20_0, xr_21_0, xr_21_1, xr_22_0, xr_24_0, xr_26_0, xr_26_1, xr_26_2, xr_30_0, xr_30_1, xr_30_2, xr_30_3, xr_30_4, xr_30_5, xr_30_6, xr_30_7, xr_31_0, xr_39_0, xr_39_1, xr_39_2, xr_42_0, xr_42_2, xr_42_3, xr_42_4, xr_42_5, xr_42_6, xr_42_8, xr_42_10, xr_42_13, xr_42_14, xr_42_15, xr_42_16, xr_42_23, xr_42_24, xr_42_25]
    refine ⟨fun _ => ?_, fun h => absurd h (by omega)⟩
    simp (disch := first | assumption | decide +kernel | exact hM _ _ | exact hL _ | exact xG_b | exact xG_bt _ _ | omega) only [w20_55, w20_57, Int.reduceAdd, xup_twice, true_implies, false_implies, not_true_eq_false, not_false_eq_true, and_true, true_and, Int.reduceEq, Int.reduceLE, Int.reduceLT, Int.reduceNeg, xb_eq0, xb_eq1, xup_ne, xup_self, xup_k, xjl_i, xjl_r, xjl_j, xjl_l, Option.toList_some, Option.toList_none, List.cons_append, List.nil_append, xr_0_0, xr_0_1, xr_0_2, xr_0_3, xr_0_4, xr_0_5, xr_0_6, xr_0_7, xr_1_0, xr_1_1, xr_4_5, xr_4_6, xr_4_7, xr_4_8, xr_8_0, xr_10_5, xr_10_6, xr_10_7, xr_10_8, xr_14_0, xr_16_0, xr_16_1, xr_16_2, xr_20_0, xr_21_0, xr_21_1, xr_22_0, xr_24_0, xr_26_0, xr_26_1, xr_26_2, xr_30_0, xr_30_1, xr_30_2, xr_30_3, xr_30_4, xr_30_5, xr_30_6, xr_30_7, xr_31_0, xr_39_0, xr_39_1, xr_39_2, xr_42_0, xr_42_2, xr_42_3, xr_42_4, xr_42_5, xr_42_6, xr_42_8, xr_42_10, xr_42_13, xr_42_14, xr_42_15, xr_42_16, xr_42_23, xr_42_24, xr_42_25]
    have := hQ M1 (fun _ => by rw [he]; exact hC) hX
    rw [he] at this
    exact this
  | succ f ih =>
    intro a o w M1 v hf he hv hX hC h3 h4 ha0 ha
    have l2 : M1 1 2 = M 1 2 := hX.2
    obtain ⟨hn, hl, hL⟩ := id hT
    have L1 : M1 2 = M 2 := hX.1 2 (by decide) (by decide) (by omega)
    have T1 : tW M1 := by unfold tW; rw [L1, l2]; exact hT
    simp (disch := first | assumption | decide +kernel | exact hM _ _ | exact hL _ | exact xG_b | exact xG_bt _ _ | omega) only [w20_16, w20_17, w20_20, w20_23, w20_24, w20_27, w20_28, w20_31, Int.reduceAdd, xup_twice, true_implies, false_implies, not_true_eq_false, not_false_eq_true, and_true, true_and, Int.reduceEq, Int.reduceLE, Int.reduceLT, Int.reduceNeg, xb_eq0, xb_eq1, xup_ne, xup_self, xup_k, xjl_i, xjl_r, xjl_j, xjl_l, Option.toList_some, Option.toList_none, List.cons_append, List.nil_append, xr_0_0, xr_0_1, xr_0_2, xr_0_3, xr_0_4, xr_0_5, xr_0_6, xr_0_7, xr_1_0, xr_1_1, xr_4_5, xr_4_6, xr_4_7, xr_4_8, xr_8_0, xr_10_5, xr_10_6, xr_10_7, xr_10_8, xr_14_0, xr_16_0, xr_16_1, xr_16_2, xr_20_0, xr_21_0, xr_21_1, xr_22_0, xr_24_0, xr_26_0, xr_26_1, xr_26_2, xr_30_0, xr_30_1, xr_30_2, xr_30_3, xr_30_4, xr_30_5, xr_30_6, xr_30_7, xr_31_0, xr_39_0, xr_39_1, xr_39_2, xr_42_0, xr_42_2, xr_42_3, xr_42_4, xr_42_5, xr_42_6, xr_42_8, xr_42_10, xr_42_13, xr_42_14, xr_42_15, xr_42_16, xr_42_23, xr_42_24, xr_42_25]
    refine ⟨fun h => absurd h (by omega), fun _ => ?_⟩
    rw [h3, l2]
    rw [pAll] at he
    refine ⟨fun h => ?_, fun h => ?_⟩
    · rw [if_neg (by omega)] at he
      simp (disch := first | assumption | decide +kernel | exact hM _ _ | exact hL _ | exact xG_b | exact xG_bt _ _ | omega) only [w20_55, w20_57, Int.reduceAdd, xup_twice, true_implies, false_implies, not_true_eq_false, not_false_eq_true, and_true, true_and, Int.reduceEq, Int.reduceLE, Int.reduceLT, Int.reduceNeg, xb_eq0, xb_eq1, xup_ne, xup_self, xup_k, xjl_i, xjl_r, xjl_j, xjl_l, Option.toList_some, Option.toList_none, List.cons_append, List.nil_append, xr_0_0, xr_0_1, xr_0_2, xr_0_3, xr_0_4, xr_0_5, xr_0_6, xr_0_7, xr_1_0, xr_1_1, xr_4_5, xr_4_6, xr_4_7, xr_4_8, xr_8_0, xr_10_5, xr_10_6, xr_10_7, xr_10_8, xr_14_0, xr_16_0, xr_16_1, xr_16_2, xr_20_0, xr_21_0, xr_21_1, xr_22_0, xr_24_0, xr_26_0, xr_26_1, xr_26_2, xr_30_0, xr_30_1, xr_30_2, xr_30_3, xr_30_4, xr_30_5, xr_30_6, xr_30_7, xr_31_0, xr_39_0, xr_39_1, xr_39_2, xr_42_0, xr_42_2, xr_42_3, xr_42_4, xr_42_5, xr_42_6, xr_42_8, xr_42_10, xr_42_13, xr_42_14, xr_42_15, xr_42_16, xr_42_23, xr_42_24, xr_42_25]
      have := hQ M1 (fun _ => by rw [he]; exact hC) hX
      rw [he] at this
      exact this
    · rw [if_pos (by omega)] at he
      simp (disch := first | assumption | decide +kernel | exact hM _ _ | exact hL _ | exact xG_b | exact xG_bt _ _ | omega) only [w20_34, w20_35, w20_38, w20_39, w20_40, w20_41, Int.reduceAdd, xup_twice, true_implies, false_implies, not_true_eq_false, not_false_eq_true, and_true, true_and, Int.reduceEq, Int.reduceLE, Int.reduceLT, Int.reduceNeg, xb_eq0, xb_eq1, xup_ne, xup_self, xup_k, xjl_i, xjl_r, xjl_j, xjl_l, Option.toList_some, Option.toList_none, List.cons_append, List.nil_append, xr_0_0, xr_0_1, xr_0_2, xr_0_3, xr_0_4, xr_0_5, xr_0_6, xr_0_7, xr_1_0, xr_1_1, xr_4_5, xr_4_6, xr_4_7, xr_4_8, xr_8_0, xr_10_5, xr_10_6, xr_10_7, xr_10_8, xr_14_0, xr_16_0, xr_16_1, xr_16_2, xr_20_0, xr_21_0, xr_21_1, xr_22_0, xr_24_0, xr_26_0, xr_26_1, xr_26_2, xr_30_0, xr_30_1, xr_30_2, xr_30_3, xr_30_4, xr_30_5, xr_30_6, xr_30_7, xr_31_0, xr_39_0, xr_39_1, xr_39_2, xr_42_0, xr_42_2, xr_42_3, xr_42_4, xr_42_5, xr_42_6, xr_42_8, xr_42_10, xr_42_13, xr_42_14, xr_42_15, xr_42_16, xr_42_23, xr_42_24, xr_42_25, h3]
      refine q10_readItem T1 hv h4 (by rw [h3, l2]; omega) hC (fun q M2 hq hC2 q3 q4 hX2 => ?_) (fun M2 hq hX2 => ?_)
      · simp (disch := first | assumption | decide +kernel | exact hM _ _ | exact hL _ | exact xG_b | exact xG_bt _ _ | omega) only [w20_44, w20_49, w20_52, Int.reduceAdd, xup_twice, true_implies, false_implies, not_true_eq_false, not_false_eq_true, and_true, true_and, Int.reduceEq, Int.reduceLE, Int.reduceLT, Int.reduceNeg, xb_eq0, xb_eq1, xup_ne, xup_self, xup_k, xjl_i, xjl_r, xjl_j, xjl_l, Option.toList_some, Option.toList_none, List.cons_append, List.nil_append, xr_0_0, xr_0_1, xr_0_2, xr_0_3, xr_0_4, xr_0_5, xr_0_6, xr_0_7, xr_1_0, xr_1_1, xr_4_5, xr_4_6, xr_4_7, xr_4_8, xr_8_0, xr_10_5, xr_10_6, xr_10_7, xr_10_8, xr_14_0, xr_16_0, xr_16_1, xr_16_2, xr_20_0, xr_21_0, xr_21_1, xr_22_0, xr_24_0, xr_26_0, xr_26_1, xr_26_2, xr_30_0, xr_30_1, xr_30_2, xr_30_3, xr_30_4, xr_30_5, xr_30_6, xr_30_7, xr_31_0, xr_39_0, xr_39_1, xr_39_2, xr_42_0, xr_42_2, xr_42_3, xr_42_4, xr_42_5, xr_42_6, xr_42_8, xr_42_10, xr_42_13, xr_42_14, xr_42_15, xr_42_16, xr_42_23, xr_42_24, xr_42_25]
        rw [L1, l2, h3] at hq
        rw [hq] at he
        have hr := pI_next hq
        have := ih q.1 q.2.1 q.2.2 M2 (xi a) (by omega) he (pI_V hv hq) (tX10_tr hX hX2) hC2 q3 q4 (by omega) hr.2
        have ee : (200 : Int) - ((f + 1 : Nat) : Int) + 1 = 200 - f := by omega
        rw [ee]
        exact this
      · simp (disch := first | assumption | decide +kernel | exact hM _ _ | exact hL _ | exact xG_b | exact xG_bt _ _ | omega) only [w20_44, w20_47, w20_48, Int.reduceAdd, xup_twice, true_implies, false_implies, not_true_eq_false, not_false_eq_true, and_true, true_and, Int.reduceEq, Int.reduceLE, Int.reduceLT, Int.reduceNeg, xb_eq0, xb_eq1, xup_ne, xup_self, xup_k, xjl_i, xjl_r, xjl_j, xjl_l, Option.toList_some, Option.toList_none, List.cons_append, List.nil_append, xr_0_0, xr_0_1, xr_0_2, xr_0_3, xr_0_4, xr_0_5, xr_0_6, xr_0_7, xr_1_0, xr_1_1, xr_4_5, xr_4_6, xr_4_7, xr_4_8, xr_8_0, xr_10_5, xr_10_6, xr_10_7, xr_10_8, xr_14_0, xr_16_0, xr_16_1, xr_16_2, xr_20_0, xr_21_0, xr_21_1, xr_22_0, xr_24_0, xr_26_0, xr_26_1, xr_26_2, xr_30_0, xr_30_1, xr_30_2, xr_30_3, xr_30_4, xr_30_5, xr_30_6, xr_30_7, xr_31_0, xr_39_0, xr_39_1, xr_39_2, xr_42_0, xr_42_2, xr_42_3, xr_42_4, xr_42_5, xr_42_6, xr_42_8, xr_42_10, xr_42_13, xr_42_14, xr_42_15, xr_42_16, xr_42_23, xr_42_24, xr_42_25]
        rw [L1, l2, h3] at hq
        rw [hq] at he
        have := hQ M2 (fun e => by rw [he] at e; dsimp at e; omega) (tX10_tr hX hX2)
        rw [he] at this
        exact this
theorem q10_readInto (hT : tW M) (hQ : ∀ M', ((pRes M).1 = -4 → cT10 (pRes M).2 M') → tX10 M M' → Q (some (xi (pRes M).1)) M') : Wc 20 [xr 1, xr 10] M Q := by
  simp (disch := first | assumption | decide +kernel | exact hM _ _ | exact hL _ | exact xG_b | exact xG_bt _ _ | omega) only [w20_0, w20_1, wc20, Int.reduceAdd, xup_twice, true_implies, false_implies, not_true_eq_false, not_false_eq_true, and_true, true_and, Int.reduceEq, Int.reduceLE, Int.reduceLT, Int.reduceNeg, xb_eq0, xb_eq1, xup_ne, xup_self, xup_k, xjl_i, xjl_r, xjl_j, xjl_l, Option.toList_some, Option.toList_none, List.cons_append, List.nil_append, xr_0_0, xr_0_1, xr_0_2, xr_0_3, xr_0_4, xr_0_5, xr_0_6, xr_0_7, xr_1_0, xr_1_1, xr_4_5, xr_4_6, xr_4_7, xr_4_8, xr_8_0, xr_10_5, xr_10_6, xr_10_7, xr_10_8, xr_14_0, xr_16_0, xr_16_1, xr_16_2, xr_20_0, xr_21_0, xr_21_1, xr_22_0, xr_24_0, xr_26_0, xr_26_1, xr_26_2, xr_30_0, xr_30_1, xr_30_2, xr_30_3, xr_30_4, xr_30_5, xr_30_6, xr_30_7, xr_31_0, xr_39_0, xr_39_1, xr_39_2, xr_42_0, xr_42_2, xr_42_3, xr_42_4, xr_42_5, xr_42_6, xr_42_8, xr_42_10, xr_42_13, xr_42_14, xr_42_15, xr_42_16, xr_42_23, xr_42_24, xr_42_25]
  refine q10_clear (fun M1 hC hX => ?_)
  simp (disch := first | assumption | decide +kernel | exact hM _ _ | exact hL _ | exact xG_b | exact xG_bt _ _ | omega) only [w20_4, w20_5, w20_6, w20_9, w20_10, w20_11, w20_14, w20_15, Int.reduceAdd, xup_twice, true_implies, false_implies, not_true_eq_false, not_false_eq_true, and_true, true_and, Int.reduceEq, Int.reduceLE, Int.reduceLT, Int.reduceNeg, xb_eq0, xb_eq1, xup_ne, xup_self, xup_k, xjl_i, xjl_r, xjl_j, xjl_l, Option.toList_some, Option.toList_none, List.cons_append, List.nil_append, xr_0_0, xr_0_1, xr_0_2, xr_0_3, xr_0_4, xr_0_5, xr_0_6, xr_0_7, xr_1_0, xr_1_1, xr_4_5, xr_4_6, xr_4_7, xr_4_8, xr_8_0, xr_10_5, xr_10_6, xr_10_7, xr_10_8, xr_14_0, xr_16_0, xr_16_1, xr_16_2, xr_20_0, xr_21_0, xr_21_1, xr_22_0, xr_24_0, xr_26_0, xr_26_1, xr_26_2, xr_30_0, xr_30_1, xr_30_2, xr_30_3, xr_30_4, xr_30_5, xr_30_6, xr_30_7, xr_31_0, xr_39_0, xr_39_1, xr_39_2, xr_42_0, xr_42_2, xr_42_3, xr_42_4, xr_42_5, xr_42_6, xr_42_8, xr_42_10, xr_42_13, xr_42_14, xr_42_15, xr_42_16, xr_42_23, xr_42_24, xr_42_25]
  exact lp10_readInto hT hQ 200 0 1 pW0 _ xj (by omega) rfl pV_0 (tX10_tr (tX10_X hX) ⟨fun c c1 c3 _ => by rw [xup_ne c1, xup_ne c1], by simp [xup_app]⟩) (cT10_F hC (fun d a b => by rw [xup_ne (by omega), xup_ne (by omega)])) (by simp [xup_app]) (by simp [xup_app]) (by omega) hT.1.1
/-- what a text's reading leaves alone: all but the text's place and numbers and the draft -/
theorem tX_res {M' : xM} (h : tX10 M M') : pRes M' = pRes M ∧ (tW M → tW M') := by
  have e1 : M' 2 = M 2 := h.1 2 (by decide) (by decide) (by omega)
  have e2 : M' 1 2 = M 1 2 := h.2
  refine ⟨?_, fun ht => ?_⟩
  · unfold pRes; rw [e1, e2]
  · unfold tW; rw [e1, e2]; exact ht
theorem q8_fault (hT : tW M) (hQ : ∀ M', tX10 M M' → Q (some (xi (pRes M).1)) M') : Wc 47 [xr 0] M Q := by
  simp (disch := first | assumption | decide +kernel | exact hM _ _ | exact hL _ | exact xG_b | exact xG_bt _ _ | omega) only [w47_0, w47_1, w47_4, w47_5, w47_8, wc47, Int.reduceAdd, xup_twice, true_implies, false_implies, not_true_eq_false, not_false_eq_true, and_true, true_and, Int.reduceEq, Int.reduceLE, Int.reduceLT, Int.reduceNeg, xb_eq0, xb_eq1, xup_ne, xup_self, xup_k, xjl_i, xjl_r, xjl_j, xjl_l, Option.toList_some, Option.toList_none, List.cons_append, List.nil_append, xr_0_0, xr_0_1, xr_0_2, xr_0_3, xr_0_4, xr_0_5, xr_0_6, xr_0_7, xr_1_0, xr_1_1, xr_4_5, xr_4_6, xr_4_7, xr_4_8, xr_8_0, xr_10_5, xr_10_6, xr_10_7, xr_10_8, xr_14_0, xr_16_0, xr_16_1, xr_16_2, xr_20_0, xr_21_0, xr_21_1, xr_22_0, xr_24_0, xr_26_0, xr_26_1, xr_26_2, xr_30_0, xr_30_1, xr_30_2, xr_30_3, xr_30_4, xr_30_5, xr_30_6, xr_30_7, xr_31_0, xr_39_0, xr_39_1, xr_39_2, xr_42_0, xr_42_2, xr_42_3, xr_42_4, xr_42_5, xr_42_6, xr_42_8, xr_42_10, xr_42_13, xr_42_14, xr_42_15, xr_42_16, xr_42_23, xr_42_24, xr_42_25]
  refine q10_readInto hT (fun M1 _ hX => ?_)
  simp (disch := first | assumption | decide +kernel | exact hM _ _ | exact hL _ | exact xG_b | exact xG_bt _ _ | omega) only [w47_11, Int.reduceAdd, xup_twice, true_implies, false_implies, not_true_eq_false, not_false_eq_true, and_true, true_and, Int.reduceEq, Int.reduceLE, Int.reduceLT, Int.reduceNeg, xb_eq0, xb_eq1, xup_ne, xup_self, xup_k, xjl_i, xjl_r, xjl_j, xjl_l, Option.toList_some, Option.toList_none, List.cons_append, List.nil_append, xr_0_0, xr_0_1, xr_0_2, xr_0_3, xr_0_4, xr_0_5, xr_0_6, xr_0_7, xr_1_0, xr_1_1, xr_4_5, xr_4_6, xr_4_7, xr_4_8, xr_8_0, xr_10_5, xr_10_6, xr_10_7, xr_10_8, xr_14_0, xr_16_0, xr_16_1, xr_16_2, xr_20_0, xr_21_0, xr_21_1, xr_22_0, xr_24_0, xr_26_0, xr_26_1, xr_26_2, xr_30_0, xr_30_1, xr_30_2, xr_30_3, xr_30_4, xr_30_5, xr_30_6, xr_30_7, xr_31_0, xr_39_0, xr_39_1, xr_39_2, xr_42_0, xr_42_2, xr_42_3, xr_42_4, xr_42_5, xr_42_6, xr_42_8, xr_42_10, xr_42_13, xr_42_14, xr_42_15, xr_42_16, xr_42_23, xr_42_24, xr_42_25]
  exact hQ M1 hX
/-- what laying leaves alone -/
def tY (M M' : xM) : Prop := (∀ c : Nat, (c = 0 ∨ c = 2 ∨ (17 ≤ c ∧ c < 20) ∨ (21 ≤ c ∧ c < 26) ∨ 27 ≤ c) → M' c = M c) ∧ M' 1 2 = M 1 2
theorem q8_lay (hT : tW M) (hN : ∀ M', ¬ ((pRes M).1 = -4 ∧ ¬ (pRes M).2 0 2 = 0) → tX10 M M' → Q (some (xi (-2))) M')
    (hY : ∀ M', (pRes M).1 = -4 ∧ ¬ (pRes M).2 0 2 = 0 → cT4 (pRes M).2 M' → M' 16 3 = 0 → M' 20 1 = 0 → M' 26 3 = 0 → tY M M' → Q (some (xi ((pRes M).2 0 2))) M') : Wc 48 [xr 0] M Q := by
  simp (disch := first | assumption | decide +kernel | exact hM _ _ | exact hL _ | exact xG_b | exact xG_bt _ _ | omega) only [w48_0, w48_1, w48_4, w48_5, w48_8, wc48, Int.reduceAdd, xup_twice, true_implies, false_implies, not_true_eq_false, not_false_eq_true, and_true, true_and, Int.reduceEq, Int.reduceLE, Int.reduceLT, Int.reduceNeg, xb_eq0, xb_eq1, xup_ne, xup_self, xup_k, xjl_i, xjl_r, xjl_j, xjl_l, Option.toList_some, Option.toList_none, List.cons_append, List.nil_append, xr_0_0, xr_0_1, xr_0_2, xr_0_3, xr_0_4, xr_0_5, xr_0_6, xr_0_7, xr_1_0, xr_1_1, xr_4_5, xr_4_6, xr_4_7, xr_4_8, xr_8_0, xr_10_5, xr_10_6, xr_10_7, xr_10_8, xr_14_0, xr_16_0, xr_16_1, xr_16_2, xr_20_0, xr_21_0, xr_21_1, xr_22_0, xr_24_0, xr_26_0, xr_26_1, xr_26_2, xr_30_0, xr_30_1, xr_30_2, xr_30_3, xr_30_4, xr_30_5, xr_30_6, xr_30_7, xr_31_0, xr_39_0, xr_39_1, xr_39_2, xr_42_0, xr_42_2, xr_42_3, xr_42_4, xr_42_5, xr_42_6, xr_42_8, xr_42_10, xr_42_13, xr_42_14, xr_42_15, xr_42_16, xr_42_23, xr_42_24, xr_42_25]
  refine q10_readInto hT (fun M1 hC hX => ?_)
  obtain ⟨hr, ht⟩ := tX_res hX
  have hge := pAll_ge (L := M 2) (n := M 1 2) 200 0 1 pW0 (by omega)
  have hzW : zW (pRes M).2 := pAll_V (L := M 2) (n := M 1 2) 200 0 1 pW0 pV_0
  have g2 : xG ((pRes M).2 0 2) := by have := hzW.2.2.1; constructor <;> omega
  have hg : xG (pRes M).1 := by
    rcases hge with h | h
    · show xG (pAll (M 2) (M 1 2) 200 0 1 pW0).1
      rw [h]; constructor <;> decide
    · have := hT.1
      constructor
      · show -2147483648 ≤ (pAll (M 2) (M 1 2) 200 0 1 pW0).1
        omega
      · show (pAll (M 2) (M 1 2) 200 0 1 pW0).1 < 2147483648
        omega
  simp (disch := first | assumption | decide +kernel | exact hM _ _ | exact hL _ | exact xG_b | exact xG_bt _ _ | omega) only [w48_11, w48_13, Int.reduceAdd, xup_twice, true_implies, false_implies, not_true_eq_false, not_false_eq_true, and_true, true_and, Int.reduceEq, Int.reduceLE, Int.reduceLT, Int.reduceNeg, xb_eq0, xb_eq1, xup_ne, xup_self, xup_k, xjl_i, xjl_r, xjl_j, xjl_l, Option.toList_some, Option.toList_none, List.cons_append, List.nil_append, xr_0_0, xr_0_1, xr_0_2, xr_0_3, xr_0_4, xr_0_5, xr_0_6, xr_0_7, xr_1_0, xr_1_1, xr_4_5, xr_4_6, xr_4_7, xr_4_8, xr_8_0, xr_10_5, xr_10_6, xr_10_7, xr_10_8, xr_14_0, xr_16_0, xr_16_1, xr_16_2, xr_20_0, xr_21_0, xr_21_1, xr_22_0, xr_24_0, xr_26_0, xr_26_1, xr_26_2, xr_30_0, xr_30_1, xr_30_2, xr_30_3, xr_30_4, xr_30_5, xr_30_6, xr_30_7, xr_31_0, xr_39_0, xr_39_1, xr_39_2, xr_42_0, xr_42_2, xr_42_3, xr_42_4, xr_42_5, xr_42_6, xr_42_8, xr_42_10, xr_42_13, xr_42_14, xr_42_15, xr_42_16, xr_42_23, xr_42_24, xr_42_25]
  refine ⟨fun h => ?_, fun h => ?_⟩
  · simp (disch := first | assumption | decide +kernel | exact hM _ _ | exact hL _ | exact xG_b | exact xG_bt _ _ | omega) only [w48_26, w48_28, Int.reduceAdd, xup_twice, true_implies, false_implies, not_true_eq_false, not_false_eq_true, and_true, true_and, Int.reduceEq, Int.reduceLE, Int.reduceLT, Int.reduceNeg, xb_eq0, xb_eq1, xup_ne, xup_self, xup_k, xjl_i, xjl_r, xjl_j, xjl_l, Option.toList_some, Option.toList_none, List.cons_append, List.nil_append, xr_0_0, xr_0_1, xr_0_2, xr_0_3, xr_0_4, xr_0_5, xr_0_6, xr_0_7, xr_1_0, xr_1_1, xr_4_5, xr_4_6, xr_4_7, xr_4_8, xr_8_0, xr_10_5, xr_10_6, xr_10_7, xr_10_8, xr_14_0, xr_16_0, xr_16_1, xr_16_2, xr_20_0, xr_21_0, xr_21_1, xr_22_0, xr_24_0, xr_26_0, xr_26_1, xr_26_2, xr_30_0, xr_30_1, xr_30_2, xr_30_3, xr_30_4, xr_30_5, xr_30_6, xr_30_7, xr_31_0, xr_39_0, xr_39_1, xr_39_2, xr_42_0, xr_42_2, xr_42_3, xr_42_4, xr_42_5, xr_42_6, xr_42_8, xr_42_10, xr_42_13, xr_42_14, xr_42_15, xr_42_16, xr_42_23, xr_42_24, xr_42_25]
    exact hN M1 (fun q => h q.1) hX
  · have h1 : (pRes M).1 = -4 := by omega
    have c2 : M1 10 2 = (pRes M).2 0 2 := (hC h1).2.2.1
    simp (disch := first | assumption | decide +kernel | exact hM _ _ | exact hL _ | exact xG_b | exact xG_bt _ _ | omega) only [w48_16, w48_17, w48_20, w48_23, Int.reduceAdd, xup_twice, true_implies, false_implies, not_true_eq_false, not_false_eq_true, and_true, true_and, Int.reduceEq, Int.reduceLE, Int.reduceLT, Int.reduceNeg, xb_eq0, xb_eq1, xup_ne, xup_self, xup_k, xjl_i, xjl_r, xjl_j, xjl_l, Option.toList_some, Option.toList_none, List.cons_append, List.nil_append, xr_0_0, xr_0_1, xr_0_2, xr_0_3, xr_0_4, xr_0_5, xr_0_6, xr_0_7, xr_1_0, xr_1_1, xr_4_5, xr_4_6, xr_4_7, xr_4_8, xr_8_0, xr_10_5, xr_10_6, xr_10_7, xr_10_8, xr_14_0, xr_16_0, xr_16_1, xr_16_2, xr_20_0, xr_21_0, xr_21_1, xr_22_0, xr_24_0, xr_26_0, xr_26_1, xr_26_2, xr_30_0, xr_30_1, xr_30_2, xr_30_3, xr_30_4, xr_30_5, xr_30_6, xr_30_7, xr_31_0, xr_39_0, xr_39_1, xr_39_2, xr_42_0, xr_42_2, xr_42_3, xr_42_4, xr_42_5, xr_42_6, xr_42_8, xr_42_10, xr_42_13, xr_42_14, xr_42_15, xr_42_16, xr_42_23, xr_42_24, xr_42_25, c2]
    by_cases h2 : (pRes M).2 0 2 = 0
    · rw [xbr_t' h2]
      simp (disch := first | assumption | decide +kernel | exact hM _ _ | exact hL _ | exact xG_b | exact xG_bt _ _ | omega) only [w48_26, w48_28, Int.reduceAdd, xup_twice, true_implies, false_implies, not_true_eq_false, not_false_eq_true, and_true, true_and, Int.reduceEq, Int.reduceLE, Int.reduceLT, Int.reduceNeg, xb_eq0, xb_eq1, xup_ne, xup_self, xup_k, xjl_i, xjl_r, xjl_j, xjl_l, Option.toList_some, Option.toList_none, List.cons_append, List.nil_append, xr_0_0, xr_0_1, xr_0_2, xr_0_3, xr_0_4, xr_0_5, xr_0_6, xr_0_7, xr_1_0, xr_1_1, xr_4_5, xr_4_6, xr_4_7, xr_4_8, xr_8_0, xr_10_5, xr_10_6, xr_10_7, xr_10_8, xr_14_0, xr_16_0, xr_16_1, xr_16_2, xr_20_0, xr_21_0, xr_21_1, xr_22_0, xr_24_0, xr_26_0, xr_26_1, xr_26_2, xr_30_0, xr_30_1, xr_30_2, xr_30_3, xr_30_4, xr_30_5, xr_30_6, xr_30_7, xr_31_0, xr_39_0, xr_39_1, xr_39_2, xr_42_0, xr_42_2, xr_42_3, xr_42_4, xr_42_5, xr_42_6, xr_42_8, xr_42_10, xr_42_13, xr_42_14, xr_42_15, xr_42_16, xr_42_23, xr_42_24, xr_42_25]
      exact hN M1 (fun q => q.2 h2) hX
    · rw [xbr_f' h2]
      simp (disch := first | assumption | decide +kernel | exact hM _ _ | exact hL _ | exact xG_b | exact xG_bt _ _ | omega) only [w48_29, w48_30, w48_33, w48_34, w48_37, Int.reduceAdd, xup_twice, true_implies, false_implies, not_true_eq_false, not_false_eq_true, and_true, true_and, Int.reduceEq, Int.reduceLE, Int.reduceLT, Int.reduceNeg, xb_eq0, xb_eq1, xup_ne, xup_self, xup_k, xjl_i, xjl_r, xjl_j, xjl_l, Option.toList_some, Option.toList_none, List.cons_append, List.nil_append, xr_0_0, xr_0_1, xr_0_2, xr_0_3, xr_0_4, xr_0_5, xr_0_6, xr_0_7, xr_1_0, xr_1_1, xr_4_5, xr_4_6, xr_4_7, xr_4_8, xr_8_0, xr_10_5, xr_10_6, xr_10_7, xr_10_8, xr_14_0, xr_16_0, xr_16_1, xr_16_2, xr_20_0, xr_21_0, xr_21_1, xr_22_0, xr_24_0, xr_26_0, xr_26_1, xr_26_2, xr_30_0, xr_30_1, xr_30_2, xr_30_3, xr_30_4, xr_30_5, xr_30_6, xr_30_7, xr_31_0, xr_39_0, xr_39_1, xr_39_2, xr_42_0, xr_42_2, xr_42_3, xr_42_4, xr_42_5, xr_42_6, xr_42_8, xr_42_10, xr_42_13, xr_42_14, xr_42_15, xr_42_16, xr_42_23, xr_42_24, xr_42_25]
      refine q4_readInto (ht hT) (fun M2 hC2 hX2 => ?_)
      rw [hr] at hC2
      simp (disch := first | assumption | decide +kernel | exact hM _ _ | exact hL _ | exact xG_b | exact xG_bt _ _ | omega) only [w48_40, w48_41, w48_42, w48_45, w48_46, w48_49, w48_50, w48_53, w48_54, w48_57, w48_58, w48_61, w48_62, w48_65, w48_66, w48_69, w48_72, Int.reduceAdd, xup_twice, true_implies, false_implies, not_true_eq_false, not_false_eq_true, and_true, true_and, Int.reduceEq, Int.reduceLE, Int.reduceLT, Int.reduceNeg, xb_eq0, xb_eq1, xup_ne, xup_self, xup_k, xjl_i, xjl_r, xjl_j, xjl_l, Option.toList_some, Option.toList_none, List.cons_append, List.nil_append, xr_0_0, xr_0_1, xr_0_2, xr_0_3, xr_0_4, xr_0_5, xr_0_6, xr_0_7, xr_1_0, xr_1_1, xr_4_5, xr_4_6, xr_4_7, xr_4_8, xr_8_0, xr_10_5, xr_10_6, xr_10_7, xr_10_8, xr_14_0, xr_16_0, xr_16_1, xr_16_2, xr_20_0, xr_21_0, xr_21_1, xr_22_0, xr_24_0, xr_26_0, xr_26_1, xr_26_2, xr_30_0, xr_30_1, xr_30_2, xr_30_3, xr_30_4, xr_30_5, xr_30_6, xr_30_7, xr_31_0, xr_39_0, xr_39_1, xr_39_2, xr_42_0, xr_42_2, xr_42_3, xr_42_4, xr_42_5, xr_42_6, xr_42_8, xr_42_10, xr_42_13, xr_42_14, xr_42_15, xr_42_16, xr_42_23, xr_42_24, xr_42_25]
      have hC2' := hC2 h1
      have k2 : M2 4 2 = (pRes M).2 0 2 := hC2'.2.2.1
      rw [k2]
      refine hY _ ⟨h1, h2⟩ (cT4_F hC2' (fun d a b => by rw [xup_ne (by omega), xup_ne (by omega), xup_ne (by omega)])) (by simp [xup_app]) (by simp [xup_app]) (by simp [xup_app]) ⟨fun c hc => ?_, ?_⟩
      · rw [xup_ne (by omega), xup_ne (by omega), xup_ne (by omega), hX2.1 c (by omega) (by omega) (by omega), hX.1 c (by omega) (by omega) (by omega)]
      · rw [xup_ne (by omega), xup_ne (by omega), xup_ne (by omega), hX2.2, hX.2]
end LAY
