/-! the reference runs sixty steps -/
section RUNS
variable {w z M : xM} {Q : Option xV → xM → Prop}
theorem zOth_self {p : Int} (hp : 0 ≤ p ∧ p < w 0 2) : zAll w z (z 0 p) = zOth w z p (z 0 p) + 1 := by
  have h := xcn_u (f := fun q => decide (z 0 q = z 0 p)) (g := fun q => decide (¬ q = p ∧ z 0 q = z 0 p)) (p := p.toNat) (n := (w 0 2).toNat) (by omega) (fun k hk hne => by
    have : ¬ (k : Int) = p := by omega
    simp [this])
  rw [Int.toNat_of_nonneg hp.1] at h
  simp only [decide_true, if_true, not_true_eq_false, false_and, decide_false] at h
  have h' : zOth w z p (z 0 p) + 1 = zAll w z (z 0 p) + 0 := h
  omega
theorem lp_ends {row b : Int} (hw : zW w) (hv : zV w z b) (hb : b ≤ 990) (hT : rT w M) (hr : 0 ≤ row ∧ row ≤ 300) (hQ : ∀ M', rZ w (zWe w z (w 0 2).toNat) row M' → (∀ c, c ≠ 53 → M' c = M c) → (∀ i, i < row → M' 53 i = M 53 i) → Q none M') :
    ∀ (j n : Nat) (M1 : xM), (n : Int) + j = w 0 2 → rZ w (zWe w z n) row M1 → (∀ c, c ≠ 53 → M1 c = M c) → (∀ i, i < row → M1 53 i = M 53 i) → Wp 111 2 [xr 42, xi row, xi n] [] M1 Q := by
  intro j
  have hw1 := hw.1
  have hw3 := hw.2.2.1
  induction j with
  | zero =>
    intro n M1 hn hz hf hi
    have h2 : M1 44 2 = w 0 2 := by rw [hf 44 (by omega)]; exact hT.2.2.1
    simp (disch := first | assumption | decide +kernel | exact hM _ _ | exact hL _ | exact xG_b | exact xG_bt _ _ | omega) only [w111_2, w111_3, w111_4, w111_7, w111_8, w111_9, Int.reduceAdd, xup_twice, true_implies, false_implies, not_true_eq_false, not_false_eq_true, and_true, true_and, Int.reduceEq, Int.reduceLE, Int.reduceLT, Int.reduceNeg, xb_eq0, xb_eq1, xup_ne, xup_self, xup_k, xjl_i, xjl_r, xjl_j, xjl_l, Option.toList_some, Option.toList_none, List.cons_append, List.nil_append, xr_0_0, xr_0_1, xr_0_2, xr_0_3, xr_0_4, xr_0_5, xr_0_6, xr_0_7, xr_1_0, xr_1_1, xr_4_5, xr_4_6, xr_4_7, xr_4_8, xr_8_0, xr_10_5, xr_10_6, xr_10_7, xr_10_8, xr_14_0, xr_16_0, xr_16_1, xr_16_2, xr_20_0, xr_21_0, xr_21_1, xr_22_0, xr_24_0, xr_26_0, xr_26_1, xr_26_2, xr_30_0, xr_30_1, xr_30_2, xr_30_3, xr_30_4, xr_30_5, xr_30_6, xr_30_7, xr_31_0, xr_39_0, xr_39_1, xr_39_2, xr_42_0, xr_42_2, xr_42_3, xr_42_4, xr_42_5, xr_42_6, xr_42_8, xr_42_10, xr_42_13, xr_42_14, xr_42_15, xr_42_16, xr_42_23, xr_42_24, xr_42_25, h2]
    refine ⟨fun _ => ?_, fun h => absurd h (by omega)⟩
    simp (disch := first | assumption | decide +kernel | exact hM _ _ | exact hL _ | exact xG_b | exact xG_bt _ _ | omega) only [w111_72, Int.reduceAdd, xup_twice, true_implies, false_implies, not_true_eq_false, not_false_eq_true, and_true, true_and, Int.reduceEq, Int.reduceLE, Int.reduceLT, Int.reduceNeg, xb_eq0, xb_eq1, xup_ne, xup_self, xup_k, xjl_i, xjl_r, xjl_j, xjl_l, Option.toList_some, Option.toList_none, List.cons_append, List.nil_append, xr_0_0, xr_0_1, xr_0_2, xr_0_3, xr_0_4, xr_0_5, xr_0_6, xr_0_7, xr_1_0, xr_1_1, xr_4_5, xr_4_6, xr_4_7, xr_4_8, xr_8_0, xr_10_5, xr_10_6, xr_10_7, xr_10_8, xr_14_0, xr_16_0, xr_16_1, xr_16_2, xr_20_0, xr_21_0, xr_21_1, xr_22_0, xr_24_0, xr_26_0, xr_26_1, xr_26_2, xr_30_0, xr_30_1, xr_30_2, xr_30_3, xr_30_4, xr_30_5, xr_30_6, xr_30_7, xr_31_0, xr_39_0, xr_39_1, xr_39_2, xr_42_0, xr_42_2, xr_42_3, xr_42_4, xr_42_5, xr_42_6, xr_42_8, xr_42_10, xr_42_13, xr_42_14, xr_42_15, xr_42_16, xr_42_23, xr_42_24, xr_42_25]
    have e : (w 0 2).toNat = n := by omega
    exact hQ M1 (by rw [e]; exact hz) hf hi
  | succ j ih =>
    intro n M1 hn hz hf hi
    have h2 : M1 44 2 = w 0 2 := by rw [hf 44 (by omega)]; exact hT.2.2.1
    have h3 : M1 44 3 = w 0 4 := by rw [hf 44 (by omega)]; exact hT.2.2.2.1
    have hT1 : rT w M1 := rT_F hT (hf 44 (by omega))
    obtain ⟨y1, y2, y3, y4⟩ := hz.1 n (by omega) (by omega)
    rw [zWe_at n 0 n (by omega)] at y1
    have hvn := hv.1 n (by omega) (by omega)
    have h5 := zWe_5 (w := w) (z := z) n n (by omega)
    rw [if_neg (fun q => by omega)] at h5
    rw [h5] at y4
    have eb : xand (xshr (w 0 4) (z 0 n)) 1 = xbt (w 0 4) (z 0 n) := rfl
    have gb : xG (xbt (w 0 4) (z 0 n)) := xG_bt _ _
    have hself := zOth_self (w := w) (z := z) (p := n) (by omega)
    have hoth := xcn_b (fun q => decide (¬ q = (n : Int) ∧ z 0 q = z 0 n)) (w 0 2).toNat
    have hg : 0 ≤ zOth w z n (z 0 n) ∧ zOth w z n (z 0 n) ≤ 5 := by unfold zOth; constructor <;> omega
    have key : ∀ v, v = (if zWet w z n then z 5 n + 1 else z 5 n) → Wp 111 2 [xr 42, xi row, xi ((n : Int) + 1)] [] (xup M1 53 (row + n) v) Q := fun v hv' => by
      refine ih (n + 1) _ (by omega) ⟨fun q a c => ?_, ?_⟩ (fun c hc => by rw [xup_ne (by omega)]; exact hf c hc) (fun i a => by rw [xup_k (by omega)]; exact hi i a)
      · obtain ⟨x1, x2, x3, x4⟩ := hz.1 q a c
        rw [zWe, xup_ne (by omega), xup_ne (by omega), xup_ne (by omega), xup_ne (by omega), xup_ne (by omega), xup_ne (by omega)]
        refine ⟨x1, x2, x3, ?_⟩
        by_cases e : q = n
        · subst e
          rw [xup_self, xup_self, hv']
        · rw [xup_k (by omega), xup_k e]; exact x4
      · rw [zWe, xup_ne (by omega), xup_ne (by omega)]; exact hz.2
    simp (disch := first | assumption | decide +kernel | exact hM _ _ | exact hL _ | exact xG_b | exact xG_bt _ _ | omega) only [w111_2, w111_3, w111_4, w111_7, w111_8, w111_9, Int.reduceAdd, xup_twice, true_implies, false_implies, not_true_eq_false, not_false_eq_true, and_true, true_and, Int.reduceEq, Int.reduceLE, Int.reduceLT, Int.reduceNeg, xb_eq0, xb_eq1, xup_ne, xup_self, xup_k, xjl_i, xjl_r, xjl_j, xjl_l, Option.toList_some, Option.toList_none, List.cons_append, List.nil_append, xr_0_0, xr_0_1, xr_0_2, xr_0_3, xr_0_4, xr_0_5, xr_0_6, xr_0_7, xr_1_0, xr_1_1, xr_4_5, xr_4_6, xr_4_7, xr_4_8, xr_8_0, xr_10_5, xr_10_6, xr_10_7, xr_10_8, xr_14_0, xr_16_0, xr_16_1, xr_16_2, xr_20_0, xr_21_0, xr_21_1, xr_22_0, xr_24_0, xr_26_0, xr_26_1, xr_26_2, xr_30_0, xr_30_1, xr_30_2, xr_30_3, xr_30_4, xr_30_5, xr_30_6, xr_30_7, xr_31_0, xr_39_0, xr_39_1, xr_39_2, xr_42_0, xr_42_2, xr_42_3, xr_42_4, xr_42_5, xr_42_6, xr_42_8, xr_42_10, xr_42_13, xr_42_14, xr_42_15, xr_42_16, xr_42_23, xr_42_24, xr_42_25, h2]
    refine ⟨fun h => absurd h (by omega), fun _ => ?_⟩
    simp (disch := first | assumption | decide +kernel | exact hM _ _ | exact hL _ | exact xG_b | exact xG_bt _ _ | omega) only [w111_12, w111_13, w111_16, w111_17, w111_18, w111_19, w111_20, w111_21, w111_22, w111_25, w111_26, w111_27, w111_28, w111_31, w111_32, w111_33, w111_34, w111_35, w111_36, w111_37, w111_38, w111_39, Int.reduceAdd, xup_twice, true_implies, false_implies, not_true_eq_false, not_false_eq_true, and_true, true_and, Int.reduceEq, Int.reduceLE, Int.reduceLT, Int.reduceNeg, xb_eq0, xb_eq1, xup_ne, xup_self, xup_k, xjl_i, xjl_r, xjl_j, xjl_l, Option.toList_some, Option.toList_none, List.cons_append, List.nil_append, xr_0_0, xr_0_1, xr_0_2, xr_0_3, xr_0_4, xr_0_5, xr_0_6, xr_0_7, xr_1_0, xr_1_1, xr_4_5, xr_4_6, xr_4_7, xr_4_8, xr_8_0, xr_10_5, xr_10_6, xr_10_7, xr_10_8, xr_14_0, xr_16_0, xr_16_1, xr_16_2, xr_20_0, xr_21_0, xr_21_1, xr_22_0, xr_24_0, xr_26_0, xr_26_1, xr_26_2, xr_30_0, xr_30_1, xr_30_2, xr_30_3, xr_30_4, xr_30_5, xr_30_6, xr_30_7, xr_31_0, xr_39_0, xr_39_1, xr_39_2, xr_42_0, xr_42_2, xr_42_3, xr_42_4, xr_42_5, xr_42_6, xr_42_8, xr_42_10, xr_42_13, xr_42_14, xr_42_15, xr_42_16, xr_42_23, xr_42_24, xr_42_25, y4, h3, y1, eb]
    refine ⟨fun h => ?_, fun h => ?_⟩
    · simp (disch := first | assumption | decide +kernel | exact hM _ _ | exact hL _ | exact xG_b | exact xG_bt _ _ | omega) only [w111_63, w111_64, w111_65, w111_66, w111_69, Int.reduceAdd, xup_twice, true_implies, false_implies, not_true_eq_false, not_false_eq_true, and_true, true_and, Int.reduceEq, Int.reduceLE, Int.reduceLT, Int.reduceNeg, xb_eq0, xb_eq1, xup_ne, xup_self, xup_k, xjl_i, xjl_r, xjl_j, xjl_l, Option.toList_some, Option.toList_none, List.cons_append, List.nil_append, xr_0_0, xr_0_1, xr_0_2, xr_0_3, xr_0_4, xr_0_5, xr_0_6, xr_0_7, xr_1_0, xr_1_1, xr_4_5, xr_4_6, xr_4_7, xr_4_8, xr_8_0, xr_10_5, xr_10_6, xr_10_7, xr_10_8, xr_14_0, xr_16_0, xr_16_1, xr_16_2, xr_20_0, xr_21_0, xr_21_1, xr_22_0, xr_24_0, xr_26_0, xr_26_1, xr_26_2, xr_30_0, xr_30_1, xr_30_2, xr_30_3, xr_30_4, xr_30_5, xr_30_6, xr_30_7, xr_31_0, xr_39_0, xr_39_1, xr_39_2, xr_42_0, xr_42_2, xr_42_3, xr_42_4, xr_42_5, xr_42_6, xr_42_8, xr_42_10, xr_42_13, xr_42_14, xr_42_15, xr_42_16, xr_42_23, xr_42_24, xr_42_25, Int.add_zero]
      refine key _ ?_
      rw [if_neg (by unfold zWet; rw [decide_eq_false (fun q => h q.1)]; decide)]
    · have h1 := Classical.not_not.mp h
      simp (disch := first | assumption | decide +kernel | exact hM _ _ | exact hL _ | exact xG_b | exact xG_bt _ _ | omega) only [w111_42, w111_43, w111_44, w111_45, w111_48, w111_49, w111_50, w111_51, w111_52, w111_53, Int.reduceAdd, xup_twice, true_implies, false_implies, not_true_eq_false, not_false_eq_true, and_true, true_and, Int.reduceEq, Int.reduceLE, Int.reduceLT, Int.reduceNeg, xb_eq0, xb_eq1, xup_ne, xup_self, xup_k, xjl_i, xjl_r, xjl_j, xjl_l, Option.toList_some, Option.toList_none, List.cons_append, List.nil_append, xr_0_0, xr_0_1, xr_0_2, xr_0_3, xr_0_4, xr_0_5, xr_0_6, xr_0_7, xr_1_0, xr_1_1, xr_4_5, xr_4_6, xr_4_7, xr_4_8, xr_8_0, xr_10_5, xr_10_6, xr_10_7, xr_10_8, xr_14_0, xr_16_0, xr_16_1, xr_16_2, xr_20_0, xr_21_0, xr_21_1, xr_22_0, xr_24_0, xr_26_0, xr_26_1, xr_26_2, xr_30_0, xr_30_1, xr_30_2, xr_30_3, xr_30_4, xr_30_5, xr_30_6, xr_30_7, xr_31_0, xr_39_0, xr_39_1, xr_39_2, xr_42_0, xr_42_2, xr_42_3, xr_42_4, xr_42_5, xr_42_6, xr_42_8, xr_42_10, xr_42_13, xr_42_14, xr_42_15, xr_42_16, xr_42_23, xr_42_24, xr_42_25, y1]
      refine q9_others (w := w) (z := z) (by constructor <;> omega) (by constructor <;> omega) hw hT1 hr (fun q a c => by rw [(hz.1 q a c).1, zWe_at n 0 q (by omega)]) (fun q a c => by have := hv.1 q a c; constructor <;> omega) ?_
      simp (disch := first | assumption | decide +kernel | exact hM _ _ | exact hL _ | exact xG_b | exact xG_bt _ _ | omega) only [w111_56, Int.reduceAdd, xup_twice, true_implies, false_implies, not_true_eq_false, not_false_eq_true, and_true, true_and, Int.reduceEq, Int.reduceLE, Int.reduceLT, Int.reduceNeg, xb_eq0, xb_eq1, xup_ne, xup_self, xup_k, xjl_i, xjl_r, xjl_j, xjl_l, Option.toList_some, Option.toList_none, List.cons_append, List.nil_append, xr_0_0, xr_0_1, xr_0_2, xr_0_3, xr_0_4, xr_0_5, xr_0_6, xr_0_7, xr_1_0, xr_1_1, xr_4_5, xr_4_6, xr_4_7, xr_4_8, xr_8_0, xr_10_5, xr_10_6, xr_10_7, xr_10_8, xr_14_0, xr_16_0, xr_16_1, xr_16_2, xr_20_0, xr_21_0, xr_21_1, xr_22_0, xr_24_0, xr_26_0, xr_26_1, xr_26_2, xr_30_0, xr_30_1, xr_30_2, xr_30_3, xr_30_4, xr_30_5, xr_30_6, xr_30_7, xr_31_0, xr_39_0, xr_39_1, xr_39_2, xr_42_0, xr_42_2, xr_42_3, xr_42_4, xr_42_5, xr_42_6, xr_42_8, xr_42_10, xr_42_13, xr_42_14, xr_42_15, xr_42_16, xr_42_23, xr_42_24, xr_42_25]
      refine ⟨fun h0 => ?_, fun h0 => ?_⟩
      · simp (disch := first | assumption | decide +kernel | exact hM _ _ | exact hL _ | exact xG_b | exact xG_bt _ _ | omega) only [w111_63, w111_64, w111_65, w111_66, w111_69, Int.reduceAdd, xup_twice, true_implies, false_implies, not_true_eq_false, not_false_eq_true, and_true, true_and, Int.reduceEq, Int.reduceLE, Int.reduceLT, Int.reduceNeg, xb_eq0, xb_eq1, xup_ne, xup_self, xup_k, xjl_i, xjl_r, xjl_j, xjl_l, Option.toList_some, Option.toList_none, List.cons_append, List.nil_append, xr_0_0, xr_0_1, xr_0_2, xr_0_3, xr_0_4, xr_0_5, xr_0_6, xr_0_7, xr_1_0, xr_1_1, xr_4_5, xr_4_6, xr_4_7, xr_4_8, xr_8_0, xr_10_5, xr_10_6, xr_10_7, xr_10_8, xr_14_0, xr_16_0, xr_16_1, xr_16_2, xr_20_0, xr_21_0, xr_21_1, xr_22_0, xr_24_0, xr_26_0, xr_26_1, xr_26_2, xr_30_0, xr_30_1, xr_30_2, xr_30_3, xr_30_4, xr_30_5, xr_30_6, xr_30_7, xr_31_0, xr_39_0, xr_39_1, xr_39_2, xr_42_0, xr_42_2, xr_42_3, xr_42_4, xr_42_5, xr_42_6, xr_42_8, xr_42_10, xr_42_13, xr_42_14, xr_42_15, xr_42_16, xr_42_23, xr_42_24, xr_42_25, Int.add_zero]
        refine key _ ?_
        rw [if_neg (by unfold zWet; rw [decide_eq_false (fun q => by have := q.2; omega)]; decide)]
      · simp (disch := first | assumption | decide +kernel | exact hM _ _ | exact hL _ | exact xG_b | exact xG_bt _ _ | omega) only [w111_59, w111_60, w111_63, w111_64, w111_65, w111_66, w111_69, Int.reduceAdd, xup_twice, true_implies, false_implies, not_true_eq_false, not_false_eq_true, and_true, true_and, Int.reduceEq, Int.reduceLE, Int.reduceLT, Int.reduceNeg, xb_eq0, xb_eq1, xup_ne, xup_self, xup_k, xjl_i, xjl_r, xjl_j, xjl_l, Option.toList_some, Option.toList_none, List.cons_append, List.nil_append, xr_0_0, xr_0_1, xr_0_2, xr_0_3, xr_0_4, xr_0_5, xr_0_6, xr_0_7, xr_1_0, xr_1_1, xr_4_5, xr_4_6, xr_4_7, xr_4_8, xr_8_0, xr_10_5, xr_10_6, xr_10_7, xr_10_8, xr_14_0, xr_16_0, xr_16_1, xr_16_2, xr_20_0, xr_21_0, xr_21_1, xr_22_0, xr_24_0, xr_26_0, xr_26_1, xr_26_2, xr_30_0, xr_30_1, xr_30_2, xr_30_3, xr_30_4, xr_30_5, xr_30_6, xr_30_7, xr_31_0, xr_39_0, xr_39_1, xr_39_2, xr_42_0, xr_42_2, xr_42_3, xr_42_4, xr_42_5, xr_42_6, xr_42_8, xr_42_10, xr_42_13, xr_42_14, xr_42_15, xr_42_16, xr_42_23, xr_42_24, xr_42_25]
        refine key _ ?_
        rw [if_pos (by unfold zWet; exact decide_eq_true ⟨h1, by omega⟩)]
theorem q9_ends {row b : Int} (hw : zW w) (hv : zV w z b) (hb : b ≤ 990) (hT : rT w M) (hr : 0 ≤ row ∧ row ≤ 300) (hz : rZ w z row M) (hQ : ∀ M', rZ w (zWe w z (w 0 2).toNat) row M' → (∀ c, c ≠ 53 → M' c = M c) → (∀ i, i < row → M' 53 i = M 53 i) → Q none M') : Wc 111 [xr 42, xi row] M Q := by
  have hw3 := hw.2.2.1
  simp (disch := first | assumption | decide +kernel | exact hM _ _ | exact hL _ | exact xG_b | exact xG_bt _ _ | omega) only [w111_0, w111_1, wc111, Int.reduceAdd, xup_twice, true_implies, false_implies, not_true_eq_false, not_false_eq_true, and_true, true_and, Int.reduceEq, Int.reduceLE, Int.reduceLT, Int.reduceNeg, xb_eq0, xb_eq1, xup_ne, xup_self, xup_k, xjl_i, xjl_r, xjl_j, xjl_l, Option.toList_some, Option.toList_none, List.cons_append, List.nil_append, xr_0_0, xr_0_1, xr_0_2, xr_0_3, xr_0_4, xr_0_5, xr_0_6, xr_0_7, xr_1_0, xr_1_1, xr_4_5, xr_4_6, xr_4_7, xr_4_8, xr_8_0, xr_10_5, xr_10_6, xr_10_7, xr_10_8, xr_14_0, xr_16_0, xr_16_1, xr_16_2, xr_20_0, xr_21_0, xr_21_1, xr_22_0, xr_24_0, xr_26_0, xr_26_1, xr_26_2, xr_30_0, xr_30_1, xr_30_2, xr_30_3, xr_30_4, xr_30_5, xr_30_6, xr_30_7, xr_31_0, xr_39_0, xr_39_1, xr_39_2, xr_42_0, xr_42_2, xr_42_3, xr_42_4, xr_42_5, xr_42_6, xr_42_8, xr_42_10, xr_42_13, xr_42_14, xr_42_15, xr_42_16, xr_42_23, xr_42_24, xr_42_25]
  exact lp_ends hw hv hb hT hr hQ (w 0 2).toNat 0 M (by omega) hz (fun _ _ => rfl) (fun _ _ => rfl)
theorem lp_runs0 (hQ : ∀ M', (∀ i, 0 ≤ i → i < 5 → M' 51 i = M 44 (15 + i) ∧ M' 54 i = M 44 (20 + i) ∧ M' 52 i = 0 ∧ M' 53 i = 0) → (∀ c : Nat, (c < 51 ∨ 54 < c) → M' c = M c) → (∀ (c : Nat) i, i < 0 → M' c i = M c i) → Wp 112 57 [xr 42, xi 5, xj, xj] [] M' Q) : ∀ (k n : Nat) (M1 : xM), n + k = 5 → (∀ i, 0 ≤ i → i < (n : Int) → M1 51 i = M 44 (15 + i) ∧ M1 54 i = M 44 (20 + i) ∧ M1 52 i = 0 ∧ M1 53 i = 0) → (∀ c : Nat, (c < 51 ∨ 54 < c) → M1 c = M c) → (∀ (c : Nat) i, i < 0 → M1 c i = M c i) → Wp 112 2 [xr 42, xi n, xj, xj] [] M1 Q := by
  intro k
  induction k with
  | zero =>
    intro n M1 hn h1 h2 h3
    obtain rfl : n = 5 := by omega
    simp (disch := first | assumption | decide +kernel | exact hM _ _ | exact hL _ | exact xG_b | exact xG_bt _ _ | omega) only [w112_2, w112_3, w112_4, Int.reduceAdd, xup_twice, true_implies, false_implies, not_true_eq_false, not_false_eq_true, and_true, true_and, Int.reduceEq, Int.reduceLE, Int.reduceLT, Int.reduceNeg, xb_eq0, xb_eq1, xup_ne, xup_self, xup_k, xjl_i, xjl_r, xjl_j, xjl_l, Option.toList_some, Option.toList_none, List.cons_append, List.nil_append, xr_0_0, xr_0_1, xr_0_2, xr_0_3, xr_0_4, xr_0_5, xr_0_6, xr_0_7, xr_1_0, xr_1_1, xr_4_5, xr_4_6, xr_4_7, xr_4_8, xr_8_0, xr_10_5, xr_10_6, xr_10_7, xr_10_8, xr_14_0, xr_16_0, xr_16_1, xr_16_2, xr_20_0, xr_21_0, xr_21_1, xr_22_0, xr_24_0, xr_26_0, xr_26_1, xr_26_2, xr_30_0, xr_30_1, xr_30_2, xr_30_3, xr_30_4, xr_30_5, xr_30_6, xr_30_7, xr_31_0, xr_39_0, xr_39_1, xr_39_2, xr_42_0, xr_42_2, xr_42_3, xr_42_4, xr_42_5, xr_42_6, xr_42_8, xr_42_10, xr_42_13, xr_42_14, xr_42_15, xr_42_16, xr_42_23, xr_42_24, xr_42_25]
    exact ⟨fun _ => hQ M1 h1 h2 h3, fun h => absurd h (by omega)⟩
  | succ k ih =>
    intro n M1 hn h1 h2 h3
    have e1 : M1 44 (15 + n) = M 44 (15 + n) := by rw [h2 44 (by omega)]
    have e2 : M1 44 (20 + n) = M 44 (20 + n) := by rw [h2 44 (by omega)]
    simp (disch := first | assumption | decide +kernel | exact hM _ _ | exact hL _ | exact xG_b | exact xG_bt _ _ | omega) only [w112_2, w112_3, w112_4, Int.reduceAdd, xup_twice, true_implies, false_implies, not_true_eq_false, not_false_eq_true, and_true, true_and, Int.reduceEq, Int.reduceLE, Int.reduceLT, Int.reduceNeg, xb_eq0, xb_eq1, xup_ne, xup_self, xup_k, xjl_i, xjl_r, xjl_j, xjl_l, Option.toList_some, Option.toList_none, List.cons_append, List.nil_append, xr_0_0, xr_0_1, xr_0_2, xr_0_3, xr_0_4, xr_0_5, xr_0_6, xr_0_7, xr_1_0, xr_1_1, xr_4_5, xr_4_6, xr_4_7, xr_4_8, xr_8_0, xr_10_5, xr_10_6, xr_10_7, xr_10_8, xr_14_0, xr_16_0, xr_16_1, xr_16_2, xr_20_0, xr_21_0, xr_21_1, xr_22_0, xr_24_0, xr_26_0, xr_26_1, xr_26_2, xr_30_0, xr_30_1, xr_30_2, xr_30_3, xr_30_4, xr_30_5, xr_30_6, xr_30_7, xr_31_0, xr_39_0, xr_39_1, xr_39_2, xr_42_0, xr_42_2, xr_42_3, xr_42_4, xr_42_5, xr_42_6, xr_42_8, xr_42_10, xr_42_13, xr_42_14, xr_42_15, xr_42_16, xr_42_23, xr_42_24, xr_42_25]
    refine ⟨fun h => absurd h (by omega), fun _ => ?_⟩
    simp (disch := first | assumption | decide +kernel | exact hM _ _ | exact hL _ | exact xG_b | exact xG_bt _ _ | omega) only [w112_7, w112_8, w112_11, w112_12, w112_13, w112_16, w112_18, w112_19, w112_20, w112_21, w112_22, w112_23, w112_26, w112_27, w112_28, w112_31, w112_33, w112_34, w112_35, w112_36, w112_37, w112_38, w112_41, w112_42, w112_43, w112_44, w112_45, w112_48, w112_49, w112_50, w112_51, w112_54, Int.reduceAdd, xup_twice, true_implies, false_implies, not_true_eq_false, not_false_eq_true, and_true, true_and, Int.reduceEq, Int.reduceLE, Int.reduceLT, Int.reduceNeg, xb_eq0, xb_eq1, xup_ne, xup_self, xup_k, xjl_i, xjl_r, xjl_j, xjl_l, Option.toList_some, Option.toList_none, List.cons_append, List.nil_append, xr_0_0, xr_0_1, xr_0_2, xr_0_3, xr_0_4, xr_0_5, xr_0_6, xr_0_7, xr_1_0, xr_1_1, xr_4_5, xr_4_6, xr_4_7, xr_4_8, xr_8_0, xr_10_5, xr_10_6, xr_10_7, xr_10_8, xr_14_0, xr_16_0, xr_16_1, xr_16_2, xr_20_0, xr_21_0, xr_21_1, xr_22_0, xr_24_0, xr_26_0, xr_26_1, xr_26_2, xr_30_0, xr_30_1, xr_30_2, xr_30_3, xr_30_4, xr_30_5, xr_30_6, xr_30_7, xr_31_0, xr_39_0, xr_39_1, xr_39_2, xr_42_0, xr_42_2, xr_42_3, xr_42_4, xr_42_5, xr_42_6, xr_42_8, xr_42_10, xr_42_13, xr_42_14, xr_42_15, xr_42_16, xr_42_23, xr_42_24, xr_42_25, e1, e2]
    refine ih (n + 1) _ (by omega) (fun i i0 i1 => ?_) (fun c hc => ?_) (fun c i hi => ?_)
    · by_cases e : i = n
      · subst e; simp [xup_app]
      · have := h1 i i0 (by omega)
        simpa [xup_app, e] using this
    · rw [xup_ne (by omega), xup_ne (by omega), xup_ne (by omega), xup_ne (by omega)]
      exact h2 c hc
    · rw [xup_app, if_neg (by omega), xup_app, if_neg (by omega), xup_app, if_neg (by omega), xup_app, if_neg (by omega)]
      exact h3 c i hi
theorem lp_copy3 {s row : Int} (hs : 1 ≤ s ∧ s ≤ 60) (hr : row = 5 * s) (hQ : ∀ M', (∀ c : Nat, 51 ≤ c → c ≤ 53 → ∀ i, 0 ≤ i → i < 5 → M' c (row + i) = M c (row + i - 5)) → (∀ c : Nat, 51 ≤ c → c ≤ 53 → ∀ i, i < row → M' c i = M c i) → (∀ c : Nat, (c < 51 ∨ 53 < c) → M' c = M c) → Wp 112 151 [xr 42, xi s, xi row, xi 5] [] M' Q) :
    ∀ (k n : Nat) (M1 : xM), n + k = 5 → (∀ c : Nat, 51 ≤ c → c ≤ 53 → ∀ i, 0 ≤ i → i < (n : Int) → M1 c (row + i) = M c (row + i - 5)) → (∀ c : Nat, 51 ≤ c → c ≤ 53 → ∀ i, i < row → M1 c i = M c i) → (∀ c : Nat, (c < 51 ∨ 53 < c) → M1 c = M c) → Wp 112 86 [xr 42, xi s, xi row, xi n] [] M1 Q := by
  intro k
  induction k with
  | zero =>
    intro n M1 hn h1 h2 h3
    obtain rfl : n = 5 := by omega
    simp (disch := first | assumption | decide +kernel | exact hM _ _ | exact hL _ | exact xG_b | exact xG_bt _ _ | omega) only [w112_86, w112_87, w112_88, Int.reduceAdd, xup_twice, true_implies, false_implies, not_true_eq_false, not_false_eq_true, and_true, true_and, Int.reduceEq, Int.reduceLE, Int.reduceLT, Int.reduceNeg, xb_eq0, xb_eq1, xup_ne, xup_self, xup_k, xjl_i, xjl_r, xjl_j, xjl_l, Option.toList_some, Option.toList_none, List.cons_append, List.nil_append, xr_0_0, xr_0_1, xr_0_2, xr_0_3, xr_0_4, xr_0_5, xr_0_6, xr_0_7, xr_1_0, xr_1_1, xr_4_5, xr_4_6, xr_4_7, xr_4_8, xr_8_0, xr_10_5, xr_10_6, xr_10_7, xr_10_8, xr_14_0, xr_16_0, xr_16_1, xr_16_2, xr_20_0, xr_21_0, xr_21_1, xr_22_0, xr_24_0, xr_26_0, xr_26_1, xr_26_2, xr_30_0, xr_30_1, xr_30_2, xr_30_3, xr_30_4, xr_30_5, xr_30_6, xr_30_7, xr_31_0, xr_39_0, xr_39_1, xr_39_2, xr_42_0, xr_42_2, xr_42_3, xr_42_4, xr_42_5, xr_42_6, xr_42_8, xr_42_10, xr_42_13, xr_42_14, xr_42_15, xr_42_16, xr_42_23, xr_42_24, xr_42_25]
    exact ⟨fun _ => hQ M1 h1 h2 h3, fun h => absurd h (by omega)⟩
  | succ k ih =>
    intro n M1 hn h1 h2 h3
    have e1 : M1 51 (row + n - 5) = M 51 (row + n - 5) := h2 51 (by omega) (by omega) _ (by omega)
    have e2 : M1 52 (row + n - 5) = M 52 (row + n - 5) := h2 52 (by omega) (by omega) _ (by omega)
    have e3 : M1 53 (row + n - 5) = M 53 (row + n - 5) := h2 53 (by omega) (by omega) _ (by omega)
    simp (disch := first | assumption | decide +kernel | exact hM _ _ | exact hL _ | exact xG_b | exact xG_bt _ _ | omega) only [w112_86, w112_87, w112_88, Int.reduceAdd, xup_twice, true_implies, false_implies, not_true_eq_false, not_false_eq_true, and_true, true_and, Int.reduceEq, Int.reduceLE, Int.reduceLT, Int.reduceNeg, xb_eq0, xb_eq1, xup_ne, xup_self, xup_k, xjl_i, xjl_r, xjl_j, xjl_l, Option.toList_some, Option.toList_none, List.cons_append, List.nil_append, xr_0_0, xr_0_1, xr_0_2, xr_0_3, xr_0_4, xr_0_5, xr_0_6, xr_0_7, xr_1_0, xr_1_1, xr_4_5, xr_4_6, xr_4_7, xr_4_8, xr_8_0, xr_10_5, xr_10_6, xr_10_7, xr_10_8, xr_14_0, xr_16_0, xr_16_1, xr_16_2, xr_20_0, xr_21_0, xr_21_1, xr_22_0, xr_24_0, xr_26_0, xr_26_1, xr_26_2, xr_30_0, xr_30_1, xr_30_2, xr_30_3, xr_30_4, xr_30_5, xr_30_6, xr_30_7, xr_31_0, xr_39_0, xr_39_1, xr_39_2, xr_42_0, xr_42_2, xr_42_3, xr_42_4, xr_42_5, xr_42_6, xr_42_8, xr_42_10, xr_42_13, xr_42_14, xr_42_15, xr_42_16, xr_42_23, xr_42_24, xr_42_25]
    refine ⟨fun h => absurd h (by omega), fun _ => ?_⟩
    simp (disch := first | assumption | decide +kernel | exact hM _ _ | exact hL _ | exact xG_b | exact xG_bt _ _ | omega) only [w112_91, w112_92, w112_95, w112_96, w112_97, w112_98, w112_99, w112_102, w112_103, w112_104, w112_105, w112_106, w112_107, w112_108, w112_109, w112_110, w112_113, w112_114, w112_115, w112_116, w112_117, w112_120, w112_121, w112_122, w112_123, w112_124, w112_125, w112_126, w112_127, w112_128, w112_131, w112_132, w112_133, w112_134, w112_135, w112_138, w112_139, w112_140, w112_141, w112_142, w112_143, w112_144, w112_145, w112_148, Int.reduceAdd, xup_twice, true_implies, false_implies, not_true_eq_false, not_false_eq_true, and_true, true_and, Int.reduceEq, Int.reduceLE, Int.reduceLT, Int.reduceNeg, xb_eq0, xb_eq1, xup_ne, xup_self, xup_k, xjl_i, xjl_r, xjl_j, xjl_l, Option.toList_some, Option.toList_none, List.cons_append, List.nil_append, xr_0_0, xr_0_1, xr_0_2, xr_0_3, xr_0_4, xr_0_5, xr_0_6, xr_0_7, xr_1_0, xr_1_1, xr_4_5, xr_4_6, xr_4_7, xr_4_8, xr_8_0, xr_10_5, xr_10_6, xr_10_7, xr_10_8, xr_14_0, xr_16_0, xr_16_1, xr_16_2, xr_20_0, xr_21_0, xr_21_1, xr_22_0, xr_24_0, xr_26_0, xr_26_1, xr_26_2, xr_30_0, xr_30_1, xr_30_2, xr_30_3, xr_30_4, xr_30_5, xr_30_6, xr_30_7, xr_31_0, xr_39_0, xr_39_1, xr_39_2, xr_42_0, xr_42_2, xr_42_3, xr_42_4, xr_42_5, xr_42_6, xr_42_8, xr_42_10, xr_42_13, xr_42_14, xr_42_15, xr_42_16, xr_42_23, xr_42_24, xr_42_25, e1, e2, e3]
    refine ih (n + 1) _ (by omega) (fun c c0 c1 i i0 i1 => ?_) (fun c c0 c1 i i0 => ?_) (fun c hc => ?_)
    · by_cases e : i = n
      · subst e
        rcases (show c = 51 ∨ c = 52 ∨ c = 53 by omega) with rfl | rfl | rfl
        · rw [xup_ne (by omega), xup_ne (by omega), xup_self]
        · rw [xup_ne (by omega), xup_self]
        · rw [xup_self]
      · have := h1 c c0 c1 i i0 (by omega)
        rw [xup_app, if_neg (by omega), xup_app, if_neg (by omega), xup_app, if_neg (by omega)]
        exact this
    · rw [xup_app, if_neg (by omega), xup_app, if_neg (by omega), xup_app, if_neg (by omega)]
      exact h2 c c0 c1 i i0
    · rw [xup_ne (by omega), xup_ne (by omega), xup_ne (by omega)]
      exact h3 c hc
/-- all that a run writes down -/
def rR (w : xM) (h : Int → Int → Int) (n : Nat) (M : xM) : Prop := (∀ s : Nat, s ≤ n → ∀ q, 0 ≤ q → q < w 0 2 → M 51 (5 * s + q) = zR w h s 0 q ∧ M 52 (5 * s + q) = zR w h s 4 q ∧ M 53 (5 * s + q) = zR w h s 5 q) ∧ M 42 19 = zR w h n 6 0 ∧ rWent w (zR w h n) M
theorem rH_f {row s p : Int} {M' : xM} (hf : yF row M M') : rH M' s p = rH M s p := by
  unfold rH
  rw [hf.1 47 (by omega) (by omega), hf.2.1 20 (by omega) (by omega) (by omega), hf.2.1 21 (by omega) (by omega) (by omega), hf.2.1 22 (by omega) (by omega) (by omega)]
theorem lp_goes {h : Int → Int → Int} {s row b : Int} (hw : zW w) (hv : zV w z b) (hb : b ≤ 900) (hT : rT w M) (hS : rS w M) (hs : 1 ≤ s ∧ s ≤ 60) (hr : row = 5 * s) (hh : ∀ p, 0 ≤ p → p < w 0 2 → rH M s p = h s p) (h20 : xG (M 42 20)) (h22 : xG (M 42 22))
    (hQ : ∀ M', rZ w (zPl w h s z (w 0 2).toNat) row M' → rWent w (zPl w h s z (w 0 2).toNat) M' → rStop w (zPl w h s z (w 0 2).toNat) M' s (w 0 2) → rLast w (zPl w h s z (w 0 2).toNat) s (w 0 2) → yF row M M' → Wp 112 176 [xr 42, xi s, xi row, xi (w 0 2)] [] M' Q) :
    ∀ (j n : Nat) (M1 : xM), (n : Int) + j = w 0 2 → rZ w (zPl w h s z n) row M1 → rWent w (zPl w h s z n) M1 → rStop w (zPl w h s z n) M1 s n → rLast w (zPl w h s z n) s n → yF row M M1 → Wp 112 153 [xr 42, xi s, xi row, xi n] [] M1 Q := by
  intro j
  have hw3 := hw.2.2.1
  induction j with
  | zero =>
    intro n M1 hn hz h1 h2 h3 hf
    have l2 : M1 44 2 = w 0 2 := (rT_f hT hf).2.2.1
    have e : (w 0 2).toNat = n := by omega
    have e' : w 0 2 = (n : Int) := by omega
    rw [e] at hQ
    simp (disch := first | assumption | decide +kernel | exact hM _ _ | exact hL _ | exact xG_b | exact xG_bt _ _ | omega) only [w112_153, w112_154, w112_155, w112_158, w112_159, w112_160, Int.reduceAdd, xup_twice, true_implies, false_implies, not_true_eq_false, not_false_eq_true, and_true, true_and, Int.reduceEq, Int.reduceLE, Int.reduceLT, Int.reduceNeg, xb_eq0, xb_eq1, xup_ne, xup_self, xup_k, xjl_i, xjl_r, xjl_j, xjl_l, Option.toList_some, Option.toList_none, List.cons_append, List.nil_append, xr_0_0, xr_0_1, xr_0_2, xr_0_3, xr_0_4, xr_0_5, xr_0_6, xr_0_7, xr_1_0, xr_1_1, xr_4_5, xr_4_6, xr_4_7, xr_4_8, xr_8_0, xr_10_5, xr_10_6, xr_10_7, xr_10_8, xr_14_0, xr_16_0, xr_16_1, xr_16_2, xr_20_0, xr_21_0, xr_21_1, xr_22_0, xr_24_0, xr_26_0, xr_26_1, xr_26_2, xr_30_0, xr_30_1, xr_30_2, xr_30_3, xr_30_4, xr_30_5, xr_30_6, xr_30_7, xr_31_0, xr_39_0, xr_39_1, xr_39_2, xr_42_0, xr_42_2, xr_42_3, xr_42_4, xr_42_5, xr_42_6, xr_42_8, xr_42_10, xr_42_13, xr_42_14, xr_42_15, xr_42_16, xr_42_23, xr_42_24, xr_42_25, l2]
    refine ⟨fun _ => ?_, fun h => absurd h (by omega)⟩
    have := hQ M1 hz h1 (by rw [e']; exact h2) (by rw [e']; exact h3) hf
    rw [e'] at this
    exact this
  | succ j ih =>
    intro n M1 hn hz h1 h2 h3 hf
    have l2 : M1 44 2 = w 0 2 := (rT_f hT hf).2.2.1
    have hvn := zPl_V (h := h) hw hv (s := s) (by omega) n (by omega)
    simp (disch := first | assumption | decide +kernel | exact hM _ _ | exact hL _ | exact xG_b | exact xG_bt _ _ | omega) only [w112_153, w112_154, w112_155, w112_158, w112_159, w112_160, Int.reduceAdd, xup_twice, true_implies, false_implies, not_true_eq_false, not_false_eq_true, and_true, true_and, Int.reduceEq, Int.reduceLE, Int.reduceLT, Int.reduceNeg, xb_eq0, xb_eq1, xup_ne, xup_self, xup_k, xjl_i, xjl_r, xjl_j, xjl_l, Option.toList_some, Option.toList_none, List.cons_append, List.nil_append, xr_0_0, xr_0_1, xr_0_2, xr_0_3, xr_0_4, xr_0_5, xr_0_6, xr_0_7, xr_1_0, xr_1_1, xr_4_5, xr_4_6, xr_4_7, xr_4_8, xr_8_0, xr_10_5, xr_10_6, xr_10_7, xr_10_8, xr_14_0, xr_16_0, xr_16_1, xr_16_2, xr_20_0, xr_21_0, xr_21_1, xr_22_0, xr_24_0, xr_26_0, xr_26_1, xr_26_2, xr_30_0, xr_30_1, xr_30_2, xr_30_3, xr_30_4, xr_30_5, xr_30_6, xr_30_7, xr_31_0, xr_39_0, xr_39_1, xr_39_2, xr_42_0, xr_42_2, xr_42_3, xr_42_4, xr_42_5, xr_42_6, xr_42_8, xr_42_10, xr_42_13, xr_42_14, xr_42_15, xr_42_16, xr_42_23, xr_42_24, xr_42_25, l2]
    refine ⟨fun h => absurd h (by omega), fun _ => ?_⟩
    simp (disch := first | assumption | decide +kernel | exact hM _ _ | exact hL _ | exact xG_b | exact xG_bt _ _ | omega) only [w112_163, w112_164, w112_165, w112_166, w112_167, Int.reduceAdd, xup_twice, true_implies, false_implies, not_true_eq_false, not_false_eq_true, and_true, true_and, Int.reduceEq, Int.reduceLE, Int.reduceLT, Int.reduceNeg, xb_eq0, xb_eq1, xup_ne, xup_self, xup_k, xjl_i, xjl_r, xjl_j, xjl_l, Option.toList_some, Option.toList_none, List.cons_append, List.nil_append, xr_0_0, xr_0_1, xr_0_2, xr_0_3, xr_0_4, xr_0_5, xr_0_6, xr_0_7, xr_1_0, xr_1_1, xr_4_5, xr_4_6, xr_4_7, xr_4_8, xr_8_0, xr_10_5, xr_10_6, xr_10_7, xr_10_8, xr_14_0, xr_16_0, xr_16_1, xr_16_2, xr_20_0, xr_21_0, xr_21_1, xr_22_0, xr_24_0, xr_26_0, xr_26_1, xr_26_2, xr_30_0, xr_30_1, xr_30_2, xr_30_3, xr_30_4, xr_30_5, xr_30_6, xr_30_7, xr_31_0, xr_39_0, xr_39_1, xr_39_2, xr_42_0, xr_42_2, xr_42_3, xr_42_4, xr_42_5, xr_42_6, xr_42_8, xr_42_10, xr_42_13, xr_42_14, xr_42_15, xr_42_16, xr_42_23, xr_42_24, xr_42_25]
    refine q9_goes (h := h) hw hvn (by omega) (rT_f hT hf) (rS_f hS hf) (by omega) hs hr hz h1 h2 h3 (by rw [rH_f hf]; exact hh n (by omega) (by omega)) (by rw [hf.2.1 20 (by omega) (by omega) (by omega)]; exact h20) (by rw [hf.2.1 22 (by omega) (by omega) (by omega)]; exact h22) (fun M2 r1 r2 r3 r4 r5 => ?_)
    simp (disch := first | assumption | decide +kernel | exact hM _ _ | exact hL _ | exact xG_b | exact xG_bt _ _ | omega) only [w112_170, w112_173, Int.reduceAdd, xup_twice, true_implies, false_implies, not_true_eq_false, not_false_eq_true, and_true, true_and, Int.reduceEq, Int.reduceLE, Int.reduceLT, Int.reduceNeg, xb_eq0, xb_eq1, xup_ne, xup_self, xup_k, xjl_i, xjl_r, xjl_j, xjl_l, Option.toList_some, Option.toList_none, List.cons_append, List.nil_append, xr_0_0, xr_0_1, xr_0_2, xr_0_3, xr_0_4, xr_0_5, xr_0_6, xr_0_7, xr_1_0, xr_1_1, xr_4_5, xr_4_6, xr_4_7, xr_4_8, xr_8_0, xr_10_5, xr_10_6, xr_10_7, xr_10_8, xr_14_0, xr_16_0, xr_16_1, xr_16_2, xr_20_0, xr_21_0, xr_21_1, xr_22_0, xr_24_0, xr_26_0, xr_26_1, xr_26_2, xr_30_0, xr_30_1, xr_30_2, xr_30_3, xr_30_4, xr_30_5, xr_30_6, xr_30_7, xr_31_0, xr_39_0, xr_39_1, xr_39_2, xr_42_0, xr_42_2, xr_42_3, xr_42_4, xr_42_5, xr_42_6, xr_42_8, xr_42_10, xr_42_13, xr_42_14, xr_42_15, xr_42_16, xr_42_23, xr_42_24, xr_42_25]
    exact ih (n + 1) M2 (by omega) r1 r2 (by exact_mod_cast r3) (by exact_mod_cast r4) (yF_tr hf r5)
end RUNS
