/-! the reference reads items -/
section READ
variable {w M : xM} {Q : Option xV → xM → Prop}
/-- the draft -/
def rD (w : xM) (o : Int) (M : xM) : Prop := M 45 0 = w 0 0 ∧ M 45 1 = w 0 1 ∧ M 45 2 = w 0 2 ∧ M 45 3 = w 0 4 ∧ M 45 4 = 1 - o ∧ (∀ t, 0 ≤ t → t < w 0 1 → M 45 (5 + t) = w 1 t) ∧ (∀ p, 0 ≤ p → p < w 0 2 → M 45 (10 + p) = w 2 p ∧ M 45 (15 + p) = w 4 p ∧ M 45 (20 + p) = w 5 p ∧ M 46 p = w 3 p) ∧ M 46 5 = 0 ∧ M 46 6 = w 0 3
theorem rD_F {o : Int} {M' : xM} (h : rD w o M) (e : M' 45 = M 45) (e2 : M' 46 = M 46) : rD w o M' := by unfold rD; rw [e, e2]; exact h
/-- what reading leaves alone -/
def rB (M M' : xM) : Prop := (∀ c, c ≠ 42 → c ≠ 45 → c ≠ 46 → M' c = M c) ∧ (∀ k, k ≠ 12 → M' 42 k = M 42 k)
theorem rB_rf : rB M M := ⟨fun _ _ _ _ => rfl, fun _ _ => rfl⟩
theorem rB_tr {M' M'' : xM} (h : rB M M') (h' : rB M' M'') : rB M M'' := ⟨fun c a b d => (h'.1 c a b d).trans (h.1 c a b d), fun k a => (h'.2 k a).trans (h.2 k a)⟩
theorem rB_at {a : Int} : rB M (xup M 42 12 a) := ⟨fun c h _ _ => by rw [xup_ne (by omega)], fun k h => xup_k h⟩
theorem rB_45 {k v : Int} : rB M (xup M 45 k v) := ⟨fun c _ h _ => by rw [xup_ne (by omega)], fun k _ => by rw [xup_ne (by omega)]⟩
theorem rB_46 {k v : Int} : rB M (xup M 46 k v) := ⟨fun c _ _ h => by rw [xup_ne (by omega)], fun k _ => by rw [xup_ne (by omega)]⟩
theorem rW_B {M' : xM} (hT : rW M) (h : rB M M') : rW M' := by
  unfold rW
  rw [h.2 1 (by omega), h.1 43 (by omega) (by omega) (by omega)]
  exact hT
theorem lp_begins1 (hQ : ∀ M', (∀ c, c ≠ 45 → M' c = M c) → (∀ i, 0 ≤ i → i < 25 → M' 45 i = 0) → Wp 89 21 [xr 42, xi 25] [] M' Q) : ∀ (k n : Nat) (M1 : xM), n + k = 25 → (∀ c, c ≠ 45 → M1 c = M c) → (∀ i, 0 ≤ i → i < (n : Int) → M1 45 i = 0) → Wp 89 2 [xr 42, xi n] [] M1 Q := by
  intro k
  induction k with
  | zero =>
    intro n M1 hn h1 h2
    obtain rfl : n = 25 := by omega
    simp (disch := first | assumption | decide +kernel | exact hM _ _ | exact hL _ | exact xG_b | exact xG_bt _ _ | omega) only [w89_2, w89_3, w89_5, Int.reduceAdd, xup_twice, true_implies, false_implies, not_true_eq_false, not_false_eq_true, and_true, true_and, Int.reduceEq, Int.reduceLE, Int.reduceLT, Int.reduceNeg, xb_eq0, xb_eq1, xup_ne, xup_self, xup_k, xjl_i, xjl_r, xjl_j, xjl_l, Option.toList_some, Option.toList_none, List.cons_append, List.nil_append, xr_0_0, xr_0_1, xr_0_2, xr_0_3, xr_0_4, xr_0_5, xr_0_6, xr_0_7, xr_1_0, xr_1_1, xr_4_5, xr_4_6, xr_4_7, xr_4_8, xr_8_0, xr_10_5, xr_10_6, xr_10_7, xr_10_8, xr_14_0, xr_16_0, xr_16_1, xr_16_2, xr_20_0, xr_21_0, xr_21_1, xr_22_0, xr_24_0, xr_26_0, xr_26_1, xr_26_2, xr_30_0, xr_30_1, xr_30_2, xr_30_3, xr_30_4, xr_30_5, xr_30_6, xr_30_7, xr_31_0, xr_39_0, xr_39_1, xr_39_2, xr_42_0, xr_42_2, xr_42_3, xr_42_4, xr_42_5, xr_42_6, xr_42_8, xr_42_10, xr_42_13, xr_42_14, xr_42_15, xr_42_16, xr_42_23, xr_42_24, xr_42_25]
    refine ⟨fun _ => ?_, fun h => absurd h (by omega)⟩
    exact hQ M1 h1 h2
  | succ k ih =>
    intro n M1 hn h1 h2
    simp (disch := first | assumption | decide +kernel | exact hM _ _ | exact hL _ | exact xG_b | exact xG_bt _ _ | omega) only [w89_2, w89_3, w89_5, Int.reduceAdd, xup_twice, true_implies, false_implies, not_true_eq_false, not_false_eq_true, and_true, true_and, Int.reduceEq, Int.reduceLE, Int.reduceLT, Int.reduceNeg, xb_eq0, xb_eq1, xup_ne, xup_self, xup_k, xjl_i, xjl_r, xjl_j, xjl_l, Option.toList_some, Option.toList_none, List.cons_append, List.nil_append, xr_0_0, xr_0_1, xr_0_2, xr_0_3, xr_0_4, xr_0_5, xr_0_6, xr_0_7, xr_1_0, xr_1_1, xr_4_5, xr_4_6, xr_4_7, xr_4_8, xr_8_0, xr_10_5, xr_10_6, xr_10_7, xr_10_8, xr_14_0, xr_16_0, xr_16_1, xr_16_2, xr_20_0, xr_21_0, xr_21_1, xr_22_0, xr_24_0, xr_26_0, xr_26_1, xr_26_2, xr_30_0, xr_30_1, xr_30_2, xr_30_3, xr_30_4, xr_30_5, xr_30_6, xr_30_7, xr_31_0, xr_39_0, xr_39_1, xr_39_2, xr_42_0, xr_42_2, xr_42_3, xr_42_4, xr_42_5, xr_42_6, xr_42_8, xr_42_10, xr_42_13, xr_42_14, xr_42_15, xr_42_16, xr_42_23, xr_42_24, xr_42_25]
    refine ⟨fun h => absurd h (by omega), fun _ => ?_⟩
    simp (disch := first | assumption | decide +kernel | exact hM _ _ | exact hL _ | exact xG_b | exact xG_bt _ _ | omega) only [w89_8, w89_9, w89_12, w89_13, w89_14, w89_15, w89_18, Int.reduceAdd, xup_twice, true_implies, false_implies, not_true_eq_false, not_false_eq_true, and_true, true_and, Int.reduceEq, Int.reduceLE, Int.reduceLT, Int.reduceNeg, xb_eq0, xb_eq1, xup_ne, xup_self, xup_k, xjl_i, xjl_r, xjl_j, xjl_l, Option.toList_some, Option.toList_none, List.cons_append, List.nil_append, xr_0_0, xr_0_1, xr_0_2, xr_0_3, xr_0_4, xr_0_5, xr_0_6, xr_0_7, xr_1_0, xr_1_1, xr_4_5, xr_4_6, xr_4_7, xr_4_8, xr_8_0, xr_10_5, xr_10_6, xr_10_7, xr_10_8, xr_14_0, xr_16_0, xr_16_1, xr_16_2, xr_20_0, xr_21_0, xr_21_1, xr_22_0, xr_24_0, xr_26_0, xr_26_1, xr_26_2, xr_30_0, xr_30_1, xr_30_2, xr_30_3, xr_30_4, xr_30_5, xr_30_6, xr_30_7, xr_31_0, xr_39_0, xr_39_1, xr_39_2, xr_42_0, xr_42_2, xr_42_3, xr_42_4, xr_42_5, xr_42_6, xr_42_8, xr_42_10, xr_42_13, xr_42_14, xr_42_15, xr_42_16, xr_42_23, xr_42_24, xr_42_25]
    refine ih (n + 1) _ (by omega) (fun c hc => by rw [xup_ne (by omega)]; exact h1 c hc) (fun i i0 i1 => ?_)
    rw [xup_app]
    split
    · rfl
    · exact h2 i i0 (by omega)
theorem lp_begins2 (hQ : ∀ M', (∀ c, c ≠ 46 → M' c = M c) → (∀ i, 0 ≤ i → i < 7 → M' 46 i = 0) → Q none M') : ∀ (k n : Nat) (M1 : xM), n + k = 7 → (∀ c, c ≠ 46 → M1 c = M c) → (∀ i, 0 ≤ i → i < (n : Int) → M1 46 i = 0) → Wp 89 31 [xr 42, xi n] [] M1 Q := by
  intro k
  induction k with
  | zero =>
    intro n M1 hn h1 h2
    obtain rfl : n = 7 := by omega
    simp (disch := first | assumption | decide +kernel | exact hM _ _ | exact hL _ | exact xG_b | exact xG_bt _ _ | omega) only [w89_31, w89_32, w89_34, Int.reduceAdd, xup_twice, true_implies, false_implies, not_true_eq_false, not_false_eq_true, and_true, true_and, Int.reduceEq, Int.reduceLE, Int.reduceLT, Int.reduceNeg, xb_eq0, xb_eq1, xup_ne, xup_self, xup_k, xjl_i, xjl_r, xjl_j, xjl_l, Option.toList_some, Option.toList_none, List.cons_append, List.nil_append, xr_0_0, xr_0_1, xr_0_2, xr_0_3, xr_0_4, xr_0_5, xr_0_6, xr_0_7, xr_1_0, xr_1_1, xr_4_5, xr_4_6, xr_4_7, xr_4_8, xr_8_0, xr_10_5, xr_10_6, xr_10_7, xr_10_8, xr_14_0, xr_16_0, xr_16_1, xr_16_2, xr_20_0, xr_21_0, xr_21_1, xr_22_0, xr_24_0, xr_26_0, xr_26_1, xr_26_2, xr_30_0, xr_30_1, xr_30_2, xr_30_3, xr_30_4, xr_30_5, xr_30_6, xr_30_7, xr_31_0, xr_39_0, xr_39_1, xr_39_2, xr_42_0, xr_42_2, xr_42_3, xr_42_4, xr_42_5, xr_42_6, xr_42_8, xr_42_10, xr_42_13, xr_42_14, xr_42_15, xr_42_16, xr_42_23, xr_42_24, xr_42_25]
    refine ⟨fun _ => ?_, fun h => absurd h (by omega)⟩
    simp (disch := first | assumption | decide +kernel | exact hM _ _ | exact hL _ | exact xG_b | exact xG_bt _ _ | omega) only [w89_50, Int.reduceAdd, xup_twice, true_implies, false_implies, not_true_eq_false, not_false_eq_true, and_true, true_and, Int.reduceEq, Int.reduceLE, Int.reduceLT, Int.reduceNeg, xb_eq0, xb_eq1, xup_ne, xup_self, xup_k, xjl_i, xjl_r, xjl_j, xjl_l, Option.toList_some, Option.toList_none, List.cons_append, List.nil_append, xr_0_0, xr_0_1, xr_0_2, xr_0_3, xr_0_4, xr_0_5, xr_0_6, xr_0_7, xr_1_0, xr_1_1, xr_4_5, xr_4_6, xr_4_7, xr_4_8, xr_8_0, xr_10_5, xr_10_6, xr_10_7, xr_10_8, xr_14_0, xr_16_0, xr_16_1, xr_16_2, xr_20_0, xr_21_0, xr_21_1, xr_22_0, xr_24_0, xr_26_0, xr_26_1, xr_26_2, xr_30_0, xr_30_1, xr_30_2, xr_30_3, xr_30_4, xr_30_5, xr_30_6, xr_30_7, xr_31_0, xr_39_0, xr_39_1, xr_39_2, xr_42_0, xr_42_2, xr_42_3, xr_42_4, xr_42_5, xr_42_6, xr_42_8, xr_42_10, xr_42_13, xr_42_14, xr_42_15, xr_42_16, xr_42_23, xr_42_24, xr_42_25]
    exact hQ M1 h1 h2
  | succ k ih =>
    intro n M1 hn h1 h2
    simp (disch := first | assumption | decide +kernel | exact hM _ _ | exact hL _ | exact xG_b | exact xG_bt _ _ | omega) only [w89_31, w89_32, w89_34, Int.reduceAdd, xup_twice, true_implies, false_implies, not_true_eq_false, not_false_eq_true, and_true, true_and, Int.reduceEq, Int.reduceLE, Int.reduceLT, Int.reduceNeg, xb_eq0, xb_eq1, xup_ne, xup_self, xup_k, xjl_i, xjl_r, xjl_j, xjl_l, Option.toList_some, Option.toList_none, List.cons_append, List.nil_append, xr_0_0, xr_0_1, xr_0_2, xr_0_3, xr_0_4, xr_0_5, xr_0_6, xr_0_7, xr_1_0, xr_1_1, xr_4_5, xr_4_6, xr_4_7, xr_4_8, xr_8_0, xr_10_5, xr_10_6, xr_10_7, xr_10_8, xr_14_0, xr_16_0, xr_16_1, xr_16_2, xr_20_0, xr_21_0, xr_21_1, xr_22_0, xr_24_0, xr_26_0, xr_26_1, xr_26_2, xr_30_0, xr_30_1, xr_30_2, xr_30_3, xr_30_4, xr_30_5, xr_30_6, xr_30_7, xr_31_0, xr_39_0, xr_39_1, xr_39_2, xr_42_0, xr_42_2, xr_42_3, xr_42_4, xr_42_5, xr_42_6, xr_42_8, xr_42_10, xr_42_13, xr_42_14, xr_42_15, xr_42_16, xr_42_23, xr_42_24, xr_42_25]
    refine ⟨fun h => absurd h (by omega), fun _ => ?_⟩
    simp (disch := first | assumption | decide +kernel | exact hM _ _ | exact hL _ | exact xG_b | exact xG_bt _ _ | omega) only [w89_37, w89_38, w89_41, w89_42, w89_43, w89_44, w89_47, Int.reduceAdd, xup_twice, true_implies, false_implies, not_true_eq_false, not_false_eq_true, and_true, true_and, Int.reduceEq, Int.reduceLE, Int.reduceLT, Int.reduceNeg, xb_eq0, xb_eq1, xup_ne, xup_self, xup_k, xjl_i, xjl_r, xjl_j, xjl_l, Option.toList_some, Option.toList_none, List.cons_append, List.nil_append, xr_0_0, xr_0_1, xr_0_2, xr_0_3, xr_0_4, xr_0_5, xr_0_6, xr_0_7, xr_1_0, xr_1_1, xr_4_5, xr_4_6, xr_4_7, xr_4_8, xr_8_0, xr_10_5, xr_10_6, xr_10_7, xr_10_8, xr_14_0, xr_16_0, xr_16_1, xr_16_2, xr_20_0, xr_21_0, xr_21_1, xr_22_0, xr_24_0, xr_26_0, xr_26_1, xr_26_2, xr_30_0, xr_30_1, xr_30_2, xr_30_3, xr_30_4, xr_30_5, xr_30_6, xr_30_7, xr_31_0, xr_39_0, xr_39_1, xr_39_2, xr_42_0, xr_42_2, xr_42_3, xr_42_4, xr_42_5, xr_42_6, xr_42_8, xr_42_10, xr_42_13, xr_42_14, xr_42_15, xr_42_16, xr_42_23, xr_42_24, xr_42_25]
    refine ih (n + 1) _ (by omega) (fun c hc => by rw [xup_ne (by omega)]; exact h1 c hc) (fun i i0 i1 => ?_)
    rw [xup_app]
    split
    · rfl
    · exact h2 i i0 (by omega)
theorem q9_begins (hQ : ∀ M', rB M M' → M' 42 = M 42 → rD pW0 1 M' → Q none M') : Wc 89 [xr 42] M Q := by
  simp (disch := first | assumption | decide +kernel | exact hM _ _ | exact hL _ | exact xG_b | exact xG_bt _ _ | omega) only [w89_0, w89_1, wc89, Int.reduceAdd, xup_twice, true_implies, false_implies, not_true_eq_false, not_false_eq_true, and_true, true_and, Int.reduceEq, Int.reduceLE, Int.reduceLT, Int.reduceNeg, xb_eq0, xb_eq1, xup_ne, xup_self, xup_k, xjl_i, xjl_r, xjl_j, xjl_l, Option.toList_some, Option.toList_none, List.cons_append, List.nil_append, xr_0_0, xr_0_1, xr_0_2, xr_0_3, xr_0_4, xr_0_5, xr_0_6, xr_0_7, xr_1_0, xr_1_1, xr_4_5, xr_4_6, xr_4_7, xr_4_8, xr_8_0, xr_10_5, xr_10_6, xr_10_7, xr_10_8, xr_14_0, xr_16_0, xr_16_1, xr_16_2, xr_20_0, xr_21_0, xr_21_1, xr_22_0, xr_24_0, xr_26_0, xr_26_1, xr_26_2, xr_30_0, xr_30_1, xr_30_2, xr_30_3, xr_30_4, xr_30_5, xr_30_6, xr_30_7, xr_31_0, xr_39_0, xr_39_1, xr_39_2, xr_42_0, xr_42_2, xr_42_3, xr_42_4, xr_42_5, xr_42_6, xr_42_8, xr_42_10, xr_42_13, xr_42_14, xr_42_15, xr_42_16, xr_42_23, xr_42_24, xr_42_25]
  refine lp_begins1 (M := M) (fun M1 h1 h2 => ?_) 25 0 M rfl (fun _ _ => rfl) (fun i a b => by omega)
  simp (disch := first | assumption | decide +kernel | exact hM _ _ | exact hL _ | exact xG_b | exact xG_bt _ _ | omega) only [w89_21, w89_22, w89_25, w89_26, w89_28, w89_29, w89_30, Int.reduceAdd, xup_twice, true_implies, false_implies, not_true_eq_false, not_false_eq_true, and_true, true_and, Int.reduceEq, Int.reduceLE, Int.reduceLT, Int.reduceNeg, xb_eq0, xb_eq1, xup_ne, xup_self, xup_k, xjl_i, xjl_r, xjl_j, xjl_l, Option.toList_some, Option.toList_none, List.cons_append, List.nil_append, xr_0_0, xr_0_1, xr_0_2, xr_0_3, xr_0_4, xr_0_5, xr_0_6, xr_0_7, xr_1_0, xr_1_1, xr_4_5, xr_4_6, xr_4_7, xr_4_8, xr_8_0, xr_10_5, xr_10_6, xr_10_7, xr_10_8, xr_14_0, xr_16_0, xr_16_1, xr_16_2, xr_20_0, xr_21_0, xr_21_1, xr_22_0, xr_24_0, xr_26_0, xr_26_1, xr_26_2, xr_30_0, xr_30_1, xr_30_2, xr_30_3, xr_30_4, xr_30_5, xr_30_6, xr_30_7, xr_31_0, xr_39_0, xr_39_1, xr_39_2, xr_42_0, xr_42_2, xr_42_3, xr_42_4, xr_42_5, xr_42_6, xr_42_8, xr_42_10, xr_42_13, xr_42_14, xr_42_15, xr_42_16, xr_42_23, xr_42_24, xr_42_25]
  refine lp_begins2 (M := xup M1 45 0 12) (fun M2 h3 h4 => ?_) 7 0 _ rfl (fun _ _ => rfl) (fun i a b => by omega)
  have e42 : M2 42 = M 42 := by rw [h3 42 (by omega), xup_ne (by omega), h1 42 (by omega)]
  have e45 : ∀ i, 0 < i → i < 25 → M2 45 i = 0 := fun i a b => by
    rw [h3 45 (by omega), xup_k (by omega)]
    exact h2 i (by omega) b
  have e0 : M2 45 0 = 12 := by rw [h3 45 (by omega), xup_self]
  refine hQ M2 ⟨fun c a b d => by rw [h3 c d, xup_ne (by omega), h1 c b], fun k _ => by rw [e42]⟩ e42 ⟨by rw [e0]; rfl, by rw [e45 1 (by omega) (by omega)]; rfl, by rw [e45 2 (by omega) (by omega)]; rfl, by rw [e45 3 (by omega) (by omega)]; rfl, by rw [e45 4 (by omega) (by omega)]; rfl, fun t a b => ?_, fun p a b => ?_, h4 5 (by omega) (by omega), by rw [h4 6 (by omega) (by omega)]; rfl⟩
  · simp [pW0] at b; omega
  · simp [pW0] at b; omega
theorem rD_T {o x : Int} (h : rD w o M) (hw : zW w) (hlt : w 0 1 < 5) : rD (pT w x) o (xup (xup M 45 (5 + w 0 1) x) 45 1 (w 0 1 + 1)) := by
  obtain ⟨h0, h1, h2, h3, h4, h5, h6, h7, h8⟩ := h
  have hw2 := hw.2.1
  have hw3 := hw.2.2.1
  have n0 : ¬ (0 : Int) = 5 + w 0 1 := by omega
  have n2 : ¬ (2 : Int) = 5 + w 0 1 := by omega
  have n3 : ¬ (3 : Int) = 5 + w 0 1 := by omega
  have n4 : ¬ (4 : Int) = 5 + w 0 1 := by omega
  refine ⟨by simp [pT, xup_app, n0, h0], by simp [pT, xup_app], by simp [pT, xup_app, n2, h2], by simp [pT, xup_app, n3, h3], by simp [xup_app, n4, h4], fun t a b => ?_, fun p a b => ?_, by simp [xup_app, h7], by simp [pT, xup_app, h8]⟩
  · have b' : t < w 0 1 + 1 := by simpa [pT, xup_app] using b
    have m1 : ¬ 5 + t = 1 := by omega
    by_cases e : t = w 0 1
    · subst e
      simp [pT, xup_app, m1]
    · have q := h5 t a (by omega)
      have e2 : ¬ 5 + t = 5 + w 0 1 := by omega
      simp [pT, xup_app, e, m1, q]
  · have b' : p < w 0 2 := by simpa [pT, xup_app] using b
    obtain ⟨q1, q2, q3, q4⟩ := h6 p a b'
    have m1 : ¬ 10 + p = 1 := by omega
    have m2 : ¬ 15 + p = 1 := by omega
    have m3 : ¬ 20 + p = 1 := by omega
    have m4 : ¬ 10 + p = 5 + w 0 1 := by omega
    have m5 : ¬ 15 + p = 5 + w 0 1 := by omega
    have m6 : ¬ 20 + p = 5 + w 0 1 := by omega
    simp [pT, xup_app, m1, m2, m3, m4, m5, m6, q1, q2, q3, q4]
theorem q9_trainOf {o x : Int} (h : rD w o M) (hw : zW w) (hlt : w 0 1 < 5) (hQ : ∀ M', rD (pT w x) o M' → (∀ c, c ≠ 45 → M' c = M c) → Q none M') : Wc 90 [xr 42, xi x] M Q := by
  have h1 := h.2.1
  have hw2 := hw.2.1
  have n1 : ¬ (1 : Int) = 5 + w 0 1 := by omega
  simp (disch := first | assumption | decide +kernel | exact hM _ _ | exact hL _ | exact xG_b | exact xG_bt _ _ | omega) only [wc90, w90_0, w90_1, w90_4, w90_5, w90_6, w90_9, w90_10, w90_11, w90_12, w90_13, w90_14, w90_15, w90_18, w90_19, w90_20, w90_21, w90_22, w90_23, w90_24, Int.reduceAdd, xup_twice, true_implies, false_implies, not_true_eq_false, not_false_eq_true, and_true, true_and, Int.reduceEq, Int.reduceLE, Int.reduceLT, Int.reduceNeg, xb_eq0, xb_eq1, xup_ne, xup_self, xup_k, xjl_i, xjl_r, xjl_j, xjl_l, Option.toList_some, Option.toList_none, List.cons_append, List.nil_append, xr_0_0, xr_0_1, xr_0_2, xr_0_3, xr_0_4, xr_0_5, xr_0_6, xr_0_7, xr_1_0, xr_1_1, xr_4_5, xr_4_6, xr_4_7, xr_4_8, xr_8_0, xr_10_5, xr_10_6, xr_10_7, xr_10_8, xr_14_0, xr_16_0, xr_16_1, xr_16_2, xr_20_0, xr_21_0, xr_21_1, xr_22_0, xr_24_0, xr_26_0, xr_26_1, xr_26_2, xr_30_0, xr_30_1, xr_30_2, xr_30_3, xr_30_4, xr_30_5, xr_30_6, xr_30_7, xr_31_0, xr_39_0, xr_39_1, xr_39_2, xr_42_0, xr_42_2, xr_42_3, xr_42_4, xr_42_5, xr_42_6, xr_42_8, xr_42_10, xr_42_13, xr_42_14, xr_42_15, xr_42_16, xr_42_23, xr_42_24, xr_42_25, h1]
  refine hQ _ ?_ (fun c hc => by rw [xup_ne (by omega), xup_ne (by omega)])
  exact rD_T h hw hlt
theorem rD_P {o k x d s : Int} (h : rD w o M) (hw : zW w) (hlt : w 0 2 < 5) : rD (pP w k x d s) o (xup (xup (xup (xup (xup M 45 (10 + w 0 2) k) 45 (15 + w 0 2) x) 45 (20 + w 0 2) d) 46 (w 0 2) s) 45 2 (w 0 2 + 1)) := by
  obtain ⟨h0, h1, h2, h3, h4, h5, h6, h7, h8⟩ := h
  have hw2 := hw.2.1
  have hw3 := hw.2.2.1
  have a0 : ∀ i : Int, i < 10 → ¬ i = 10 + w 0 2 := fun i a => by omega
  have a1 : ∀ i : Int, i < 10 → ¬ i = 15 + w 0 2 := fun i a => by omega
  have a2 : ∀ i : Int, i < 10 → ¬ i = 20 + w 0 2 := fun i a => by omega
  have s5 : ¬ (5 : Int) = w 0 2 := by omega
  have s6 : ¬ (6 : Int) = w 0 2 := by omega
  refine ⟨by simp [pP, xup_app, a0 0 (by omega), a1 0 (by omega), a2 0 (by omega), h0], by simp [pP, xup_app, a0 1 (by omega), a1 1 (by omega), a2 1 (by omega), h1], by simp [pP, xup_app], by simp [pP, xup_app, a0 3 (by omega), a1 3 (by omega), a2 3 (by omega), h3], by simp [xup_app, a0 4 (by omega), a1 4 (by omega), a2 4 (by omega), h4], fun t a b => ?_, fun p a b => ?_, by simp [xup_app, s5, h7], by simp [pP, xup_app, s6, h8]⟩
  · have b' : t < w 0 1 := by simpa [pP, xup_app] using b
    have q := h5 t a b'
    have m1 : ¬ 5 + t = 2 := by omega
    simp [pP, xup_app, a0 (5 + t) (by omega), a1 (5 + t) (by omega), a2 (5 + t) (by omega), m1, q]
  · have b' : p < w 0 2 + 1 := by simpa [pP, xup_app] using b
    have m1 : ¬ 10 + p = 2 := by omega
    have m2 : ¬ 15 + p = 2 := by omega
    have m3 : ¬ 20 + p = 2 := by omega
    have m4 : ¬ 10 + p = 15 + w 0 2 := by omega
    have m5 : ¬ 10 + p = 20 + w 0 2 := by omega
    have m6 : ¬ 15 + p = 10 + w 0 2 := by omega
    have m7 : ¬ 15 + p = 20 + w 0 2 := by omega
    have m8 : ¬ 20 + p = 10 + w 0 2 := by omega
    have m9 : ¬ 20 + p = 15 + w 0 2 := by omega
    by_cases e : p = w 0 2
    · subst e
      simp [pP, xup_app, m1, m2, m3, m4, m5, m6, m7, m8, m9]
    · obtain ⟨q1, q2, q3, q4⟩ := h6 p a (by omega)
      simp [pP, xup_app, m1, m2, m3, m4, m5, m6, m7, m8, m9, e, q1, q2, q3, q4]
theorem q9_platformOf {o k x d s : Int} (h : rD w o M) (hw : zW w) (hlt : w 0 2 < 5) (hQ : ∀ M', rD (pP w k x d s) o M' → (∀ c, c ≠ 45 → c ≠ 46 → M' c = M c) → Q none M') : Wc 91 [xr 42, xi k, xi x, xi d, xi s] M Q := by
  have h2 := h.2.2.1
  have hw3 := hw.2.2.1
  have n1 : ¬ (2 : Int) = 10 + w 0 2 := by omega
  have n2 : ¬ (2 : Int) = 15 + w 0 2 := by omega
  have n3 : ¬ (2 : Int) = 20 + w 0 2 := by omega
  simp (disch := first | assumption | decide +kernel | exact hM _ _ | exact hL _ | exact xG_b | exact xG_bt _ _ | omega) only [wc91, w91_0, w91_1, w91_4, w91_5, w91_6, w91_8, w91_9, w91_12, w91_14, w91_16, w91_17, w91_18, w91_19, w91_20, w91_23, w91_25, w91_27, w91_28, w91_29, w91_30, w91_31, w91_34, w91_36, w91_38, w91_39, w91_40, w91_41, w91_42, w91_45, w91_47, w91_49, w91_50, w91_51, w91_54, w91_55, w91_56, w91_57, w91_58, w91_59, w91_60, Int.reduceAdd, xup_twice, true_implies, false_implies, not_true_eq_false, not_false_eq_true, and_true, true_and, Int.reduceEq, Int.reduceLE, Int.reduceLT, Int.reduceNeg, xb_eq0, xb_eq1, xup_ne, xup_self, xup_k, xjl_i, xjl_r, xjl_j, xjl_l, Option.toList_some, Option.toList_none, List.cons_append, List.nil_append, xr_0_0, xr_0_1, xr_0_2, xr_0_3, xr_0_4, xr_0_5, xr_0_6, xr_0_7, xr_1_0, xr_1_1, xr_4_5, xr_4_6, xr_4_7, xr_4_8, xr_8_0, xr_10_5, xr_10_6, xr_10_7, xr_10_8, xr_14_0, xr_16_0, xr_16_1, xr_16_2, xr_20_0, xr_21_0, xr_21_1, xr_22_0, xr_24_0, xr_26_0, xr_26_1, xr_26_2, xr_30_0, xr_30_1, xr_30_2, xr_30_3, xr_30_4, xr_30_5, xr_30_6, xr_30_7, xr_31_0, xr_39_0, xr_39_1, xr_39_2, xr_42_0, xr_42_2, xr_42_3, xr_42_4, xr_42_5, xr_42_6, xr_42_8, xr_42_10, xr_42_13, xr_42_14, xr_42_15, xr_42_16, xr_42_23, xr_42_24, xr_42_25, h2]
  refine hQ _ ?_ (fun c hc hd => by rw [xup_ne (by omega), xup_ne (by omega), xup_ne (by omega), xup_ne (by omega), xup_ne (by omega)])
  exact rD_P h hw hlt
end READ
