/-! the class's Run: to a step, from the start -/
section RUN2
variable {w z M : xM} {Q : Option xV → xM → Prop} {s b p : Int} {h : Int → Int → Int}
/-- who is held, as the run has it, in the steps behind n up to m -/
def cH (w : xM) (h : Int → Int → Int) (n m : Nat) (M : xM) : Prop := ∀ t : Nat, n < t → t ≤ m → ∀ p, 0 ≤ p → p < w 0 2 → xbt (M 31 1) p = h t p
theorem cH_F {M' : xM} {n m : Nat} (hh : cH w h n m M) (hf : cF M M') : cH w h n m M' := fun t h1 h2 p h3 h4 => by rw [hf 31 (by omega) (by omega)]; exact hh t h1 h2 p h3 h4
theorem lp_goTo (hw : zW w) {m : Nat} (hm : m ≤ 60) (hQ : ∀ M', cR w (zR w h m) m M' → cF M M' → Q none M') : ∀ (k n : Nat) (M1 : xM), n + k = m → cR w (zR w h n) n M1 → cF M M1 → cH w h n m M1 → Wp 25 5 [xr 30, xi m, xi n] [] M1 Q := by
  intro k
  induction k with
  | zero =>
    intro n M1 hn hR1 hF1 hh
    rw [w25_5]
    simp (disch := first | assumption | decide +kernel | exact hM _ _ | exact hL _ | exact xG_b | exact xG_bt _ _ | omega) only [w25_6, w25_7, w25_20, true_implies, false_implies, not_true_eq_false, not_false_eq_true, and_true, true_and, Int.reduceEq, Int.reduceLE, Int.reduceLT, Int.reduceNeg, xb_eq0, xb_eq1, xup_ne, xup_self, xup_k, xjl_i, xjl_r, xjl_j, xjl_l, Option.toList_some, Option.toList_none, List.cons_append, List.nil_append, xr_0_0, xr_0_1, xr_0_2, xr_0_3, xr_0_4, xr_0_5, xr_0_6, xr_0_7, xr_1_0, xr_1_1, xr_4_5, xr_4_6, xr_4_7, xr_4_8, xr_8_0, xr_10_5, xr_10_6, xr_10_7, xr_10_8, xr_14_0, xr_16_0, xr_16_1, xr_16_2, xr_20_0, xr_21_0, xr_21_1, xr_22_0, xr_24_0, xr_26_0, xr_26_1, xr_26_2, xr_30_0, xr_30_1, xr_30_2, xr_30_3, xr_30_4, xr_30_5, xr_30_6, xr_30_7, xr_31_0, xr_39_0, xr_39_1, xr_39_2, xr_42_0, xr_42_2, xr_42_3, xr_42_4, xr_42_5, xr_42_6, xr_42_8, xr_42_10, xr_42_13, xr_42_14, xr_42_15, xr_42_16, xr_42_23, xr_42_24, xr_42_25]
    rw [xbr_t (by omega)]
    have e2 : n = m := by omega
    rw [e2] at hR1
    exact hQ M1 hR1 hF1
  | succ k ih =>
    intro n M1 hn hR1 hF1 hh
    rw [w25_5]
    simp (disch := first | assumption | decide +kernel | exact hM _ _ | exact hL _ | exact xG_b | exact xG_bt _ _ | omega) only [w25_6, w25_7, w25_10, w25_11, true_implies, false_implies, not_true_eq_false, not_false_eq_true, and_true, true_and, Int.reduceEq, Int.reduceLE, Int.reduceLT, Int.reduceNeg, xb_eq0, xb_eq1, xup_ne, xup_self, xup_k, xjl_i, xjl_r, xjl_j, xjl_l, Option.toList_some, Option.toList_none, List.cons_append, List.nil_append, xr_0_0, xr_0_1, xr_0_2, xr_0_3, xr_0_4, xr_0_5, xr_0_6, xr_0_7, xr_1_0, xr_1_1, xr_4_5, xr_4_6, xr_4_7, xr_4_8, xr_8_0, xr_10_5, xr_10_6, xr_10_7, xr_10_8, xr_14_0, xr_16_0, xr_16_1, xr_16_2, xr_20_0, xr_21_0, xr_21_1, xr_22_0, xr_24_0, xr_26_0, xr_26_1, xr_26_2, xr_30_0, xr_30_1, xr_30_2, xr_30_3, xr_30_4, xr_30_5, xr_30_6, xr_30_7, xr_31_0, xr_39_0, xr_39_1, xr_39_2, xr_42_0, xr_42_2, xr_42_3, xr_42_4, xr_42_5, xr_42_6, xr_42_8, xr_42_10, xr_42_13, xr_42_14, xr_42_15, xr_42_16, xr_42_23, xr_42_24, xr_42_25]
    rw [xbr_f (by omega)]
    refine q_goOn (h := h) hw (zR_V (h := h) hw n (by omega)) (by omega) (s := n) (by omega) hR1 (fun p h1 h2 => ?_) (fun M2 hR2 hF2 => ?_)
    · have := hh (n + 1) (by omega) (by omega) p h1 h2
      rw [this]; rfl
    · simp (disch := first | assumption | decide +kernel | exact hM _ _ | exact hL _ | exact xG_b | exact xG_bt _ _ | omega) only [w25_14, w25_17, true_implies, false_implies, not_true_eq_false, not_false_eq_true, and_true, true_and, Int.reduceEq, Int.reduceLE, Int.reduceLT, Int.reduceNeg, xb_eq0, xb_eq1, xup_ne, xup_self, xup_k, xjl_i, xjl_r, xjl_j, xjl_l, Option.toList_some, Option.toList_none, List.cons_append, List.nil_append, xr_0_0, xr_0_1, xr_0_2, xr_0_3, xr_0_4, xr_0_5, xr_0_6, xr_0_7, xr_1_0, xr_1_1, xr_4_5, xr_4_6, xr_4_7, xr_4_8, xr_8_0, xr_10_5, xr_10_6, xr_10_7, xr_10_8, xr_14_0, xr_16_0, xr_16_1, xr_16_2, xr_20_0, xr_21_0, xr_21_1, xr_22_0, xr_24_0, xr_26_0, xr_26_1, xr_26_2, xr_30_0, xr_30_1, xr_30_2, xr_30_3, xr_30_4, xr_30_5, xr_30_6, xr_30_7, xr_31_0, xr_39_0, xr_39_1, xr_39_2, xr_42_0, xr_42_2, xr_42_3, xr_42_4, xr_42_5, xr_42_6, xr_42_8, xr_42_10, xr_42_13, xr_42_14, xr_42_15, xr_42_16, xr_42_23, xr_42_24, xr_42_25]
      refine ih (n + 1) M2 (by omega) ?_ (cF_tr hF1 hF2) (fun t h1 h2 => (cH_F hh hF2) t (by omega) h2)
      rw [zR]
      exact hR2
theorem q_goTo (hw : zW w) {n m : Nat} (hnm : n ≤ m) (hm : m ≤ 60) (hR : cR w (zR w h n) n M) (hh : cH w h n m M) (hQ : ∀ M', cR w (zR w h m) m M' → cF M M' → Q none M') : Wc 25 [xr 30, xi m] M Q := by
  have h9 : M 30 9 = n := hR.2.2.1
  simp (disch := first | assumption | decide +kernel | exact hM _ _ | exact hL _ | exact xG_b | exact xG_bt _ _ | omega) only [w25_0, w25_1, w25_4, wc25, true_implies, false_implies, not_true_eq_false, not_false_eq_true, and_true, true_and, Int.reduceEq, Int.reduceLE, Int.reduceLT, Int.reduceNeg, xb_eq0, xb_eq1, xup_ne, xup_self, xup_k, xjl_i, xjl_r, xjl_j, xjl_l, Option.toList_some, Option.toList_none, List.cons_append, List.nil_append, xr_0_0, xr_0_1, xr_0_2, xr_0_3, xr_0_4, xr_0_5, xr_0_6, xr_0_7, xr_1_0, xr_1_1, xr_4_5, xr_4_6, xr_4_7, xr_4_8, xr_8_0, xr_10_5, xr_10_6, xr_10_7, xr_10_8, xr_14_0, xr_16_0, xr_16_1, xr_16_2, xr_20_0, xr_21_0, xr_21_1, xr_22_0, xr_24_0, xr_26_0, xr_26_1, xr_26_2, xr_30_0, xr_30_1, xr_30_2, xr_30_3, xr_30_4, xr_30_5, xr_30_6, xr_30_7, xr_31_0, xr_39_0, xr_39_1, xr_39_2, xr_42_0, xr_42_2, xr_42_3, xr_42_4, xr_42_5, xr_42_6, xr_42_8, xr_42_10, xr_42_13, xr_42_14, xr_42_15, xr_42_16, xr_42_23, xr_42_24, xr_42_25, h9]
  exact lp_goTo (M := M) hw hm hQ (m - n) n M (by omega) hR cF_rf hh
theorem lp_copy {d e sd se : Nat} (hd : x_c d = 6) (he : x_c e = 6) (hsd : x_r d 0 = sd) (hse : x_r e 0 = se) (h1 : x_c sd = 20) (h2 : x_c se = 20) (h3 : x_n sd = 5) (h4 : x_n se = 5) (n1 : sd ≠ se) (n2 : sd ≠ d) (n3 : sd ≠ e) (n4 : d ≠ e)
    (hQ : ∀ M', (∀ k, 0 ≤ k → k < 5 → M' sd k = M se k) → M' d 1 = M e 1 → M' d 2 = M e 2 → (∀ c, c ≠ d → c ≠ sd → M' c = M c) → Q none M') : ∀ (k n : Nat) (M1 : xM), n + k = 5 → (∀ k : Int, 0 ≤ k → k < n → M1 sd k = M se k) → (∀ c, c ≠ sd → M1 c = M c) → Wp 3 2 [xr d, xr e, xi n] [] M1 Q := by
  intro k
  induction k with
  | zero =>
    intro n M1 hn i1 i2
    have hn5 : n = 5 := by omega
    subst hn5
    rw [w3_2]
    simp (disch := first | assumption | decide +kernel | exact hM _ _ | exact hL _ | exact xG_b | exact xG_bt _ _ | omega) only [w3_3, w3_4, w3_25, w3_26, w3_27, w3_30, w3_33, w3_34, w3_35, w3_38, w3_41, true_implies, false_implies, not_true_eq_false, not_false_eq_true, and_true, true_and, Int.reduceEq, Int.reduceLE, Int.reduceLT, Int.reduceNeg, xb_eq0, xb_eq1, xup_ne, xup_self, xup_k, xjl_i, xjl_r, xjl_j, xjl_l, Option.toList_some, Option.toList_none, List.cons_append, List.nil_append, xr_0_0, xr_0_1, xr_0_2, xr_0_3, xr_0_4, xr_0_5, xr_0_6, xr_0_7, xr_1_0, xr_1_1, xr_4_5, xr_4_6, xr_4_7, xr_4_8, xr_8_0, xr_10_5, xr_10_6, xr_10_7, xr_10_8, xr_14_0, xr_16_0, xr_16_1, xr_16_2, xr_20_0, xr_21_0, xr_21_1, xr_22_0, xr_24_0, xr_26_0, xr_26_1, xr_26_2, xr_30_0, xr_30_1, xr_30_2, xr_30_3, xr_30_4, xr_30_5, xr_30_6, xr_30_7, xr_31_0, xr_39_0, xr_39_1, xr_39_2, xr_42_0, xr_42_2, xr_42_3, xr_42_4, xr_42_5, xr_42_6, xr_42_8, xr_42_10, xr_42_13, xr_42_14, xr_42_15, xr_42_16, xr_42_23, xr_42_24, xr_42_25, hsd, hse]
    rw [xbr_t (by omega)]
    refine hQ _ (fun k a b => ?_) ?_ ?_ (fun c c1 c2 => ?_)
    · rw [xup_ne n2, xup_ne n2]; exact i1 k a (by omega)
    · simp [xup_app]; rw [i2 e (fun q => n3 q.symm)]
    · simp [xup_app, n4.symm]; rw [i2 e (fun q => n3 q.symm)]
    · rw [xup_ne c1, xup_ne c1]; exact i2 c c2
  | succ k ih =>
    intro n M1 hn i1 i2
    rw [w3_2]
    simp (disch := first | assumption | decide +kernel | exact hM _ _ | exact hL _ | exact xG_b | exact xG_bt _ _ | omega) only [w3_3, w3_4, w3_7, w3_8, w3_11, w3_12, w3_13, w3_16, w3_17, w3_18, w3_19, w3_22, true_implies, false_implies, not_true_eq_false, not_false_eq_true, and_true, true_and, Int.reduceEq, Int.reduceLE, Int.reduceLT, Int.reduceNeg, xb_eq0, xb_eq1, xup_ne, xup_self, xup_k, xjl_i, xjl_r, xjl_j, xjl_l, Option.toList_some, Option.toList_none, List.cons_append, List.nil_append, xr_0_0, xr_0_1, xr_0_2, xr_0_3, xr_0_4, xr_0_5, xr_0_6, xr_0_7, xr_1_0, xr_1_1, xr_4_5, xr_4_6, xr_4_7, xr_4_8, xr_8_0, xr_10_5, xr_10_6, xr_10_7, xr_10_8, xr_14_0, xr_16_0, xr_16_1, xr_16_2, xr_20_0, xr_21_0, xr_21_1, xr_22_0, xr_24_0, xr_26_0, xr_26_1, xr_26_2, xr_30_0, xr_30_1, xr_30_2, xr_30_3, xr_30_4, xr_30_5, xr_30_6, xr_30_7, xr_31_0, xr_39_0, xr_39_1, xr_39_2, xr_42_0, xr_42_2, xr_42_3, xr_42_4, xr_42_5, xr_42_6, xr_42_8, xr_42_10, xr_42_13, xr_42_14, xr_42_15, xr_42_16, xr_42_23, xr_42_24, xr_42_25, hsd, hse]
    rw [xbr_f (by omega)]
    have e1 : M1 se n = M se n := by rw [i2 se (fun q => n1 q.symm)]
    refine ih (n + 1) _ (by omega) (fun q a b => ?_) (fun c c1 => by rw [xup_ne c1]; exact i2 c c1)
    rw [xup_app]
    by_cases hq : q = n
    · rw [if_pos ⟨rfl, hq⟩, hq, e1]
    · rw [if_neg (fun z => hq z.2)]
      exact i1 q a (by omega)
theorem q_copy {d e sd se : Nat} (hd : x_c d = 6) (he : x_c e = 6) (hsd : x_r d 0 = sd) (hse : x_r e 0 = se) (h1 : x_c sd = 20) (h2 : x_c se = 20) (h3 : x_n sd = 5) (h4 : x_n se = 5) (n1 : sd ≠ se) (n2 : sd ≠ d) (n3 : sd ≠ e) (n4 : d ≠ e)
    (hQ : ∀ M', (∀ k, 0 ≤ k → k < 5 → M' sd k = M se k) → M' d 1 = M e 1 → M' d 2 = M e 2 → (∀ c, c ≠ d → c ≠ sd → M' c = M c) → Q none M') : Wc 3 [xr d, xr e] M Q := by
  simp (disch := first | assumption | decide +kernel | exact hM _ _ | exact hL _ | exact xG_b | exact xG_bt _ _ | omega) only [w3_0, w3_1, wc3, true_implies, false_implies, not_true_eq_false, not_false_eq_true, and_true, true_and, Int.reduceEq, Int.reduceLE, Int.reduceLT, Int.reduceNeg, xb_eq0, xb_eq1, xup_ne, xup_self, xup_k, xjl_i, xjl_r, xjl_j, xjl_l, Option.toList_some, Option.toList_none, List.cons_append, List.nil_append, xr_0_0, xr_0_1, xr_0_2, xr_0_3, xr_0_4, xr_0_5, xr_0_6, xr_0_7, xr_1_0, xr_1_1, xr_4_5, xr_4_6, xr_4_7, xr_4_8, xr_8_0, xr_10_5, xr_10_6, xr_10_7, xr_10_8, xr_14_0, xr_16_0, xr_16_1, xr_16_2, xr_20_0, xr_21_0, xr_21_1, xr_22_0, xr_24_0, xr_26_0, xr_26_1, xr_26_2, xr_30_0, xr_30_1, xr_30_2, xr_30_3, xr_30_4, xr_30_5, xr_30_6, xr_30_7, xr_31_0, xr_39_0, xr_39_1, xr_39_2, xr_42_0, xr_42_2, xr_42_3, xr_42_4, xr_42_5, xr_42_6, xr_42_8, xr_42_10, xr_42_13, xr_42_14, xr_42_15, xr_42_16, xr_42_23, xr_42_24, xr_42_25]
  exact lp_copy hd he hsd hse h1 h2 h3 h4 n1 n2 n3 n4 hQ 5 0 M (by omega) (fun k a b => by omega) (fun _ _ => rfl)
/-- the line with its own setting -/
def cB (w M : xM) : Prop := cL w M ∧ M 8 2 = w 0 3 ∧ (∀ p, 0 ≤ p → p < w 0 2 → M 9 p = w 3 p ∧ M 7 p = w 4 p ∧ xbt (M 4 3) p = w 5 p)
def cG (M M' : xM) : Prop := ∀ c : Nat, (c < 30 ∨ 38 < c) → M' c = M c
theorem cG_F {M' : xM} (h : cF M M') : cG M M' := fun c hc => h c (by omega) (by omega)
theorem cG_tr {M M' M'' : xM} (h : cG M M') (h' : cG M' M'') : cG M M'' := fun c h1 => (h' c h1).trans (h c h1)
theorem cG_rf {M : xM} : cG M M := fun _ _ => rfl
theorem cB_G {M' : xM} (h : cB w M) (hg : cG M M') : cB w M' := by
  obtain ⟨⟨l1, l2, l3, l4, l5, l6⟩, h2, h3⟩ := h
  have e4 := hg 4 (by omega)
  have e5 := hg 5 (by omega)
  have e6 := hg 6 (by omega)
  have e7 := hg 7 (by omega)
  have e8 := hg 8 (by omega)
  have e9 := hg 9 (by omega)
  exact ⟨⟨by rw [e4]; exact l1, by rw [e4]; exact l2, by rw [e4]; exact l3, by rw [e4]; exact l4, by rw [e5]; exact l5, by rw [e6]; exact l6⟩, by rw [e8]; exact h2, by rw [e9, e7, e4]; exact h3⟩
/-- half way in begin: the first n stand -/
def cI (w : xM) (n : Nat) (M0 M : xM) : Prop := (∀ c, c < 33 ∨ 38 < c → M c = M0 c) ∧ (∀ p : Int, 0 ≤ p → p < n → M 33 p = w 4 p ∧ M 34 p = 0 ∧ M 35 p = 0 ∧ M 36 p = -4 ∧ M 37 p = -4) ∧ (∀ x : Int, 0 ≤ x → x < 24 → M 38 x = xcn (fun q => decide (w 4 q = x)) n)
theorem lp_begin1 {M0 : xM} (hQ : ∀ M', (∀ c, c ≠ 38 → M' c = M0 c) → (∀ x : Int, 0 ≤ x → x < 24 → M' 38 x = 0) → Wp 24 61 [xr 30, xi 24] [] M' Q) : ∀ (k n : Nat) (M1 : xM), n + k = 24 → (∀ c, c ≠ 38 → M1 c = M0 c) → (∀ x : Int, 0 ≤ x → x < n → M1 38 x = 0) → Wp 24 42 [xr 30, xi n] [] M1 Q := by
  intro k
  induction k with
  | zero =>
    intro n M1 hn i1 i2
    have hn5 : n = 24 := by omega
    subst hn5
    rw [w24_42]
    simp (disch := first | assumption | decide +kernel | exact hM _ _ | exact hL _ | exact xG_b | exact xG_bt _ _ | omega) only [w24_43, w24_45, true_implies, false_implies, not_true_eq_false, not_false_eq_true, and_true, true_and, Int.reduceEq, Int.reduceLE, Int.reduceLT, Int.reduceNeg, xb_eq0, xb_eq1, xup_ne, xup_self, xup_k, xjl_i, xjl_r, xjl_j, xjl_l, Option.toList_some, Option.toList_none, List.cons_append, List.nil_append, xr_0_0, xr_0_1, xr_0_2, xr_0_3, xr_0_4, xr_0_5, xr_0_6, xr_0_7, xr_1_0, xr_1_1, xr_4_5, xr_4_6, xr_4_7, xr_4_8, xr_8_0, xr_10_5, xr_10_6, xr_10_7, xr_10_8, xr_14_0, xr_16_0, xr_16_1, xr_16_2, xr_20_0, xr_21_0, xr_21_1, xr_22_0, xr_24_0, xr_26_0, xr_26_1, xr_26_2, xr_30_0, xr_30_1, xr_30_2, xr_30_3, xr_30_4, xr_30_5, xr_30_6, xr_30_7, xr_31_0, xr_39_0, xr_39_1, xr_39_2, xr_42_0, xr_42_2, xr_42_3, xr_42_4, xr_42_5, xr_42_6, xr_42_8, xr_42_10, xr_42_13, xr_42_14, xr_42_15, xr_42_16, xr_42_23, xr_42_24, xr_42_25]
    rw [xbr_t (by omega)]
    exact hQ M1 i1 (fun x a b => i2 x a (by omega))
  | succ k ih =>
    intro n M1 hn i1 i2
    rw [w24_42]
    simp (disch := first | assumption | decide +kernel | exact hM _ _ | exact hL _ | exact xG_b | exact xG_bt _ _ | omega) only [w24_43, w24_45, w24_48, w24_49, w24_52, w24_53, w24_54, w24_55, w24_58, true_implies, false_implies, not_true_eq_false, not_false_eq_true, and_true, true_and, Int.reduceEq, Int.reduceLE, Int.reduceLT, Int.reduceNeg, xb_eq0, xb_eq1, xup_ne, xup_self, xup_k, xjl_i, xjl_r, xjl_j, xjl_l, Option.toList_some, Option.toList_none, List.cons_append, List.nil_append, xr_0_0, xr_0_1, xr_0_2, xr_0_3, xr_0_4, xr_0_5, xr_0_6, xr_0_7, xr_1_0, xr_1_1, xr_4_5, xr_4_6, xr_4_7, xr_4_8, xr_8_0, xr_10_5, xr_10_6, xr_10_7, xr_10_8, xr_14_0, xr_16_0, xr_16_1, xr_16_2, xr_20_0, xr_21_0, xr_21_1, xr_22_0, xr_24_0, xr_26_0, xr_26_1, xr_26_2, xr_30_0, xr_30_1, xr_30_2, xr_30_3, xr_30_4, xr_30_5, xr_30_6, xr_30_7, xr_31_0, xr_39_0, xr_39_1, xr_39_2, xr_42_0, xr_42_2, xr_42_3, xr_42_4, xr_42_5, xr_42_6, xr_42_8, xr_42_10, xr_42_13, xr_42_14, xr_42_15, xr_42_16, xr_42_23, xr_42_24, xr_42_25]
    rw [xbr_f (by omega)]
    refine ih (n + 1) _ (by omega) (fun c c1 => by rw [xup_ne c1]; exact i1 c c1) (fun x a b => ?_)
    rw [xup_app]
    by_cases hq : x = n
    · rw [if_pos ⟨rfl, hq⟩]
    · rw [if_neg (fun z => hq z.2)]; exact i2 x a (by omega)
theorem lp_begin2 (hw : zW w) {M0 : xM} (hB : cB w M0) (hQ : ∀ M', cI w (w 0 2).toNat M0 M' → Q none M') : ∀ (k n : Nat) (M1 : xM), (n : Int) + k = w 0 2 → cI w n M0 M1 → Wp 24 63 [xr 30, xi n] [] M1 Q := by
  have hw1 := hw.1
  have hw3 := hw.2.2.1
  obtain ⟨⟨l1, l2, l3, l4, l5, l6⟩, h2, h3⟩ := hB
  intro k
  induction k with
  | zero =>
    intro n M1 hn hI
    have e4 := hI.1 4 (by omega)
    have l3' : M1 4 2 = w 0 2 := by rw [e4]; exact l3
    rw [w24_63]
    simp (disch := first | assumption | decide +kernel | exact hM _ _ | exact hL _ | exact xG_b | exact xG_bt _ _ | omega) only [w24_64, w24_65, w24_68, w24_71, w24_140, true_implies, false_implies, not_true_eq_false, not_false_eq_true, and_true, true_and, Int.reduceEq, Int.reduceLE, Int.reduceLT, Int.reduceNeg, xb_eq0, xb_eq1, xup_ne, xup_self, xup_k, xjl_i, xjl_r, xjl_j, xjl_l, Option.toList_some, Option.toList_none, List.cons_append, List.nil_append, xr_0_0, xr_0_1, xr_0_2, xr_0_3, xr_0_4, xr_0_5, xr_0_6, xr_0_7, xr_1_0, xr_1_1, xr_4_5, xr_4_6, xr_4_7, xr_4_8, xr_8_0, xr_10_5, xr_10_6, xr_10_7, xr_10_8, xr_14_0, xr_16_0, xr_16_1, xr_16_2, xr_20_0, xr_21_0, xr_21_1, xr_22_0, xr_24_0, xr_26_0, xr_26_1, xr_26_2, xr_30_0, xr_30_1, xr_30_2, xr_30_3, xr_30_4, xr_30_5, xr_30_6, xr_30_7, xr_31_0, xr_39_0, xr_39_1, xr_39_2, xr_42_0, xr_42_2, xr_42_3, xr_42_4, xr_42_5, xr_42_6, xr_42_8, xr_42_10, xr_42_13, xr_42_14, xr_42_15, xr_42_16, xr_42_23, xr_42_24, xr_42_25]
    rw [xbr_t (by omega)]
    have e2 : n = (w 0 2).toNat := by omega
    rw [e2] at hI
    exact hQ M1 hI
  | succ k ih =>
    intro n M1 hn hI
    have e4 := hI.1 4 (by omega)
    have e7 := hI.1 7 (by omega)
    have l3' : M1 4 2 = w 0 2 := by rw [e4]; exact l3
    have hpl : M1 7 n = w 4 n := by rw [e7]; exact (h3 n (by omega) (by omega)).2.1
    have hwn := hw.2.2.2.2.1 n (by omega) (by omega)
    have hr : 0 ≤ M1 7 n ∧ M1 7 n < 24 := by omega
    have hc := hI.2.2 (w 4 n) hwn.2.2.1.1 (by omega)
    have hcb := xcn_b (fun q => decide (w 4 q = w 4 n)) n
    have hg : xG (M1 38 (M1 7 n)) := by rw [hpl, hc]; constructor <;> omega
    rw [w24_63]
    simp (disch := first | assumption | decide +kernel | exact hM _ _ | exact hL _ | exact xG_b | exact xG_bt _ _ | omega) only [w24_64, w24_65, w24_68, w24_71, w24_74, w24_75, w24_78, w24_79, w24_80, w24_83, w24_86, w24_87, w24_88, w24_89, w24_90, w24_93, w24_94, w24_95, w24_96, w24_97, w24_100, w24_101, w24_102, w24_103, w24_104, w24_107, w24_108, w24_110, w24_111, w24_112, w24_115, w24_116, w24_118, w24_119, w24_120, w24_123, w24_124, w24_127, w24_128, w24_129, w24_130, w24_131, w24_132, w24_133, w24_134, w24_137 , true_implies, false_implies, not_true_eq_false, not_false_eq_true, and_true, true_and, Int.reduceEq, Int.reduceLE, Int.reduceLT, Int.reduceNeg, xb_eq0, xb_eq1, xup_ne, xup_self, xup_k, xjl_i, xjl_r, xjl_j, xjl_l, Option.toList_some, Option.toList_none, List.cons_append, List.nil_append, xr_0_0, xr_0_1, xr_0_2, xr_0_3, xr_0_4, xr_0_5, xr_0_6, xr_0_7, xr_1_0, xr_1_1, xr_4_5, xr_4_6, xr_4_7, xr_4_8, xr_8_0, xr_10_5, xr_10_6, xr_10_7, xr_10_8, xr_14_0, xr_16_0, xr_16_1, xr_16_2, xr_20_0, xr_21_0, xr_21_1, xr_22_0, xr_24_0, xr_26_0, xr_26_1, xr_26_2, xr_30_0, xr_30_1, xr_30_2, xr_30_3, xr_30_4, xr_30_5, xr_30_6, xr_30_7, xr_31_0, xr_39_0, xr_39_1, xr_39_2, xr_42_0, xr_42_2, xr_42_3, xr_42_4, xr_42_5, xr_42_6, xr_42_8, xr_42_10, xr_42_13, xr_42_14, xr_42_15, xr_42_16, xr_42_23, xr_42_24, xr_42_25]
    rw [xbr_f (by omega)]
    refine ih (n + 1) _ (by omega) ⟨fun c c1 => ?_, fun p p1 p2 => ?_, fun x x1 x2 => ?_⟩
    · repeat rw [xup_ne (by omega)]
      exact hI.1 c c1
    · simp only [xup_app]
      by_cases hq : p = n
      · subst hq; simp [hpl]
      · have := hI.2.1 p p1 (by omega)
        simp [hq, this]
    · have h6 := hI.2.2 x x1 x2
      rw [xup_app, xcn_s, hpl]
      by_cases hx : x = w 4 n
      · subst hx
        simp [hc]
      · have hx2 : ¬ w 4 n = x := fun e => hx e.symm
        simp (disch := first | assumption | decide +kernel | exact hM _ _ | exact hL _ | exact xG_b | exact xG_bt _ _ | omega) [hx, hx2, xup_ne, h6]
theorem q_begin (hw : zW w) (hB : cB w M) (hQ : ∀ M', cR w (zR w h 0) 0 M' → M' 31 1 = M 8 1 → cG M M' → Q none M') : Wc 24 [xr 30] M Q := by
  have hw1 := hw.1
  have hw3 := hw.2.2.1
  simp (disch := first | assumption | decide +kernel | exact hM _ _ | exact hL _ | exact xG_b | exact xG_bt _ _ | omega) only [w24_0, w24_1, w24_4, w24_5, w24_8, w24_11, wc24, true_implies, false_implies, not_true_eq_false, not_false_eq_true, and_true, true_and, Int.reduceEq, Int.reduceLE, Int.reduceLT, Int.reduceNeg, xb_eq0, xb_eq1, xup_ne, xup_self, xup_k, xjl_i, xjl_r, xjl_j, xjl_l, Option.toList_some, Option.toList_none, List.cons_append, List.nil_append, xr_0_0, xr_0_1, xr_0_2, xr_0_3, xr_0_4, xr_0_5, xr_0_6, xr_0_7, xr_1_0, xr_1_1, xr_4_5, xr_4_6, xr_4_7, xr_4_8, xr_8_0, xr_10_5, xr_10_6, xr_10_7, xr_10_8, xr_14_0, xr_16_0, xr_16_1, xr_16_2, xr_20_0, xr_21_0, xr_21_1, xr_22_0, xr_24_0, xr_26_0, xr_26_1, xr_26_2, xr_30_0, xr_30_1, xr_30_2, xr_30_3, xr_30_4, xr_30_5, xr_30_6, xr_30_7, xr_31_0, xr_39_0, xr_39_1, xr_39_2, xr_42_0, xr_42_2, xr_42_3, xr_42_4, xr_42_5, xr_42_6, xr_42_8, xr_42_10, xr_42_13, xr_42_14, xr_42_15, xr_42_16, xr_42_23, xr_42_24, xr_42_25]
  refine q_copy (d := 31) (e := 8) (sd := 32) (se := 9) rfl rfl rfl rfl rfl rfl rfl rfl (by decide) (by decide) (by decide) (by decide) (fun M1 c1 c2 c3 c4 => ?_)
  simp (disch := first | assumption | decide +kernel | exact hM _ _ | exact hL _ | exact xG_b | exact xG_bt _ _ | omega) only [w24_14, w24_15, w24_16, w24_19, w24_22, w24_25, w24_26, w24_27, w24_30, w24_31, w24_32, w24_35, w24_36, w24_37, w24_40, w24_41, true_implies, false_implies, not_true_eq_false, not_false_eq_true, and_true, true_and, Int.reduceEq, Int.reduceLE, Int.reduceLT, Int.reduceNeg, xb_eq0, xb_eq1, xup_ne, xup_self, xup_k, xjl_i, xjl_r, xjl_j, xjl_l, Option.toList_some, Option.toList_none, List.cons_append, List.nil_append, xr_0_0, xr_0_1, xr_0_2, xr_0_3, xr_0_4, xr_0_5, xr_0_6, xr_0_7, xr_1_0, xr_1_1, xr_4_5, xr_4_6, xr_4_7, xr_4_8, xr_8_0, xr_10_5, xr_10_6, xr_10_7, xr_10_8, xr_14_0, xr_16_0, xr_16_1, xr_16_2, xr_20_0, xr_21_0, xr_21_1, xr_22_0, xr_24_0, xr_26_0, xr_26_1, xr_26_2, xr_30_0, xr_30_1, xr_30_2, xr_30_3, xr_30_4, xr_30_5, xr_30_6, xr_30_7, xr_31_0, xr_39_0, xr_39_1, xr_39_2, xr_42_0, xr_42_2, xr_42_3, xr_42_4, xr_42_5, xr_42_6, xr_42_8, xr_42_10, xr_42_13, xr_42_14, xr_42_15, xr_42_16, xr_42_23, xr_42_24, xr_42_25]
  refine lp_begin1 (M0 := xup (xup (xup (xup M1 30 8 (M1 4 3)) 30 9 0) 30 10 0) 30 11 0) (fun M2 d1 d2 => ?_) 24 0 _ (by omega) (fun _ _ => rfl) (fun x a b => by omega)
  simp (disch := first | assumption | decide +kernel | exact hM _ _ | exact hL _ | exact xG_b | exact xG_bt _ _ | omega) only [w24_61, w24_62, true_implies, false_implies, not_true_eq_false, not_false_eq_true, and_true, true_and, Int.reduceEq, Int.reduceLE, Int.reduceLT, Int.reduceNeg, xb_eq0, xb_eq1, xup_ne, xup_self, xup_k, xjl_i, xjl_r, xjl_j, xjl_l, Option.toList_some, Option.toList_none, List.cons_append, List.nil_append, xr_0_0, xr_0_1, xr_0_2, xr_0_3, xr_0_4, xr_0_5, xr_0_6, xr_0_7, xr_1_0, xr_1_1, xr_4_5, xr_4_6, xr_4_7, xr_4_8, xr_8_0, xr_10_5, xr_10_6, xr_10_7, xr_10_8, xr_14_0, xr_16_0, xr_16_1, xr_16_2, xr_20_0, xr_21_0, xr_21_1, xr_22_0, xr_24_0, xr_26_0, xr_26_1, xr_26_2, xr_30_0, xr_30_1, xr_30_2, xr_30_3, xr_30_4, xr_30_5, xr_30_6, xr_30_7, xr_31_0, xr_39_0, xr_39_1, xr_39_2, xr_42_0, xr_42_2, xr_42_3, xr_42_4, xr_42_5, xr_42_6, xr_42_8, xr_42_10, xr_42_13, xr_42_14, xr_42_15, xr_42_16, xr_42_23, xr_42_24, xr_42_25]
  have hgo : ∀ c : Nat, (c < 30 ∨ 38 < c) → M2 c = M c := fun c hc => by
    rw [d1 c (by omega)]
    repeat rw [xup_ne (by omega)]
    exact c4 c (by omega) (by omega)
  refine lp_begin2 (M0 := M2) hw (cB_G hB hgo) (fun M3 hI => ?_) (w 0 2).toNat 0 M2 (by omega) ⟨fun _ _ => rfl, fun p a b => by omega, fun x a b => by rw [d2 x a b]; rfl⟩
  have e31 : M3 31 = M1 31 := by
    rw [hI.1 31 (by omega), d1 31 (by omega)]
    repeat rw [xup_ne (by omega)]
  have e32 : M3 32 = M1 32 := by
    rw [hI.1 32 (by omega), d1 32 (by omega)]
    repeat rw [xup_ne (by omega)]
  have e30 : M3 30 = (xup (xup (xup (xup M1 30 8 (M1 4 3)) 30 9 0) 30 10 0) 30 11 0) 30 := by
    rw [hI.1 30 (by omega), d1 30 (by omega)]
  have hgo3 : cG M M3 := fun c hc => by rw [hI.1 c (by omega)]; exact hgo c hc
  obtain ⟨hl, b2, b3⟩ := cB_G hB hgo3
  obtain ⟨hl0, b20, b30⟩ := hB
  refine hQ M3 ⟨hl, ⟨?_, fun p a b => ?_⟩, ?_, ?_, ?_, fun p a b => ?_, fun x a b => ?_⟩ ?_ hgo3
  · rw [e31, c3]; exact b20
  · rw [e32, c1 p a (by omega)]; exact (b30 p a b).1
  · rw [e30]; simp [xup_app]
  · rw [e30]; simp [xup_app, zR, z0]
  · rw [e30]; simp [xup_app, zR, z0]
  · have h6 := hI.2.1 p a (by omega)
    have h7 : M3 30 8 = M 4 3 := by
      rw [e30]
      simp [xup_app]
      rw [c4 4 (by decide) (by decide)]
    rw [h7, h6.1, h6.2.1, h6.2.2.1, h6.2.2.2.1, h6.2.2.2.2, (b30 p a b).2.2]
    simp [zR, z0]
  · rw [hI.2.2 x a b]
    rfl
  · rw [e31]; exact c2
theorem lp_firstAt (hw : zW w) (hp : 0 ≤ p ∧ p < w 0 2) {t : Int} (ht : 0 ≤ t ∧ t < w 0 1) (hQ : ∀ M', cG M M' → Q (some (xi (xfst (fun s => decide (zR w h s 0 p = w 1 t)) 61))) M') : ∀ (k n : Nat) (M1 : xM), n + k = 61 → (∀ j : Nat, j < n → ¬ zR w h j 0 p = w 1 t) → cR w (zR w h (n - 1)) ((n - 1 : Nat) : Int) M1 → cH w h 0 60 M1 → cG M M1 → Wp 33 2 [xr 30, xi p, xi t, xi n] [] M1 Q := by
  have hw1 := hw.1
  have hw2 := hw.2.1
  have hw3 := hw.2.2.1
  intro k
  induction k with
  | zero =>
    intro n M1 hn hj hR1 hH hG
    rw [w33_2]
    simp (disch := first | assumption | decide +kernel | exact hM _ _ | exact hL _ | exact xG_b | exact xG_bt _ _ | omega) only [w33_3, w33_5, w33_30, w33_32, true_implies, false_implies, not_true_eq_false, not_false_eq_true, and_true, true_and, Int.reduceEq, Int.reduceLE, Int.reduceLT, Int.reduceNeg, xb_eq0, xb_eq1, xup_ne, xup_self, xup_k, xjl_i, xjl_r, xjl_j, xjl_l, Option.toList_some, Option.toList_none, List.cons_append, List.nil_append, xr_0_0, xr_0_1, xr_0_2, xr_0_3, xr_0_4, xr_0_5, xr_0_6, xr_0_7, xr_1_0, xr_1_1, xr_4_5, xr_4_6, xr_4_7, xr_4_8, xr_8_0, xr_10_5, xr_10_6, xr_10_7, xr_10_8, xr_14_0, xr_16_0, xr_16_1, xr_16_2, xr_20_0, xr_21_0, xr_21_1, xr_22_0, xr_24_0, xr_26_0, xr_26_1, xr_26_2, xr_30_0, xr_30_1, xr_30_2, xr_30_3, xr_30_4, xr_30_5, xr_30_6, xr_30_7, xr_31_0, xr_39_0, xr_39_1, xr_39_2, xr_42_0, xr_42_2, xr_42_3, xr_42_4, xr_42_5, xr_42_6, xr_42_8, xr_42_10, xr_42_13, xr_42_14, xr_42_15, xr_42_16, xr_42_23, xr_42_24, xr_42_25]
    rw [xbr_t (by omega)]
    have := hQ M1 hG
    rw [xfst_no (fun j h1 => by simp [hj j (by omega)])] at this
    exact this
  | succ k ih =>
    intro n M1 hn hj hR1 hH hG
    rw [w33_2]
    simp (disch := first | assumption | decide +kernel | exact hM _ _ | exact hL _ | exact xG_b | exact xG_bt _ _ | omega) only [w33_3, w33_5, w33_8, w33_9, w33_10, true_implies, false_implies, not_true_eq_false, not_false_eq_true, and_true, true_and, Int.reduceEq, Int.reduceLE, Int.reduceLT, Int.reduceNeg, xb_eq0, xb_eq1, xup_ne, xup_self, xup_k, xjl_i, xjl_r, xjl_j, xjl_l, Option.toList_some, Option.toList_none, List.cons_append, List.nil_append, xr_0_0, xr_0_1, xr_0_2, xr_0_3, xr_0_4, xr_0_5, xr_0_6, xr_0_7, xr_1_0, xr_1_1, xr_4_5, xr_4_6, xr_4_7, xr_4_8, xr_8_0, xr_10_5, xr_10_6, xr_10_7, xr_10_8, xr_14_0, xr_16_0, xr_16_1, xr_16_2, xr_20_0, xr_21_0, xr_21_1, xr_22_0, xr_24_0, xr_26_0, xr_26_1, xr_26_2, xr_30_0, xr_30_1, xr_30_2, xr_30_3, xr_30_4, xr_30_5, xr_30_6, xr_30_7, xr_31_0, xr_39_0, xr_39_1, xr_39_2, xr_42_0, xr_42_2, xr_42_3, xr_42_4, xr_42_5, xr_42_6, xr_42_8, xr_42_10, xr_42_13, xr_42_14, xr_42_15, xr_42_16, xr_42_23, xr_42_24, xr_42_25]
    rw [xbr_f (by omega)]
    refine q_goTo (h := h) hw (n := n - 1) (m := n) (by omega) (by omega) hR1 (fun t h1 h2 => hH t (by omega) (by omega)) (fun M2 hR2 hF2 => ?_)
    have hv2 := (zR_V' (h := h) hw (n := n) (by omega)).1 p hp.1 hp.2
    have e1 : M2 33 p = zR w h n 0 p := (hR2.2.2.2.2.2.1 p hp.1 hp.2).1
    have e2 : M2 5 t = w 1 t := hR2.1.2.2.2.2.1 t ht.1 ht.2
    have hst := hw.2.2.2.1 t ht.1 ht.2
    simp (disch := first | assumption | decide +kernel | exact hM _ _ | exact hL _ | exact xG_b | exact xG_bt _ _ | omega) only [w33_13, w33_14, w33_15, w33_16, w33_19, w33_22, w33_23, true_implies, false_implies, not_true_eq_false, not_false_eq_true, and_true, true_and, Int.reduceEq, Int.reduceLE, Int.reduceLT, Int.reduceNeg, xb_eq0, xb_eq1, xup_ne, xup_self, xup_k, xjl_i, xjl_r, xjl_j, xjl_l, Option.toList_some, Option.toList_none, List.cons_append, List.nil_append, xr_0_0, xr_0_1, xr_0_2, xr_0_3, xr_0_4, xr_0_5, xr_0_6, xr_0_7, xr_1_0, xr_1_1, xr_4_5, xr_4_6, xr_4_7, xr_4_8, xr_8_0, xr_10_5, xr_10_6, xr_10_7, xr_10_8, xr_14_0, xr_16_0, xr_16_1, xr_16_2, xr_20_0, xr_21_0, xr_21_1, xr_22_0, xr_24_0, xr_26_0, xr_26_1, xr_26_2, xr_30_0, xr_30_1, xr_30_2, xr_30_3, xr_30_4, xr_30_5, xr_30_6, xr_30_7, xr_31_0, xr_39_0, xr_39_1, xr_39_2, xr_42_0, xr_42_2, xr_42_3, xr_42_4, xr_42_5, xr_42_6, xr_42_8, xr_42_10, xr_42_13, xr_42_14, xr_42_15, xr_42_16, xr_42_23, xr_42_24, xr_42_25, q_isAt]
    rw [e1, e2]
    by_cases hc : zR w h n 0 p = w 1 t
    · rw [xbr_t' hc]
      have := hQ M2 (cG_tr hG (cG_F hF2))
      rw [xfst_yes (i := n) (by simp [hc]) (fun j h1 => by simp [hj j h1]) (by omega)] at this
      exact this
    · rw [xbr_f' hc]
      simp (disch := first | assumption | decide +kernel | exact hM _ _ | exact hL _ | exact xG_b | exact xG_bt _ _ | omega) only [w33_24, w33_27, true_implies, false_implies, not_true_eq_false, not_false_eq_true, and_true, true_and, Int.reduceEq, Int.reduceLE, Int.reduceLT, Int.reduceNeg, xb_eq0, xb_eq1, xup_ne, xup_self, xup_k, xjl_i, xjl_r, xjl_j, xjl_l, Option.toList_some, Option.toList_none, List.cons_append, List.nil_append, xr_0_0, xr_0_1, xr_0_2, xr_0_3, xr_0_4, xr_0_5, xr_0_6, xr_0_7, xr_1_0, xr_1_1, xr_4_5, xr_4_6, xr_4_7, xr_4_8, xr_8_0, xr_10_5, xr_10_6, xr_10_7, xr_10_8, xr_14_0, xr_16_0, xr_16_1, xr_16_2, xr_20_0, xr_21_0, xr_21_1, xr_22_0, xr_24_0, xr_26_0, xr_26_1, xr_26_2, xr_30_0, xr_30_1, xr_30_2, xr_30_3, xr_30_4, xr_30_5, xr_30_6, xr_30_7, xr_31_0, xr_39_0, xr_39_1, xr_39_2, xr_42_0, xr_42_2, xr_42_3, xr_42_4, xr_42_5, xr_42_6, xr_42_8, xr_42_10, xr_42_13, xr_42_14, xr_42_15, xr_42_16, xr_42_23, xr_42_24, xr_42_25]
      exact ih (n + 1) M2 (by omega) (fun j h1 => by
        by_cases e : j = n
        · rw [e]; exact hc
        · exact hj j (by omega)) hR2 (cH_F hH hF2) (cG_tr hG (cG_F hF2))
theorem q_firstAt (hw : zW w) (hp : 0 ≤ p ∧ p < w 0 2) {t : Int} (ht : 0 ≤ t ∧ t < w 0 1) (hR : cR w (zR w h 0) 0 M) (hH : cH w h 0 60 M) (hQ : ∀ M', cG M M' → Q (some (xi (xfst (fun s => decide (zR w h s 0 p = w 1 t)) 61))) M') : Wc 33 [xr 30, xi p, xi t] M Q := by
  simp (disch := first | assumption | decide +kernel | exact hM _ _ | exact hL _ | exact xG_b | exact xG_bt _ _ | omega) only [w33_0, w33_1, wc33, true_implies, false_implies, not_true_eq_false, not_false_eq_true, and_true, true_and, Int.reduceEq, Int.reduceLE, Int.reduceLT, Int.reduceNeg, xb_eq0, xb_eq1, xup_ne, xup_self, xup_k, xjl_i, xjl_r, xjl_j, xjl_l, Option.toList_some, Option.toList_none, List.cons_append, List.nil_append, xr_0_0, xr_0_1, xr_0_2, xr_0_3, xr_0_4, xr_0_5, xr_0_6, xr_0_7, xr_1_0, xr_1_1, xr_4_5, xr_4_6, xr_4_7, xr_4_8, xr_8_0, xr_10_5, xr_10_6, xr_10_7, xr_10_8, xr_14_0, xr_16_0, xr_16_1, xr_16_2, xr_20_0, xr_21_0, xr_21_1, xr_22_0, xr_24_0, xr_26_0, xr_26_1, xr_26_2, xr_30_0, xr_30_1, xr_30_2, xr_30_3, xr_30_4, xr_30_5, xr_30_6, xr_30_7, xr_31_0, xr_39_0, xr_39_1, xr_39_2, xr_42_0, xr_42_2, xr_42_3, xr_42_4, xr_42_5, xr_42_6, xr_42_8, xr_42_10, xr_42_13, xr_42_14, xr_42_15, xr_42_16, xr_42_23, xr_42_24, xr_42_25]
  exact lp_firstAt hw hp ht hQ 61 0 M (by omega) (fun j h1 => by omega) hR hH cG_rf
end RUN2
