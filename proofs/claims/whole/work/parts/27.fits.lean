section FITS
variable {w M : xM} {Q : Option xV → xM → Prop} {h : Int → Int → Int}
/-- what came, in the class's cells -/
def cQ (w M : xM) : Prop := (0 ≤ M 26 3 ∧ M 26 3 ≤ 6) ∧ ∀ i, 0 ≤ i → i < M 26 3 → (0 ≤ M 27 i ∧ M 27 i < w 0 1) ∧ (1 ≤ M 28 i ∧ M 28 i ≤ 60) ∧ (M 29 i = 0 ∨ M 29 i = 1)
def zAny (w : xM) (h : Int → Int → Int) (t s : Int) : Bool := decide (0 < zAll w (zR w h s.toNat) (w 1 t))
def okC (w : xM) (h : Int → Int → Int) (M : xM) (i : Nat) : Bool := decide (M 29 i = 1) == zAny w h (M 27 i) (M 28 i)
theorem lp_lastStep (hQ0 : cQ w M) (hQ : ∀ L : Int, (0 ≤ L ∧ L ≤ 60) → (∀ i, 0 ≤ i → i < M 26 3 → M 28 i ≤ L) → Q (some (xi L)) M) : ∀ (k n : Nat) (L : Int), (n : Int) + k = M 26 3 → (0 ≤ L ∧ L ≤ 60) → (∀ i : Int, 0 ≤ i → i < n → M 28 i ≤ L) → Wp 40 4 [xr 26, xi L, xi n] [] M Q := by
  have h1 := hQ0.1
  intro k
  induction k with
  | zero =>
    intro n L hn hL hi
    rw [w40_4]
    simp (disch := first | assumption | decide +kernel | exact hM _ _ | exact hL _ | exact xG_b | exact xG_bt _ _ | omega) only [w40_5, w40_6, w40_9, w40_29, w40_30, true_implies, false_implies, not_true_eq_false, not_false_eq_true, and_true, true_and, Int.reduceEq, Int.reduceLE, Int.reduceLT, Int.reduceNeg, xb_eq0, xb_eq1, xup_ne, xup_self, xup_k, xjl_i, xjl_r, xjl_j, xjl_l, Option.toList_some, Option.toList_none, List.cons_append, List.nil_append, xr_0_0, xr_0_1, xr_0_2, xr_0_3, xr_0_4, xr_0_5, xr_0_6, xr_0_7, xr_1_0, xr_1_1, xr_4_5, xr_4_6, xr_4_7, xr_4_8, xr_8_0, xr_10_5, xr_10_6, xr_10_7, xr_10_8, xr_14_0, xr_16_0, xr_16_1, xr_16_2, xr_20_0, xr_21_0, xr_21_1, xr_22_0, xr_24_0, xr_26_0, xr_26_1, xr_26_2, xr_30_0, xr_30_1, xr_30_2, xr_30_3, xr_30_4, xr_30_5, xr_30_6, xr_30_7, xr_31_0, xr_39_0, xr_39_1, xr_39_2, xr_42_0, xr_42_2, xr_42_3, xr_42_4, xr_42_5, xr_42_6, xr_42_8, xr_42_10, xr_42_13, xr_42_14, xr_42_15, xr_42_16, xr_42_23, xr_42_24, xr_42_25]
    rw [xbr_t (by omega)]
    exact hQ L hL (fun i a b => hi i a (by omega))
  | succ k ih =>
    intro n L hn hL hi
    have h2 := hQ0.2 n (by omega) (by omega)
    rw [w40_4]
    simp (disch := first | assumption | decide +kernel | exact hM _ _ | exact hL _ | exact xG_b | exact xG_bt _ _ | omega) only [w40_5, w40_6, w40_9, w40_12, w40_13, w40_14, w40_17, w40_18, w40_19, w40_22, w40_23, w40_26, true_implies, false_implies, not_true_eq_false, not_false_eq_true, and_true, true_and, Int.reduceEq, Int.reduceLE, Int.reduceLT, Int.reduceNeg, xb_eq0, xb_eq1, xup_ne, xup_self, xup_k, xjl_i, xjl_r, xjl_j, xjl_l, Option.toList_some, Option.toList_none, List.cons_append, List.nil_append, xr_0_0, xr_0_1, xr_0_2, xr_0_3, xr_0_4, xr_0_5, xr_0_6, xr_0_7, xr_1_0, xr_1_1, xr_4_5, xr_4_6, xr_4_7, xr_4_8, xr_8_0, xr_10_5, xr_10_6, xr_10_7, xr_10_8, xr_14_0, xr_16_0, xr_16_1, xr_16_2, xr_20_0, xr_21_0, xr_21_1, xr_22_0, xr_24_0, xr_26_0, xr_26_1, xr_26_2, xr_30_0, xr_30_1, xr_30_2, xr_30_3, xr_30_4, xr_30_5, xr_30_6, xr_30_7, xr_31_0, xr_39_0, xr_39_1, xr_39_2, xr_42_0, xr_42_2, xr_42_3, xr_42_4, xr_42_5, xr_42_6, xr_42_8, xr_42_10, xr_42_13, xr_42_14, xr_42_15, xr_42_16, xr_42_23, xr_42_24, xr_42_25]
    rw [xbr_f (by omega)]
    refine ih (n + 1) _ (by omega) (by split <;> omega) (fun i a b => ?_)
    by_cases e : i = n
    · subst e; split <;> omega
    · have := hi i a (by omega)
      split <;> omega
theorem q_lastStep (hQ0 : cQ w M) (hQ : ∀ L : Int, (0 ≤ L ∧ L ≤ 60) → (∀ i, 0 ≤ i → i < M 26 3 → M 28 i ≤ L) → Q (some (xi L)) M) : Wc 40 [xr 26] M Q := by
  have h1 := hQ0.1
  simp (disch := first | assumption | decide +kernel | exact hM _ _ | exact hL _ | exact xG_b | exact xG_bt _ _ | omega) only [w40_0, w40_1, w40_2, w40_3, wc40, true_implies, false_implies, not_true_eq_false, not_false_eq_true, and_true, true_and, Int.reduceEq, Int.reduceLE, Int.reduceLT, Int.reduceNeg, xb_eq0, xb_eq1, xup_ne, xup_self, xup_k, xjl_i, xjl_r, xjl_j, xjl_l, Option.toList_some, Option.toList_none, List.cons_append, List.nil_append, xr_0_0, xr_0_1, xr_0_2, xr_0_3, xr_0_4, xr_0_5, xr_0_6, xr_0_7, xr_1_0, xr_1_1, xr_4_5, xr_4_6, xr_4_7, xr_4_8, xr_8_0, xr_10_5, xr_10_6, xr_10_7, xr_10_8, xr_14_0, xr_16_0, xr_16_1, xr_16_2, xr_20_0, xr_21_0, xr_21_1, xr_22_0, xr_24_0, xr_26_0, xr_26_1, xr_26_2, xr_30_0, xr_30_1, xr_30_2, xr_30_3, xr_30_4, xr_30_5, xr_30_6, xr_30_7, xr_31_0, xr_39_0, xr_39_1, xr_39_2, xr_42_0, xr_42_2, xr_42_3, xr_42_4, xr_42_5, xr_42_6, xr_42_8, xr_42_10, xr_42_13, xr_42_14, xr_42_15, xr_42_16, xr_42_23, xr_42_24, xr_42_25]
  exact lp_lastStep hQ0 hQ (M 26 3).toNat 0 0 (by omega) (by omega) (fun i a b => by omega)
def fN (w : xM) (h : Int → Int → Int) (M : xM) (s : Int) (i : Nat) : Bool := !(decide (M 28 i = s)) || okC w h M i
theorem lp_fitNow {s : Nat} (hw : zW w) (hs : s ≤ 60) (hR : cR w (zR w h s) s M) (hQ0 : cQ w M) : ∀ (k n : Nat), (n : Int) + k = M 26 3 → Wp 39 2 [xr 26, xr 30, xi n] [] M Q = Q (some (xi (if xal (fun j => fN w h M s (n + j)) k then 1 else 0))) M := by
  have h1 := hQ0.1
  have hw1 := hw.1
  have hw2 := hw.2.1
  have hw3 := hw.2.2.1
  have hstep := hR.2.2.1
  intro k
  induction k with
  | zero =>
    intro n hn
    rw [w39_2]
    simp (disch := first | assumption | decide +kernel | exact hM _ _ | exact hL _ | exact xG_b | exact xG_bt _ _ | omega) only [w39_3, w39_4, w39_7, w39_50, w39_51, true_implies, false_implies, not_true_eq_false, not_false_eq_true, and_true, true_and, Int.reduceEq, Int.reduceLE, Int.reduceLT, Int.reduceNeg, xb_eq0, xb_eq1, xup_ne, xup_self, xup_k, xjl_i, xjl_r, xjl_j, xjl_l, Option.toList_some, Option.toList_none, List.cons_append, List.nil_append, xr_0_0, xr_0_1, xr_0_2, xr_0_3, xr_0_4, xr_0_5, xr_0_6, xr_0_7, xr_1_0, xr_1_1, xr_4_5, xr_4_6, xr_4_7, xr_4_8, xr_8_0, xr_10_5, xr_10_6, xr_10_7, xr_10_8, xr_14_0, xr_16_0, xr_16_1, xr_16_2, xr_20_0, xr_21_0, xr_21_1, xr_22_0, xr_24_0, xr_26_0, xr_26_1, xr_26_2, xr_30_0, xr_30_1, xr_30_2, xr_30_3, xr_30_4, xr_30_5, xr_30_6, xr_30_7, xr_31_0, xr_39_0, xr_39_1, xr_39_2, xr_42_0, xr_42_2, xr_42_3, xr_42_4, xr_42_5, xr_42_6, xr_42_8, xr_42_10, xr_42_13, xr_42_14, xr_42_15, xr_42_16, xr_42_23, xr_42_24, xr_42_25]
    rw [xbr_t (by omega)]
    rfl
  | succ k ih =>
    intro n hn
    have h2 := hQ0.2 n (by omega) (by omega)
    have e5 := hR.1.2.2.2.2.1 (M 27 n) h2.1.1 h2.1.2
    have hst := hw.2.2.2.1 (M 27 n) h2.1.1 h2.1.2
    have e38 := hR.2.2.2.2.2.2 (w 1 (M 27 n)) hst.1 (by omega)
    have hall := zAll_rng w (zR w h s) (w 1 (M 27 n))
    have hr5 : 0 ≤ M 5 (M 27 n) ∧ M 5 (M 27 n) < 24 := by omega
    have hg : xG (M 38 (M 5 (M 27 n))) := by rw [e5, e38]; constructor <;> omega
    have hsk : fN w h M s n = true → Wp 39 44 [xr 26, xr 30, xi n] [] M Q = Q (some (xi (if xal (fun j => fN w h M s (n + j)) (k + 1) then 1 else 0))) M := by
      intro hc
      simp (disch := first | assumption | decide +kernel | exact hM _ _ | exact hL _ | exact xG_b | exact xG_bt _ _ | omega) only [w39_44, w39_47, true_implies, false_implies, not_true_eq_false, not_false_eq_true, and_true, true_and, Int.reduceEq, Int.reduceLE, Int.reduceLT, Int.reduceNeg, xb_eq0, xb_eq1, xup_ne, xup_self, xup_k, xjl_i, xjl_r, xjl_j, xjl_l, Option.toList_some, Option.toList_none, List.cons_append, List.nil_append, xr_0_0, xr_0_1, xr_0_2, xr_0_3, xr_0_4, xr_0_5, xr_0_6, xr_0_7, xr_1_0, xr_1_1, xr_4_5, xr_4_6, xr_4_7, xr_4_8, xr_8_0, xr_10_5, xr_10_6, xr_10_7, xr_10_8, xr_14_0, xr_16_0, xr_16_1, xr_16_2, xr_20_0, xr_21_0, xr_21_1, xr_22_0, xr_24_0, xr_26_0, xr_26_1, xr_26_2, xr_30_0, xr_30_1, xr_30_2, xr_30_3, xr_30_4, xr_30_5, xr_30_6, xr_30_7, xr_31_0, xr_39_0, xr_39_1, xr_39_2, xr_42_0, xr_42_2, xr_42_3, xr_42_4, xr_42_5, xr_42_6, xr_42_8, xr_42_10, xr_42_13, xr_42_14, xr_42_15, xr_42_16, xr_42_23, xr_42_24, xr_42_25]
      have := ih (n + 1) (by omega)
      rw [show ((n + 1 : Nat) : Int) = n + 1 by omega] at this
      rw [this, xal_f (f := fN w h M s), hc, Bool.true_and]
    rw [w39_2]
    simp (disch := first | assumption | decide +kernel | exact hM _ _ | exact hL _ | exact xG_b | exact xG_bt _ _ | omega) only [w39_3, w39_4, w39_7, w39_10, w39_11, w39_14, w39_15, w39_16, w39_17, w39_20, w39_23, w39_24, w39_27, w39_28, w39_29, w39_30, w39_31, w39_34, w39_35, w39_36, true_implies, false_implies, not_true_eq_false, not_false_eq_true, and_true, true_and, Int.reduceEq, Int.reduceLE, Int.reduceLT, Int.reduceNeg, xb_eq0, xb_eq1, xup_ne, xup_self, xup_k, xjl_i, xjl_r, xjl_j, xjl_l, Option.toList_some, Option.toList_none, List.cons_append, List.nil_append, xr_0_0, xr_0_1, xr_0_2, xr_0_3, xr_0_4, xr_0_5, xr_0_6, xr_0_7, xr_1_0, xr_1_1, xr_4_5, xr_4_6, xr_4_7, xr_4_8, xr_8_0, xr_10_5, xr_10_6, xr_10_7, xr_10_8, xr_14_0, xr_16_0, xr_16_1, xr_16_2, xr_20_0, xr_21_0, xr_21_1, xr_22_0, xr_24_0, xr_26_0, xr_26_1, xr_26_2, xr_30_0, xr_30_1, xr_30_2, xr_30_3, xr_30_4, xr_30_5, xr_30_6, xr_30_7, xr_31_0, xr_39_0, xr_39_1, xr_39_2, xr_42_0, xr_42_2, xr_42_3, xr_42_4, xr_42_5, xr_42_6, xr_42_8, xr_42_10, xr_42_13, xr_42_14, xr_42_15, xr_42_16, xr_42_23, xr_42_24, xr_42_25, q_someAt]
    rw [xbr_f (by omega), hstep]
    by_cases hc : M 28 n = s
    · rw [xbr_t' hc]
      simp (disch := first | assumption | decide +kernel | exact hM _ _ | exact hL _ | exact xG_b | exact xG_bt _ _ | omega) only [w39_39, w39_42, w39_43, true_implies, false_implies, not_true_eq_false, not_false_eq_true, and_true, true_and, Int.reduceEq, Int.reduceLE, Int.reduceLT, Int.reduceNeg, xb_eq0, xb_eq1, xup_ne, xup_self, xup_k, xjl_i, xjl_r, xjl_j, xjl_l, Option.toList_some, Option.toList_none, List.cons_append, List.nil_append, xr_0_0, xr_0_1, xr_0_2, xr_0_3, xr_0_4, xr_0_5, xr_0_6, xr_0_7, xr_1_0, xr_1_1, xr_4_5, xr_4_6, xr_4_7, xr_4_8, xr_8_0, xr_10_5, xr_10_6, xr_10_7, xr_10_8, xr_14_0, xr_16_0, xr_16_1, xr_16_2, xr_20_0, xr_21_0, xr_21_1, xr_22_0, xr_24_0, xr_26_0, xr_26_1, xr_26_2, xr_30_0, xr_30_1, xr_30_2, xr_30_3, xr_30_4, xr_30_5, xr_30_6, xr_30_7, xr_31_0, xr_39_0, xr_39_1, xr_39_2, xr_42_0, xr_42_2, xr_42_3, xr_42_4, xr_42_5, xr_42_6, xr_42_8, xr_42_10, xr_42_13, xr_42_14, xr_42_15, xr_42_16, xr_42_23, xr_42_24, xr_42_25]
      rw [e5, e38]
      have hz : zAny w h (M 27 n) (M 28 n) = decide (0 < zAll w (zR w h s) (w 1 (M 27 n))) := by rw [zAny, hc]; rfl
      by_cases hb : M 29 n = if 0 < zAll w (zR w h s) (w 1 (M 27 n)) then 1 else 0
      · rw [xbr_t hb]
        apply hsk
        rw [fN, okC, hz, hb]
        by_cases h9 : 0 < zAll w (zR w h s) (w 1 (M 27 n)) <;> simp [h9]
      · rw [xbr_f hb]
        have hf : fN w h M s n = false := by
          rw [fN, okC, hz]
          by_cases h9 : 0 < zAll w (zR w h s) (w 1 (M 27 n))
          · rw [if_pos h9] at hb
            simp [h9, hb, hc]
          · rw [if_neg h9] at hb
            have : M 29 n = 1 := by omega
            simp [h9, this, hc]
        rw [xal_f (f := fN w h M s), hf, Bool.false_and]
        rfl
    · rw [xbr_f' hc]
      exact hsk (by simp [fN, hc])
theorem lp_fit (hw : zW w) {M0 : xM} (hQ0 : cQ w M0) {L : Nat} (hL : L ≤ 60) (hL2 : ∀ i, 0 ≤ i → i < M0 26 3 → M0 28 i ≤ L) (hQ : ∀ M', cG M0 M' → Q (some (xi (if xal (okC w h M0) (M0 26 3).toNat then 1 else 0))) M') : ∀ (k n : Nat) (M1 : xM), n + k = L + 1 → 1 ≤ n → (∀ i : Nat, (i : Int) < M0 26 3 → M0 28 i < n → okC w h M0 i = true) → cR w (zR w h (n - 1)) ((n - 1 : Nat) : Int) M1 → cH w h 0 60 M1 → cG M0 M1 → Wp 38 7 [xr 26, xr 30, xi L, xi n] [] M1 Q := by
  have h1 := hQ0.1
  intro k
  induction k with
  | zero =>
    intro n M1 hn h1n hok hR hH hG
    have hq := hQ M1 hG
    rw [if_pos (xal_iff.mpr (fun i hi => hok i (by omega) (by have := hL2 i (by omega) (by omega); omega)))] at hq
    rw [w38_7]
    simp (disch := first | assumption | decide +kernel | exact hM _ _ | exact hL _ | exact xG_b | exact xG_bt _ _ | omega) only [w38_8, w38_9, w38_33, w38_34, true_implies, false_implies, not_true_eq_false, not_false_eq_true, and_true, true_and, Int.reduceEq, Int.reduceLE, Int.reduceLT, Int.reduceNeg, xb_eq0, xb_eq1, xup_ne, xup_self, xup_k, xjl_i, xjl_r, xjl_j, xjl_l, Option.toList_some, Option.toList_none, List.cons_append, List.nil_append, xr_0_0, xr_0_1, xr_0_2, xr_0_3, xr_0_4, xr_0_5, xr_0_6, xr_0_7, xr_1_0, xr_1_1, xr_4_5, xr_4_6, xr_4_7, xr_4_8, xr_8_0, xr_10_5, xr_10_6, xr_10_7, xr_10_8, xr_14_0, xr_16_0, xr_16_1, xr_16_2, xr_20_0, xr_21_0, xr_21_1, xr_22_0, xr_24_0, xr_26_0, xr_26_1, xr_26_2, xr_30_0, xr_30_1, xr_30_2, xr_30_3, xr_30_4, xr_30_5, xr_30_6, xr_30_7, xr_31_0, xr_39_0, xr_39_1, xr_39_2, xr_42_0, xr_42_2, xr_42_3, xr_42_4, xr_42_5, xr_42_6, xr_42_8, xr_42_10, xr_42_13, xr_42_14, xr_42_15, xr_42_16, xr_42_23, xr_42_24, xr_42_25]
    rw [xbr_t (by omega)]
    exact hq
  | succ k ih =>
    intro n M1 hn h1n hok hR hH hG
    rw [w38_7]
    simp (disch := first | assumption | decide +kernel | exact hM _ _ | exact hL _ | exact xG_b | exact xG_bt _ _ | omega) only [w38_8, w38_9, w38_12, w38_13, w38_14, true_implies, false_implies, not_true_eq_false, not_false_eq_true, and_true, true_and, Int.reduceEq, Int.reduceLE, Int.reduceLT, Int.reduceNeg, xb_eq0, xb_eq1, xup_ne, xup_self, xup_k, xjl_i, xjl_r, xjl_j, xjl_l, Option.toList_some, Option.toList_none, List.cons_append, List.nil_append, xr_0_0, xr_0_1, xr_0_2, xr_0_3, xr_0_4, xr_0_5, xr_0_6, xr_0_7, xr_1_0, xr_1_1, xr_4_5, xr_4_6, xr_4_7, xr_4_8, xr_8_0, xr_10_5, xr_10_6, xr_10_7, xr_10_8, xr_14_0, xr_16_0, xr_16_1, xr_16_2, xr_20_0, xr_21_0, xr_21_1, xr_22_0, xr_24_0, xr_26_0, xr_26_1, xr_26_2, xr_30_0, xr_30_1, xr_30_2, xr_30_3, xr_30_4, xr_30_5, xr_30_6, xr_30_7, xr_31_0, xr_39_0, xr_39_1, xr_39_2, xr_42_0, xr_42_2, xr_42_3, xr_42_4, xr_42_5, xr_42_6, xr_42_8, xr_42_10, xr_42_13, xr_42_14, xr_42_15, xr_42_16, xr_42_23, xr_42_24, xr_42_25]
    rw [xbr_f (by omega)]
    refine q_goTo (h := h) hw (n := n - 1) (m := n) (by omega) (by omega) hR (fun t h1 h2 => hH t (by omega) (by omega)) (fun M2 hR2 hF2 => ?_)
    have hG2 := cG_tr hG (cG_F hF2)
    have e26 := hG2 26 (by omega)
    have e27 := hG2 27 (by omega)
    have e28 := hG2 28 (by omega)
    have e29 := hG2 29 (by omega)
    have hQ2 : cQ w M2 := by unfold cQ; rw [e26, e27, e28, e29]; exact hQ0
    have hok2 : okC w h M2 = okC w h M0 := by funext i; rw [okC, okC, e27, e28, e29]
    simp (disch := first | assumption | decide +kernel | exact hM _ _ | exact hL _ | exact xG_b | exact xG_bt _ _ | omega) only [w38_17, w38_18, w38_19, wc39, w39_0, w39_1, true_implies, false_implies, not_true_eq_false, not_false_eq_true, and_true, true_and, Int.reduceEq, Int.reduceLE, Int.reduceLT, Int.reduceNeg, xb_eq0, xb_eq1, xup_ne, xup_self, xup_k, xjl_i, xjl_r, xjl_j, xjl_l, Option.toList_some, Option.toList_none, List.cons_append, List.nil_append, xr_0_0, xr_0_1, xr_0_2, xr_0_3, xr_0_4, xr_0_5, xr_0_6, xr_0_7, xr_1_0, xr_1_1, xr_4_5, xr_4_6, xr_4_7, xr_4_8, xr_8_0, xr_10_5, xr_10_6, xr_10_7, xr_10_8, xr_14_0, xr_16_0, xr_16_1, xr_16_2, xr_20_0, xr_21_0, xr_21_1, xr_22_0, xr_24_0, xr_26_0, xr_26_1, xr_26_2, xr_30_0, xr_30_1, xr_30_2, xr_30_3, xr_30_4, xr_30_5, xr_30_6, xr_30_7, xr_31_0, xr_39_0, xr_39_1, xr_39_2, xr_42_0, xr_42_2, xr_42_3, xr_42_4, xr_42_5, xr_42_6, xr_42_8, xr_42_10, xr_42_13, xr_42_14, xr_42_15, xr_42_16, xr_42_23, xr_42_24, xr_42_25]
    rw [show (0 : Int) = ((0 : Nat) : Int) from rfl, lp_fitNow hw (s := n) (by omega) hR2 hQ2 (M2 26 3).toNat 0 (by rw [e26]; omega)]
    rw [e26]
    have hN : (fun j => fN w h M2 n (0 + j)) = fN w h M0 n := by funext i; rw [fN, fN, hok2, e28, Nat.zero_add]
    rw [hN]
    cases hx : xal (fN w h M0 n) (M0 26 3).toNat with
    | false =>
      have hq := hQ M2 hG2
      have hf : xal (okC w h M0) (M0 26 3).toNat = false := by
        cases hy : xal (okC w h M0) (M0 26 3).toNat with
        | false => rfl
        | true =>
          have := xal_iff.mp hy
          rw [xal_iff.mpr (fun i hi => by rw [fN, this i hi, Bool.or_true])] at hx
          cases hx
      rw [hf, if_neg (by decide)] at hq
      rw [if_neg (by decide)]
      simp (disch := first | assumption | decide +kernel | exact hM _ _ | exact hL _ | exact xG_b | exact xG_bt _ _ | omega) only [w38_22, w38_25, w38_26, true_implies, false_implies, not_true_eq_false, not_false_eq_true, and_true, true_and, Int.reduceEq, Int.reduceLE, Int.reduceLT, Int.reduceNeg, xb_eq0, xb_eq1, xup_ne, xup_self, xup_k, xjl_i, xjl_r, xjl_j, xjl_l, Option.toList_some, Option.toList_none, List.cons_append, List.nil_append, xr_0_0, xr_0_1, xr_0_2, xr_0_3, xr_0_4, xr_0_5, xr_0_6, xr_0_7, xr_1_0, xr_1_1, xr_4_5, xr_4_6, xr_4_7, xr_4_8, xr_8_0, xr_10_5, xr_10_6, xr_10_7, xr_10_8, xr_14_0, xr_16_0, xr_16_1, xr_16_2, xr_20_0, xr_21_0, xr_21_1, xr_22_0, xr_24_0, xr_26_0, xr_26_1, xr_26_2, xr_30_0, xr_30_1, xr_30_2, xr_30_3, xr_30_4, xr_30_5, xr_30_6, xr_30_7, xr_31_0, xr_39_0, xr_39_1, xr_39_2, xr_42_0, xr_42_2, xr_42_3, xr_42_4, xr_42_5, xr_42_6, xr_42_8, xr_42_10, xr_42_13, xr_42_14, xr_42_15, xr_42_16, xr_42_23, xr_42_24, xr_42_25]
      exact hq
    | true =>
      rw [if_pos rfl]
      simp (disch := first | assumption | decide +kernel | exact hM _ _ | exact hL _ | exact xG_b | exact xG_bt _ _ | omega) only [w38_22, w38_27, w38_30, true_implies, false_implies, not_true_eq_false, not_false_eq_true, and_true, true_and, Int.reduceEq, Int.reduceLE, Int.reduceLT, Int.reduceNeg, xb_eq0, xb_eq1, xup_ne, xup_self, xup_k, xjl_i, xjl_r, xjl_j, xjl_l, Option.toList_some, Option.toList_none, List.cons_append, List.nil_append, xr_0_0, xr_0_1, xr_0_2, xr_0_3, xr_0_4, xr_0_5, xr_0_6, xr_0_7, xr_1_0, xr_1_1, xr_4_5, xr_4_6, xr_4_7, xr_4_8, xr_8_0, xr_10_5, xr_10_6, xr_10_7, xr_10_8, xr_14_0, xr_16_0, xr_16_1, xr_16_2, xr_20_0, xr_21_0, xr_21_1, xr_22_0, xr_24_0, xr_26_0, xr_26_1, xr_26_2, xr_30_0, xr_30_1, xr_30_2, xr_30_3, xr_30_4, xr_30_5, xr_30_6, xr_30_7, xr_31_0, xr_39_0, xr_39_1, xr_39_2, xr_42_0, xr_42_2, xr_42_3, xr_42_4, xr_42_5, xr_42_6, xr_42_8, xr_42_10, xr_42_13, xr_42_14, xr_42_15, xr_42_16, xr_42_23, xr_42_24, xr_42_25]
      refine ih (n + 1) M2 (by omega) (by omega) (fun i a b => ?_) hR2 (cH_F hH hF2) hG2
      by_cases e : M0 28 i = n
      · have := xal_iff.mp hx i (by omega)
        simpa [fN, e] using this
      · exact hok i a (by omega)
theorem q_fit (hw : zW w) (hQ0 : cQ w M) (hR : cR w (zR w h 0) 0 M) (hH : cH w h 0 60 M) (hQ : ∀ M', cG M M' → Q (some (xi (if xal (okC w h M) (M 26 3).toNat then 1 else 0))) M') : Wc 38 [xr 26, xr 30] M Q := by
  simp (disch := first | assumption | decide +kernel | exact hM _ _ | exact hL _ | exact xG_b | exact xG_bt _ _ | omega) only [w38_0, w38_1, wc38, true_implies, false_implies, not_true_eq_false, not_false_eq_true, and_true, true_and, Int.reduceEq, Int.reduceLE, Int.reduceLT, Int.reduceNeg, xb_eq0, xb_eq1, xup_ne, xup_self, xup_k, xjl_i, xjl_r, xjl_j, xjl_l, Option.toList_some, Option.toList_none, List.cons_append, List.nil_append, xr_0_0, xr_0_1, xr_0_2, xr_0_3, xr_0_4, xr_0_5, xr_0_6, xr_0_7, xr_1_0, xr_1_1, xr_4_5, xr_4_6, xr_4_7, xr_4_8, xr_8_0, xr_10_5, xr_10_6, xr_10_7, xr_10_8, xr_14_0, xr_16_0, xr_16_1, xr_16_2, xr_20_0, xr_21_0, xr_21_1, xr_22_0, xr_24_0, xr_26_0, xr_26_1, xr_26_2, xr_30_0, xr_30_1, xr_30_2, xr_30_3, xr_30_4, xr_30_5, xr_30_6, xr_30_7, xr_31_0, xr_39_0, xr_39_1, xr_39_2, xr_42_0, xr_42_2, xr_42_3, xr_42_4, xr_42_5, xr_42_6, xr_42_8, xr_42_10, xr_42_13, xr_42_14, xr_42_15, xr_42_16, xr_42_23, xr_42_24, xr_42_25]
  refine q_lastStep hQ0 (fun L hL hL2 => ?_)
  obtain ⟨L', rfl⟩ : ∃ m : Nat, L = m := ⟨L.toNat, by omega⟩
  simp (disch := first | assumption | decide +kernel | exact hM _ _ | exact hL _ | exact xG_b | exact xG_bt _ _ | omega) only [w38_4, w38_5, w38_6, true_implies, false_implies, not_true_eq_false, not_false_eq_true, and_true, true_and, Int.reduceEq, Int.reduceLE, Int.reduceLT, Int.reduceNeg, xb_eq0, xb_eq1, xup_ne, xup_self, xup_k, xjl_i, xjl_r, xjl_j, xjl_l, Option.toList_some, Option.toList_none, List.cons_append, List.nil_append, xr_0_0, xr_0_1, xr_0_2, xr_0_3, xr_0_4, xr_0_5, xr_0_6, xr_0_7, xr_1_0, xr_1_1, xr_4_5, xr_4_6, xr_4_7, xr_4_8, xr_8_0, xr_10_5, xr_10_6, xr_10_7, xr_10_8, xr_14_0, xr_16_0, xr_16_1, xr_16_2, xr_20_0, xr_21_0, xr_21_1, xr_22_0, xr_24_0, xr_26_0, xr_26_1, xr_26_2, xr_30_0, xr_30_1, xr_30_2, xr_30_3, xr_30_4, xr_30_5, xr_30_6, xr_30_7, xr_31_0, xr_39_0, xr_39_1, xr_39_2, xr_42_0, xr_42_2, xr_42_3, xr_42_4, xr_42_5, xr_42_6, xr_42_8, xr_42_10, xr_42_13, xr_42_14, xr_42_15, xr_42_16, xr_42_23, xr_42_24, xr_42_25]
  exact lp_fit (h := h) hw hQ0 (L := L') (by omega) hL2 hQ L' 1 M (by omega) (by omega) (fun i a b => by have := hQ0.2 i (by omega) a; omega) hR hH cG_rf
def aFits (w : xM) (h : Int → Int → Int) (M : xM) (p : Int) : Int := if 0 ≤ p ∧ p < w 0 2 then xbits (fun s => xal (okC (xup w 3 p s) h M) (M 26 3).toNat) 31 else -1
theorem lp_fits (hw : zW w) (hB : cB w M) (hQ0 : cQ w M) {p : Int} (hp : 0 ≤ p ∧ p < w 0 2) (hQ : ∀ M', cG M M' → Q (some (xi (xbits (fun s => xal (okC (xup w 3 p s) (hC M) M) (M 26 3).toNat) 31))) M') : ∀ (k n : Nat) (M1 : xM), n + k = 31 → cG M M1 → Wp 64 17 [xr 0, xi p, xi (xbits (fun s => xal (okC (xup w 3 p s) (hC M) M) (M 26 3).toNat) n), xi n] [] M1 Q := by
  have hw3 := hw.2.2.1
  intro k
  induction k with
  | zero =>
    intro n M1 hn hG
    have e : n = 31 := by omega
    subst e
    rw [w64_17]
    simp (disch := first | assumption | decide +kernel | exact hM _ _ | exact hL _ | exact xG_b | exact xG_bt _ _ | omega) only [w64_18, w64_20, w64_69, w64_70, true_implies, false_implies, not_true_eq_false, not_false_eq_true, and_true, true_and, Int.reduceEq, Int.reduceLE, Int.reduceLT, Int.reduceNeg, xb_eq0, xb_eq1, xup_ne, xup_self, xup_k, xjl_i, xjl_r, xjl_j, xjl_l, Option.toList_some, Option.toList_none, List.cons_append, List.nil_append, xr_0_0, xr_0_1, xr_0_2, xr_0_3, xr_0_4, xr_0_5, xr_0_6, xr_0_7, xr_1_0, xr_1_1, xr_4_5, xr_4_6, xr_4_7, xr_4_8, xr_8_0, xr_10_5, xr_10_6, xr_10_7, xr_10_8, xr_14_0, xr_16_0, xr_16_1, xr_16_2, xr_20_0, xr_21_0, xr_21_1, xr_22_0, xr_24_0, xr_26_0, xr_26_1, xr_26_2, xr_30_0, xr_30_1, xr_30_2, xr_30_3, xr_30_4, xr_30_5, xr_30_6, xr_30_7, xr_31_0, xr_39_0, xr_39_1, xr_39_2, xr_42_0, xr_42_2, xr_42_3, xr_42_4, xr_42_5, xr_42_6, xr_42_8, xr_42_10, xr_42_13, xr_42_14, xr_42_15, xr_42_16, xr_42_23, xr_42_24, xr_42_25]
    rw [xbr_t (by omega)]
    exact hQ M1 hG
  | succ k ih =>
    intro n M1 hn hG
    rw [w64_17]
    simp (disch := first | assumption | decide +kernel | exact hM _ _ | exact hL _ | exact xG_b | exact xG_bt _ _ | omega) only [w64_18, w64_20, w64_23, w64_24, w64_27, true_implies, false_implies, not_true_eq_false, not_false_eq_true, and_true, true_and, Int.reduceEq, Int.reduceLE, Int.reduceLT, Int.reduceNeg, xb_eq0, xb_eq1, xup_ne, xup_self, xup_k, xjl_i, xjl_r, xjl_j, xjl_l, Option.toList_some, Option.toList_none, List.cons_append, List.nil_append, xr_0_0, xr_0_1, xr_0_2, xr_0_3, xr_0_4, xr_0_5, xr_0_6, xr_0_7, xr_1_0, xr_1_1, xr_4_5, xr_4_6, xr_4_7, xr_4_8, xr_8_0, xr_10_5, xr_10_6, xr_10_7, xr_10_8, xr_14_0, xr_16_0, xr_16_1, xr_16_2, xr_20_0, xr_21_0, xr_21_1, xr_22_0, xr_24_0, xr_26_0, xr_26_1, xr_26_2, xr_30_0, xr_30_1, xr_30_2, xr_30_3, xr_30_4, xr_30_5, xr_30_6, xr_30_7, xr_31_0, xr_39_0, xr_39_1, xr_39_2, xr_42_0, xr_42_2, xr_42_3, xr_42_4, xr_42_5, xr_42_6, xr_42_8, xr_42_10, xr_42_13, xr_42_14, xr_42_15, xr_42_16, xr_42_23, xr_42_24, xr_42_25]
    rw [xbr_f (by omega)]
    have e81 : M1 8 = M 8 := hG 8 (by omega)
    refine q_begin (h := hC M) hw (cB_G hB hG) (fun M2 hR2 e2 hG2 => ?_)
    simp (disch := first | assumption | decide +kernel | exact hM _ _ | exact hL _ | exact xG_b | exact xG_bt _ _ | omega) only [w64_30, w64_31, w64_34, w64_37, w64_40, w64_41, w64_42, w64_43, w64_44, w64_47, w64_48, w64_51, true_implies, false_implies, not_true_eq_false, not_false_eq_true, and_true, true_and, Int.reduceEq, Int.reduceLE, Int.reduceLT, Int.reduceNeg, xb_eq0, xb_eq1, xup_ne, xup_self, xup_k, xjl_i, xjl_r, xjl_j, xjl_l, Option.toList_some, Option.toList_none, List.cons_append, List.nil_append, xr_0_0, xr_0_1, xr_0_2, xr_0_3, xr_0_4, xr_0_5, xr_0_6, xr_0_7, xr_1_0, xr_1_1, xr_4_5, xr_4_6, xr_4_7, xr_4_8, xr_8_0, xr_10_5, xr_10_6, xr_10_7, xr_10_8, xr_14_0, xr_16_0, xr_16_1, xr_16_2, xr_20_0, xr_21_0, xr_21_1, xr_22_0, xr_24_0, xr_26_0, xr_26_1, xr_26_2, xr_30_0, xr_30_1, xr_30_2, xr_30_3, xr_30_4, xr_30_5, xr_30_6, xr_30_7, xr_31_0, xr_39_0, xr_39_1, xr_39_2, xr_42_0, xr_42_2, xr_42_3, xr_42_4, xr_42_5, xr_42_6, xr_42_8, xr_42_10, xr_42_13, xr_42_14, xr_42_15, xr_42_16, xr_42_23, xr_42_24, xr_42_25]
    have hW2 := zW_start (p := p) (s := n) hw (by omega)
    have hG3 : cG M (xup M2 32 p n) := fun c hc => by rw [xup_ne (by omega), hG2 c hc]; exact hG c hc
    have e26 := hG3 26 (by omega)
    have e27 := hG3 27 (by omega)
    have e28 := hG3 28 (by omega)
    have e29 := hG3 29 (by omega)
    refine q_fit (w := xup w 3 p n) (h := hC M) hW2 (by unfold cQ; rw [e26, e27, e28, e29]; exact hQ0) (cR_start hR2) (fun t' h1 h2 q h3 h4 => by rw [xup_ne (by omega), e2, e81]) (fun M3 hG4 => ?_)
    have hok2 : okC (xup w 3 p n) (hC M) (xup M2 32 p n) = okC (xup w 3 p n) (hC M) M := by funext i; rw [okC, okC, e27, e28, e29]
    rw [hok2, e26]
    have ih' := ih (n + 1) M3 (by omega) (cG_tr hG3 hG4)
    rw [xbits] at ih'
    cases hx : xal (okC (xup w 3 p n) (hC M) M) (M 26 3).toNat with
    | true =>
      rw [hx, if_pos rfl] at ih'
      rw [if_pos rfl]
      simp (disch := first | assumption | decide +kernel | exact hM _ _ | exact hL _ | exact xG_b | exact xG_bt _ _ | omega) only [w64_54, w64_57, w64_58, w64_59, w64_60, w64_61, w64_62, w64_63, w64_66, true_implies, false_implies, not_true_eq_false, not_false_eq_true, and_true, true_and, Int.reduceEq, Int.reduceLE, Int.reduceLT, Int.reduceNeg, xb_eq0, xb_eq1, xup_ne, xup_self, xup_k, xjl_i, xjl_r, xjl_j, xjl_l, Option.toList_some, Option.toList_none, List.cons_append, List.nil_append, xr_0_0, xr_0_1, xr_0_2, xr_0_3, xr_0_4, xr_0_5, xr_0_6, xr_0_7, xr_1_0, xr_1_1, xr_4_5, xr_4_6, xr_4_7, xr_4_8, xr_8_0, xr_10_5, xr_10_6, xr_10_7, xr_10_8, xr_14_0, xr_16_0, xr_16_1, xr_16_2, xr_20_0, xr_21_0, xr_21_1, xr_22_0, xr_24_0, xr_26_0, xr_26_1, xr_26_2, xr_30_0, xr_30_1, xr_30_2, xr_30_3, xr_30_4, xr_30_5, xr_30_6, xr_30_7, xr_31_0, xr_39_0, xr_39_1, xr_39_2, xr_42_0, xr_42_2, xr_42_3, xr_42_4, xr_42_5, xr_42_6, xr_42_8, xr_42_10, xr_42_13, xr_42_14, xr_42_15, xr_42_16, xr_42_23, xr_42_24, xr_42_25]
      exact ih'
    | false =>
      rw [hx, if_neg (by decide)] at ih'
      rw [if_neg (by decide)]
      simp (disch := first | assumption | decide +kernel | exact hM _ _ | exact hL _ | exact xG_b | exact xG_bt _ _ | omega) only [w64_54, w64_57, w64_58, w64_59, w64_60, w64_61, w64_62, w64_63, w64_66, true_implies, false_implies, not_true_eq_false, not_false_eq_true, and_true, true_and, Int.reduceEq, Int.reduceLE, Int.reduceLT, Int.reduceNeg, xb_eq0, xb_eq1, xup_ne, xup_self, xup_k, xjl_i, xjl_r, xjl_j, xjl_l, Option.toList_some, Option.toList_none, List.cons_append, List.nil_append, xr_0_0, xr_0_1, xr_0_2, xr_0_3, xr_0_4, xr_0_5, xr_0_6, xr_0_7, xr_1_0, xr_1_1, xr_4_5, xr_4_6, xr_4_7, xr_4_8, xr_8_0, xr_10_5, xr_10_6, xr_10_7, xr_10_8, xr_14_0, xr_16_0, xr_16_1, xr_16_2, xr_20_0, xr_21_0, xr_21_1, xr_22_0, xr_24_0, xr_26_0, xr_26_1, xr_26_2, xr_30_0, xr_30_1, xr_30_2, xr_30_3, xr_30_4, xr_30_5, xr_30_6, xr_30_7, xr_31_0, xr_39_0, xr_39_1, xr_39_2, xr_42_0, xr_42_2, xr_42_3, xr_42_4, xr_42_5, xr_42_6, xr_42_8, xr_42_10, xr_42_13, xr_42_14, xr_42_15, xr_42_16, xr_42_23, xr_42_24, xr_42_25]
      exact ih'
theorem q8_fits {p : Int} (hp : xG p) (hw : zW w) (hB : cB w M) (hQ0 : cQ w M) (hQ : ∀ M', cG M M' → Q (some (xi (aFits w (hC M) M p))) M') : Wc 64 [xr 0, xi p] M Q := by
  have l3 := hB.1.2.2.1
  have hw3 := hw.2.2.1
  simp (disch := first | assumption | decide +kernel | exact hM _ _ | exact hL _ | exact xG_b | exact xG_bt _ _ | omega) only [w64_0, w64_1, w64_4, w64_5, w64_8, w64_11, w64_12, w64_13, w64_14, w64_15, w64_16, wc64, true_implies, false_implies, not_true_eq_false, not_false_eq_true, and_true, true_and, Int.reduceEq, Int.reduceLE, Int.reduceLT, Int.reduceNeg, xb_eq0, xb_eq1, xup_ne, xup_self, xup_k, xjl_i, xjl_r, xjl_j, xjl_l, Option.toList_some, Option.toList_none, List.cons_append, List.nil_append, xr_0_0, xr_0_1, xr_0_2, xr_0_3, xr_0_4, xr_0_5, xr_0_6, xr_0_7, xr_1_0, xr_1_1, xr_4_5, xr_4_6, xr_4_7, xr_4_8, xr_8_0, xr_10_5, xr_10_6, xr_10_7, xr_10_8, xr_14_0, xr_16_0, xr_16_1, xr_16_2, xr_20_0, xr_21_0, xr_21_1, xr_22_0, xr_24_0, xr_26_0, xr_26_1, xr_26_2, xr_30_0, xr_30_1, xr_30_2, xr_30_3, xr_30_4, xr_30_5, xr_30_6, xr_30_7, xr_31_0, xr_39_0, xr_39_1, xr_39_2, xr_42_0, xr_42_2, xr_42_3, xr_42_4, xr_42_5, xr_42_6, xr_42_8, xr_42_10, xr_42_13, xr_42_14, xr_42_15, xr_42_16, xr_42_23, xr_42_24, xr_42_25, q_hasPlatform]
  rw [xbr_n]
  by_cases h : 0 ≤ p ∧ p < M 4 2
  · rw [xbr_t h]
    rw [l3] at h
    exact lp_fits (M := M) hw hB hQ0 h (fun M' hG => by have := hQ M' hG; rw [aFits, if_pos h] at this; exact this) 31 0 M (by omega) cG_rf
  · rw [xbr_f h]
    rw [l3] at h
    have := hQ M cG_rf
    rw [aFits, if_neg h] at this
    exact this
end FITS
