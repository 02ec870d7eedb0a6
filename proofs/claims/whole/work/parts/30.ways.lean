section WAYS
variable {w z y M : xM} {Q : Option xV → xM → Prop} {h : Int → Int → Int}
/-- from platform to train, so many trains through; then so many platforms -/
def rOff1 (w z : xM) (p : Int) (y : xM) : Nat → xM
  | 0 => y
  | n + 1 => if z 0 p = w 1 n then xup (rOff1 w z p y n) 40 n (if rOff1 w z p y n 41 p < rOff1 w z p y n 40 n then rOff1 w z p y n 41 p else rOff1 w z p y n 40 n) else rOff1 w z p y n
def rOff (w z y : xM) : Nat → xM
  | 0 => y
  | n + 1 => rOff1 w z n (rOff w z y n) (w 0 1).toNat
def rOn1 (w z : xM) (p : Int) (y : xM) : Nat → xM
  | 0 => y
  | n + 1 => if z 0 p = w 1 n then xup (rOn1 w z p y n) 41 p (if rOn1 w z p y n 40 n + 1 < rOn1 w z p y n 41 p then rOn1 w z p y n 40 n + 1 else rOn1 w z p y n 41 p) else rOn1 w z p y n
def rOn (w z y : xM) : Nat → xM
  | 0 => y
  | n + 1 => rOn1 w z n (rOn w z y n) (w 0 1).toNat
def rCh (w z y : xM) : xM := rOff w z (rOn w z (rOff w z y (w 0 2).toNat) (w 0 2).toNat) (w 0 2).toNat
def rE (M y : xM) : Prop := (∀ t, 0 ≤ t → t < 5 → M 40 t = y 40 t) ∧ (∀ p, 0 ≤ p → p < 5 → M 41 p = y 41 p)
def rV (y : xM) : Prop := (∀ t, 0 ≤ t → t < 5 → 0 ≤ y 40 t ∧ y 40 t ≤ 1000000) ∧ (∀ p, 0 ≤ p → p < 5 → 0 ≤ y 41 p ∧ y 41 p ≤ 1000000)
/-- a run at a step, and all but the rider's two rows untouched -/
def rF (M M' : xM) : Prop := ∀ c, c ≠ 40 → c ≠ 41 → M' c = M c
theorem rF_tr {M M' M'' : xM} (h : rF M M') (h' : rF M' M'') : rF M M'' := fun c h1 h2 => (h' c h1 h2).trans (h c h1 h2)
theorem cR_rF {M' : xM} {s : Int} (hR : cR w z s M) (hF : rF M M') : cR w z s M' := by
  have e : ∀ c, c ≠ 40 → c ≠ 41 → M' c = M c := hF
  obtain ⟨⟨l1, l2, l3, l4, l5, l6⟩, ⟨s1, s2⟩, z1, z2, z3, z4, z5⟩ := hR
  refine ⟨⟨?_, ?_, ?_, ?_, ?_, ?_⟩, ⟨?_, ?_⟩, ?_, ?_, ?_, ?_, ?_⟩
  · rw [e 4 (by decide) (by decide)]; exact l1
  · rw [e 4 (by decide) (by decide)]; exact l2
  · rw [e 4 (by decide) (by decide)]; exact l3
  · rw [e 4 (by decide) (by decide)]; exact l4
  · rw [e 5 (by decide) (by decide)]; exact l5
  · rw [e 6 (by decide) (by decide)]; exact l6
  · rw [e 31 (by decide) (by decide)]; exact s1
  · rw [e 32 (by decide) (by decide)]; exact s2
  · rw [e 30 (by decide) (by decide)]; exact z1
  · rw [e 30 (by decide) (by decide)]; exact z2
  · rw [e 30 (by decide) (by decide)]; exact z3
  · rw [e 30 (by decide) (by decide), e 33 (by decide) (by decide), e 34 (by decide) (by decide), e 35 (by decide) (by decide), e 36 (by decide) (by decide), e 37 (by decide) (by decide)]; exact z4
  · rw [e 38 (by decide) (by decide)]; exact z5
theorem rV_off1 {p : Int} (hy : rV y) (hp : 0 ≤ p ∧ p < 5) : ∀ n : Nat, n ≤ 5 → rV (rOff1 w z p y n)
  | 0, _ => hy
  | n + 1, hn => by
    have ih := rV_off1 hy hp n (by omega)
    rw [rOff1]
    split
    · refine ⟨fun t h1 h2 => ?_, fun q h1 h2 => ih.2 q h1 h2⟩
      rw [xup_app]
      have a := ih.1 n (by omega) (by omega)
      have b := ih.2 p hp.1 hp.2
      have c := ih.1 t h1 h2
      by_cases e : t = n
      · rw [if_pos ⟨rfl, e⟩]; split <;> omega
      · rw [if_neg (fun y => e y.2)]; omega
    · exact ih
theorem rV_off (hy : rV y) (hw : zW w) : ∀ n : Nat, n ≤ 5 → rV (rOff w z y n)
  | 0, _ => hy
  | n + 1, hn => rV_off1 (rV_off hy hw n (by omega)) (by omega) _ (by have := hw.2.1; omega)
theorem rV_on1 {p : Int} (hy : rV y) (hp : 0 ≤ p ∧ p < 5) : ∀ n : Nat, n ≤ 5 → rV (rOn1 w z p y n)
  | 0, _ => hy
  | n + 1, hn => by
    have ih := rV_on1 hy hp n (by omega)
    rw [rOn1]
    split
    · refine ⟨fun q h1 h2 => ih.1 q h1 h2, fun t h1 h2 => ?_⟩
      rw [xup_app]
      have a := ih.1 n (by omega) (by omega)
      have b := ih.2 p hp.1 hp.2
      have c := ih.2 t h1 h2
      by_cases e : t = p
      · rw [if_pos ⟨rfl, e⟩]; split <;> omega
      · rw [if_neg (fun y => e y.2)]; omega
    · exact ih
theorem rV_on (hy : rV y) (hw : zW w) : ∀ n : Nat, n ≤ 5 → rV (rOn w z y n)
  | 0, _ => hy
  | n + 1, hn => rV_on1 (rV_on hy hw n (by omega)) (by omega) _ (by have := hw.2.1; omega)
theorem rV_ch (hy : rV y) (hw : zW w) : rV (rCh w z y) := by
  have h3 := hw.2.2.1
  exact rV_off (rV_on (rV_off hy hw _ (by omega)) hw _ (by omega)) hw _ (by omega)
theorem lp_off2 {s : Int} (hw : zW w) {b : Int} (hv : zV w z b) {p : Int} (hp : 0 ≤ p ∧ p < w 0 2) (hy : rV y) {M0 : xM} (hR : cR w z s M0) (hQ : ∀ M', rE M' (rOff1 w z p y (w 0 1).toNat) → rF M0 M' → Wp 44 71 [xr 39, xi p, xi (w 0 1)] [] M' Q) : ∀ (k n : Nat) (M1 : xM), (n : Int) + k = w 0 1 → rE M1 (rOff1 w z p y n) → rF M0 M1 → Wp 44 18 [xr 39, xi p, xi n] [] M1 Q := by
  have hw1 := hw.1
  have hw2 := hw.2.1
  have hw3 := hw.2.2.1
  intro k
  induction k with
  | zero =>
    intro n M1 hn hE hF
    have l2 := (cR_rF hR hF).1.2.1
    rw [w44_18]
    simp (disch := first | assumption | decide +kernel | exact hM _ _ | exact hL _ | exact xG_b | exact xG_bt _ _ | omega) only [w44_19, w44_20, w44_23, w44_26, w44_29, true_implies, false_implies, not_true_eq_false, not_false_eq_true, and_true, true_and, Int.reduceEq, Int.reduceLE, Int.reduceLT, Int.reduceNeg, xb_eq0, xb_eq1, xup_ne, xup_self, xup_k, xjl_i, xjl_r, xjl_j, xjl_l, Option.toList_some, Option.toList_none, List.cons_append, List.nil_append, xr_0_0, xr_0_1, xr_0_2, xr_0_3, xr_0_4, xr_0_5, xr_0_6, xr_0_7, xr_1_0, xr_1_1, xr_4_5, xr_4_6, xr_4_7, xr_4_8, xr_8_0, xr_10_5, xr_10_6, xr_10_7, xr_10_8, xr_14_0, xr_16_0, xr_16_1, xr_16_2, xr_20_0, xr_21_0, xr_21_1, xr_22_0, xr_24_0, xr_26_0, xr_26_1, xr_26_2, xr_30_0, xr_30_1, xr_30_2, xr_30_3, xr_30_4, xr_30_5, xr_30_6, xr_30_7, xr_31_0, xr_39_0, xr_39_1, xr_39_2, xr_42_0, xr_42_2, xr_42_3, xr_42_4, xr_42_5, xr_42_6, xr_42_8, xr_42_10, xr_42_13, xr_42_14, xr_42_15, xr_42_16, xr_42_23, xr_42_24, xr_42_25]
    rw [xbr_t (by omega)]
    have e : n = (w 0 1).toNat := by omega
    have e2 : (n : Int) = w 0 1 := by omega
    rw [e] at hE
    rw [e2]
    exact hQ M1 hE hF
  | succ k ih =>
    intro n M1 hn hE hF
    have hR1 := cR_rF hR hF
    have l2 := hR1.1.2.1
    have e1 : M1 33 p = z 0 p := (hR1.2.2.2.2.2.1 p hp.1 hp.2).1
    have e2 : M1 5 n = w 1 n := hR1.1.2.2.2.2.1 n (by omega) (by omega)
    have hvp := hv.1 p hp.1 hp.2
    have hst := hw.2.2.2.1 n (by omega) (by omega)
    have hV := rV_off1 (w := w) (z := z) hy (p := p) (by omega) n (by omega)
    have f1 := hE.1 n (by omega) (by omega)
    have f2 := hE.2 p hp.1 (by omega)
    have v1 := hV.1 n (by omega) (by omega)
    have v2 := hV.2 p hp.1 (by omega)
    rw [w44_18]
    simp (disch := first | assumption | decide +kernel | exact hM _ _ | exact hL _ | exact xG_b | exact xG_bt _ _ | omega) only [w44_19, w44_20, w44_23, w44_26, w44_29, w44_32, w44_33, w44_36, w44_37, w44_38, w44_41, w44_44, w44_45, w44_48, w44_49, w44_50, w44_53, w44_54, w44_55, w44_56, w44_59, w44_60, w44_61, w44_64, true_implies, false_implies, not_true_eq_false, not_false_eq_true, and_true, true_and, Int.reduceEq, Int.reduceLE, Int.reduceLT, Int.reduceNeg, xb_eq0, xb_eq1, xup_ne, xup_self, xup_k, xjl_i, xjl_r, xjl_j, xjl_l, Option.toList_some, Option.toList_none, List.cons_append, List.nil_append, xr_0_0, xr_0_1, xr_0_2, xr_0_3, xr_0_4, xr_0_5, xr_0_6, xr_0_7, xr_1_0, xr_1_1, xr_4_5, xr_4_6, xr_4_7, xr_4_8, xr_8_0, xr_10_5, xr_10_6, xr_10_7, xr_10_8, xr_14_0, xr_16_0, xr_16_1, xr_16_2, xr_20_0, xr_21_0, xr_21_1, xr_22_0, xr_24_0, xr_26_0, xr_26_1, xr_26_2, xr_30_0, xr_30_1, xr_30_2, xr_30_3, xr_30_4, xr_30_5, xr_30_6, xr_30_7, xr_31_0, xr_39_0, xr_39_1, xr_39_2, xr_42_0, xr_42_2, xr_42_3, xr_42_4, xr_42_5, xr_42_6, xr_42_8, xr_42_10, xr_42_13, xr_42_14, xr_42_15, xr_42_16, xr_42_23, xr_42_24, xr_42_25, q_isAt]
    rw [xbr_f (by omega), e1, e2]
    by_cases hc : z 0 p = w 1 n
    · rw [xbr_t' hc]
      simp (disch := first | assumption | decide +kernel | exact hM _ _ | exact hL _ | exact xG_b | exact xG_bt _ _ | omega) only [w44_65, w44_68, true_implies, false_implies, not_true_eq_false, not_false_eq_true, and_true, true_and, Int.reduceEq, Int.reduceLE, Int.reduceLT, Int.reduceNeg, xb_eq0, xb_eq1, xup_ne, xup_self, xup_k, xjl_i, xjl_r, xjl_j, xjl_l, Option.toList_some, Option.toList_none, List.cons_append, List.nil_append, xr_0_0, xr_0_1, xr_0_2, xr_0_3, xr_0_4, xr_0_5, xr_0_6, xr_0_7, xr_1_0, xr_1_1, xr_4_5, xr_4_6, xr_4_7, xr_4_8, xr_8_0, xr_10_5, xr_10_6, xr_10_7, xr_10_8, xr_14_0, xr_16_0, xr_16_1, xr_16_2, xr_20_0, xr_21_0, xr_21_1, xr_22_0, xr_24_0, xr_26_0, xr_26_1, xr_26_2, xr_30_0, xr_30_1, xr_30_2, xr_30_3, xr_30_4, xr_30_5, xr_30_6, xr_30_7, xr_31_0, xr_39_0, xr_39_1, xr_39_2, xr_42_0, xr_42_2, xr_42_3, xr_42_4, xr_42_5, xr_42_6, xr_42_8, xr_42_10, xr_42_13, xr_42_14, xr_42_15, xr_42_16, xr_42_23, xr_42_24, xr_42_25]
      refine ih (n + 1) _ (by omega) ?_ (fun c h1 h2 => by rw [xup_ne h1]; exact hF c h1 h2)
      rw [rOff1, if_pos hc]
      refine ⟨fun t h1 h2 => ?_, fun q h1 h2 => ?_⟩
      · rw [xup_app, xup_app, f1, f2]
        by_cases e : t = n
        · simp [e]
        · rw [if_neg (fun y => e y.2), if_neg (fun y => e y.2)]; exact hE.1 t h1 h2
      · rw [xup_ne (by decide), xup_ne (by decide)]; exact hE.2 q h1 h2
    · rw [xbr_f' hc]
      simp (disch := first | assumption | decide +kernel | exact hM _ _ | exact hL _ | exact xG_b | exact xG_bt _ _ | omega) only [w44_65, w44_68, true_implies, false_implies, not_true_eq_false, not_false_eq_true, and_true, true_and, Int.reduceEq, Int.reduceLE, Int.reduceLT, Int.reduceNeg, xb_eq0, xb_eq1, xup_ne, xup_self, xup_k, xjl_i, xjl_r, xjl_j, xjl_l, Option.toList_some, Option.toList_none, List.cons_append, List.nil_append, xr_0_0, xr_0_1, xr_0_2, xr_0_3, xr_0_4, xr_0_5, xr_0_6, xr_0_7, xr_1_0, xr_1_1, xr_4_5, xr_4_6, xr_4_7, xr_4_8, xr_8_0, xr_10_5, xr_10_6, xr_10_7, xr_10_8, xr_14_0, xr_16_0, xr_16_1, xr_16_2, xr_20_0, xr_21_0, xr_21_1, xr_22_0, xr_24_0, xr_26_0, xr_26_1, xr_26_2, xr_30_0, xr_30_1, xr_30_2, xr_30_3, xr_30_4, xr_30_5, xr_30_6, xr_30_7, xr_31_0, xr_39_0, xr_39_1, xr_39_2, xr_42_0, xr_42_2, xr_42_3, xr_42_4, xr_42_5, xr_42_6, xr_42_8, xr_42_10, xr_42_13, xr_42_14, xr_42_15, xr_42_16, xr_42_23, xr_42_24, xr_42_25]
      exact ih (n + 1) M1 (by omega) (by rw [rOff1, if_neg hc]; exact hE) hF
theorem lp_off1 {s : Int} (hw : zW w) {b : Int} (hv : zV w z b) (hy : rV y) {M0 : xM} (hR : cR w z s M0) (hQ : ∀ M', rE M' (rOff w z y (w 0 2).toNat) → rF M0 M' → Q none M') : ∀ (k n : Nat) (M1 : xM) (v2 : xV), (n : Int) + k = w 0 2 → rE M1 (rOff w z y n) → rF M0 M1 → Wp 44 2 [xr 39, xi n, v2] [] M1 Q := by
  have hw2 := hw.2.1
  have hw3 := hw.2.2.1
  intro k
  induction k with
  | zero =>
    intro n M1 v2 hn hE hF
    have l3 := (cR_rF hR hF).1.2.2.1
    rw [w44_2]
    simp (disch := first | assumption | decide +kernel | exact hM _ _ | exact hL _ | exact xG_b | exact xG_bt _ _ | omega) only [w44_3, w44_4, w44_7, w44_10, w44_13, w44_77, true_implies, false_implies, not_true_eq_false, not_false_eq_true, and_true, true_and, Int.reduceEq, Int.reduceLE, Int.reduceLT, Int.reduceNeg, xb_eq0, xb_eq1, xup_ne, xup_self, xup_k, xjl_i, xjl_r, xjl_j, xjl_l, Option.toList_some, Option.toList_none, List.cons_append, List.nil_append, xr_0_0, xr_0_1, xr_0_2, xr_0_3, xr_0_4, xr_0_5, xr_0_6, xr_0_7, xr_1_0, xr_1_1, xr_4_5, xr_4_6, xr_4_7, xr_4_8, xr_8_0, xr_10_5, xr_10_6, xr_10_7, xr_10_8, xr_14_0, xr_16_0, xr_16_1, xr_16_2, xr_20_0, xr_21_0, xr_21_1, xr_22_0, xr_24_0, xr_26_0, xr_26_1, xr_26_2, xr_30_0, xr_30_1, xr_30_2, xr_30_3, xr_30_4, xr_30_5, xr_30_6, xr_30_7, xr_31_0, xr_39_0, xr_39_1, xr_39_2, xr_42_0, xr_42_2, xr_42_3, xr_42_4, xr_42_5, xr_42_6, xr_42_8, xr_42_10, xr_42_13, xr_42_14, xr_42_15, xr_42_16, xr_42_23, xr_42_24, xr_42_25]
    rw [xbr_t (by omega)]
    have e : n = (w 0 2).toNat := by omega
    rw [e] at hE
    exact hQ M1 hE hF
  | succ k ih =>
    intro n M1 v2 hn hE hF
    have hR1 := cR_rF hR hF
    have l3 := hR1.1.2.2.1
    rw [w44_2]
    simp (disch := first | assumption | decide +kernel | exact hM _ _ | exact hL _ | exact xG_b | exact xG_bt _ _ | omega) only [w44_3, w44_4, w44_7, w44_10, w44_13, w44_16, w44_17, true_implies, false_implies, not_true_eq_false, not_false_eq_true, and_true, true_and, Int.reduceEq, Int.reduceLE, Int.reduceLT, Int.reduceNeg, xb_eq0, xb_eq1, xup_ne, xup_self, xup_k, xjl_i, xjl_r, xjl_j, xjl_l, Option.toList_some, Option.toList_none, List.cons_append, List.nil_append, xr_0_0, xr_0_1, xr_0_2, xr_0_3, xr_0_4, xr_0_5, xr_0_6, xr_0_7, xr_1_0, xr_1_1, xr_4_5, xr_4_6, xr_4_7, xr_4_8, xr_8_0, xr_10_5, xr_10_6, xr_10_7, xr_10_8, xr_14_0, xr_16_0, xr_16_1, xr_16_2, xr_20_0, xr_21_0, xr_21_1, xr_22_0, xr_24_0, xr_26_0, xr_26_1, xr_26_2, xr_30_0, xr_30_1, xr_30_2, xr_30_3, xr_30_4, xr_30_5, xr_30_6, xr_30_7, xr_31_0, xr_39_0, xr_39_1, xr_39_2, xr_42_0, xr_42_2, xr_42_3, xr_42_4, xr_42_5, xr_42_6, xr_42_8, xr_42_10, xr_42_13, xr_42_14, xr_42_15, xr_42_16, xr_42_23, xr_42_24, xr_42_25]
    rw [xbr_f (by omega)]
    refine lp_off2 hw hv (p := n) (by omega) (rV_off (w := w) (z := z) hy hw n (by omega)) hR1 (fun M2 hE2 hF2 => ?_) (w 0 1).toNat 0 M1 (by omega) hE (fun _ _ _ => rfl)
    simp (disch := first | assumption | decide +kernel | exact hM _ _ | exact hL _ | exact xG_b | exact xG_bt _ _ | omega) only [w44_71, w44_74, true_implies, false_implies, not_true_eq_false, not_false_eq_true, and_true, true_and, Int.reduceEq, Int.reduceLE, Int.reduceLT, Int.reduceNeg, xb_eq0, xb_eq1, xup_ne, xup_self, xup_k, xjl_i, xjl_r, xjl_j, xjl_l, Option.toList_some, Option.toList_none, List.cons_append, List.nil_append, xr_0_0, xr_0_1, xr_0_2, xr_0_3, xr_0_4, xr_0_5, xr_0_6, xr_0_7, xr_1_0, xr_1_1, xr_4_5, xr_4_6, xr_4_7, xr_4_8, xr_8_0, xr_10_5, xr_10_6, xr_10_7, xr_10_8, xr_14_0, xr_16_0, xr_16_1, xr_16_2, xr_20_0, xr_21_0, xr_21_1, xr_22_0, xr_24_0, xr_26_0, xr_26_1, xr_26_2, xr_30_0, xr_30_1, xr_30_2, xr_30_3, xr_30_4, xr_30_5, xr_30_6, xr_30_7, xr_31_0, xr_39_0, xr_39_1, xr_39_2, xr_42_0, xr_42_2, xr_42_3, xr_42_4, xr_42_5, xr_42_6, xr_42_8, xr_42_10, xr_42_13, xr_42_14, xr_42_15, xr_42_16, xr_42_23, xr_42_24, xr_42_25]
    exact ih (n + 1) M2 _ (by omega) hE2 (rF_tr hF hF2)
theorem q_off {s : Int} (hw : zW w) {b : Int} (hv : zV w z b) (hy : rV y) (hR : cR w z s M) (hE : rE M y) (hQ : ∀ M', rE M' (rOff w z y (w 0 2).toNat) → rF M M' → Q none M') : Wc 44 [xr 39] M Q := by
  simp (disch := first | assumption | decide +kernel | exact hM _ _ | exact hL _ | exact xG_b | exact xG_bt _ _ | omega) only [w44_0, w44_1, wc44, true_implies, false_implies, not_true_eq_false, not_false_eq_true, and_true, true_and, Int.reduceEq, Int.reduceLE, Int.reduceLT, Int.reduceNeg, xb_eq0, xb_eq1, xup_ne, xup_self, xup_k, xjl_i, xjl_r, xjl_j, xjl_l, Option.toList_some, Option.toList_none, List.cons_append, List.nil_append, xr_0_0, xr_0_1, xr_0_2, xr_0_3, xr_0_4, xr_0_5, xr_0_6, xr_0_7, xr_1_0, xr_1_1, xr_4_5, xr_4_6, xr_4_7, xr_4_8, xr_8_0, xr_10_5, xr_10_6, xr_10_7, xr_10_8, xr_14_0, xr_16_0, xr_16_1, xr_16_2, xr_20_0, xr_21_0, xr_21_1, xr_22_0, xr_24_0, xr_26_0, xr_26_1, xr_26_2, xr_30_0, xr_30_1, xr_30_2, xr_30_3, xr_30_4, xr_30_5, xr_30_6, xr_30_7, xr_31_0, xr_39_0, xr_39_1, xr_39_2, xr_42_0, xr_42_2, xr_42_3, xr_42_4, xr_42_5, xr_42_6, xr_42_8, xr_42_10, xr_42_13, xr_42_14, xr_42_15, xr_42_16, xr_42_23, xr_42_24, xr_42_25]
  exact lp_off1 hw hv hy hR hQ (w 0 2).toNat 0 M xj (by have := hw.2.2.1; omega) hE (fun _ _ _ => rfl)
theorem lp_on2 {s : Int} (hw : zW w) {b : Int} (hv : zV w z b) {p : Int} (hp : 0 ≤ p ∧ p < w 0 2) (hy : rV y) {M0 : xM} (hR : cR w z s M0) (hQ : ∀ M', rE M' (rOn1 w z p y (w 0 1).toNat) → rF M0 M' → Wp 43 73 [xr 39, xi p, xi (w 0 1)] [] M' Q) : ∀ (k n : Nat) (M1 : xM), (n : Int) + k = w 0 1 → rE M1 (rOn1 w z p y n) → rF M0 M1 → Wp 43 18 [xr 39, xi p, xi n] [] M1 Q := by
  have hw1 := hw.1
  have hw2 := hw.2.1
  have hw3 := hw.2.2.1
  intro k
  induction k with
  | zero =>
    intro n M1 hn hE hF
    have l2 := (cR_rF hR hF).1.2.1
    rw [w43_18]
    simp (disch := first | assumption | decide +kernel | exact hM _ _ | exact hL _ | exact xG_b | exact xG_bt _ _ | omega) only [w43_19, w43_20, w43_23, w43_26, w43_29, true_implies, false_implies, not_true_eq_false, not_false_eq_true, and_true, true_and, Int.reduceEq, Int.reduceLE, Int.reduceLT, Int.reduceNeg, xb_eq0, xb_eq1, xup_ne, xup_self, xup_k, xjl_i, xjl_r, xjl_j, xjl_l, Option.toList_some, Option.toList_none, List.cons_append, List.nil_append, xr_0_0, xr_0_1, xr_0_2, xr_0_3, xr_0_4, xr_0_5, xr_0_6, xr_0_7, xr_1_0, xr_1_1, xr_4_5, xr_4_6, xr_4_7, xr_4_8, xr_8_0, xr_10_5, xr_10_6, xr_10_7, xr_10_8, xr_14_0, xr_16_0, xr_16_1, xr_16_2, xr_20_0, xr_21_0, xr_21_1, xr_22_0, xr_24_0, xr_26_0, xr_26_1, xr_26_2, xr_30_0, xr_30_1, xr_30_2, xr_30_3, xr_30_4, xr_30_5, xr_30_6, xr_30_7, xr_31_0, xr_39_0, xr_39_1, xr_39_2, xr_42_0, xr_42_2, xr_42_3, xr_42_4, xr_42_5, xr_42_6, xr_42_8, xr_42_10, xr_42_13, xr_42_14, xr_42_15, xr_42_16, xr_42_23, xr_42_24, xr_42_25]
    rw [xbr_t (by omega)]
    have e : n = (w 0 1).toNat := by omega
    have e2 : (n : Int) = w 0 1 := by omega
    rw [e] at hE
    rw [e2]
    exact hQ M1 hE hF
  | succ k ih =>
    intro n M1 hn hE hF
    have hR1 := cR_rF hR hF
    have l2 := hR1.1.2.1
    have e1 : M1 33 p = z 0 p := (hR1.2.2.2.2.2.1 p hp.1 hp.2).1
    have e2 : M1 5 n = w 1 n := hR1.1.2.2.2.2.1 n (by omega) (by omega)
    have hvp := hv.1 p hp.1 hp.2
    have hst := hw.2.2.2.1 n (by omega) (by omega)
    have hV := rV_on1 (w := w) (z := z) hy (p := p) (by omega) n (by omega)
    have f1 := hE.1 n (by omega) (by omega)
    have f2 := hE.2 p hp.1 (by omega)
    have v1 := hV.1 n (by omega) (by omega)
    have v2 := hV.2 p hp.1 (by omega)
    rw [w43_18]
    simp (disch := first | assumption | decide +kernel | exact hM _ _ | exact hL _ | exact xG_b | exact xG_bt _ _ | omega) only [w43_19, w43_20, w43_23, w43_26, w43_29, w43_32, w43_33, w43_36, w43_37, w43_38, w43_41, w43_44, w43_45, w43_48, w43_49, w43_50, w43_53, w43_54, w43_55, w43_56, w43_59, w43_60, w43_61, w43_62, w43_63, w43_66, true_implies, false_implies, not_true_eq_false, not_false_eq_true, and_true, true_and, Int.reduceEq, Int.reduceLE, Int.reduceLT, Int.reduceNeg, xb_eq0, xb_eq1, xup_ne, xup_self, xup_k, xjl_i, xjl_r, xjl_j, xjl_l, Option.toList_some, Option.toList_none, List.cons_append, List.nil_append, xr_0_0, xr_0_1, xr_0_2, xr_0_3, xr_0_4, xr_0_5, xr_0_6, xr_0_7, xr_1_0, xr_1_1, xr_4_5, xr_4_6, xr_4_7, xr_4_8, xr_8_0, xr_10_5, xr_10_6, xr_10_7, xr_10_8, xr_14_0, xr_16_0, xr_16_1, xr_16_2, xr_20_0, xr_21_0, xr_21_1, xr_22_0, xr_24_0, xr_26_0, xr_26_1, xr_26_2, xr_30_0, xr_30_1, xr_30_2, xr_30_3, xr_30_4, xr_30_5, xr_30_6, xr_30_7, xr_31_0, xr_39_0, xr_39_1, xr_39_2, xr_42_0, xr_42_2, xr_42_3, xr_42_4, xr_42_5, xr_42_6, xr_42_8, xr_42_10, xr_42_13, xr_42_14, xr_42_15, xr_42_16, xr_42_23, xr_42_24, xr_42_25, q_isAt]
    rw [xbr_f (by omega), e1, e2]
    by_cases hc : z 0 p = w 1 n
    · rw [xbr_t' hc]
      simp (disch := first | assumption | decide +kernel | exact hM _ _ | exact hL _ | exact xG_b | exact xG_bt _ _ | omega) only [w43_67, w43_70, true_implies, false_implies, not_true_eq_false, not_false_eq_true, and_true, true_and, Int.reduceEq, Int.reduceLE, Int.reduceLT, Int.reduceNeg, xb_eq0, xb_eq1, xup_ne, xup_self, xup_k, xjl_i, xjl_r, xjl_j, xjl_l, Option.toList_some, Option.toList_none, List.cons_append, List.nil_append, xr_0_0, xr_0_1, xr_0_2, xr_0_3, xr_0_4, xr_0_5, xr_0_6, xr_0_7, xr_1_0, xr_1_1, xr_4_5, xr_4_6, xr_4_7, xr_4_8, xr_8_0, xr_10_5, xr_10_6, xr_10_7, xr_10_8, xr_14_0, xr_16_0, xr_16_1, xr_16_2, xr_20_0, xr_21_0, xr_21_1, xr_22_0, xr_24_0, xr_26_0, xr_26_1, xr_26_2, xr_30_0, xr_30_1, xr_30_2, xr_30_3, xr_30_4, xr_30_5, xr_30_6, xr_30_7, xr_31_0, xr_39_0, xr_39_1, xr_39_2, xr_42_0, xr_42_2, xr_42_3, xr_42_4, xr_42_5, xr_42_6, xr_42_8, xr_42_10, xr_42_13, xr_42_14, xr_42_15, xr_42_16, xr_42_23, xr_42_24, xr_42_25]
      refine ih (n + 1) _ (by omega) ?_ (fun c h1 h2 => by rw [xup_ne h2]; exact hF c h1 h2)
      rw [rOn1, if_pos hc]
      refine ⟨fun t h1 h2 => ?_, fun q h1 h2 => ?_⟩
      · rw [xup_ne (by decide), xup_ne (by decide)]; exact hE.1 t h1 h2
      · rw [xup_app, xup_app, f1, f2]
        by_cases e : q = p
        · simp [e]
        · rw [if_neg (fun y => e y.2), if_neg (fun y => e y.2)]; exact hE.2 q h1 h2
    · rw [xbr_f' hc]
      simp (disch := first | assumption | decide +kernel | exact hM _ _ | exact hL _ | exact xG_b | exact xG_bt _ _ | omega) only [w43_67, w43_70, true_implies, false_implies, not_true_eq_false, not_false_eq_true, and_true, true_and, Int.reduceEq, Int.reduceLE, Int.reduceLT, Int.reduceNeg, xb_eq0, xb_eq1, xup_ne, xup_self, xup_k, xjl_i, xjl_r, xjl_j, xjl_l, Option.toList_some, Option.toList_none, List.cons_append, List.nil_append, xr_0_0, xr_0_1, xr_0_2, xr_0_3, xr_0_4, xr_0_5, xr_0_6, xr_0_7, xr_1_0, xr_1_1, xr_4_5, xr_4_6, xr_4_7, xr_4_8, xr_8_0, xr_10_5, xr_10_6, xr_10_7, xr_10_8, xr_14_0, xr_16_0, xr_16_1, xr_16_2, xr_20_0, xr_21_0, xr_21_1, xr_22_0, xr_24_0, xr_26_0, xr_26_1, xr_26_2, xr_30_0, xr_30_1, xr_30_2, xr_30_3, xr_30_4, xr_30_5, xr_30_6, xr_30_7, xr_31_0, xr_39_0, xr_39_1, xr_39_2, xr_42_0, xr_42_2, xr_42_3, xr_42_4, xr_42_5, xr_42_6, xr_42_8, xr_42_10, xr_42_13, xr_42_14, xr_42_15, xr_42_16, xr_42_23, xr_42_24, xr_42_25]
      exact ih (n + 1) M1 (by omega) (by rw [rOn1, if_neg hc]; exact hE) hF
theorem lp_on1 {s : Int} (hw : zW w) {b : Int} (hv : zV w z b) (hy : rV y) {M0 : xM} (hR : cR w z s M0) (hQ : ∀ M', rE M' (rOn w z y (w 0 2).toNat) → rF M0 M' → Q none M') : ∀ (k n : Nat) (M1 : xM) (v2 : xV), (n : Int) + k = w 0 2 → rE M1 (rOn w z y n) → rF M0 M1 → Wp 43 2 [xr 39, xi n, v2] [] M1 Q := by
  have hw2 := hw.2.1
  have hw3 := hw.2.2.1
  intro k
  induction k with
  | zero =>
    intro n M1 v2 hn hE hF
    have l3 := (cR_rF hR hF).1.2.2.1
    rw [w43_2]
    simp (disch := first | assumption | decide +kernel | exact hM _ _ | exact hL _ | exact xG_b | exact xG_bt _ _ | omega) only [w43_3, w43_4, w43_7, w43_10, w43_13, w43_79, true_implies, false_implies, not_true_eq_false, not_false_eq_true, and_true, true_and, Int.reduceEq, Int.reduceLE, Int.reduceLT, Int.reduceNeg, xb_eq0, xb_eq1, xup_ne, xup_self, xup_k, xjl_i, xjl_r, xjl_j, xjl_l, Option.toList_some, Option.toList_none, List.cons_append, List.nil_append, xr_0_0, xr_0_1, xr_0_2, xr_0_3, xr_0_4, xr_0_5, xr_0_6, xr_0_7, xr_1_0, xr_1_1, xr_4_5, xr_4_6, xr_4_7, xr_4_8, xr_8_0, xr_10_5, xr_10_6, xr_10_7, xr_10_8, xr_14_0, xr_16_0, xr_16_1, xr_16_2, xr_20_0, xr_21_0, xr_21_1, xr_22_0, xr_24_0, xr_26_0, xr_26_1, xr_26_2, xr_30_0, xr_30_1, xr_30_2, xr_30_3, xr_30_4, xr_30_5, xr_30_6, xr_30_7, xr_31_0, xr_39_0, xr_39_1, xr_39_2, xr_42_0, xr_42_2, xr_42_3, xr_42_4, xr_42_5, xr_42_6, xr_42_8, xr_42_10, xr_42_13, xr_42_14, xr_42_15, xr_42_16, xr_42_23, xr_42_24, xr_42_25]
    rw [xbr_t (by omega)]
    have e : n = (w 0 2).toNat := by omega
    rw [e] at hE
    exact hQ M1 hE hF
  | succ k ih =>
    intro n M1 v2 hn hE hF
    have hR1 := cR_rF hR hF
    have l3 := hR1.1.2.2.1
    rw [w43_2]
    simp (disch := first | assumption | decide +kernel | exact hM _ _ | exact hL _ | exact xG_b | exact xG_bt _ _ | omega) only [w43_3, w43_4, w43_7, w43_10, w43_13, w43_16, w43_17, true_implies, false_implies, not_true_eq_false, not_false_eq_true, and_true, true_and, Int.reduceEq, Int.reduceLE, Int.reduceLT, Int.reduceNeg, xb_eq0, xb_eq1, xup_ne, xup_self, xup_k, xjl_i, xjl_r, xjl_j, xjl_l, Option.toList_some, Option.toList_none, List.cons_append, List.nil_append, xr_0_0, xr_0_1, xr_0_2, xr_0_3, xr_0_4, xr_0_5, xr_0_6, xr_0_7, xr_1_0, xr_1_1, xr_4_5, xr_4_6, xr_4_7, xr_4_8, xr_8_0, xr_10_5, xr_10_6, xr_10_7, xr_10_8, xr_14_0, xr_16_0, xr_16_1, xr_16_2, xr_20_0, xr_21_0, xr_21_1, xr_22_0, xr_24_0, xr_26_0, xr_26_1, xr_26_2, xr_30_0, xr_30_1, xr_30_2, xr_30_3, xr_30_4, xr_30_5, xr_30_6, xr_30_7, xr_31_0, xr_39_0, xr_39_1, xr_39_2, xr_42_0, xr_42_2, xr_42_3, xr_42_4, xr_42_5, xr_42_6, xr_42_8, xr_42_10, xr_42_13, xr_42_14, xr_42_15, xr_42_16, xr_42_23, xr_42_24, xr_42_25]
    rw [xbr_f (by omega)]
    refine lp_on2 hw hv (p := n) (by omega) (rV_on (w := w) (z := z) hy hw n (by omega)) hR1 (fun M2 hE2 hF2 => ?_) (w 0 1).toNat 0 M1 (by omega) hE (fun _ _ _ => rfl)
    simp (disch := first | assumption | decide +kernel | exact hM _ _ | exact hL _ | exact xG_b | exact xG_bt _ _ | omega) only [w43_73, w43_76, true_implies, false_implies, not_true_eq_false, not_false_eq_true, and_true, true_and, Int.reduceEq, Int.reduceLE, Int.reduceLT, Int.reduceNeg, xb_eq0, xb_eq1, xup_ne, xup_self, xup_k, xjl_i, xjl_r, xjl_j, xjl_l, Option.toList_some, Option.toList_none, List.cons_append, List.nil_append, xr_0_0, xr_0_1, xr_0_2, xr_0_3, xr_0_4, xr_0_5, xr_0_6, xr_0_7, xr_1_0, xr_1_1, xr_4_5, xr_4_6, xr_4_7, xr_4_8, xr_8_0, xr_10_5, xr_10_6, xr_10_7, xr_10_8, xr_14_0, xr_16_0, xr_16_1, xr_16_2, xr_20_0, xr_21_0, xr_21_1, xr_22_0, xr_24_0, xr_26_0, xr_26_1, xr_26_2, xr_30_0, xr_30_1, xr_30_2, xr_30_3, xr_30_4, xr_30_5, xr_30_6, xr_30_7, xr_31_0, xr_39_0, xr_39_1, xr_39_2, xr_42_0, xr_42_2, xr_42_3, xr_42_4, xr_42_5, xr_42_6, xr_42_8, xr_42_10, xr_42_13, xr_42_14, xr_42_15, xr_42_16, xr_42_23, xr_42_24, xr_42_25]
    exact ih (n + 1) M2 _ (by omega) hE2 (rF_tr hF hF2)
theorem q_on {s : Int} (hw : zW w) {b : Int} (hv : zV w z b) (hy : rV y) (hR : cR w z s M) (hE : rE M y) (hQ : ∀ M', rE M' (rOn w z y (w 0 2).toNat) → rF M M' → Q none M') : Wc 43 [xr 39] M Q := by
  simp (disch := first | assumption | decide +kernel | exact hM _ _ | exact hL _ | exact xG_b | exact xG_bt _ _ | omega) only [w43_0, w43_1, wc43, true_implies, false_implies, not_true_eq_false, not_false_eq_true, and_true, true_and, Int.reduceEq, Int.reduceLE, Int.reduceLT, Int.reduceNeg, xb_eq0, xb_eq1, xup_ne, xup_self, xup_k, xjl_i, xjl_r, xjl_j, xjl_l, Option.toList_some, Option.toList_none, List.cons_append, List.nil_append, xr_0_0, xr_0_1, xr_0_2, xr_0_3, xr_0_4, xr_0_5, xr_0_6, xr_0_7, xr_1_0, xr_1_1, xr_4_5, xr_4_6, xr_4_7, xr_4_8, xr_8_0, xr_10_5, xr_10_6, xr_10_7, xr_10_8, xr_14_0, xr_16_0, xr_16_1, xr_16_2, xr_20_0, xr_21_0, xr_21_1, xr_22_0, xr_24_0, xr_26_0, xr_26_1, xr_26_2, xr_30_0, xr_30_1, xr_30_2, xr_30_3, xr_30_4, xr_30_5, xr_30_6, xr_30_7, xr_31_0, xr_39_0, xr_39_1, xr_39_2, xr_42_0, xr_42_2, xr_42_3, xr_42_4, xr_42_5, xr_42_6, xr_42_8, xr_42_10, xr_42_13, xr_42_14, xr_42_15, xr_42_16, xr_42_23, xr_42_24, xr_42_25]
  exact lp_on1 hw hv hy hR hQ (w 0 2).toNat 0 M xj (by have := hw.2.2.1; omega) hE (fun _ _ _ => rfl)
theorem q_change {s : Int} (hw : zW w) {b : Int} (hv : zV w z b) (hy : rV y) (hR : cR w z s M) (hE : rE M y) (hQ : ∀ M', rE M' (rCh w z y) → rF M M' → Q none M') : Wc 42 [xr 39] M Q := by
  have h3 := hw.2.2.1
  simp (disch := first | assumption | decide +kernel | exact hM _ _ | exact hL _ | exact xG_b | exact xG_bt _ _ | omega) only [w42_0, w42_1, wc42, true_implies, false_implies, not_true_eq_false, not_false_eq_true, and_true, true_and, Int.reduceEq, Int.reduceLE, Int.reduceLT, Int.reduceNeg, xb_eq0, xb_eq1, xup_ne, xup_self, xup_k, xjl_i, xjl_r, xjl_j, xjl_l, Option.toList_some, Option.toList_none, List.cons_append, List.nil_append, xr_0_0, xr_0_1, xr_0_2, xr_0_3, xr_0_4, xr_0_5, xr_0_6, xr_0_7, xr_1_0, xr_1_1, xr_4_5, xr_4_6, xr_4_7, xr_4_8, xr_8_0, xr_10_5, xr_10_6, xr_10_7, xr_10_8, xr_14_0, xr_16_0, xr_16_1, xr_16_2, xr_20_0, xr_21_0, xr_21_1, xr_22_0, xr_24_0, xr_26_0, xr_26_1, xr_26_2, xr_30_0, xr_30_1, xr_30_2, xr_30_3, xr_30_4, xr_30_5, xr_30_6, xr_30_7, xr_31_0, xr_39_0, xr_39_1, xr_39_2, xr_42_0, xr_42_2, xr_42_3, xr_42_4, xr_42_5, xr_42_6, xr_42_8, xr_42_10, xr_42_13, xr_42_14, xr_42_15, xr_42_16, xr_42_23, xr_42_24, xr_42_25]
  refine q_off hw hv hy hR hE (fun M1 hE1 hF1 => ?_)
  have hy1 := rV_off (w := w) (z := z) hy hw (w 0 2).toNat (by omega)
  simp (disch := first | assumption | decide +kernel | exact hM _ _ | exact hL _ | exact xG_b | exact xG_bt _ _ | omega) only [w42_4, w42_5, true_implies, false_implies, not_true_eq_false, not_false_eq_true, and_true, true_and, Int.reduceEq, Int.reduceLE, Int.reduceLT, Int.reduceNeg, xb_eq0, xb_eq1, xup_ne, xup_self, xup_k, xjl_i, xjl_r, xjl_j, xjl_l, Option.toList_some, Option.toList_none, List.cons_append, List.nil_append, xr_0_0, xr_0_1, xr_0_2, xr_0_3, xr_0_4, xr_0_5, xr_0_6, xr_0_7, xr_1_0, xr_1_1, xr_4_5, xr_4_6, xr_4_7, xr_4_8, xr_8_0, xr_10_5, xr_10_6, xr_10_7, xr_10_8, xr_14_0, xr_16_0, xr_16_1, xr_16_2, xr_20_0, xr_21_0, xr_21_1, xr_22_0, xr_24_0, xr_26_0, xr_26_1, xr_26_2, xr_30_0, xr_30_1, xr_30_2, xr_30_3, xr_30_4, xr_30_5, xr_30_6, xr_30_7, xr_31_0, xr_39_0, xr_39_1, xr_39_2, xr_42_0, xr_42_2, xr_42_3, xr_42_4, xr_42_5, xr_42_6, xr_42_8, xr_42_10, xr_42_13, xr_42_14, xr_42_15, xr_42_16, xr_42_23, xr_42_24, xr_42_25]
  refine q_on hw hv hy1 (cR_rF hR hF1) hE1 (fun M2 hE2 hF2 => ?_)
  have hy2 := rV_on (w := w) (z := z) hy1 hw (w 0 2).toNat (by omega)
  simp (disch := first | assumption | decide +kernel | exact hM _ _ | exact hL _ | exact xG_b | exact xG_bt _ _ | omega) only [w42_8, w42_9, true_implies, false_implies, not_true_eq_false, not_false_eq_true, and_true, true_and, Int.reduceEq, Int.reduceLE, Int.reduceLT, Int.reduceNeg, xb_eq0, xb_eq1, xup_ne, xup_self, xup_k, xjl_i, xjl_r, xjl_j, xjl_l, Option.toList_some, Option.toList_none, List.cons_append, List.nil_append, xr_0_0, xr_0_1, xr_0_2, xr_0_3, xr_0_4, xr_0_5, xr_0_6, xr_0_7, xr_1_0, xr_1_1, xr_4_5, xr_4_6, xr_4_7, xr_4_8, xr_8_0, xr_10_5, xr_10_6, xr_10_7, xr_10_8, xr_14_0, xr_16_0, xr_16_1, xr_16_2, xr_20_0, xr_21_0, xr_21_1, xr_22_0, xr_24_0, xr_26_0, xr_26_1, xr_26_2, xr_30_0, xr_30_1, xr_30_2, xr_30_3, xr_30_4, xr_30_5, xr_30_6, xr_30_7, xr_31_0, xr_39_0, xr_39_1, xr_39_2, xr_42_0, xr_42_2, xr_42_3, xr_42_4, xr_42_5, xr_42_6, xr_42_8, xr_42_10, xr_42_13, xr_42_14, xr_42_15, xr_42_16, xr_42_23, xr_42_24, xr_42_25]
  refine q_off hw hv hy2 (cR_rF hR (rF_tr hF1 hF2)) hE2 (fun M3 hE3 hF3 => ?_)
  simp (disch := first | assumption | decide +kernel | exact hM _ _ | exact hL _ | exact xG_b | exact xG_bt _ _ | omega) only [w42_12, true_implies, false_implies, not_true_eq_false, not_false_eq_true, and_true, true_and, Int.reduceEq, Int.reduceLE, Int.reduceLT, Int.reduceNeg, xb_eq0, xb_eq1, xup_ne, xup_self, xup_k, xjl_i, xjl_r, xjl_j, xjl_l, Option.toList_some, Option.toList_none, List.cons_append, List.nil_append, xr_0_0, xr_0_1, xr_0_2, xr_0_3, xr_0_4, xr_0_5, xr_0_6, xr_0_7, xr_1_0, xr_1_1, xr_4_5, xr_4_6, xr_4_7, xr_4_8, xr_8_0, xr_10_5, xr_10_6, xr_10_7, xr_10_8, xr_14_0, xr_16_0, xr_16_1, xr_16_2, xr_20_0, xr_21_0, xr_21_1, xr_22_0, xr_24_0, xr_26_0, xr_26_1, xr_26_2, xr_30_0, xr_30_1, xr_30_2, xr_30_3, xr_30_4, xr_30_5, xr_30_6, xr_30_7, xr_31_0, xr_39_0, xr_39_1, xr_39_2, xr_42_0, xr_42_2, xr_42_3, xr_42_4, xr_42_5, xr_42_6, xr_42_8, xr_42_10, xr_42_13, xr_42_14, xr_42_15, xr_42_16, xr_42_23, xr_42_24, xr_42_25]
  exact hQ M3 hE3 (rF_tr hF1 (rF_tr hF2 hF3))
/-- behind n steps (0 on) -/
def rC (w : xM) (h : Int → Int → Int) (a : Int) : Nat → xM
  | 0 => fun c k => if c = 40 ∧ k = a then 0 else 1000000
  | n + 1 => rCh w (zR w h n) (rC w h a n)
theorem rC_V {a : Int} (hw : zW w) : ∀ n : Nat, rV (rC w h a n)
  | 0 => ⟨fun t _ _ => by simp only [rC]; split <;> omega, fun t _ _ => by simp [rC]⟩
  | n + 1 => rV_ch (rC_V hw n) hw
def aGot (w : xM) (h : Int → Int → Int) (a b : Int) (n : Nat) : Bool := decide (rC w h a (n + 1) 40 b < 1000000)
/-- frame of a ride -/
def rG (M M' : xM) : Prop := ∀ c : Nat, (c < 30 ∨ 41 < c ∨ c = 39) → M' c = M c
theorem lp_ride (hw : zW w) {a b : Int} (hb : 0 ≤ b ∧ b < w 0 1) {M0 : xM} (hQ : ∀ (M' : xM) (n : Nat), xfst (aGot w h a b) 61 = n → M' 40 b = rC w h a (n + 1) 40 b → rG M0 M' → Q (some (xi n)) M') (hQ0 : ∀ M', xfst (aGot w h a b) 61 = -4 → rG M0 M' → Q (some (xi (-4))) M') : ∀ (k n : Nat) (M1 : xM), n + k = 61 → (∀ j : Nat, j < n → aGot w h a b j = false) → rE M1 (rC w h a n) → cR w (zR w h (n - 1)) ((n - 1 : Nat) : Int) M1 → cH w h 0 60 M1 → rG M0 M1 → Wp 41 60 [xr 39, xi a, xi b, xi n] [] M1 Q := by
  have hw2 := hw.2.1
  intro k
  induction k with
  | zero =>
    intro n M1 hn hj hE hR hH hG
    have e : n = 61 := by omega
    subst e
    rw [w41_60]
    simp (disch := first | assumption | decide +kernel | exact hM _ _ | exact hL _ | exact xG_b | exact xG_bt _ _ | omega) only [w41_61, w41_63, w41_97, w41_99, true_implies, false_implies, not_true_eq_false, not_false_eq_true, and_true, true_and, Int.reduceEq, Int.reduceLE, Int.reduceLT, Int.reduceNeg, xb_eq0, xb_eq1, xup_ne, xup_self, xup_k, xjl_i, xjl_r, xjl_j, xjl_l, Option.toList_some, Option.toList_none, List.cons_append, List.nil_append, xr_0_0, xr_0_1, xr_0_2, xr_0_3, xr_0_4, xr_0_5, xr_0_6, xr_0_7, xr_1_0, xr_1_1, xr_4_5, xr_4_6, xr_4_7, xr_4_8, xr_8_0, xr_10_5, xr_10_6, xr_10_7, xr_10_8, xr_14_0, xr_16_0, xr_16_1, xr_16_2, xr_20_0, xr_21_0, xr_21_1, xr_22_0, xr_24_0, xr_26_0, xr_26_1, xr_26_2, xr_30_0, xr_30_1, xr_30_2, xr_30_3, xr_30_4, xr_30_5, xr_30_6, xr_30_7, xr_31_0, xr_39_0, xr_39_1, xr_39_2, xr_42_0, xr_42_2, xr_42_3, xr_42_4, xr_42_5, xr_42_6, xr_42_8, xr_42_10, xr_42_13, xr_42_14, xr_42_15, xr_42_16, xr_42_23, xr_42_24, xr_42_25]
    rw [xbr_t (by omega)]
    exact hQ0 M1 (xfst_no hj) hG
  | succ k ih =>
    intro n M1 hn hj hE hR hH hG
    rw [w41_60]
    simp (disch := first | assumption | decide +kernel | exact hM _ _ | exact hL _ | exact xG_b | exact xG_bt _ _ | omega) only [w41_61, w41_63, w41_66, w41_67, w41_70, w41_71, true_implies, false_implies, not_true_eq_false, not_false_eq_true, and_true, true_and, Int.reduceEq, Int.reduceLE, Int.reduceLT, Int.reduceNeg, xb_eq0, xb_eq1, xup_ne, xup_self, xup_k, xjl_i, xjl_r, xjl_j, xjl_l, Option.toList_some, Option.toList_none, List.cons_append, List.nil_append, xr_0_0, xr_0_1, xr_0_2, xr_0_3, xr_0_4, xr_0_5, xr_0_6, xr_0_7, xr_1_0, xr_1_1, xr_4_5, xr_4_6, xr_4_7, xr_4_8, xr_8_0, xr_10_5, xr_10_6, xr_10_7, xr_10_8, xr_14_0, xr_16_0, xr_16_1, xr_16_2, xr_20_0, xr_21_0, xr_21_1, xr_22_0, xr_24_0, xr_26_0, xr_26_1, xr_26_2, xr_30_0, xr_30_1, xr_30_2, xr_30_3, xr_30_4, xr_30_5, xr_30_6, xr_30_7, xr_31_0, xr_39_0, xr_39_1, xr_39_2, xr_42_0, xr_42_2, xr_42_3, xr_42_4, xr_42_5, xr_42_6, xr_42_8, xr_42_10, xr_42_13, xr_42_14, xr_42_15, xr_42_16, xr_42_23, xr_42_24, xr_42_25]
    rw [xbr_f (by omega)]
    refine q_goTo (h := h) hw (n := n - 1) (m := n) (by omega) (by omega) hR (fun t h1 h2 => hH t (by omega) (by omega)) (fun M2 hR2 hF2 => ?_)
    simp (disch := first | assumption | decide +kernel | exact hM _ _ | exact hL _ | exact xG_b | exact xG_bt _ _ | omega) only [w41_74, w41_75, true_implies, false_implies, not_true_eq_false, not_false_eq_true, and_true, true_and, Int.reduceEq, Int.reduceLE, Int.reduceLT, Int.reduceNeg, xb_eq0, xb_eq1, xup_ne, xup_self, xup_k, xjl_i, xjl_r, xjl_j, xjl_l, Option.toList_some, Option.toList_none, List.cons_append, List.nil_append, xr_0_0, xr_0_1, xr_0_2, xr_0_3, xr_0_4, xr_0_5, xr_0_6, xr_0_7, xr_1_0, xr_1_1, xr_4_5, xr_4_6, xr_4_7, xr_4_8, xr_8_0, xr_10_5, xr_10_6, xr_10_7, xr_10_8, xr_14_0, xr_16_0, xr_16_1, xr_16_2, xr_20_0, xr_21_0, xr_21_1, xr_22_0, xr_24_0, xr_26_0, xr_26_1, xr_26_2, xr_30_0, xr_30_1, xr_30_2, xr_30_3, xr_30_4, xr_30_5, xr_30_6, xr_30_7, xr_31_0, xr_39_0, xr_39_1, xr_39_2, xr_42_0, xr_42_2, xr_42_3, xr_42_4, xr_42_5, xr_42_6, xr_42_8, xr_42_10, xr_42_13, xr_42_14, xr_42_15, xr_42_16, xr_42_23, xr_42_24, xr_42_25]
    have e40 := hF2 40 (by omega) (by omega)
    have e41 := hF2 41 (by omega) (by omega)
    refine q_change hw (zR_V' (h := h) hw (n := n) (by omega)) (rC_V hw n) hR2 ⟨by rw [e40]; exact hE.1, by rw [e41]; exact hE.2⟩ (fun M3 hE3 hF3 => ?_)
    have hR3 := cR_rF hR2 hF3
    have e3 : M3 40 b = rC w h a (n + 1) 40 b := hE3.1 b hb.1 (by omega)
    have v3 := (rC_V (h := h) (a := a) hw (n + 1)).1 b hb.1 (by omega)
    have hG3 : rG M0 M3 := fun c hc => by rw [hF3 c (by omega) (by omega), hF2 c (by omega) (by omega)]; exact hG c hc
    simp (disch := first | assumption | decide +kernel | exact hM _ _ | exact hL _ | exact xG_b | exact xG_bt _ _ | omega) only [w41_78, w41_79, w41_82, w41_83, w41_84, w41_86, w41_89, w41_90, true_implies, false_implies, not_true_eq_false, not_false_eq_true, and_true, true_and, Int.reduceEq, Int.reduceLE, Int.reduceLT, Int.reduceNeg, xb_eq0, xb_eq1, xup_ne, xup_self, xup_k, xjl_i, xjl_r, xjl_j, xjl_l, Option.toList_some, Option.toList_none, List.cons_append, List.nil_append, xr_0_0, xr_0_1, xr_0_2, xr_0_3, xr_0_4, xr_0_5, xr_0_6, xr_0_7, xr_1_0, xr_1_1, xr_4_5, xr_4_6, xr_4_7, xr_4_8, xr_8_0, xr_10_5, xr_10_6, xr_10_7, xr_10_8, xr_14_0, xr_16_0, xr_16_1, xr_16_2, xr_20_0, xr_21_0, xr_21_1, xr_22_0, xr_24_0, xr_26_0, xr_26_1, xr_26_2, xr_30_0, xr_30_1, xr_30_2, xr_30_3, xr_30_4, xr_30_5, xr_30_6, xr_30_7, xr_31_0, xr_39_0, xr_39_1, xr_39_2, xr_42_0, xr_42_2, xr_42_3, xr_42_4, xr_42_5, xr_42_6, xr_42_8, xr_42_10, xr_42_13, xr_42_14, xr_42_15, xr_42_16, xr_42_23, xr_42_24, xr_42_25]
    rw [e3]
    by_cases hc : 1000000 ≤ rC w h a (n + 1) 40 b
    · rw [xbr_t hc]
      simp (disch := first | assumption | decide +kernel | exact hM _ _ | exact hL _ | exact xG_b | exact xG_bt _ _ | omega) only [w41_91, w41_94, true_implies, false_implies, not_true_eq_false, not_false_eq_true, and_true, true_and, Int.reduceEq, Int.reduceLE, Int.reduceLT, Int.reduceNeg, xb_eq0, xb_eq1, xup_ne, xup_self, xup_k, xjl_i, xjl_r, xjl_j, xjl_l, Option.toList_some, Option.toList_none, List.cons_append, List.nil_append, xr_0_0, xr_0_1, xr_0_2, xr_0_3, xr_0_4, xr_0_5, xr_0_6, xr_0_7, xr_1_0, xr_1_1, xr_4_5, xr_4_6, xr_4_7, xr_4_8, xr_8_0, xr_10_5, xr_10_6, xr_10_7, xr_10_8, xr_14_0, xr_16_0, xr_16_1, xr_16_2, xr_20_0, xr_21_0, xr_21_1, xr_22_0, xr_24_0, xr_26_0, xr_26_1, xr_26_2, xr_30_0, xr_30_1, xr_30_2, xr_30_3, xr_30_4, xr_30_5, xr_30_6, xr_30_7, xr_31_0, xr_39_0, xr_39_1, xr_39_2, xr_42_0, xr_42_2, xr_42_3, xr_42_4, xr_42_5, xr_42_6, xr_42_8, xr_42_10, xr_42_13, xr_42_14, xr_42_15, xr_42_16, xr_42_23, xr_42_24, xr_42_25]
      refine ih (n + 1) M3 (by omega) (fun j h1 => ?_) hE3 hR3 (fun t h1 h2 p h3 h4 => by rw [hF3 31 (by decide) (by decide)]; exact (cH_F hH hF2) t h1 h2 p h3 h4) hG3
      by_cases e : j = n
      · subst e
        rw [aGot, decide_eq_false_iff_not]
        omega
      · exact hj j (by omega)
    · rw [xbr_f hc]
      exact hQ M3 n (xfst_yes (by rw [aGot, decide_eq_true_eq]; omega) hj (by omega)) e3 hG3
theorem lp_rideI1 {a b : Int} (ha : 0 ≤ a ∧ a < 5) {M0 : xM} (hQ : ∀ M', (∀ t, 0 ≤ t → t < 5 → M' 40 t = if t = a then 0 else 1000000) → (∀ c, c ≠ 40 → M' c = M0 c) → Wp 41 30 [xr 39, xi a, xi b, xi 5] [] M' Q) : ∀ (k n : Nat) (M1 : xM), n + k = 5 → (∀ t : Int, 0 ≤ t → t < n → M1 40 t = if t = a then 0 else 1000000) → (∀ c, c ≠ 40 → M1 c = M0 c) → Wp 41 2 [xr 39, xi a, xi b, xi n] [] M1 Q := by
  intro k
  induction k with
  | zero =>
    intro n M1 hn h1 h2
    have e : n = 5 := by omega
    subst e
    rw [w41_2]
    simp (disch := first | assumption | decide +kernel | exact hM _ _ | exact hL _ | exact xG_b | exact xG_bt _ _ | omega) only [w41_3, w41_4, true_implies, false_implies, not_true_eq_false, not_false_eq_true, and_true, true_and, Int.reduceEq, Int.reduceLE, Int.reduceLT, Int.reduceNeg, xb_eq0, xb_eq1, xup_ne, xup_self, xup_k, xjl_i, xjl_r, xjl_j, xjl_l, Option.toList_some, Option.toList_none, List.cons_append, List.nil_append, xr_0_0, xr_0_1, xr_0_2, xr_0_3, xr_0_4, xr_0_5, xr_0_6, xr_0_7, xr_1_0, xr_1_1, xr_4_5, xr_4_6, xr_4_7, xr_4_8, xr_8_0, xr_10_5, xr_10_6, xr_10_7, xr_10_8, xr_14_0, xr_16_0, xr_16_1, xr_16_2, xr_20_0, xr_21_0, xr_21_1, xr_22_0, xr_24_0, xr_26_0, xr_26_1, xr_26_2, xr_30_0, xr_30_1, xr_30_2, xr_30_3, xr_30_4, xr_30_5, xr_30_6, xr_30_7, xr_31_0, xr_39_0, xr_39_1, xr_39_2, xr_42_0, xr_42_2, xr_42_3, xr_42_4, xr_42_5, xr_42_6, xr_42_8, xr_42_10, xr_42_13, xr_42_14, xr_42_15, xr_42_16, xr_42_23, xr_42_24, xr_42_25]
    rw [xbr_t (by omega)]
    exact hQ M1 (fun t a b => h1 t a (by omega)) h2
  | succ k ih =>
    intro n M1 hn h1 h2
    have key : ∀ v : Int, v = (if (n : Int) = a then 0 else 1000000) → Wp 41 23 [xr 39, xi a, xi b, xi n] [xi v, xi n, xr 40] M1 Q := by
      intro v hv
      simp (disch := first | assumption | decide +kernel | exact hM _ _ | exact hL _ | exact xG_b | exact xG_bt _ _ | omega) only [w41_23, w41_24, w41_27, true_implies, false_implies, not_true_eq_false, not_false_eq_true, and_true, true_and, Int.reduceEq, Int.reduceLE, Int.reduceLT, Int.reduceNeg, xb_eq0, xb_eq1, xup_ne, xup_self, xup_k, xjl_i, xjl_r, xjl_j, xjl_l, Option.toList_some, Option.toList_none, List.cons_append, List.nil_append, xr_0_0, xr_0_1, xr_0_2, xr_0_3, xr_0_4, xr_0_5, xr_0_6, xr_0_7, xr_1_0, xr_1_1, xr_4_5, xr_4_6, xr_4_7, xr_4_8, xr_8_0, xr_10_5, xr_10_6, xr_10_7, xr_10_8, xr_14_0, xr_16_0, xr_16_1, xr_16_2, xr_20_0, xr_21_0, xr_21_1, xr_22_0, xr_24_0, xr_26_0, xr_26_1, xr_26_2, xr_30_0, xr_30_1, xr_30_2, xr_30_3, xr_30_4, xr_30_5, xr_30_6, xr_30_7, xr_31_0, xr_39_0, xr_39_1, xr_39_2, xr_42_0, xr_42_2, xr_42_3, xr_42_4, xr_42_5, xr_42_6, xr_42_8, xr_42_10, xr_42_13, xr_42_14, xr_42_15, xr_42_16, xr_42_23, xr_42_24, xr_42_25]
      refine ih (n + 1) _ (by omega) (fun t a b => ?_) (fun c hc => by rw [xup_ne hc]; exact h2 c hc)
      rw [xup_app]
      by_cases e : t = n
      · rw [if_pos ⟨rfl, e⟩, hv, e]
      · rw [if_neg (fun y => e y.2)]; exact h1 t a (by omega)
    rw [w41_2]
    simp (disch := first | assumption | decide +kernel | exact hM _ _ | exact hL _ | exact xG_b | exact xG_bt _ _ | omega) only [w41_3, w41_4, w41_7, w41_8, w41_11, w41_12, w41_13, w41_14, w41_17, w41_18, w41_21, true_implies, false_implies, not_true_eq_false, not_false_eq_true, and_true, true_and, Int.reduceEq, Int.reduceLE, Int.reduceLT, Int.reduceNeg, xb_eq0, xb_eq1, xup_ne, xup_self, xup_k, xjl_i, xjl_r, xjl_j, xjl_l, Option.toList_some, Option.toList_none, List.cons_append, List.nil_append, xr_0_0, xr_0_1, xr_0_2, xr_0_3, xr_0_4, xr_0_5, xr_0_6, xr_0_7, xr_1_0, xr_1_1, xr_4_5, xr_4_6, xr_4_7, xr_4_8, xr_8_0, xr_10_5, xr_10_6, xr_10_7, xr_10_8, xr_14_0, xr_16_0, xr_16_1, xr_16_2, xr_20_0, xr_21_0, xr_21_1, xr_22_0, xr_24_0, xr_26_0, xr_26_1, xr_26_2, xr_30_0, xr_30_1, xr_30_2, xr_30_3, xr_30_4, xr_30_5, xr_30_6, xr_30_7, xr_31_0, xr_39_0, xr_39_1, xr_39_2, xr_42_0, xr_42_2, xr_42_3, xr_42_4, xr_42_5, xr_42_6, xr_42_8, xr_42_10, xr_42_13, xr_42_14, xr_42_15, xr_42_16, xr_42_23, xr_42_24, xr_42_25]
    rw [xbr_f (by omega)]
    by_cases hc : (n : Int) = a
    · rw [xbr_t' hc]; exact key 0 (by rw [if_pos hc])
    · rw [xbr_f' hc]; exact key 1000000 (by rw [if_neg hc])
theorem lp_rideI2 {a b : Int} {M0 : xM} (hQ : ∀ M', (∀ t, 0 ≤ t → t < 5 → M' 41 t = 1000000) → (∀ c, c ≠ 41 → M' c = M0 c) → Wp 41 51 [xr 39, xi a, xi b, xi 5] [] M' Q) : ∀ (k n : Nat) (M1 : xM), n + k = 5 → (∀ t : Int, 0 ≤ t → t < n → M1 41 t = 1000000) → (∀ c, c ≠ 41 → M1 c = M0 c) → Wp 41 32 [xr 39, xi a, xi b, xi n] [] M1 Q := by
  intro k
  induction k with
  | zero =>
    intro n M1 hn h1 h2
    have e : n = 5 := by omega
    subst e
    rw [w41_32]
    simp (disch := first | assumption | decide +kernel | exact hM _ _ | exact hL _ | exact xG_b | exact xG_bt _ _ | omega) only [w41_33, w41_34, true_implies, false_implies, not_true_eq_false, not_false_eq_true, and_true, true_and, Int.reduceEq, Int.reduceLE, Int.reduceLT, Int.reduceNeg, xb_eq0, xb_eq1, xup_ne, xup_self, xup_k, xjl_i, xjl_r, xjl_j, xjl_l, Option.toList_some, Option.toList_none, List.cons_append, List.nil_append, xr_0_0, xr_0_1, xr_0_2, xr_0_3, xr_0_4, xr_0_5, xr_0_6, xr_0_7, xr_1_0, xr_1_1, xr_4_5, xr_4_6, xr_4_7, xr_4_8, xr_8_0, xr_10_5, xr_10_6, xr_10_7, xr_10_8, xr_14_0, xr_16_0, xr_16_1, xr_16_2, xr_20_0, xr_21_0, xr_21_1, xr_22_0, xr_24_0, xr_26_0, xr_26_1, xr_26_2, xr_30_0, xr_30_1, xr_30_2, xr_30_3, xr_30_4, xr_30_5, xr_30_6, xr_30_7, xr_31_0, xr_39_0, xr_39_1, xr_39_2, xr_42_0, xr_42_2, xr_42_3, xr_42_4, xr_42_5, xr_42_6, xr_42_8, xr_42_10, xr_42_13, xr_42_14, xr_42_15, xr_42_16, xr_42_23, xr_42_24, xr_42_25]
    rw [xbr_t (by omega)]
    exact hQ M1 (fun t a b => h1 t a (by omega)) h2
  | succ k ih =>
    intro n M1 hn h1 h2
    rw [w41_32]
    simp (disch := first | assumption | decide +kernel | exact hM _ _ | exact hL _ | exact xG_b | exact xG_bt _ _ | omega) only [w41_33, w41_34, w41_37, w41_38, w41_41, w41_42, w41_44, w41_45, w41_48, true_implies, false_implies, not_true_eq_false, not_false_eq_true, and_true, true_and, Int.reduceEq, Int.reduceLE, Int.reduceLT, Int.reduceNeg, xb_eq0, xb_eq1, xup_ne, xup_self, xup_k, xjl_i, xjl_r, xjl_j, xjl_l, Option.toList_some, Option.toList_none, List.cons_append, List.nil_append, xr_0_0, xr_0_1, xr_0_2, xr_0_3, xr_0_4, xr_0_5, xr_0_6, xr_0_7, xr_1_0, xr_1_1, xr_4_5, xr_4_6, xr_4_7, xr_4_8, xr_8_0, xr_10_5, xr_10_6, xr_10_7, xr_10_8, xr_14_0, xr_16_0, xr_16_1, xr_16_2, xr_20_0, xr_21_0, xr_21_1, xr_22_0, xr_24_0, xr_26_0, xr_26_1, xr_26_2, xr_30_0, xr_30_1, xr_30_2, xr_30_3, xr_30_4, xr_30_5, xr_30_6, xr_30_7, xr_31_0, xr_39_0, xr_39_1, xr_39_2, xr_42_0, xr_42_2, xr_42_3, xr_42_4, xr_42_5, xr_42_6, xr_42_8, xr_42_10, xr_42_13, xr_42_14, xr_42_15, xr_42_16, xr_42_23, xr_42_24, xr_42_25]
    rw [xbr_f (by omega)]
    refine ih (n + 1) _ (by omega) (fun t a b => ?_) (fun c hc => by rw [xup_ne hc]; exact h2 c hc)
    rw [xup_app]
    by_cases e : t = n
    · rw [if_pos ⟨rfl, e⟩]
    · rw [if_neg (fun y => e y.2)]; exact h1 t a (by omega)
theorem q_ride (hw : zW w) (hB : cB w M) {a b : Int} (ha : 0 ≤ a ∧ a < w 0 1) (hb : 0 ≤ b ∧ b < w 0 1) (hQ : ∀ (M' : xM) (n : Nat), xfst (aGot w (hC M) a b) 61 = n → M' 40 b = rC w (hC M) a (n + 1) 40 b → rG M M' → Q (some (xi n)) M') (hQ0 : ∀ M', xfst (aGot w (hC M) a b) 61 = -4 → rG M M' → Q (some (xi (-4))) M') : Wc 41 [xr 39, xi a, xi b] M Q := by
  have hw2 := hw.2.1
  simp (disch := first | assumption | decide +kernel | exact hM _ _ | exact hL _ | exact xG_b | exact xG_bt _ _ | omega) only [w41_0, w41_1, wc41, true_implies, false_implies, not_true_eq_false, not_false_eq_true, and_true, true_and, Int.reduceEq, Int.reduceLE, Int.reduceLT, Int.reduceNeg, xb_eq0, xb_eq1, xup_ne, xup_self, xup_k, xjl_i, xjl_r, xjl_j, xjl_l, Option.toList_some, Option.toList_none, List.cons_append, List.nil_append, xr_0_0, xr_0_1, xr_0_2, xr_0_3, xr_0_4, xr_0_5, xr_0_6, xr_0_7, xr_1_0, xr_1_1, xr_4_5, xr_4_6, xr_4_7, xr_4_8, xr_8_0, xr_10_5, xr_10_6, xr_10_7, xr_10_8, xr_14_0, xr_16_0, xr_16_1, xr_16_2, xr_20_0, xr_21_0, xr_21_1, xr_22_0, xr_24_0, xr_26_0, xr_26_1, xr_26_2, xr_30_0, xr_30_1, xr_30_2, xr_30_3, xr_30_4, xr_30_5, xr_30_6, xr_30_7, xr_31_0, xr_39_0, xr_39_1, xr_39_2, xr_42_0, xr_42_2, xr_42_3, xr_42_4, xr_42_5, xr_42_6, xr_42_8, xr_42_10, xr_42_13, xr_42_14, xr_42_15, xr_42_16, xr_42_23, xr_42_24, xr_42_25]
  refine lp_rideI1 (M0 := M) (by omega) (fun M1 h1 h2 => ?_) 5 0 M (by omega) (fun t a b => by omega) (fun _ _ => rfl)
  simp (disch := first | assumption | decide +kernel | exact hM _ _ | exact hL _ | exact xG_b | exact xG_bt _ _ | omega) only [w41_30, w41_31, true_implies, false_implies, not_true_eq_false, not_false_eq_true, and_true, true_and, Int.reduceEq, Int.reduceLE, Int.reduceLT, Int.reduceNeg, xb_eq0, xb_eq1, xup_ne, xup_self, xup_k, xjl_i, xjl_r, xjl_j, xjl_l, Option.toList_some, Option.toList_none, List.cons_append, List.nil_append, xr_0_0, xr_0_1, xr_0_2, xr_0_3, xr_0_4, xr_0_5, xr_0_6, xr_0_7, xr_1_0, xr_1_1, xr_4_5, xr_4_6, xr_4_7, xr_4_8, xr_8_0, xr_10_5, xr_10_6, xr_10_7, xr_10_8, xr_14_0, xr_16_0, xr_16_1, xr_16_2, xr_20_0, xr_21_0, xr_21_1, xr_22_0, xr_24_0, xr_26_0, xr_26_1, xr_26_2, xr_30_0, xr_30_1, xr_30_2, xr_30_3, xr_30_4, xr_30_5, xr_30_6, xr_30_7, xr_31_0, xr_39_0, xr_39_1, xr_39_2, xr_42_0, xr_42_2, xr_42_3, xr_42_4, xr_42_5, xr_42_6, xr_42_8, xr_42_10, xr_42_13, xr_42_14, xr_42_15, xr_42_16, xr_42_23, xr_42_24, xr_42_25]
  refine lp_rideI2 (M0 := M1) (fun M2 h3 h4 => ?_) 5 0 M1 (by omega) (fun t a b => by omega) (fun _ _ => rfl)
  simp (disch := first | assumption | decide +kernel | exact hM _ _ | exact hL _ | exact xG_b | exact xG_bt _ _ | omega) only [w41_51, w41_52, w41_55, true_implies, false_implies, not_true_eq_false, not_false_eq_true, and_true, true_and, Int.reduceEq, Int.reduceLE, Int.reduceLT, Int.reduceNeg, xb_eq0, xb_eq1, xup_ne, xup_self, xup_k, xjl_i, xjl_r, xjl_j, xjl_l, Option.toList_some, Option.toList_none, List.cons_append, List.nil_append, xr_0_0, xr_0_1, xr_0_2, xr_0_3, xr_0_4, xr_0_5, xr_0_6, xr_0_7, xr_1_0, xr_1_1, xr_4_5, xr_4_6, xr_4_7, xr_4_8, xr_8_0, xr_10_5, xr_10_6, xr_10_7, xr_10_8, xr_14_0, xr_16_0, xr_16_1, xr_16_2, xr_20_0, xr_21_0, xr_21_1, xr_22_0, xr_24_0, xr_26_0, xr_26_1, xr_26_2, xr_30_0, xr_30_1, xr_30_2, xr_30_3, xr_30_4, xr_30_5, xr_30_6, xr_30_7, xr_31_0, xr_39_0, xr_39_1, xr_39_2, xr_42_0, xr_42_2, xr_42_3, xr_42_4, xr_42_5, xr_42_6, xr_42_8, xr_42_10, xr_42_13, xr_42_14, xr_42_15, xr_42_16, xr_42_23, xr_42_24, xr_42_25]
  have hG2 : ∀ c : Nat, c < 40 → M2 c = M c := fun c hc => by rw [h4 c (by omega), h2 c (by omega)]
  have hB2 : cB w M2 := by
    obtain ⟨⟨l1, l2, l3, l4, l5, l6⟩, b2, b3⟩ := hB
    refine ⟨⟨?_, ?_, ?_, ?_, ?_, ?_⟩, ?_, ?_⟩
    · rw [hG2 4 (by omega)]; exact l1
    · rw [hG2 4 (by omega)]; exact l2
    · rw [hG2 4 (by omega)]; exact l3
    · rw [hG2 4 (by omega)]; exact l4
    · rw [hG2 5 (by omega)]; exact l5
    · rw [hG2 6 (by omega)]; exact l6
    · rw [hG2 8 (by omega)]; exact b2
    · rw [hG2 9 (by omega), hG2 7 (by omega), hG2 4 (by omega)]; exact b3
  refine q_begin (h := hC M) hw hB2 (fun M3 hR3 e3 hG3 => ?_)
  simp (disch := first | assumption | decide +kernel | exact hM _ _ | exact hL _ | exact xG_b | exact xG_bt _ _ | omega) only [w41_58, w41_59, true_implies, false_implies, not_true_eq_false, not_false_eq_true, and_true, true_and, Int.reduceEq, Int.reduceLE, Int.reduceLT, Int.reduceNeg, xb_eq0, xb_eq1, xup_ne, xup_self, xup_k, xjl_i, xjl_r, xjl_j, xjl_l, Option.toList_some, Option.toList_none, List.cons_append, List.nil_append, xr_0_0, xr_0_1, xr_0_2, xr_0_3, xr_0_4, xr_0_5, xr_0_6, xr_0_7, xr_1_0, xr_1_1, xr_4_5, xr_4_6, xr_4_7, xr_4_8, xr_8_0, xr_10_5, xr_10_6, xr_10_7, xr_10_8, xr_14_0, xr_16_0, xr_16_1, xr_16_2, xr_20_0, xr_21_0, xr_21_1, xr_22_0, xr_24_0, xr_26_0, xr_26_1, xr_26_2, xr_30_0, xr_30_1, xr_30_2, xr_30_3, xr_30_4, xr_30_5, xr_30_6, xr_30_7, xr_31_0, xr_39_0, xr_39_1, xr_39_2, xr_42_0, xr_42_2, xr_42_3, xr_42_4, xr_42_5, xr_42_6, xr_42_8, xr_42_10, xr_42_13, xr_42_14, xr_42_15, xr_42_16, xr_42_23, xr_42_24, xr_42_25]
  have e40 : M3 40 = M2 40 := hG3 40 (by omega)
  have e41 : M3 41 = M2 41 := hG3 41 (by omega)
  refine lp_ride (M0 := M) (h := hC M) hw hb hQ hQ0 61 0 M3 (by omega) (fun j h => by omega) ⟨fun t a b => ?_, fun t a b => ?_⟩ hR3 (fun t h1 h2 p h5 h6 => by rw [e3, hG2 8 (by omega)]) (fun c hc => ?_)
  · rw [e40, h4 40 (by decide), h1 t a b]
    simp [rC]
  · rw [e41, h3 t a b]
    simp [rC]
  · rw [hG3 c (by omega), h4 c (by omega), h2 c (by omega)]
def aTrip (w : xM) (h : Int → Int → Int) (a b k : Int) : Int := if (0 ≤ a ∧ a < w 0 1) ∧ (0 ≤ b ∧ b < w 0 1) ∧ ¬ a = b ∧ (k = 0 ∨ k = 1) then (if xfst (aGot w h a b) 61 = -4 then -4 else if k = 0 then xfst (aGot w h a b) 61 else rC w h a ((xfst (aGot w h a b) 61).toNat + 1) 40 b) else -1
theorem q8_trip {a b k : Int} (ha : xG a) (hb : xG b) (hk : xG k) (hw : zW w) (hB : cB w M) (hQ : ∀ M', rG M M' → Q (some (xi (aTrip w (hC M) a b k))) M') : Wc 59 [xr 0, xi a, xi b, xi k] M Q := by
  have l2 := hB.1.2.1
  have hw2 := hw.2.1
  have hbad : ¬ ((0 ≤ a ∧ a < w 0 1) ∧ (0 ≤ b ∧ b < w 0 1) ∧ ¬ a = b ∧ (k = 0 ∨ k = 1)) → Q (some (xi (-1))) M := fun h => by
    have := hQ M (fun _ _ => rfl)
    rw [aTrip, if_neg h] at this
    exact this
  have hgood : ((0 ≤ a ∧ a < w 0 1) ∧ (0 ≤ b ∧ b < w 0 1) ∧ ¬ a = b ∧ (k = 0 ∨ k = 1)) → Wp 59 36 [xr 0, xi a, xi b, xi k, xj] [] M Q := fun h => by
    simp only [aTrip, if_pos h] at hQ
    simp (disch := first | assumption | decide +kernel | exact hM _ _ | exact hL _ | exact xG_b | exact xG_bt _ _ | omega) only [w59_36, w59_37, w59_40, w59_41, w59_42, true_implies, false_implies, not_true_eq_false, not_false_eq_true, and_true, true_and, Int.reduceEq, Int.reduceLE, Int.reduceLT, Int.reduceNeg, xb_eq0, xb_eq1, xup_ne, xup_self, xup_k, xjl_i, xjl_r, xjl_j, xjl_l, Option.toList_some, Option.toList_none, List.cons_append, List.nil_append, xr_0_0, xr_0_1, xr_0_2, xr_0_3, xr_0_4, xr_0_5, xr_0_6, xr_0_7, xr_1_0, xr_1_1, xr_4_5, xr_4_6, xr_4_7, xr_4_8, xr_8_0, xr_10_5, xr_10_6, xr_10_7, xr_10_8, xr_14_0, xr_16_0, xr_16_1, xr_16_2, xr_20_0, xr_21_0, xr_21_1, xr_22_0, xr_24_0, xr_26_0, xr_26_1, xr_26_2, xr_30_0, xr_30_1, xr_30_2, xr_30_3, xr_30_4, xr_30_5, xr_30_6, xr_30_7, xr_31_0, xr_39_0, xr_39_1, xr_39_2, xr_42_0, xr_42_2, xr_42_3, xr_42_4, xr_42_5, xr_42_6, xr_42_8, xr_42_10, xr_42_13, xr_42_14, xr_42_15, xr_42_16, xr_42_23, xr_42_24, xr_42_25]
    refine q_ride hw hB h.1 h.2.1 (fun M1 n hn e1 hG1 => ?_) (fun M1 hn hG1 => ?_)
    · have hq := hQ M1 hG1
      have hb5 : n < 61 := by
        rcases @xfst_rng (aGot w (hC M) a b) 61 with q | q <;> omega
      rw [hn, if_neg (by omega), Int.toNat_natCast] at hq
      have v3 := (rC_V (h := hC M) (a := a) hw (n + 1)).1 b h.2.1.1 (by omega)
      simp (disch := first | assumption | decide +kernel | exact hM _ _ | exact hL _ | exact xG_b | exact xG_bt _ _ | omega) only [w59_45, w59_47, w59_49, w59_51, w59_54, w59_56, w59_57, w59_58, w59_61, w59_63, w59_66, w59_67, w59_70, w59_73, w59_74, w59_75, true_implies, false_implies, not_true_eq_false, not_false_eq_true, and_true, true_and, Int.reduceEq, Int.reduceLE, Int.reduceLT, Int.reduceNeg, xb_eq0, xb_eq1, xup_ne, xup_self, xup_k, xjl_i, xjl_r, xjl_j, xjl_l, Option.toList_some, Option.toList_none, List.cons_append, List.nil_append, xr_0_0, xr_0_1, xr_0_2, xr_0_3, xr_0_4, xr_0_5, xr_0_6, xr_0_7, xr_1_0, xr_1_1, xr_4_5, xr_4_6, xr_4_7, xr_4_8, xr_8_0, xr_10_5, xr_10_6, xr_10_7, xr_10_8, xr_14_0, xr_16_0, xr_16_1, xr_16_2, xr_20_0, xr_21_0, xr_21_1, xr_22_0, xr_24_0, xr_26_0, xr_26_1, xr_26_2, xr_30_0, xr_30_1, xr_30_2, xr_30_3, xr_30_4, xr_30_5, xr_30_6, xr_30_7, xr_31_0, xr_39_0, xr_39_1, xr_39_2, xr_42_0, xr_42_2, xr_42_3, xr_42_4, xr_42_5, xr_42_6, xr_42_8, xr_42_10, xr_42_13, xr_42_14, xr_42_15, xr_42_16, xr_42_23, xr_42_24, xr_42_25]
      rw [xbr_f' (by omega)]
      by_cases k0 : k = 0
      · rw [xbr_t' k0]; rw [if_pos k0] at hq; exact hq
      · rw [xbr_f' k0, e1]; rw [if_neg k0] at hq; exact hq
    · have hq := hQ M1 hG1
      rw [hn, if_pos rfl] at hq
      simp (disch := first | assumption | decide +kernel | exact hM _ _ | exact hL _ | exact xG_b | exact xG_bt _ _ | omega) only [w59_45, w59_47, w59_49, w59_51, w59_54, w59_56, true_implies, false_implies, not_true_eq_false, not_false_eq_true, and_true, true_and, Int.reduceEq, Int.reduceLE, Int.reduceLT, Int.reduceNeg, xb_eq0, xb_eq1, xup_ne, xup_self, xup_k, xjl_i, xjl_r, xjl_j, xjl_l, Option.toList_some, Option.toList_none, List.cons_append, List.nil_append, xr_0_0, xr_0_1, xr_0_2, xr_0_3, xr_0_4, xr_0_5, xr_0_6, xr_0_7, xr_1_0, xr_1_1, xr_4_5, xr_4_6, xr_4_7, xr_4_8, xr_8_0, xr_10_5, xr_10_6, xr_10_7, xr_10_8, xr_14_0, xr_16_0, xr_16_1, xr_16_2, xr_20_0, xr_21_0, xr_21_1, xr_22_0, xr_24_0, xr_26_0, xr_26_1, xr_26_2, xr_30_0, xr_30_1, xr_30_2, xr_30_3, xr_30_4, xr_30_5, xr_30_6, xr_30_7, xr_31_0, xr_39_0, xr_39_1, xr_39_2, xr_42_0, xr_42_2, xr_42_3, xr_42_4, xr_42_5, xr_42_6, xr_42_8, xr_42_10, xr_42_13, xr_42_14, xr_42_15, xr_42_16, xr_42_23, xr_42_24, xr_42_25]
      exact hq
  simp (disch := first | assumption | decide +kernel | exact hM _ _ | exact hL _ | exact xG_b | exact xG_bt _ _ | omega) only [w59_0, w59_1, w59_4, w59_5, w59_8, w59_11, w59_12, w59_15, w59_16, w59_19, w59_22, w59_23, w59_24, w59_27, w59_28, w59_31, w59_34, w59_35, wc59, true_implies, false_implies, not_true_eq_false, not_false_eq_true, and_true, true_and, Int.reduceEq, Int.reduceLE, Int.reduceLT, Int.reduceNeg, xb_eq0, xb_eq1, xup_ne, xup_self, xup_k, xjl_i, xjl_r, xjl_j, xjl_l, Option.toList_some, Option.toList_none, List.cons_append, List.nil_append, xr_0_0, xr_0_1, xr_0_2, xr_0_3, xr_0_4, xr_0_5, xr_0_6, xr_0_7, xr_1_0, xr_1_1, xr_4_5, xr_4_6, xr_4_7, xr_4_8, xr_8_0, xr_10_5, xr_10_6, xr_10_7, xr_10_8, xr_14_0, xr_16_0, xr_16_1, xr_16_2, xr_20_0, xr_21_0, xr_21_1, xr_22_0, xr_24_0, xr_26_0, xr_26_1, xr_26_2, xr_30_0, xr_30_1, xr_30_2, xr_30_3, xr_30_4, xr_30_5, xr_30_6, xr_30_7, xr_31_0, xr_39_0, xr_39_1, xr_39_2, xr_42_0, xr_42_2, xr_42_3, xr_42_4, xr_42_5, xr_42_6, xr_42_8, xr_42_10, xr_42_13, xr_42_14, xr_42_15, xr_42_16, xr_42_23, xr_42_24, xr_42_25, q_hasTrain, q_isEither]
  repeat' (first | apply And.intro | intro _)
  all_goals first | exact hgood (by omega) | exact hbad (by omega)
end WAYS
