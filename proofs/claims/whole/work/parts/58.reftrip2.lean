/-! the reference: trips, its loops -/
section RTRIP2
variable {w z y M : xM} {Q : Option xV → xM → Prop}
theorem rR_F {h : Int → Int → Int} {n : Nat} {M' : xM} (hR : rR w h n M) (hf : ∀ c, c ≠ 55 → c ≠ 56 → M' c = M c) : rR w h n M' := by
  unfold rR rWent
  rw [hf 51 (by omega) (by omega), hf 52 (by omega) (by omega), hf 53 (by omega) (by omega), hf 42 (by omega) (by omega)]
  exact hR
/-- a round half way: the edges before (a, b) are through -/
def tI (w z : xM) (G H : Int → Int) (M0 : xM) (a b : Int) (M1 : xM) : Prop :=
  (∀ t, 0 ≤ t → t < w 0 1 → 0 ≤ M1 55 t ∧ M1 55 t ≤ M0 55 t ∧ G t ≤ M1 55 t) ∧ (∀ p, 0 ≤ p → p < w 0 2 → 0 ≤ M1 56 p ∧ M1 56 p ≤ M0 56 p ∧ H p ≤ M1 56 p) ∧
  (∀ t p, 0 ≤ t → t < w 0 1 → 0 ≤ p → p < w 0 2 → z 0 p = w 1 t → (t < a ∨ (t = a ∧ p < b)) → M1 55 t ≤ M0 56 p ∧ (M0 55 t < 99 → M1 56 p ≤ M0 55 t + 1)) ∧ (∀ c, c ≠ 55 → c ≠ 56 → M1 c = M0 c)
def tV (w M : xM) : Prop := (∀ t, 0 ≤ t → t < w 0 1 → 0 ≤ M 55 t ∧ M 55 t ≤ 99) ∧ (∀ p, 0 ≤ p → p < w 0 2 → 0 ≤ M 56 p ∧ M 56 p ≤ 99)
theorem tI_no {G H : Int → Int} {M0 M1 : xM} {a b : Int} (hI : tI w z G H M0 a b M1) (hz : ¬ z 0 b = w 1 a) : tI w z G H M0 a (b + 1) M1 := by
  obtain ⟨i1, i2, i3, i4⟩ := hI
  refine ⟨i1, i2, fun t p t0 t1 p0 p1 e hl => ?_, i4⟩
  by_cases h : t = a ∧ p = b
  · rw [h.1, h.2] at e; exact absurd e hz
  · exact i3 t p t0 t1 p0 p1 e (by omega)
theorem tI_yes {G H : Int → Int} {M0 M1 : xM} {a b v u : Int} (ha : 0 ≤ a ∧ a < w 0 1) (hb : 0 ≤ b ∧ b < w 0 2) (hI : tI w z G H M0 a b M1) (hV : tV w M0) (hz : z 0 b = w 1 a) (hfix : G a ≤ H b ∧ (G a < 99 → H b ≤ G a + 1))
    (hv : v = if M1 55 a < 99 ∧ M1 55 a + 1 < M1 56 b then M1 55 a + 1 else M1 56 b) (hu : u = if v < M1 55 a then v else M1 55 a) : tI w z G H M0 a (b + 1) (xup (xup M1 56 b v) 55 a u) := by
  obtain ⟨i1, i2, i3, i4⟩ := hI
  have j1 := i1 a ha.1 ha.2
  have j2 := i2 b hb.1 hb.2
  have v1 := hV.1 a ha.1 ha.2
  have v2 := hV.2 b hb.1 hb.2
  have hvb : 0 ≤ v ∧ v ≤ M1 56 b ∧ H b ≤ v ∧ (M1 55 a < 99 → v ≤ M1 55 a + 1) := by
    rw [hv]
    split <;> omega
  have hub : 0 ≤ u ∧ u ≤ M1 55 a ∧ G a ≤ u ∧ u ≤ v := by
    rw [hu]
    split <;> omega
  refine ⟨fun t t0 t1 => ?_, fun p p0 p1 => ?_, fun t p t0 t1 p0 p1 e hl => ?_, fun c c1 c2 => by rw [xup_ne c1, xup_ne c2]; exact i4 c c1 c2⟩
  · by_cases e : t = a
    · subst e; rw [xup_self]; omega
    · rw [xup_k e, xup_ne (by omega)]; exact i1 t t0 t1
  · rw [xup_ne (by omega)]
    by_cases e : p = b
    · subst e; rw [xup_self]; omega
    · rw [xup_k e]; exact i2 p p0 p1
  · rw [xup_ne (d' := 56) (by omega)]
    by_cases h : t = a ∧ p = b
    · rw [h.1, h.2, xup_self, xup_self]; omega
    · have i := i3 t p t0 t1 p0 p1 e (by omega)
      have k1 : xup (xup M1 56 b v) 55 a u 55 t ≤ M1 55 t := by
        by_cases e : t = a
        · subst e; rw [xup_self]; omega
        · rw [xup_k e, xup_ne (by omega)]; exact Int.le_refl _
      have k2 : xup M1 56 b v 56 p ≤ M1 56 p := by
        by_cases e : p = b
        · subst e; rw [xup_self]; omega
        · rw [xup_k e]; exact Int.le_refl _
      omega
theorem lq_tp {h : Int → Int → Int} {G H : Int → Int} {M0 : xM} {a b k r t : Int} {s : Nat} (hw : zW w) (hT : rT w M0) (hR : rR w h 60 M0) (hs : s ≤ 60) (ht : 0 ≤ t ∧ t < w 0 1) (hV : tV w M0) (hfix : ∀ t p, 0 ≤ t → t < w 0 1 → 0 ≤ p → p < w 0 2 → zR w h s 0 p = w 1 t → G t ≤ H p ∧ (G t < 99 → H p ≤ G t + 1))
    (hQ : ∀ M', tI w (zR w h s) G H M0 t (w 0 2) M' → Wp 118 244 [xr 42, xi a, xi b, xi k, xi s, xi r, xi t, xi (w 0 2)] [] M' Q) :
    ∀ (j n : Nat) (M1 : xM), (n : Int) + j = w 0 2 → tI w (zR w h s) G H M0 t n M1 → Wp 118 116 [xr 42, xi a, xi b, xi k, xi s, xi r, xi t, xi n] [] M1 Q := by
  intro j
  have hw1 := hw.1
  have hw2 := hw.2.1
  have hw3 := hw.2.2.1
  induction j with
  | zero =>
    intro n M1 hn hI
    have l2 : M1 44 2 = w 0 2 := by rw [hI.2.2.2 44 (by omega) (by omega)]; exact hT.2.2.1
    simp (disch := first | assumption | decide +kernel | exact hM _ _ | exact hL _ | exact xG_b | exact xG_bt _ _ | omega) only [w118_116, w118_118, w118_119, w118_122, w118_123, w118_124, Int.reduceAdd, xup_twice, true_implies, false_implies, not_true_eq_false, not_false_eq_true, and_true, true_and, Int.reduceEq, Int.reduceLE, Int.reduceLT, Int.reduceNeg, xb_eq0, xb_eq1, xup_ne, xup_self, xup_k, xjl_i, xjl_r, xjl_j, xjl_l, Option.toList_some, Option.toList_none, List.cons_append, List.nil_append, xr_0_0, xr_0_1, xr_0_2, xr_0_3, xr_0_4, xr_0_5, xr_0_6, xr_0_7, xr_1_0, xr_1_1, xr_4_5, xr_4_6, xr_4_7, xr_4_8, xr_8_0, xr_10_5, xr_10_6, xr_10_7, xr_10_8, xr_14_0, xr_16_0, xr_16_1, xr_16_2, xr_20_0, xr_21_0, xr_21_1, xr_22_0, xr_24_0, xr_26_0, xr_26_1, xr_26_2, xr_30_0, xr_30_1, xr_30_2, xr_30_3, xr_30_4, xr_30_5, xr_30_6, xr_30_7, xr_31_0, xr_39_0, xr_39_1, xr_39_2, xr_42_0, xr_42_2, xr_42_3, xr_42_4, xr_42_5, xr_42_6, xr_42_8, xr_42_10, xr_42_13, xr_42_14, xr_42_15, xr_42_16, xr_42_23, xr_42_24, xr_42_25, l2]
    refine ⟨fun _ => ?_, fun h => absurd h (by omega)⟩
    have e' : (n : Int) = w 0 2 := by omega
    rw [e'] at hI ⊢
    exact hQ M1 hI
  | succ j ih =>
    intro n M1 hn hI
    have l2 : M1 44 2 = w 0 2 := by rw [hI.2.2.2 44 (by omega) (by omega)]; exact hT.2.2.1
    have hR1 := rR_F hR hI.2.2.2
    have hT1 : rT w M1 := rT_F hT (hI.2.2.2 44 (by omega) (by omega))
    simp (disch := first | assumption | decide +kernel | exact hM _ _ | exact hL _ | exact xG_b | exact xG_bt _ _ | omega) only [w118_116, w118_118, w118_119, w118_122, w118_123, w118_124, Int.reduceAdd, xup_twice, true_implies, false_implies, not_true_eq_false, not_false_eq_true, and_true, true_and, Int.reduceEq, Int.reduceLE, Int.reduceLT, Int.reduceNeg, xb_eq0, xb_eq1, xup_ne, xup_self, xup_k, xjl_i, xjl_r, xjl_j, xjl_l, Option.toList_some, Option.toList_none, List.cons_append, List.nil_append, xr_0_0, xr_0_1, xr_0_2, xr_0_3, xr_0_4, xr_0_5, xr_0_6, xr_0_7, xr_1_0, xr_1_1, xr_4_5, xr_4_6, xr_4_7, xr_4_8, xr_8_0, xr_10_5, xr_10_6, xr_10_7, xr_10_8, xr_14_0, xr_16_0, xr_16_1, xr_16_2, xr_20_0, xr_21_0, xr_21_1, xr_22_0, xr_24_0, xr_26_0, xr_26_1, xr_26_2, xr_30_0, xr_30_1, xr_30_2, xr_30_3, xr_30_4, xr_30_5, xr_30_6, xr_30_7, xr_31_0, xr_39_0, xr_39_1, xr_39_2, xr_42_0, xr_42_2, xr_42_3, xr_42_4, xr_42_5, xr_42_6, xr_42_8, xr_42_10, xr_42_13, xr_42_14, xr_42_15, xr_42_16, xr_42_23, xr_42_24, xr_42_25, l2]
    refine ⟨fun h => absurd h (by omega), fun _ => ?_⟩
    simp (disch := first | assumption | decide +kernel | exact hM _ _ | exact hL _ | exact xG_b | exact xG_bt _ _ | omega) only [w118_127, w118_128, w118_130, w118_132, w118_134, Int.reduceAdd, xup_twice, true_implies, false_implies, not_true_eq_false, not_false_eq_true, and_true, true_and, Int.reduceEq, Int.reduceLE, Int.reduceLT, Int.reduceNeg, xb_eq0, xb_eq1, xup_ne, xup_self, xup_k, xjl_i, xjl_r, xjl_j, xjl_l, Option.toList_some, Option.toList_none, List.cons_append, List.nil_append, xr_0_0, xr_0_1, xr_0_2, xr_0_3, xr_0_4, xr_0_5, xr_0_6, xr_0_7, xr_1_0, xr_1_1, xr_4_5, xr_4_6, xr_4_7, xr_4_8, xr_8_0, xr_10_5, xr_10_6, xr_10_7, xr_10_8, xr_14_0, xr_16_0, xr_16_1, xr_16_2, xr_20_0, xr_21_0, xr_21_1, xr_22_0, xr_24_0, xr_26_0, xr_26_1, xr_26_2, xr_30_0, xr_30_1, xr_30_2, xr_30_3, xr_30_4, xr_30_5, xr_30_6, xr_30_7, xr_31_0, xr_39_0, xr_39_1, xr_39_2, xr_42_0, xr_42_2, xr_42_3, xr_42_4, xr_42_5, xr_42_6, xr_42_8, xr_42_10, xr_42_13, xr_42_14, xr_42_15, xr_42_16, xr_42_23, xr_42_24, xr_42_25]
    rw [q9_isAt hw hT1 hR1 (by omega) ht (by omega), Int.toNat_natCast]
    by_cases hz : zR w h s 0 n = w 1 t
    · rw [if_pos hz]
      have j1 := hI.1 t ht.1 ht.2
      have j2 := hI.2.1 n (by omega) (by omega)
      have v1 := hV.1 t ht.1 ht.2
      have v2 := hV.2 n (by omega) (by omega)
      have key : ∀ v, v = (if M1 55 t < 99 ∧ M1 55 t + 1 < M1 56 n then M1 55 t + 1 else M1 56 n) → Wp 118 196 [xr 42, xi a, xi b, xi k, xi s, xi r, xi t, xi n] [xi v, xi n, xr 56] M1 Q := fun v hv => by
        have rv : 0 ≤ v ∧ v ≤ 99 := by rw [hv]; split <;> omega
        simp (disch := first | assumption | decide +kernel | exact hM _ _ | exact hL _ | exact xG_b | exact xG_bt _ _ | omega) only [w118_196, w118_197, w118_198, w118_201, w118_203, w118_204, w118_207, w118_209, w118_210, w118_211, w118_214, w118_216, w118_217, Int.reduceAdd, xup_twice, true_implies, false_implies, not_true_eq_false, not_false_eq_true, and_true, true_and, Int.reduceEq, Int.reduceLE, Int.reduceLT, Int.reduceNeg, xb_eq0, xb_eq1, xup_ne, xup_self, xup_k, xjl_i, xjl_r, xjl_j, xjl_l, Option.toList_some, Option.toList_none, List.cons_append, List.nil_append, xr_0_0, xr_0_1, xr_0_2, xr_0_3, xr_0_4, xr_0_5, xr_0_6, xr_0_7, xr_1_0, xr_1_1, xr_4_5, xr_4_6, xr_4_7, xr_4_8, xr_8_0, xr_10_5, xr_10_6, xr_10_7, xr_10_8, xr_14_0, xr_16_0, xr_16_1, xr_16_2, xr_20_0, xr_21_0, xr_21_1, xr_22_0, xr_24_0, xr_26_0, xr_26_1, xr_26_2, xr_30_0, xr_30_1, xr_30_2, xr_30_3, xr_30_4, xr_30_5, xr_30_6, xr_30_7, xr_31_0, xr_39_0, xr_39_1, xr_39_2, xr_42_0, xr_42_2, xr_42_3, xr_42_4, xr_42_5, xr_42_6, xr_42_8, xr_42_10, xr_42_13, xr_42_14, xr_42_15, xr_42_16, xr_42_23, xr_42_24, xr_42_25]
        refine ⟨fun h6 => ?_, fun h6 => ?_⟩
        · simp (disch := first | assumption | decide +kernel | exact hM _ _ | exact hL _ | exact xG_b | exact xG_bt _ _ | omega) only [w118_230, w118_231, w118_234, w118_236, w118_237, w118_238, w118_241, Int.reduceAdd, xup_twice, true_implies, false_implies, not_true_eq_false, not_false_eq_true, and_true, true_and, Int.reduceEq, Int.reduceLE, Int.reduceLT, Int.reduceNeg, xb_eq0, xb_eq1, xup_ne, xup_self, xup_k, xjl_i, xjl_r, xjl_j, xjl_l, Option.toList_some, Option.toList_none, List.cons_append, List.nil_append, xr_0_0, xr_0_1, xr_0_2, xr_0_3, xr_0_4, xr_0_5, xr_0_6, xr_0_7, xr_1_0, xr_1_1, xr_4_5, xr_4_6, xr_4_7, xr_4_8, xr_8_0, xr_10_5, xr_10_6, xr_10_7, xr_10_8, xr_14_0, xr_16_0, xr_16_1, xr_16_2, xr_20_0, xr_21_0, xr_21_1, xr_22_0, xr_24_0, xr_26_0, xr_26_1, xr_26_2, xr_30_0, xr_30_1, xr_30_2, xr_30_3, xr_30_4, xr_30_5, xr_30_6, xr_30_7, xr_31_0, xr_39_0, xr_39_1, xr_39_2, xr_42_0, xr_42_2, xr_42_3, xr_42_4, xr_42_5, xr_42_6, xr_42_8, xr_42_10, xr_42_13, xr_42_14, xr_42_15, xr_42_16, xr_42_23, xr_42_24, xr_42_25]
          exact ih (n + 1) _ (by omega) (tI_yes ht (by omega) hI hV hz (hfix t n ht.1 ht.2 (by omega) (by omega) hz) hv (by rw [if_neg (by omega)]))
        · simp (disch := first | assumption | decide +kernel | exact hM _ _ | exact hL _ | exact xG_b | exact xG_bt _ _ | omega) only [w118_220, w118_221, w118_224, w118_226, w118_227, w118_230, w118_231, w118_234, w118_236, w118_237, w118_238, w118_241, Int.reduceAdd, xup_twice, true_implies, false_implies, not_true_eq_false, not_false_eq_true, and_true, true_and, Int.reduceEq, Int.reduceLE, Int.reduceLT, Int.reduceNeg, xb_eq0, xb_eq1, xup_ne, xup_self, xup_k, xjl_i, xjl_r, xjl_j, xjl_l, Option.toList_some, Option.toList_none, List.cons_append, List.nil_append, xr_0_0, xr_0_1, xr_0_2, xr_0_3, xr_0_4, xr_0_5, xr_0_6, xr_0_7, xr_1_0, xr_1_1, xr_4_5, xr_4_6, xr_4_7, xr_4_8, xr_8_0, xr_10_5, xr_10_6, xr_10_7, xr_10_8, xr_14_0, xr_16_0, xr_16_1, xr_16_2, xr_20_0, xr_21_0, xr_21_1, xr_22_0, xr_24_0, xr_26_0, xr_26_1, xr_26_2, xr_30_0, xr_30_1, xr_30_2, xr_30_3, xr_30_4, xr_30_5, xr_30_6, xr_30_7, xr_31_0, xr_39_0, xr_39_1, xr_39_2, xr_42_0, xr_42_2, xr_42_3, xr_42_4, xr_42_5, xr_42_6, xr_42_8, xr_42_10, xr_42_13, xr_42_14, xr_42_15, xr_42_16, xr_42_23, xr_42_24, xr_42_25]
          exact ih (n + 1) _ (by omega) (tI_yes ht (by omega) hI hV hz (hfix t n ht.1 ht.2 (by omega) (by omega) hz) hv (by rw [if_pos (by omega)]))
      simp (disch := first | assumption | decide +kernel | exact hM _ _ | exact hL _ | exact xG_b | exact xG_bt _ _ | omega) only [w118_137, w118_140, w118_141, w118_144, w118_146, w118_147, w118_150, w118_152, w118_153, w118_155, Int.reduceAdd, xup_twice, true_implies, false_implies, not_true_eq_false, not_false_eq_true, and_true, true_and, Int.reduceEq, Int.reduceLE, Int.reduceLT, Int.reduceNeg, xb_eq0, xb_eq1, xup_ne, xup_self, xup_k, xjl_i, xjl_r, xjl_j, xjl_l, Option.toList_some, Option.toList_none, List.cons_append, List.nil_append, xr_0_0, xr_0_1, xr_0_2, xr_0_3, xr_0_4, xr_0_5, xr_0_6, xr_0_7, xr_1_0, xr_1_1, xr_4_5, xr_4_6, xr_4_7, xr_4_8, xr_8_0, xr_10_5, xr_10_6, xr_10_7, xr_10_8, xr_14_0, xr_16_0, xr_16_1, xr_16_2, xr_20_0, xr_21_0, xr_21_1, xr_22_0, xr_24_0, xr_26_0, xr_26_1, xr_26_2, xr_30_0, xr_30_1, xr_30_2, xr_30_3, xr_30_4, xr_30_5, xr_30_6, xr_30_7, xr_31_0, xr_39_0, xr_39_1, xr_39_2, xr_42_0, xr_42_2, xr_42_3, xr_42_4, xr_42_5, xr_42_6, xr_42_8, xr_42_10, xr_42_13, xr_42_14, xr_42_15, xr_42_16, xr_42_23, xr_42_24, xr_42_25]
      refine ⟨fun h5 => ?_, fun h5 => ?_⟩
      · simp (disch := first | assumption | decide +kernel | exact hM _ _ | exact hL _ | exact xG_b | exact xG_bt _ _ | omega) only [w118_189, w118_190, w118_193, w118_195, Int.reduceAdd, xup_twice, true_implies, false_implies, not_true_eq_false, not_false_eq_true, and_true, true_and, Int.reduceEq, Int.reduceLE, Int.reduceLT, Int.reduceNeg, xb_eq0, xb_eq1, xup_ne, xup_self, xup_k, xjl_i, xjl_r, xjl_j, xjl_l, Option.toList_some, Option.toList_none, List.cons_append, List.nil_append, xr_0_0, xr_0_1, xr_0_2, xr_0_3, xr_0_4, xr_0_5, xr_0_6, xr_0_7, xr_1_0, xr_1_1, xr_4_5, xr_4_6, xr_4_7, xr_4_8, xr_8_0, xr_10_5, xr_10_6, xr_10_7, xr_10_8, xr_14_0, xr_16_0, xr_16_1, xr_16_2, xr_20_0, xr_21_0, xr_21_1, xr_22_0, xr_24_0, xr_26_0, xr_26_1, xr_26_2, xr_30_0, xr_30_1, xr_30_2, xr_30_3, xr_30_4, xr_30_5, xr_30_6, xr_30_7, xr_31_0, xr_39_0, xr_39_1, xr_39_2, xr_42_0, xr_42_2, xr_42_3, xr_42_4, xr_42_5, xr_42_6, xr_42_8, xr_42_10, xr_42_13, xr_42_14, xr_42_15, xr_42_16, xr_42_23, xr_42_24, xr_42_25]
        exact key _ (by rw [if_neg (by omega)])
      · simp (disch := first | assumption | decide +kernel | exact hM _ _ | exact hL _ | exact xG_b | exact xG_bt _ _ | omega) only [w118_158, w118_159, w118_162, w118_164, w118_165, w118_166, w118_167, w118_168, w118_171, w118_173, w118_174, Int.reduceAdd, xup_twice, true_implies, false_implies, not_true_eq_false, not_false_eq_true, and_true, true_and, Int.reduceEq, Int.reduceLE, Int.reduceLT, Int.reduceNeg, xb_eq0, xb_eq1, xup_ne, xup_self, xup_k, xjl_i, xjl_r, xjl_j, xjl_l, Option.toList_some, Option.toList_none, List.cons_append, List.nil_append, xr_0_0, xr_0_1, xr_0_2, xr_0_3, xr_0_4, xr_0_5, xr_0_6, xr_0_7, xr_1_0, xr_1_1, xr_4_5, xr_4_6, xr_4_7, xr_4_8, xr_8_0, xr_10_5, xr_10_6, xr_10_7, xr_10_8, xr_14_0, xr_16_0, xr_16_1, xr_16_2, xr_20_0, xr_21_0, xr_21_1, xr_22_0, xr_24_0, xr_26_0, xr_26_1, xr_26_2, xr_30_0, xr_30_1, xr_30_2, xr_30_3, xr_30_4, xr_30_5, xr_30_6, xr_30_7, xr_31_0, xr_39_0, xr_39_1, xr_39_2, xr_42_0, xr_42_2, xr_42_3, xr_42_4, xr_42_5, xr_42_6, xr_42_8, xr_42_10, xr_42_13, xr_42_14, xr_42_15, xr_42_16, xr_42_23, xr_42_24, xr_42_25]
        refine ⟨fun h6 => ?_, fun h6 => ?_⟩
        · simp (disch := first | assumption | decide +kernel | exact hM _ _ | exact hL _ | exact xG_b | exact xG_bt _ _ | omega) only [w118_189, w118_190, w118_193, w118_195, Int.reduceAdd, xup_twice, true_implies, false_implies, not_true_eq_false, not_false_eq_true, and_true, true_and, Int.reduceEq, Int.reduceLE, Int.reduceLT, Int.reduceNeg, xb_eq0, xb_eq1, xup_ne, xup_self, xup_k, xjl_i, xjl_r, xjl_j, xjl_l, Option.toList_some, Option.toList_none, List.cons_append, List.nil_append, xr_0_0, xr_0_1, xr_0_2, xr_0_3, xr_0_4, xr_0_5, xr_0_6, xr_0_7, xr_1_0, xr_1_1, xr_4_5, xr_4_6, xr_4_7, xr_4_8, xr_8_0, xr_10_5, xr_10_6, xr_10_7, xr_10_8, xr_14_0, xr_16_0, xr_16_1, xr_16_2, xr_20_0, xr_21_0, xr_21_1, xr_22_0, xr_24_0, xr_26_0, xr_26_1, xr_26_2, xr_30_0, xr_30_1, xr_30_2, xr_30_3, xr_30_4, xr_30_5, xr_30_6, xr_30_7, xr_31_0, xr_39_0, xr_39_1, xr_39_2, xr_42_0, xr_42_2, xr_42_3, xr_42_4, xr_42_5, xr_42_6, xr_42_8, xr_42_10, xr_42_13, xr_42_14, xr_42_15, xr_42_16, xr_42_23, xr_42_24, xr_42_25]
          exact key _ (by rw [if_neg (by omega)])
        · simp (disch := first | assumption | decide +kernel | exact hM _ _ | exact hL _ | exact xG_b | exact xG_bt _ _ | omega) only [w118_177, w118_178, w118_181, w118_183, w118_184, w118_185, w118_186, Int.reduceAdd, xup_twice, true_implies, false_implies, not_true_eq_false, not_false_eq_true, and_true, true_and, Int.reduceEq, Int.reduceLE, Int.reduceLT, Int.reduceNeg, xb_eq0, xb_eq1, xup_ne, xup_self, xup_k, xjl_i, xjl_r, xjl_j, xjl_l, Option.toList_some, Option.toList_none, List.cons_append, List.nil_append, xr_0_0, xr_0_1, xr_0_2, xr_0_3, xr_0_4, xr_0_5, xr_0_6, xr_0_7, xr_1_0, xr_1_1, xr_4_5, xr_4_6, xr_4_7, xr_4_8, xr_8_0, xr_10_5, xr_10_6, xr_10_7, xr_10_8, xr_14_0, xr_16_0, xr_16_1, xr_16_2, xr_20_0, xr_21_0, xr_21_1, xr_22_0, xr_24_0, xr_26_0, xr_26_1, xr_26_2, xr_30_0, xr_30_1, xr_30_2, xr_30_3, xr_30_4, xr_30_5, xr_30_6, xr_30_7, xr_31_0, xr_39_0, xr_39_1, xr_39_2, xr_42_0, xr_42_2, xr_42_3, xr_42_4, xr_42_5, xr_42_6, xr_42_8, xr_42_10, xr_42_13, xr_42_14, xr_42_15, xr_42_16, xr_42_23, xr_42_24, xr_42_25]
          exact key _ (by rw [if_pos (by omega)])
    · rw [if_neg hz]
      simp (disch := first | assumption | decide +kernel | exact hM _ _ | exact hL _ | exact xG_b | exact xG_bt _ _ | omega) only [w118_137, w118_238, w118_241, Int.reduceAdd, xup_twice, true_implies, false_implies, not_true_eq_false, not_false_eq_true, and_true, true_and, Int.reduceEq, Int.reduceLE, Int.reduceLT, Int.reduceNeg, xb_eq0, xb_eq1, xup_ne, xup_self, xup_k, xjl_i, xjl_r, xjl_j, xjl_l, Option.toList_some, Option.toList_none, List.cons_append, List.nil_append, xr_0_0, xr_0_1, xr_0_2, xr_0_3, xr_0_4, xr_0_5, xr_0_6, xr_0_7, xr_1_0, xr_1_1, xr_4_5, xr_4_6, xr_4_7, xr_4_8, xr_8_0, xr_10_5, xr_10_6, xr_10_7, xr_10_8, xr_14_0, xr_16_0, xr_16_1, xr_16_2, xr_20_0, xr_21_0, xr_21_1, xr_22_0, xr_24_0, xr_26_0, xr_26_1, xr_26_2, xr_30_0, xr_30_1, xr_30_2, xr_30_3, xr_30_4, xr_30_5, xr_30_6, xr_30_7, xr_31_0, xr_39_0, xr_39_1, xr_39_2, xr_42_0, xr_42_2, xr_42_3, xr_42_4, xr_42_5, xr_42_6, xr_42_8, xr_42_10, xr_42_13, xr_42_14, xr_42_15, xr_42_16, xr_42_23, xr_42_24, xr_42_25]
      exact ih (n + 1) M1 (by omega) (tI_no hI hz)
theorem lq_tt {h : Int → Int → Int} {G H : Int → Int} {M0 : xM} {a b k r : Int} {s : Nat} (hw : zW w) (hT : rT w M0) (hR : rR w h 60 M0) (hs : s ≤ 60) (hV : tV w M0) (hfix : ∀ t p, 0 ≤ t → t < w 0 1 → 0 ≤ p → p < w 0 2 → zR w h s 0 p = w 1 t → G t ≤ H p ∧ (G t < 99 → H p ≤ G t + 1))
    (hQ : ∀ M' v7, tI w (zR w h s) G H M0 (w 0 1) 0 M' → Wp 118 250 [xr 42, xi a, xi b, xi k, xi s, xi r, xi (w 0 1), v7] [] M' Q) :
    ∀ (j n : Nat) (v7 : xV) (M1 : xM), (n : Int) + j = w 0 1 → tI w (zR w h s) G H M0 n 0 M1 → Wp 118 102 [xr 42, xi a, xi b, xi k, xi s, xi r, xi n, v7] [] M1 Q := by
  intro j
  have hw2 := hw.2.1
  have hw3 := hw.2.2.1
  induction j with
  | zero =>
    intro n v7 M1 hn hI
    have l1 : M1 44 1 = w 0 1 := by rw [hI.2.2.2 44 (by omega) (by omega)]; exact hT.2.1
    simp (disch := first | assumption | decide +kernel | exact hM _ _ | exact hL _ | exact xG_b | exact xG_bt _ _ | omega) only [w118_102, w118_104, w118_105, w118_108, w118_109, w118_110, Int.reduceAdd, xup_twice, true_implies, false_implies, not_true_eq_false, not_false_eq_true, and_true, true_and, Int.reduceEq, Int.reduceLE, Int.reduceLT, Int.reduceNeg, xb_eq0, xb_eq1, xup_ne, xup_self, xup_k, xjl_i, xjl_r, xjl_j, xjl_l, Option.toList_some, Option.toList_none, List.cons_append, List.nil_append, xr_0_0, xr_0_1, xr_0_2, xr_0_3, xr_0_4, xr_0_5, xr_0_6, xr_0_7, xr_1_0, xr_1_1, xr_4_5, xr_4_6, xr_4_7, xr_4_8, xr_8_0, xr_10_5, xr_10_6, xr_10_7, xr_10_8, xr_14_0, xr_16_0, xr_16_1, xr_16_2, xr_20_0, xr_21_0, xr_21_1, xr_22_0, xr_24_0, xr_26_0, xr_26_1, xr_26_2, xr_30_0, xr_30_1, xr_30_2, xr_30_3, xr_30_4, xr_30_5, xr_30_6, xr_30_7, xr_31_0, xr_39_0, xr_39_1, xr_39_2, xr_42_0, xr_42_2, xr_42_3, xr_42_4, xr_42_5, xr_42_6, xr_42_8, xr_42_10, xr_42_13, xr_42_14, xr_42_15, xr_42_16, xr_42_23, xr_42_24, xr_42_25, l1]
    refine ⟨fun _ => ?_, fun h => absurd h (by omega)⟩
    have e' : (n : Int) = w 0 1 := by omega
    rw [e'] at hI ⊢
    exact hQ M1 v7 hI
  | succ j ih =>
    intro n v7 M1 hn hI
    have l1 : M1 44 1 = w 0 1 := by rw [hI.2.2.2 44 (by omega) (by omega)]; exact hT.2.1
    simp (disch := first | assumption | decide +kernel | exact hM _ _ | exact hL _ | exact xG_b | exact xG_bt _ _ | omega) only [w118_102, w118_104, w118_105, w118_108, w118_109, w118_110, Int.reduceAdd, xup_twice, true_implies, false_implies, not_true_eq_false, not_false_eq_true, and_true, true_and, Int.reduceEq, Int.reduceLE, Int.reduceLT, Int.reduceNeg, xb_eq0, xb_eq1, xup_ne, xup_self, xup_k, xjl_i, xjl_r, xjl_j, xjl_l, Option.toList_some, Option.toList_none, List.cons_append, List.nil_append, xr_0_0, xr_0_1, xr_0_2, xr_0_3, xr_0_4, xr_0_5, xr_0_6, xr_0_7, xr_1_0, xr_1_1, xr_4_5, xr_4_6, xr_4_7, xr_4_8, xr_8_0, xr_10_5, xr_10_6, xr_10_7, xr_10_8, xr_14_0, xr_16_0, xr_16_1, xr_16_2, xr_20_0, xr_21_0, xr_21_1, xr_22_0, xr_24_0, xr_26_0, xr_26_1, xr_26_2, xr_30_0, xr_30_1, xr_30_2, xr_30_3, xr_30_4, xr_30_5, xr_30_6, xr_30_7, xr_31_0, xr_39_0, xr_39_1, xr_39_2, xr_42_0, xr_42_2, xr_42_3, xr_42_4, xr_42_5, xr_42_6, xr_42_8, xr_42_10, xr_42_13, xr_42_14, xr_42_15, xr_42_16, xr_42_23, xr_42_24, xr_42_25, l1]
    refine ⟨fun h => absurd h (by omega), fun _ => ?_⟩
    simp (disch := first | assumption | decide +kernel | exact hM _ _ | exact hL _ | exact xG_b | exact xG_bt _ _ | omega) only [w118_113, w118_114, Int.reduceAdd, xup_twice, true_implies, false_implies, not_true_eq_false, not_false_eq_true, and_true, true_and, Int.reduceEq, Int.reduceLE, Int.reduceLT, Int.reduceNeg, xb_eq0, xb_eq1, xup_ne, xup_self, xup_k, xjl_i, xjl_r, xjl_j, xjl_l, Option.toList_some, Option.toList_none, List.cons_append, List.nil_append, xr_0_0, xr_0_1, xr_0_2, xr_0_3, xr_0_4, xr_0_5, xr_0_6, xr_0_7, xr_1_0, xr_1_1, xr_4_5, xr_4_6, xr_4_7, xr_4_8, xr_8_0, xr_10_5, xr_10_6, xr_10_7, xr_10_8, xr_14_0, xr_16_0, xr_16_1, xr_16_2, xr_20_0, xr_21_0, xr_21_1, xr_22_0, xr_24_0, xr_26_0, xr_26_1, xr_26_2, xr_30_0, xr_30_1, xr_30_2, xr_30_3, xr_30_4, xr_30_5, xr_30_6, xr_30_7, xr_31_0, xr_39_0, xr_39_1, xr_39_2, xr_42_0, xr_42_2, xr_42_3, xr_42_4, xr_42_5, xr_42_6, xr_42_8, xr_42_10, xr_42_13, xr_42_14, xr_42_15, xr_42_16, xr_42_23, xr_42_24, xr_42_25]
    refine lq_tp (h := h) (G := G) (H := H) (M0 := M0) hw hT hR hs (by omega) hV hfix (fun M2 hI2 => ?_) (w 0 2).toNat 0 M1 (by omega) hI
    simp (disch := first | assumption | decide +kernel | exact hM _ _ | exact hL _ | exact xG_b | exact xG_bt _ _ | omega) only [w118_244, w118_247, Int.reduceAdd, xup_twice, true_implies, false_implies, not_true_eq_false, not_false_eq_true, and_true, true_and, Int.reduceEq, Int.reduceLE, Int.reduceLT, Int.reduceNeg, xb_eq0, xb_eq1, xup_ne, xup_self, xup_k, xjl_i, xjl_r, xjl_j, xjl_l, Option.toList_some, Option.toList_none, List.cons_append, List.nil_append, xr_0_0, xr_0_1, xr_0_2, xr_0_3, xr_0_4, xr_0_5, xr_0_6, xr_0_7, xr_1_0, xr_1_1, xr_4_5, xr_4_6, xr_4_7, xr_4_8, xr_8_0, xr_10_5, xr_10_6, xr_10_7, xr_10_8, xr_14_0, xr_16_0, xr_16_1, xr_16_2, xr_20_0, xr_21_0, xr_21_1, xr_22_0, xr_24_0, xr_26_0, xr_26_1, xr_26_2, xr_30_0, xr_30_1, xr_30_2, xr_30_3, xr_30_4, xr_30_5, xr_30_6, xr_30_7, xr_31_0, xr_39_0, xr_39_1, xr_39_2, xr_42_0, xr_42_2, xr_42_3, xr_42_4, xr_42_5, xr_42_6, xr_42_8, xr_42_10, xr_42_13, xr_42_14, xr_42_15, xr_42_16, xr_42_23, xr_42_24, xr_42_25]
    refine ih (n + 1) _ M2 (by omega) ⟨hI2.1, hI2.2.1, fun t p t0 t1 p0 p1 e hl => hI2.2.2.1 t p t0 t1 p0 p1 e (by omega), hI2.2.2.2⟩
/-- so many rounds of a step are through -/
def tS (w y y1 : xM) (G H : Int → Int) (M0 : xM) (r : Nat) (M1 : xM) : Prop :=
  (∀ t, 0 ≤ t → t < w 0 1 → 0 ≤ M1 55 t ∧ M1 55 t ≤ rPh (y 40 t) ∧ G t ≤ M1 55 t ∧ (1 ≤ r → M1 55 t ≤ rPh (y1 40 t)) ∧ (3 ≤ r → M1 55 t ≤ G t)) ∧
  (∀ p, 0 ≤ p → p < w 0 2 → 0 ≤ M1 56 p ∧ M1 56 p ≤ rPh (y 41 p) ∧ H p ≤ M1 56 p ∧ (2 ≤ r → M1 56 p ≤ H p)) ∧ (∀ c, c ≠ 55 → c ≠ 56 → M1 c = M0 c)
theorem tS_s {y1 y2 M0 M1 M2 : xM} {n : Int} {r : Nat} (hn : n ≤ 90) (hs : rSm w y n) (h1 : oF w z y y1 (w 0 2)) (h2 : oN w z y1 y2 (w 0 2)) (h3 : oF w z y2 (rCh w z y) (w 0 2))
    (hS : tS w y y1 (fun t => rPh (rCh w z y 40 t)) (fun p => rPh (rCh w z y 41 p)) M0 r M1) (hI : tI w z (fun t => rPh (rCh w z y 40 t)) (fun p => rPh (rCh w z y 41 p)) M1 (w 0 1) 0 M2) : tS w y y1 (fun t => rPh (rCh w z y 40 t)) (fun p => rPh (rCh w z y 41 p)) M0 (r + 1) M2 := by
  obtain ⟨s1, s2, s3⟩ := hS
  obtain ⟨i1, i2, i3, i4⟩ := hI
  refine ⟨fun t a b => ?_, fun p a b => ?_, fun c c1 c2 => by rw [i4 c c1 c2, s3 c c1 c2]⟩
  · obtain ⟨a1, a2, a3, a4, a5⟩ := s1 t a b
    obtain ⟨b1, b2, b3⟩ := i1 t a b
    refine ⟨b1, by omega, b3, fun _ => ?_, fun hr => ?_⟩
    · rcases (h1.2 t a b).2.2 with j | ⟨p, x1, x2, x3⟩
      · rw [j]; omega
      · have := (i3 t p a b x1.1 x1.2 x2 (by omega)).1
        have := (s2 p x1.1 x1.2).2.1
        rw [x3]; omega
    · show M2 55 t ≤ rPh (rCh w z y 40 t)
      rcases (h3.2 t a b).2.2 with j | ⟨p, x1, x2, x3⟩
      · rw [j, h2.1]
        have := a4 (by omega)
        omega
      · have := (i3 t p a b x1.1 x1.2 x2 (by omega)).1
        have h : M1 56 p ≤ rPh (rCh w z y 41 p) := (s2 p x1.1 x1.2).2.2.2 (by omega)
        rw [x3]
        rw [h3.1] at h
        omega
  · obtain ⟨a1, a2, a3, a4⟩ := s2 p a b
    obtain ⟨b1, b2, b3⟩ := i2 p a b
    refine ⟨b1, by omega, b3, fun hr => ?_⟩
    show M2 56 p ≤ rPh (rCh w z y 41 p)
    rw [h3.1]
    rcases (h2.2.2 p a b).2.2 with j | ⟨t, x1, x2, x3, x4⟩
    · rw [j, h1.1]; omega
    · have hy := hs.2 p a b
      rw [h1.1] at x4
      have hy1 : 0 ≤ y1 40 t ∧ y1 40 t ≤ n := by
        rcases (h1.2 t x1.1 x1.2).2.2 with j | ⟨p', v1, v2, v3⟩
        · have := hs.1 t x1.1 x1.2
          omega
        · have := hs.2 p' v1.1 v1.2
          omega
      have e1 : rPh (y1 40 t) = y1 40 t := if_neg (by omega)
      have e2 : rPh (y1 40 t + 1) = y1 40 t + 1 := if_neg (by omega)
      have g := (s1 t x1.1 x1.2).2.2.2.1 (by omega)
      rw [e1] at g
      have := (i3 t p x1.1 x1.2 a b x2 (by omega)).2 (by omega)
      rw [x3, e2]
      omega
theorem lq_tr {h : Int → Int → Int} {y1 y2 M0 : xM} {a b k : Int} {s : Nat} {n : Int} (hn : n ≤ 90) (hw : zW w) (hT : rT w M0) (hR : rR w h 60 M0) (hs : s ≤ 60) (hsm : rSm w y n)
    (h1 : oF w (zR w h s) y y1 (w 0 2)) (h2 : oN w (zR w h s) y1 y2 (w 0 2)) (h3 : oF w (zR w h s) y2 (rCh w (zR w h s) y) (w 0 2))
    (hQ : ∀ M' v6 v7, (∀ t, 0 ≤ t → t < w 0 1 → M' 55 t = rPh (rCh w (zR w h s) y 40 t)) → (∀ p, 0 ≤ p → p < w 0 2 → M' 56 p = rPh (rCh w (zR w h s) y 41 p)) → (∀ c, c ≠ 55 → c ≠ 56 → M' c = M0 c) → Wp 118 256 [xr 42, xi a, xi b, xi k, xi s, xi 10, v6, v7] [] M' Q) :
    ∀ (j r : Nat) (v6 v7 : xV) (M1 : xM), r + j = 10 → tS w y y1 (fun t => rPh (rCh w (zR w h s) y 40 t)) (fun p => rPh (rCh w (zR w h s) y 41 p)) M0 r M1 → Wp 118 92 [xr 42, xi a, xi b, xi k, xi s, xi r, v6, v7] [] M1 Q := by
  intro j
  have hw2 := hw.2.1
  have hw3 := hw.2.2.1
  induction j with
  | zero =>
    intro r v6 v7 M1 hr hS
    obtain rfl : r = 10 := by omega
    simp (disch := first | assumption | decide +kernel | exact hM _ _ | exact hL _ | exact xG_b | exact xG_bt _ _ | omega) only [w118_92, w118_94, w118_96, Int.reduceAdd, xup_twice, true_implies, false_implies, not_true_eq_false, not_false_eq_true, and_true, true_and, Int.reduceEq, Int.reduceLE, Int.reduceLT, Int.reduceNeg, xb_eq0, xb_eq1, xup_ne, xup_self, xup_k, xjl_i, xjl_r, xjl_j, xjl_l, Option.toList_some, Option.toList_none, List.cons_append, List.nil_append, xr_0_0, xr_0_1, xr_0_2, xr_0_3, xr_0_4, xr_0_5, xr_0_6, xr_0_7, xr_1_0, xr_1_1, xr_4_5, xr_4_6, xr_4_7, xr_4_8, xr_8_0, xr_10_5, xr_10_6, xr_10_7, xr_10_8, xr_14_0, xr_16_0, xr_16_1, xr_16_2, xr_20_0, xr_21_0, xr_21_1, xr_22_0, xr_24_0, xr_26_0, xr_26_1, xr_26_2, xr_30_0, xr_30_1, xr_30_2, xr_30_3, xr_30_4, xr_30_5, xr_30_6, xr_30_7, xr_31_0, xr_39_0, xr_39_1, xr_39_2, xr_42_0, xr_42_2, xr_42_3, xr_42_4, xr_42_5, xr_42_6, xr_42_8, xr_42_10, xr_42_13, xr_42_14, xr_42_15, xr_42_16, xr_42_23, xr_42_24, xr_42_25]
    refine ⟨fun _ => ?_, fun h => absurd h (by omega)⟩
    refine hQ M1 v6 v7 (fun t a b => ?_) (fun p a b => ?_) hS.2.2
    · obtain ⟨a1, a2, a3, a4, a5⟩ := hS.1 t a b
      exact Int.le_antisymm (a5 (by omega)) a3
    · obtain ⟨a1, a2, a3, a4⟩ := hS.2.1 p a b
      exact Int.le_antisymm (a4 (by omega)) a3
  | succ j ih =>
    intro r v6 v7 M1 hr hS
    simp (disch := first | assumption | decide +kernel | exact hM _ _ | exact hL _ | exact xG_b | exact xG_bt _ _ | omega) only [w118_92, w118_94, w118_96, Int.reduceAdd, xup_twice, true_implies, false_implies, not_true_eq_false, not_false_eq_true, and_true, true_and, Int.reduceEq, Int.reduceLE, Int.reduceLT, Int.reduceNeg, xb_eq0, xb_eq1, xup_ne, xup_self, xup_k, xjl_i, xjl_r, xjl_j, xjl_l, Option.toList_some, Option.toList_none, List.cons_append, List.nil_append, xr_0_0, xr_0_1, xr_0_2, xr_0_3, xr_0_4, xr_0_5, xr_0_6, xr_0_7, xr_1_0, xr_1_1, xr_4_5, xr_4_6, xr_4_7, xr_4_8, xr_8_0, xr_10_5, xr_10_6, xr_10_7, xr_10_8, xr_14_0, xr_16_0, xr_16_1, xr_16_2, xr_20_0, xr_21_0, xr_21_1, xr_22_0, xr_24_0, xr_26_0, xr_26_1, xr_26_2, xr_30_0, xr_30_1, xr_30_2, xr_30_3, xr_30_4, xr_30_5, xr_30_6, xr_30_7, xr_31_0, xr_39_0, xr_39_1, xr_39_2, xr_42_0, xr_42_2, xr_42_3, xr_42_4, xr_42_5, xr_42_6, xr_42_8, xr_42_10, xr_42_13, xr_42_14, xr_42_15, xr_42_16, xr_42_23, xr_42_24, xr_42_25]
    refine ⟨fun h => absurd h (by omega), fun _ => ?_⟩
    simp (disch := first | assumption | decide +kernel | exact hM _ _ | exact hL _ | exact xG_b | exact xG_bt _ _ | omega) only [w118_99, w118_100, Int.reduceAdd, xup_twice, true_implies, false_implies, not_true_eq_false, not_false_eq_true, and_true, true_and, Int.reduceEq, Int.reduceLE, Int.reduceLT, Int.reduceNeg, xb_eq0, xb_eq1, xup_ne, xup_self, xup_k, xjl_i, xjl_r, xjl_j, xjl_l, Option.toList_some, Option.toList_none, List.cons_append, List.nil_append, xr_0_0, xr_0_1, xr_0_2, xr_0_3, xr_0_4, xr_0_5, xr_0_6, xr_0_7, xr_1_0, xr_1_1, xr_4_5, xr_4_6, xr_4_7, xr_4_8, xr_8_0, xr_10_5, xr_10_6, xr_10_7, xr_10_8, xr_14_0, xr_16_0, xr_16_1, xr_16_2, xr_20_0, xr_21_0, xr_21_1, xr_22_0, xr_24_0, xr_26_0, xr_26_1, xr_26_2, xr_30_0, xr_30_1, xr_30_2, xr_30_3, xr_30_4, xr_30_5, xr_30_6, xr_30_7, xr_31_0, xr_39_0, xr_39_1, xr_39_2, xr_42_0, xr_42_2, xr_42_3, xr_42_4, xr_42_5, xr_42_6, xr_42_8, xr_42_10, xr_42_13, xr_42_14, xr_42_15, xr_42_16, xr_42_23, xr_42_24, xr_42_25]
    have hph : ∀ v, ((0 ≤ v ∧ v ≤ n) ∨ v = 1000000) → rPh v ≤ 99 := fun v hv => by unfold rPh; split <;> omega
    have hV : tV w M1 := ⟨fun t a b => by have := hS.1 t a b; have := hph _ (hsm.1 t a b); omega, fun p a b => by have := hS.2.1 p a b; have := hph _ (hsm.2 p a b); omega⟩
    refine lq_tt (h := h) (M0 := M1) hw (rT_F hT (hS.2.2 44 (by omega) (by omega))) (rR_F hR hS.2.2) hs hV (fun t p a b c d e => ch_fix hw hn hsm t p a b c d e) (fun M2 v7 hI => ?_) (w 0 1).toNat 0 v7 M1 (by omega) ⟨fun t a b => by have := hS.1 t a b; exact ⟨this.1, Int.le_refl _, this.2.2.1⟩, fun p a b => by have := hS.2.1 p a b; exact ⟨this.1, Int.le_refl _, this.2.2.1⟩, fun t p t0 t1 p0 p1 e hl => by omega, fun _ _ _ => rfl⟩
    simp (disch := first | assumption | decide +kernel | exact hM _ _ | exact hL _ | exact xG_b | exact xG_bt _ _ | omega) only [w118_250, w118_253, Int.reduceAdd, xup_twice, true_implies, false_implies, not_true_eq_false, not_false_eq_true, and_true, true_and, Int.reduceEq, Int.reduceLE, Int.reduceLT, Int.reduceNeg, xb_eq0, xb_eq1, xup_ne, xup_self, xup_k, xjl_i, xjl_r, xjl_j, xjl_l, Option.toList_some, Option.toList_none, List.cons_append, List.nil_append, xr_0_0, xr_0_1, xr_0_2, xr_0_3, xr_0_4, xr_0_5, xr_0_6, xr_0_7, xr_1_0, xr_1_1, xr_4_5, xr_4_6, xr_4_7, xr_4_8, xr_8_0, xr_10_5, xr_10_6, xr_10_7, xr_10_8, xr_14_0, xr_16_0, xr_16_1, xr_16_2, xr_20_0, xr_21_0, xr_21_1, xr_22_0, xr_24_0, xr_26_0, xr_26_1, xr_26_2, xr_30_0, xr_30_1, xr_30_2, xr_30_3, xr_30_4, xr_30_5, xr_30_6, xr_30_7, xr_31_0, xr_39_0, xr_39_1, xr_39_2, xr_42_0, xr_42_2, xr_42_3, xr_42_4, xr_42_5, xr_42_6, xr_42_8, xr_42_10, xr_42_13, xr_42_14, xr_42_15, xr_42_16, xr_42_23, xr_42_24, xr_42_25]
    exact ih (r + 1) _ _ M2 (by omega) (tS_s hn hsm h1 h2 h3 hS hI)
theorem rC_sm {h : Int → Int → Int} {a : Int} (hw : zW w) : ∀ n : Nat, n ≤ 80 → rSm w (rC w h a n) n
  | 0, _ => ⟨fun t _ _ => by simp only [rC]; split <;> omega, fun p _ _ => Or.inr (by simp [rC])⟩
  | n + 1, hn => by
    obtain ⟨_, _, _, _, _, h4⟩ := ch_all (z := zR w h n) hw (by omega) (rC_sm hw n (by omega))
    exact h4
theorem lq_ts {h : Int → Int → Int} {M0 : xM} {a b k : Int} (hw : zW w) (hT : rT w M0) (hR : rR w h 60 M0) (hb : 0 ≤ b ∧ b < w 0 1) (hk : k = 0 ∨ k = 1)
    (hQ : ∀ M', (∀ c, c ≠ 55 → c ≠ 56 → M' c = M0 c) → Q (some (xi (if xfst (aGot w h a b) 61 = -4 then -4 else if k = 0 then xfst (aGot w h a b) 61 else rC w h a ((xfst (aGot w h a b) 61).toNat + 1) 40 b))) M') :
    ∀ (j n : Nat) (v5 v6 v7 : xV) (M1 : xM), n + j = 61 → (∀ i : Nat, i < n → aGot w h a b i = false) → (∀ t, 0 ≤ t → t < w 0 1 → M1 55 t = rPh (rC w h a n 40 t)) → (∀ p, 0 ≤ p → p < w 0 2 → M1 56 p = rPh (rC w h a n 41 p)) → (∀ c, c ≠ 55 → c ≠ 56 → M1 c = M0 c) → Wp 118 82 [xr 42, xi a, xi b, xi k, xi n, v5, v6, v7] [] M1 Q := by
  intro j
  have hw2 := hw.2.1
  have hw3 := hw.2.2.1
  induction j with
  | zero =>
    intro n v5 v6 v7 M1 hn hno h55 h56 hf
    obtain rfl : n = 61 := by omega
    have := hQ M1 hf
    rw [xfst_no hno, if_pos rfl] at this
    simp (disch := first | assumption | decide +kernel | exact hM _ _ | exact hL _ | exact xG_b | exact xG_bt _ _ | omega) only [w118_82, w118_84, w118_86, Int.reduceAdd, xup_twice, true_implies, false_implies, not_true_eq_false, not_false_eq_true, and_true, true_and, Int.reduceEq, Int.reduceLE, Int.reduceLT, Int.reduceNeg, xb_eq0, xb_eq1, xup_ne, xup_self, xup_k, xjl_i, xjl_r, xjl_j, xjl_l, Option.toList_some, Option.toList_none, List.cons_append, List.nil_append, xr_0_0, xr_0_1, xr_0_2, xr_0_3, xr_0_4, xr_0_5, xr_0_6, xr_0_7, xr_1_0, xr_1_1, xr_4_5, xr_4_6, xr_4_7, xr_4_8, xr_8_0, xr_10_5, xr_10_6, xr_10_7, xr_10_8, xr_14_0, xr_16_0, xr_16_1, xr_16_2, xr_20_0, xr_21_0, xr_21_1, xr_22_0, xr_24_0, xr_26_0, xr_26_1, xr_26_2, xr_30_0, xr_30_1, xr_30_2, xr_30_3, xr_30_4, xr_30_5, xr_30_6, xr_30_7, xr_31_0, xr_39_0, xr_39_1, xr_39_2, xr_42_0, xr_42_2, xr_42_3, xr_42_4, xr_42_5, xr_42_6, xr_42_8, xr_42_10, xr_42_13, xr_42_14, xr_42_15, xr_42_16, xr_42_23, xr_42_24, xr_42_25]
    refine ⟨fun _ => ?_, fun h => absurd h (by omega)⟩
    simp (disch := first | assumption | decide +kernel | exact hM _ _ | exact hL _ | exact xG_b | exact xG_bt _ _ | omega) only [w118_289, w118_291, Int.reduceAdd, xup_twice, true_implies, false_implies, not_true_eq_false, not_false_eq_true, and_true, true_and, Int.reduceEq, Int.reduceLE, Int.reduceLT, Int.reduceNeg, xb_eq0, xb_eq1, xup_ne, xup_self, xup_k, xjl_i, xjl_r, xjl_j, xjl_l, Option.toList_some, Option.toList_none, List.cons_append, List.nil_append, xr_0_0, xr_0_1, xr_0_2, xr_0_3, xr_0_4, xr_0_5, xr_0_6, xr_0_7, xr_1_0, xr_1_1, xr_4_5, xr_4_6, xr_4_7, xr_4_8, xr_8_0, xr_10_5, xr_10_6, xr_10_7, xr_10_8, xr_14_0, xr_16_0, xr_16_1, xr_16_2, xr_20_0, xr_21_0, xr_21_1, xr_22_0, xr_24_0, xr_26_0, xr_26_1, xr_26_2, xr_30_0, xr_30_1, xr_30_2, xr_30_3, xr_30_4, xr_30_5, xr_30_6, xr_30_7, xr_31_0, xr_39_0, xr_39_1, xr_39_2, xr_42_0, xr_42_2, xr_42_3, xr_42_4, xr_42_5, xr_42_6, xr_42_8, xr_42_10, xr_42_13, xr_42_14, xr_42_15, xr_42_16, xr_42_23, xr_42_24, xr_42_25]
    exact this
  | succ j ih =>
    intro n v5 v6 v7 M1 hn hno h55 h56 hf
    have hsm := rC_sm (h := h) (a := a) hw n (by omega)
    obtain ⟨y1, y2, o1, o2, o3, o4⟩ := ch_all (z := zR w h n) hw (by omega) hsm
    have hph0 : ∀ v, ((0 ≤ v ∧ v ≤ (n : Int)) ∨ v = 1000000) → 0 ≤ rPh v := fun v hv => by unfold rPh; split <;> omega
    have hmono : ∀ u v : Int, ((0 ≤ u ∧ u ≤ (n : Int) + 1) ∨ u = 1000000) → ((0 ≤ v ∧ v ≤ (n : Int)) ∨ v = 1000000) → u ≤ v → rPh u ≤ rPh v := fun u v hu hv hl => by unfold rPh; split <;> split <;> omega
    simp (disch := first | assumption | decide +kernel | exact hM _ _ | exact hL _ | exact xG_b | exact xG_bt _ _ | omega) only [w118_82, w118_84, w118_86, Int.reduceAdd, xup_twice, true_implies, false_implies, not_true_eq_false, not_false_eq_true, and_true, true_and, Int.reduceEq, Int.reduceLE, Int.reduceLT, Int.reduceNeg, xb_eq0, xb_eq1, xup_ne, xup_self, xup_k, xjl_i, xjl_r, xjl_j, xjl_l, Option.toList_some, Option.toList_none, List.cons_append, List.nil_append, xr_0_0, xr_0_1, xr_0_2, xr_0_3, xr_0_4, xr_0_5, xr_0_6, xr_0_7, xr_1_0, xr_1_1, xr_4_5, xr_4_6, xr_4_7, xr_4_8, xr_8_0, xr_10_5, xr_10_6, xr_10_7, xr_10_8, xr_14_0, xr_16_0, xr_16_1, xr_16_2, xr_20_0, xr_21_0, xr_21_1, xr_22_0, xr_24_0, xr_26_0, xr_26_1, xr_26_2, xr_30_0, xr_30_1, xr_30_2, xr_30_3, xr_30_4, xr_30_5, xr_30_6, xr_30_7, xr_31_0, xr_39_0, xr_39_1, xr_39_2, xr_42_0, xr_42_2, xr_42_3, xr_42_4, xr_42_5, xr_42_6, xr_42_8, xr_42_10, xr_42_13, xr_42_14, xr_42_15, xr_42_16, xr_42_23, xr_42_24, xr_42_25]
    refine ⟨fun h => absurd h (by omega), fun _ => ?_⟩
    simp (disch := first | assumption | decide +kernel | exact hM _ _ | exact hL _ | exact xG_b | exact xG_bt _ _ | omega) only [w118_89, w118_90, Int.reduceAdd, xup_twice, true_implies, false_implies, not_true_eq_false, not_false_eq_true, and_true, true_and, Int.reduceEq, Int.reduceLE, Int.reduceLT, Int.reduceNeg, xb_eq0, xb_eq1, xup_ne, xup_self, xup_k, xjl_i, xjl_r, xjl_j, xjl_l, Option.toList_some, Option.toList_none, List.cons_append, List.nil_append, xr_0_0, xr_0_1, xr_0_2, xr_0_3, xr_0_4, xr_0_5, xr_0_6, xr_0_7, xr_1_0, xr_1_1, xr_4_5, xr_4_6, xr_4_7, xr_4_8, xr_8_0, xr_10_5, xr_10_6, xr_10_7, xr_10_8, xr_14_0, xr_16_0, xr_16_1, xr_16_2, xr_20_0, xr_21_0, xr_21_1, xr_22_0, xr_24_0, xr_26_0, xr_26_1, xr_26_2, xr_30_0, xr_30_1, xr_30_2, xr_30_3, xr_30_4, xr_30_5, xr_30_6, xr_30_7, xr_31_0, xr_39_0, xr_39_1, xr_39_2, xr_42_0, xr_42_2, xr_42_3, xr_42_4, xr_42_5, xr_42_6, xr_42_8, xr_42_10, xr_42_13, xr_42_14, xr_42_15, xr_42_16, xr_42_23, xr_42_24, xr_42_25]
    refine lq_tr (h := h) (y := rC w h a n) (y1 := y1) (y2 := y2) (M0 := M1) (n := n) (by omega) hw (rT_F hT (hf 44 (by omega) (by omega))) (rR_F hR hf) (by omega) hsm o1 o2 o3 (fun M2 v6 v7 g1 g2 g3 => ?_) 10 0 v6 v7 M1 rfl ⟨fun t c d => ?_, fun p c d => ?_, fun _ _ _ => rfl⟩
    · have hf2 : ∀ c, c ≠ 55 → c ≠ 56 → M2 c = M0 c := fun c a b => by rw [g3 c a b, hf c a b]
      have e55 := g1 b hb.1 hb.2
      have o4b := o4.1 b hb.1 hb.2
      have hr : rCh w (zR w h n) (rC w h a n) = rC w h a (n + 1) := rfl
      rw [hr] at e55 o4b g1 g2
      have rph : 0 ≤ rPh (rC w h a (n + 1) 40 b) ∧ rPh (rC w h a (n + 1) 40 b) ≤ 99 := by unfold rPh; split <;> omega
      simp (disch := first | assumption | decide +kernel | exact hM _ _ | exact hL _ | exact xG_b | exact xG_bt _ _ | omega) only [w118_256, w118_257, w118_260, w118_261, w118_262, w118_264, Int.reduceAdd, xup_twice, true_implies, false_implies, not_true_eq_false, not_false_eq_true, and_true, true_and, Int.reduceEq, Int.reduceLE, Int.reduceLT, Int.reduceNeg, xb_eq0, xb_eq1, xup_ne, xup_self, xup_k, xjl_i, xjl_r, xjl_j, xjl_l, Option.toList_some, Option.toList_none, List.cons_append, List.nil_append, xr_0_0, xr_0_1, xr_0_2, xr_0_3, xr_0_4, xr_0_5, xr_0_6, xr_0_7, xr_1_0, xr_1_1, xr_4_5, xr_4_6, xr_4_7, xr_4_8, xr_8_0, xr_10_5, xr_10_6, xr_10_7, xr_10_8, xr_14_0, xr_16_0, xr_16_1, xr_16_2, xr_20_0, xr_21_0, xr_21_1, xr_22_0, xr_24_0, xr_26_0, xr_26_1, xr_26_2, xr_30_0, xr_30_1, xr_30_2, xr_30_3, xr_30_4, xr_30_5, xr_30_6, xr_30_7, xr_31_0, xr_39_0, xr_39_1, xr_39_2, xr_42_0, xr_42_2, xr_42_3, xr_42_4, xr_42_5, xr_42_6, xr_42_8, xr_42_10, xr_42_13, xr_42_14, xr_42_15, xr_42_16, xr_42_23, xr_42_24, xr_42_25, e55]
      refine ⟨fun h9 => ?_, fun h9 => ?_⟩
      · simp (disch := first | assumption | decide +kernel | exact hM _ _ | exact hL _ | exact xG_b | exact xG_bt _ _ | omega) only [w118_283, w118_286, Int.reduceAdd, xup_twice, true_implies, false_implies, not_true_eq_false, not_false_eq_true, and_true, true_and, Int.reduceEq, Int.reduceLE, Int.reduceLT, Int.reduceNeg, xb_eq0, xb_eq1, xup_ne, xup_self, xup_k, xjl_i, xjl_r, xjl_j, xjl_l, Option.toList_some, Option.toList_none, List.cons_append, List.nil_append, xr_0_0, xr_0_1, xr_0_2, xr_0_3, xr_0_4, xr_0_5, xr_0_6, xr_0_7, xr_1_0, xr_1_1, xr_4_5, xr_4_6, xr_4_7, xr_4_8, xr_8_0, xr_10_5, xr_10_6, xr_10_7, xr_10_8, xr_14_0, xr_16_0, xr_16_1, xr_16_2, xr_20_0, xr_21_0, xr_21_1, xr_22_0, xr_24_0, xr_26_0, xr_26_1, xr_26_2, xr_30_0, xr_30_1, xr_30_2, xr_30_3, xr_30_4, xr_30_5, xr_30_6, xr_30_7, xr_31_0, xr_39_0, xr_39_1, xr_39_2, xr_42_0, xr_42_2, xr_42_3, xr_42_4, xr_42_5, xr_42_6, xr_42_8, xr_42_10, xr_42_13, xr_42_14, xr_42_15, xr_42_16, xr_42_23, xr_42_24, xr_42_25]
        refine ih (n + 1) _ _ _ M2 (by omega) (fun i hi => ?_) g1 g2 hf2
        by_cases e : i = n
        · subst e
          refine decide_eq_false (fun hx => ?_)
          unfold rPh at h9
          rw [if_neg (by omega)] at h9
          omega
        · exact hno i (by omega)
      · have hlt : rC w h a (n + 1) 40 b < 1000000 := by
          rcases o4b with o | o
          · omega
          · rw [o] at h9; exact absurd (by decide) h9
        have e1 : rPh (rC w h a (n + 1) 40 b) = rC w h a (n + 1) 40 b := if_neg (by omega)
        have hA := hQ M2 hf2
        have ey : xfst (aGot w h a b) 61 = n := xfst_yes (show aGot w h a b n = true from decide_eq_true hlt) hno (by omega)
        rw [ey, if_neg (by omega), Int.toNat_natCast] at hA
        rcases hk with rfl | rfl
        · simp (disch := first | assumption | decide +kernel | exact hM _ _ | exact hL _ | exact xG_b | exact xG_bt _ _ | omega) only [w118_267, w118_268, w118_271, w118_273, w118_276, w118_277, w118_280, w118_281, w118_282, Int.reduceAdd, xup_twice, true_implies, false_implies, not_true_eq_false, not_false_eq_true, and_true, true_and, Int.reduceEq, Int.reduceLE, Int.reduceLT, Int.reduceNeg, xb_eq0, xb_eq1, xup_ne, xup_self, xup_k, xjl_i, xjl_r, xjl_j, xjl_l, Option.toList_some, Option.toList_none, List.cons_append, List.nil_append, xr_0_0, xr_0_1, xr_0_2, xr_0_3, xr_0_4, xr_0_5, xr_0_6, xr_0_7, xr_1_0, xr_1_1, xr_4_5, xr_4_6, xr_4_7, xr_4_8, xr_8_0, xr_10_5, xr_10_6, xr_10_7, xr_10_8, xr_14_0, xr_16_0, xr_16_1, xr_16_2, xr_20_0, xr_21_0, xr_21_1, xr_22_0, xr_24_0, xr_26_0, xr_26_1, xr_26_2, xr_30_0, xr_30_1, xr_30_2, xr_30_3, xr_30_4, xr_30_5, xr_30_6, xr_30_7, xr_31_0, xr_39_0, xr_39_1, xr_39_2, xr_42_0, xr_42_2, xr_42_3, xr_42_4, xr_42_5, xr_42_6, xr_42_8, xr_42_10, xr_42_13, xr_42_14, xr_42_15, xr_42_16, xr_42_23, xr_42_24, xr_42_25]
          exact hA
        · simp (disch := first | assumption | decide +kernel | exact hM _ _ | exact hL _ | exact xG_b | exact xG_bt _ _ | omega) only [w118_267, w118_268, w118_271, w118_273, w118_276, w118_277, w118_280, w118_281, w118_282, Int.reduceAdd, xup_twice, true_implies, false_implies, not_true_eq_false, not_false_eq_true, and_true, true_and, Int.reduceEq, Int.reduceLE, Int.reduceLT, Int.reduceNeg, xb_eq0, xb_eq1, xup_ne, xup_self, xup_k, xjl_i, xjl_r, xjl_j, xjl_l, Option.toList_some, Option.toList_none, List.cons_append, List.nil_append, xr_0_0, xr_0_1, xr_0_2, xr_0_3, xr_0_4, xr_0_5, xr_0_6, xr_0_7, xr_1_0, xr_1_1, xr_4_5, xr_4_6, xr_4_7, xr_4_8, xr_8_0, xr_10_5, xr_10_6, xr_10_7, xr_10_8, xr_14_0, xr_16_0, xr_16_1, xr_16_2, xr_20_0, xr_21_0, xr_21_1, xr_22_0, xr_24_0, xr_26_0, xr_26_1, xr_26_2, xr_30_0, xr_30_1, xr_30_2, xr_30_3, xr_30_4, xr_30_5, xr_30_6, xr_30_7, xr_31_0, xr_39_0, xr_39_1, xr_39_2, xr_42_0, xr_42_2, xr_42_3, xr_42_4, xr_42_5, xr_42_6, xr_42_8, xr_42_10, xr_42_13, xr_42_14, xr_42_15, xr_42_16, xr_42_23, xr_42_24, xr_42_25, e55, e1]
          exact hA
    · have k1 := h55 t c d
      have k2 := hsm.1 t c d
      refine ⟨by rw [k1]; exact hph0 _ k2, by rw [k1]; exact Int.le_refl _, ?_, fun h => absurd h (by omega), fun h => absurd h (by omega)⟩
      rw [k1]
      have le1 := (o1.2 t c d).1
      have le2 := (o3.2 t c d).1
      rw [o2.1] at le2
      exact hmono _ _ (o4.1 t c d) k2 (by omega)
    · have k1 := h56 p c d
      have k2 := hsm.2 p c d
      refine ⟨by rw [k1]; exact hph0 _ k2, by rw [k1]; exact Int.le_refl _, ?_, fun h => absurd h (by omega)⟩
      rw [k1]
      have le1 := (o2.2.2 p c d).1
      rw [o1.1] at le1
      have le2 : rCh w (zR w h n) (rC w h a n) 41 p ≤ rC w h a n 41 p := by rw [o3.1]; exact le1
      exact hmono _ _ (o4.2 p c d) k2 le2
end RTRIP2
