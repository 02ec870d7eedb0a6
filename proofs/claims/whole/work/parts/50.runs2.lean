/-! the reference runs: all of it -/
section RUNS2
variable {w z M : xM} {Q : Option xV → xM → Prop}
theorem yF_0 {row : Int} {M' : xM} (hr : 0 ≤ row) (h : yF row M M') : yF 0 M M' := ⟨h.1, h.2.1, fun c i a b d => h.2.2 c i a b (by omega)⟩
theorem lp_runs {h : Int → Int → Int} (hw : zW w) (hT : rT w M) (hS : rS w M) (hh : ∀ s p, 1 ≤ s → s ≤ 60 → 0 ≤ p → p < w 0 2 → rH M s p = h s p) (h20 : xG (M 42 20)) (h22 : xG (M 42 22))
    (hQ : ∀ M', rR w h 60 M' → yF 0 M M' → Q none M') :
    ∀ (k n : Nat) (M1 : xM) (v2 v3 : xV), n + k = 60 → rR w h n M1 → (∀ q, 0 ≤ q → q < w 0 2 → M1 54 q = zR w h n 1 q) → rStop w (zR w h n) M1 ((n + 1 : Nat) : Int) 0 → rLast w (zR w h n) ((n + 1 : Nat) : Int) 0 → yF 0 M M1 → Wp 112 74 [xr 42, xi ((n + 1 : Nat) : Int), v2, v3] [] M1 Q := by
  intro k
  have hw3 := hw.2.2.1
  induction k with
  | zero =>
    intro n M1 v2 v3 hn hR h54 hst hla hf
    obtain rfl : n = 60 := by omega
    simp (disch := first | assumption | decide +kernel | exact hM _ _ | exact hL _ | exact xG_b | exact xG_bt _ _ | omega) only [w112_74, w112_75, w112_77, Int.reduceAdd, xup_twice, true_implies, false_implies, not_true_eq_false, not_false_eq_true, and_true, true_and, Int.reduceEq, Int.reduceLE, Int.reduceLT, Int.reduceNeg, xb_eq0, xb_eq1, xup_ne, xup_self, xup_k, xjl_i, xjl_r, xjl_j, xjl_l, Option.toList_some, Option.toList_none, List.cons_append, List.nil_append, xr_0_0, xr_0_1, xr_0_2, xr_0_3, xr_0_4, xr_0_5, xr_0_6, xr_0_7, xr_1_0, xr_1_1, xr_4_5, xr_4_6, xr_4_7, xr_4_8, xr_8_0, xr_10_5, xr_10_6, xr_10_7, xr_10_8, xr_14_0, xr_16_0, xr_16_1, xr_16_2, xr_20_0, xr_21_0, xr_21_1, xr_22_0, xr_24_0, xr_26_0, xr_26_1, xr_26_2, xr_30_0, xr_30_1, xr_30_2, xr_30_3, xr_30_4, xr_30_5, xr_30_6, xr_30_7, xr_31_0, xr_39_0, xr_39_1, xr_39_2, xr_42_0, xr_42_2, xr_42_3, xr_42_4, xr_42_5, xr_42_6, xr_42_8, xr_42_10, xr_42_13, xr_42_14, xr_42_15, xr_42_16, xr_42_23, xr_42_24, xr_42_25]
    refine ⟨fun _ => ?_, fun h => absurd h (by omega)⟩
    simp (disch := first | assumption | decide +kernel | exact hM _ _ | exact hL _ | exact xG_b | exact xG_bt _ _ | omega) only [w112_187, Int.reduceAdd, xup_twice, true_implies, false_implies, not_true_eq_false, not_false_eq_true, and_true, true_and, Int.reduceEq, Int.reduceLE, Int.reduceLT, Int.reduceNeg, xb_eq0, xb_eq1, xup_ne, xup_self, xup_k, xjl_i, xjl_r, xjl_j, xjl_l, Option.toList_some, Option.toList_none, List.cons_append, List.nil_append, xr_0_0, xr_0_1, xr_0_2, xr_0_3, xr_0_4, xr_0_5, xr_0_6, xr_0_7, xr_1_0, xr_1_1, xr_4_5, xr_4_6, xr_4_7, xr_4_8, xr_8_0, xr_10_5, xr_10_6, xr_10_7, xr_10_8, xr_14_0, xr_16_0, xr_16_1, xr_16_2, xr_20_0, xr_21_0, xr_21_1, xr_22_0, xr_24_0, xr_26_0, xr_26_1, xr_26_2, xr_30_0, xr_30_1, xr_30_2, xr_30_3, xr_30_4, xr_30_5, xr_30_6, xr_30_7, xr_31_0, xr_39_0, xr_39_1, xr_39_2, xr_42_0, xr_42_2, xr_42_3, xr_42_4, xr_42_5, xr_42_6, xr_42_8, xr_42_10, xr_42_13, xr_42_14, xr_42_15, xr_42_16, xr_42_23, xr_42_24, xr_42_25]
    exact hQ M1 hR hf
  | succ k ih =>
    intro n M1 v2 v3 hn hR h54 hst hla hf
    have gm : xG (5 * ((n + 1 : Nat) : Int)) := by constructor <;> omega
    simp (disch := first | assumption | decide +kernel | exact hM _ _ | exact hL _ | exact xG_b | exact xG_bt _ _ | omega) only [w112_74, w112_75, w112_77, Int.reduceAdd, xup_twice, true_implies, false_implies, not_true_eq_false, not_false_eq_true, and_true, true_and, Int.reduceEq, Int.reduceLE, Int.reduceLT, Int.reduceNeg, xb_eq0, xb_eq1, xup_ne, xup_self, xup_k, xjl_i, xjl_r, xjl_j, xjl_l, Option.toList_some, Option.toList_none, List.cons_append, List.nil_append, xr_0_0, xr_0_1, xr_0_2, xr_0_3, xr_0_4, xr_0_5, xr_0_6, xr_0_7, xr_1_0, xr_1_1, xr_4_5, xr_4_6, xr_4_7, xr_4_8, xr_8_0, xr_10_5, xr_10_6, xr_10_7, xr_10_8, xr_14_0, xr_16_0, xr_16_1, xr_16_2, xr_20_0, xr_21_0, xr_21_1, xr_22_0, xr_24_0, xr_26_0, xr_26_1, xr_26_2, xr_30_0, xr_30_1, xr_30_2, xr_30_3, xr_30_4, xr_30_5, xr_30_6, xr_30_7, xr_31_0, xr_39_0, xr_39_1, xr_39_2, xr_42_0, xr_42_2, xr_42_3, xr_42_4, xr_42_5, xr_42_6, xr_42_8, xr_42_10, xr_42_13, xr_42_14, xr_42_15, xr_42_16, xr_42_23, xr_42_24, xr_42_25]
    refine ⟨fun h => absurd h (by omega), fun _ => ?_⟩
    simp (disch := first | assumption | decide +kernel | exact hM _ _ | exact hL _ | exact xG_b | exact xG_bt _ _ | omega) only [w112_80, w112_81, w112_82, w112_83, w112_84, w112_85, Int.reduceAdd, xup_twice, true_implies, false_implies, not_true_eq_false, not_false_eq_true, and_true, true_and, Int.reduceEq, Int.reduceLE, Int.reduceLT, Int.reduceNeg, xb_eq0, xb_eq1, xup_ne, xup_self, xup_k, xjl_i, xjl_r, xjl_j, xjl_l, Option.toList_some, Option.toList_none, List.cons_append, List.nil_append, xr_0_0, xr_0_1, xr_0_2, xr_0_3, xr_0_4, xr_0_5, xr_0_6, xr_0_7, xr_1_0, xr_1_1, xr_4_5, xr_4_6, xr_4_7, xr_4_8, xr_8_0, xr_10_5, xr_10_6, xr_10_7, xr_10_8, xr_14_0, xr_16_0, xr_16_1, xr_16_2, xr_20_0, xr_21_0, xr_21_1, xr_22_0, xr_24_0, xr_26_0, xr_26_1, xr_26_2, xr_30_0, xr_30_1, xr_30_2, xr_30_3, xr_30_4, xr_30_5, xr_30_6, xr_30_7, xr_31_0, xr_39_0, xr_39_1, xr_39_2, xr_42_0, xr_42_2, xr_42_3, xr_42_4, xr_42_5, xr_42_6, xr_42_8, xr_42_10, xr_42_13, xr_42_14, xr_42_15, xr_42_16, xr_42_23, xr_42_24, xr_42_25]
    refine lp_copy3 (M := M1) (s := ((n + 1 : Nat) : Int)) (by omega) rfl (fun M2 c1 c2 c3 => ?_) 5 0 M1 rfl (fun c a b i i0 i1 => by omega) (fun _ _ _ _ _ => rfl) (fun _ _ => rfl)
    have hf2 : yF (5 * ((n + 1 : Nat) : Int)) M1 M2 := ⟨fun c a b => c3 c (by omega), fun k _ _ _ => by rw [c3 42 (by omega)], fun c i a b d => c2 c a b i d⟩
    have hf0 : yF 0 M M2 := yF_tr hf (yF_0 (by omega) hf2)
    simp (disch := first | assumption | decide +kernel | exact hM _ _ | exact hL _ | exact xG_b | exact xG_bt _ _ | omega) only [w112_151, w112_152, Int.reduceAdd, xup_twice, true_implies, false_implies, not_true_eq_false, not_false_eq_true, and_true, true_and, Int.reduceEq, Int.reduceLE, Int.reduceLT, Int.reduceNeg, xb_eq0, xb_eq1, xup_ne, xup_self, xup_k, xjl_i, xjl_r, xjl_j, xjl_l, Option.toList_some, Option.toList_none, List.cons_append, List.nil_append, xr_0_0, xr_0_1, xr_0_2, xr_0_3, xr_0_4, xr_0_5, xr_0_6, xr_0_7, xr_1_0, xr_1_1, xr_4_5, xr_4_6, xr_4_7, xr_4_8, xr_8_0, xr_10_5, xr_10_6, xr_10_7, xr_10_8, xr_14_0, xr_16_0, xr_16_1, xr_16_2, xr_20_0, xr_21_0, xr_21_1, xr_22_0, xr_24_0, xr_26_0, xr_26_1, xr_26_2, xr_30_0, xr_30_1, xr_30_2, xr_30_3, xr_30_4, xr_30_5, xr_30_6, xr_30_7, xr_31_0, xr_39_0, xr_39_1, xr_39_2, xr_42_0, xr_42_2, xr_42_3, xr_42_4, xr_42_5, xr_42_6, xr_42_8, xr_42_10, xr_42_13, xr_42_14, xr_42_15, xr_42_16, xr_42_23, xr_42_24, xr_42_25]
    have hz0 : rZ w (zPl w h ((n + 1 : Nat) : Int) (zR w h n) 0) (5 * ((n + 1 : Nat) : Int)) M2 := by
      refine ⟨fun q i j => ?_, ?_⟩
      · obtain ⟨r1, r2, r3⟩ := hR.1 n (Nat.le_refl _) q i j
        rw [c1 51 (by omega) (by omega) q i (by omega), c1 52 (by omega) (by omega) q i (by omega), c1 53 (by omega) (by omega) q i (by omega), c3 54 (by omega)]
        have e : 5 * ((n + 1 : Nat) : Int) + q - 5 = 5 * (n : Int) + q := by omega
        rw [e]
        exact ⟨r1, h54 q i j, r2, r3⟩
      · rw [c3 42 (by omega)]; exact hR.2.1
    have e42 : M2 42 = M1 42 := c3 42 (by omega)
    have hv0 := zR_V (h := h) hw n (by omega)
    refine lp_goes (h := h) (M := M2) (b := 6 * n) (z := zR w h n) (s := ((n + 1 : Nat) : Int)) hw hv0 (by omega) (rT_f hT hf0) (rS_f hS hf0) (by omega) rfl (fun p a b => by rw [rH_f hf0]; exact hh _ p (by omega) (by omega) a b) (by rw [hf0.2.1 20 (by omega) (by omega) (by omega)]; exact h20) (by rw [hf0.2.1 22 (by omega) (by omega) (by omega)]; exact h22) (fun M3 r1 r2 r3 r4 r5 => ?_) (w 0 2).toNat 0 M2 (by omega) hz0 (fun q i j => by rw [e42]; exact hR.2.2 q i j) (fun q i j => by rw [e42]; exact hst q i j) hla yF_rf
    have hvP := zPl_V (h := h) hw hv0 (s := ((n + 1 : Nat) : Int)) (by omega) (w 0 2).toNat (by omega)
    have hf3 : yF 0 M M3 := yF_tr hf0 (yF_0 (by omega) r5)
    simp (disch := first | assumption | decide +kernel | exact hM _ _ | exact hL _ | exact xG_b | exact xG_bt _ _ | omega) only [w112_176, w112_177, w112_178, Int.reduceAdd, xup_twice, true_implies, false_implies, not_true_eq_false, not_false_eq_true, and_true, true_and, Int.reduceEq, Int.reduceLE, Int.reduceLT, Int.reduceNeg, xb_eq0, xb_eq1, xup_ne, xup_self, xup_k, xjl_i, xjl_r, xjl_j, xjl_l, Option.toList_some, Option.toList_none, List.cons_append, List.nil_append, xr_0_0, xr_0_1, xr_0_2, xr_0_3, xr_0_4, xr_0_5, xr_0_6, xr_0_7, xr_1_0, xr_1_1, xr_4_5, xr_4_6, xr_4_7, xr_4_8, xr_8_0, xr_10_5, xr_10_6, xr_10_7, xr_10_8, xr_14_0, xr_16_0, xr_16_1, xr_16_2, xr_20_0, xr_21_0, xr_21_1, xr_22_0, xr_24_0, xr_26_0, xr_26_1, xr_26_2, xr_30_0, xr_30_1, xr_30_2, xr_30_3, xr_30_4, xr_30_5, xr_30_6, xr_30_7, xr_31_0, xr_39_0, xr_39_1, xr_39_2, xr_42_0, xr_42_2, xr_42_3, xr_42_4, xr_42_5, xr_42_6, xr_42_8, xr_42_10, xr_42_13, xr_42_14, xr_42_15, xr_42_16, xr_42_23, xr_42_24, xr_42_25]
    refine q9_ends (z := zPl w h ((n + 1 : Nat) : Int) (zR w h n) (w 0 2).toNat) hw hvP (by omega) (rT_f hT hf3) (by omega) r1 (fun M4 u1 u2 u3 => ?_)
    have hf4 : yF (5 * ((n + 1 : Nat) : Int)) M3 M4 := ⟨fun c a b => u2 c (by omega), fun k _ _ _ => by rw [u2 42 (by omega)], fun c i a b d => by
      by_cases e : c = 53
      · subst e; exact u3 i d
      · rw [u2 c e]⟩
    have hf14 : yF (5 * ((n + 1 : Nat) : Int)) M1 M4 := yF_tr hf2 (yF_tr r5 hf4)
    simp (disch := first | assumption | decide +kernel | exact hM _ _ | exact hL _ | exact xG_b | exact xG_bt _ _ | omega) only [w112_181, w112_184, Int.reduceAdd, xup_twice, true_implies, false_implies, not_true_eq_false, not_false_eq_true, and_true, true_and, Int.reduceEq, Int.reduceLE, Int.reduceLT, Int.reduceNeg, xb_eq0, xb_eq1, xup_ne, xup_self, xup_k, xjl_i, xjl_r, xjl_j, xjl_l, Option.toList_some, Option.toList_none, List.cons_append, List.nil_append, xr_0_0, xr_0_1, xr_0_2, xr_0_3, xr_0_4, xr_0_5, xr_0_6, xr_0_7, xr_1_0, xr_1_1, xr_4_5, xr_4_6, xr_4_7, xr_4_8, xr_8_0, xr_10_5, xr_10_6, xr_10_7, xr_10_8, xr_14_0, xr_16_0, xr_16_1, xr_16_2, xr_20_0, xr_21_0, xr_21_1, xr_22_0, xr_24_0, xr_26_0, xr_26_1, xr_26_2, xr_30_0, xr_30_1, xr_30_2, xr_30_3, xr_30_4, xr_30_5, xr_30_6, xr_30_7, xr_31_0, xr_39_0, xr_39_1, xr_39_2, xr_42_0, xr_42_2, xr_42_3, xr_42_4, xr_42_5, xr_42_6, xr_42_8, xr_42_10, xr_42_13, xr_42_14, xr_42_15, xr_42_16, xr_42_23, xr_42_24, xr_42_25]
    have eR : zR w h (n + 1) = zWe w (zPl w h ((n + 1 : Nat) : Int) (zR w h n) (w 0 2).toNat) (w 0 2).toNat := rfl
    have e4 : M4 42 = M3 42 := u2 42 (by omega)
    refine ih (n + 1) M4 _ _ (by omega) ⟨fun s hs q i j => ?_, ?_, fun q i j => ?_⟩ (fun q i j => ?_) (fun q i j => ?_) (fun q i j => ?_) (yF_tr hf (yF_0 (by omega) hf14))
    · by_cases e : s = n + 1
      · subst e
        obtain ⟨y1, y2, y3, y4⟩ := u1.1 q i j
        rw [eR]
        exact ⟨y1, y3, y4⟩
      · obtain ⟨y1, y2, y3⟩ := hR.1 s (by omega) q i j
        rw [hf14.2.2 51 _ (by omega) (by omega) (by omega), hf14.2.2 52 _ (by omega) (by omega) (by omega), hf14.2.2 53 _ (by omega) (by omega) (by omega)]
        exact ⟨y1, y2, y3⟩
    · rw [eR]; exact u1.2
    · rw [eR, e4, zWe_at _ 2 q (by omega)]; exact r2 q i j
    · rw [eR]; exact (u1.1 q i j).2.1
    · rw [eR, e4, zWe_at _ 3 q (by omega)]
      have := r3 q i j
      rw [if_pos j] at this
      rw [this, if_neg (show ¬ q < 0 by omega), show ((n + 1 + 1 : Nat) : Int) - 1 = ((n + 1 : Nat) : Int) by omega]
    · rw [eR, zWe_at _ 3 q (by omega), zWe_at _ 2 q (by omega)]
      have := r4 q i j
      rw [if_pos j] at this
      rw [if_neg (show ¬ q < 0 by omega)]
      omega
theorem q9_runs {h : Int → Int → Int} (hw : zW w) (hT : rT w M) (hS : rS w M) (hh : ∀ s p, 1 ≤ s → s ≤ 60 → 0 ≤ p → p < w 0 2 → rH M s p = h s p) (h20 : xG (M 42 20)) (h22 : xG (M 42 22))
    (hQ : ∀ M', rR w h 60 M' → yF 0 M M' → Q none M') : Wc 112 [xr 42] M Q := by
  have hw3 := hw.2.2.1
  simp (disch := first | assumption | decide +kernel | exact hM _ _ | exact hL _ | exact xG_b | exact xG_bt _ _ | omega) only [w112_0, w112_1, wc112, Int.reduceAdd, xup_twice, true_implies, false_implies, not_true_eq_false, not_false_eq_true, and_true, true_and, Int.reduceEq, Int.reduceLE, Int.reduceLT, Int.reduceNeg, xb_eq0, xb_eq1, xup_ne, xup_self, xup_k, xjl_i, xjl_r, xjl_j, xjl_l, Option.toList_some, Option.toList_none, List.cons_append, List.nil_append, xr_0_0, xr_0_1, xr_0_2, xr_0_3, xr_0_4, xr_0_5, xr_0_6, xr_0_7, xr_1_0, xr_1_1, xr_4_5, xr_4_6, xr_4_7, xr_4_8, xr_8_0, xr_10_5, xr_10_6, xr_10_7, xr_10_8, xr_14_0, xr_16_0, xr_16_1, xr_16_2, xr_20_0, xr_21_0, xr_21_1, xr_22_0, xr_24_0, xr_26_0, xr_26_1, xr_26_2, xr_30_0, xr_30_1, xr_30_2, xr_30_3, xr_30_4, xr_30_5, xr_30_6, xr_30_7, xr_31_0, xr_39_0, xr_39_1, xr_39_2, xr_42_0, xr_42_2, xr_42_3, xr_42_4, xr_42_5, xr_42_6, xr_42_8, xr_42_10, xr_42_13, xr_42_14, xr_42_15, xr_42_16, xr_42_23, xr_42_24, xr_42_25]
  refine lp_runs0 (M := M) (fun M1 h1 h2 h3 => ?_) 5 0 M rfl (fun i a b => by omega) (fun _ _ => rfl) (fun _ _ _ => rfl)
  simp (disch := first | assumption | decide +kernel | exact hM _ _ | exact hL _ | exact xG_b | exact xG_bt _ _ | omega) only [w112_57, w112_58, w112_59, w112_62, w112_63, w112_64, w112_67, w112_68, w112_69, w112_72, w112_73, Int.reduceAdd, xup_twice, true_implies, false_implies, not_true_eq_false, not_false_eq_true, and_true, true_and, Int.reduceEq, Int.reduceLE, Int.reduceLT, Int.reduceNeg, xb_eq0, xb_eq1, xup_ne, xup_self, xup_k, xjl_i, xjl_r, xjl_j, xjl_l, Option.toList_some, Option.toList_none, List.cons_append, List.nil_append, xr_0_0, xr_0_1, xr_0_2, xr_0_3, xr_0_4, xr_0_5, xr_0_6, xr_0_7, xr_1_0, xr_1_1, xr_4_5, xr_4_6, xr_4_7, xr_4_8, xr_8_0, xr_10_5, xr_10_6, xr_10_7, xr_10_8, xr_14_0, xr_16_0, xr_16_1, xr_16_2, xr_20_0, xr_21_0, xr_21_1, xr_22_0, xr_24_0, xr_26_0, xr_26_1, xr_26_2, xr_30_0, xr_30_1, xr_30_2, xr_30_3, xr_30_4, xr_30_5, xr_30_6, xr_30_7, xr_31_0, xr_39_0, xr_39_1, xr_39_2, xr_42_0, xr_42_2, xr_42_3, xr_42_4, xr_42_5, xr_42_6, xr_42_8, xr_42_10, xr_42_13, xr_42_14, xr_42_15, xr_42_16, xr_42_23, xr_42_24, xr_42_25]
  have b0 : ∀ q : Int, 0 ≤ q → q < 5 → xbt 0 q = 0 := by
    intro q a b
    rcases (show q = 0 ∨ q = 1 ∨ q = 2 ∨ q = 3 ∨ q = 4 by omega) with rfl | rfl | rfl | rfl | rfl <;> decide +kernel
  refine lp_runs (h := h) (M := M) hw hT hS hh h20 h22 hQ 60 0 _ _ _ rfl ⟨fun s hs q i j => ?_, ?_, fun q i j => ?_⟩ (fun q i j => ?_) (fun q i j => ?_) (fun q i j => ?_) ⟨fun c a b => ?_, fun k a b c => ?_, fun c i a b d => ?_⟩
  · obtain rfl : s = 0 := by omega
    obtain ⟨y1, y2, y3, y4⟩ := h1 q i (by omega)
    have := (hT.2.2.2.2.2 q i j).2.1
    rw [xup_ne (by omega), xup_ne (by omega), xup_ne (by omega), xup_ne (by omega), xup_ne (by omega), xup_ne (by omega), xup_ne (by omega), xup_ne (by omega), xup_ne (by omega), show 5 * ((0 : Nat) : Int) + q = q by omega, y1, y3, y4, this]
    exact ⟨rfl, rfl, rfl⟩
  · rw [xup_self]; rfl
  · rw [xup_k (by omega), xup_self, b0 q i (by omega)]; rfl
  · obtain ⟨y1, y2, y3, y4⟩ := h1 q i (by omega)
    have := (hT.2.2.2.2.2 q i j).2.2
    rw [xup_ne (by omega), xup_ne (by omega), xup_ne (by omega), y2, this]
    rfl
  · rw [xup_k (by omega), xup_k (by omega), xup_self, b0 q i (by omega), if_neg]
    rintro ⟨_, x⟩
    rw [if_neg (by omega)] at x
    have e : zR w h 0 3 q = -4 := rfl
    rw [e] at x
    omega
  · have e : zR w h 0 3 q = -4 := rfl
    have e' : zR w h 0 2 q = -4 := rfl
    rw [e, e', if_neg (by omega)]
    omega
  · rw [xup_ne (by omega), xup_ne (by omega), xup_ne (by omega)]; exact h2 c b
  · rw [xup_k c, xup_k b, xup_k a, h2 42 (by omega)]
  · rw [xup_ne (by omega), xup_ne (by omega), xup_ne (by omega)]; exact h3 c i d
end RUNS2
