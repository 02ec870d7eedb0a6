/-! what an item adds to what is told -/
def pT (w : xM) (x : Int) : xM := xup (xup w 1 (w 0 1) x) 0 1 (w 0 1 + 1)
def pP (w : xM) (k x d s : Int) : xM := xup (xup (xup (xup (xup w 2 (w 0 2) k) 4 (w 0 2) x) 5 (w 0 2) d) 3 (w 0 2) s) 0 2 (w 0 2 + 1)
def pA (w : xM) (x : Int) : xM := xup w 0 3 (xor_ (w 0 3) (xshl 1 x))
def pR (w : xM) (x : Int) : xM := xup w 0 4 (xor_ (w 0 4) (xshl 1 x))
def pTold (w : xM) (x : Int) : Int := xcn (fun q => decide (w 4 q = x)) (w 0 2).toNat
def pW0 : xM := fun c k => if c = 0 ∧ k = 0 then 12 else 0
theorem zW_0 : zW pW0 := by
  refine ⟨by simp [pW0], by simp [pW0], by simp [pW0], fun t h1 h2 => ?_, fun t h1 h2 => ?_, by simp [pW0, xG], by simp [pW0, xG]⟩
  · simp [pW0] at h2; omega
  · simp [pW0] at h2; omega
theorem zW_T {w : xM} {x : Int} (hw : zW w) (hT : w 0 1 < 5) (hx : 0 ≤ x ∧ x < w 0 0) : zW (pT w x) := by
  obtain ⟨a1, a2, a3, a4, a5, a6, a7⟩ := hw
  refine ⟨by simpa [pT, xup_app] using a1, by simp [pT, xup_app]; omega, by simpa [pT, xup_app] using a3, fun t h1 h2 => ?_, fun q h1 h2 => ?_, by simpa [pT, xup_app] using a6, by simpa [pT, xup_app] using a7⟩
  · simp only [pT, xup_app] at h2 ⊢
    simp at h2 ⊢
    by_cases e : t = w 0 1
    · simp [e]; omega
    · simp [e]; exact a4 t h1 (by omega)
  · simp only [pT, xup_app] at h2 ⊢
    simp at h2 ⊢
    exact a5 q h1 h2
theorem zW_Pl {w : xM} {k x d s : Int} (hw : zW w) (hP : w 0 2 < 5) (hk : 0 ≤ k ∧ k ≤ 4) (hx : 0 ≤ x ∧ x < w 0 0) (hd : d = 0 ∨ d = 1) (hs : 0 ≤ s ∧ s ≤ 30) : zW (pP w k x d s) := by
  obtain ⟨a1, a2, a3, a4, a5, a6, a7⟩ := hw
  refine ⟨by simpa [pP, xup_app] using a1, by simpa [pP, xup_app] using a2, by simp [pP, xup_app]; omega, fun t h1 h2 => ?_, fun q h1 h2 => ?_, by simpa [pP, xup_app] using a6, by simpa [pP, xup_app] using a7⟩
  · simp only [pP, xup_app] at h2 ⊢
    simp at h2 ⊢
    exact a4 t h1 h2
  · simp only [pP, xup_app] at h2 ⊢
    simp at h2 ⊢
    by_cases e : q = w 0 2
    · simp [e]; exact ⟨hk, hs, hx, hd⟩
    · simp [e]; exact a5 q h1 (by omega)
theorem zW_A {w : xM} {x : Int} (hw : zW w) : zW (pA w x) := by
  obtain ⟨a1, a2, a3, a4, a5, a6, a7⟩ := hw
  refine ⟨by simpa [pA, xup_app] using a1, by simpa [pA, xup_app] using a2, by simpa [pA, xup_app] using a3, by simpa [pA, xup_app] using a4, by simpa [pA, xup_app] using a5, ?_, by simpa [pA, xup_app] using a7⟩
  rw [pA, xup_self]; exact xG_or _ _
theorem zW_Rn {w : xM} {x : Int} (hw : zW w) : zW (pR w x) := by
  obtain ⟨a1, a2, a3, a4, a5, a6, a7⟩ := hw
  refine ⟨by simpa [pR, xup_app] using a1, by simpa [pR, xup_app] using a2, by simpa [pR, xup_app] using a3, by simpa [pR, xup_app] using a4, by simpa [pR, xup_app] using a5, by simpa [pR, xup_app] using a6, ?_⟩
  rw [pR, xup_self]; exact xG_or _ _
theorem zW_N {w : xM} {n : Int} (hw : zW w) (hn : 4 ≤ n ∧ n ≤ 24) (hT : w 0 1 = 0) (hP : w 0 2 = 0) : zW (xup w 0 0 n) := by
  obtain ⟨a1, a2, a3, a4, a5, a6, a7⟩ := hw
  refine ⟨by simpa [xup_app] using hn, by simpa [xup_app] using a2, by simpa [xup_app] using a3, fun t h1 h2 => ?_, fun t h1 h2 => ?_, by simpa [xup_app] using a6, by simpa [xup_app] using a7⟩
  · simp [xup_app] at h2; omega
  · simp [xup_app] at h2; omega
theorem xbt_or1 {v p q d : Int} (hp : 0 ≤ p ∧ p < 31) (hq : 0 ≤ q ∧ q < 31) (hd : d = 0 ∨ d = 1) : xbt (xor_ v (xshl d p)) q = if q = p ∧ d = 1 then 1 else xbt v q := by
  obtain ⟨p', rfl⟩ : ∃ k : Nat, p = k := ⟨p.toNat, by omega⟩
  obtain ⟨q', rfl⟩ : ∃ k : Nat, q = k := ⟨q.toNat, by omega⟩
  have h0 : ∀ p : Nat, p < 31 → xshl 0 p = 0 := by decide +kernel
  rw [xbt_t (by omega), xbt_t (by omega), xt_or]
  rcases hd with rfl | rfl
  · rw [h0 p' (by omega), xt_0]; simp
  · rw [xt_shl1 (by omega)]
    by_cases h : q' = p'
    · subst h; simp
    · have : ¬ ((q' : Int) = (p' : Int)) := by omega
      simp [h, this]
section ADD
variable {w M : xM} {Q : Option xV → xM → Prop}
/-- what is told, in a line's cells -/
def cT4 (w M : xM) : Prop := M 4 0 = w 0 0 ∧ M 4 1 = w 0 1 ∧ M 4 2 = w 0 2 ∧ M 4 4 = w 0 4 ∧ M 8 1 = 0 ∧ M 8 2 = w 0 3 ∧ (∀ t, 0 ≤ t → t < w 0 1 → M 5 t = w 1 t) ∧ (∀ p, 0 ≤ p → p < w 0 2 → M 6 p = w 2 p ∧ M 9 p = w 3 p ∧ M 7 p = w 4 p ∧ xbt (M 4 3) p = w 5 p) ∧ (∀ p, w 0 2 ≤ p → p < 31 → xbt (M 4 3) p = 0)
theorem cT4_F {M' : xM} (h : cT4 w M) (hf : ∀ d, 4 ≤ d → d ≤ 9 → M' d = M d) : cT4 w M' := by
  unfold cT4
  rw [hf 4 (by omega) (by omega), hf 5 (by omega) (by omega), hf 6 (by omega) (by omega), hf 7 (by omega) (by omega), hf 8 (by omega) (by omega), hf 9 (by omega) (by omega)]
  exact h
def cX4 (M M' : xM) : Prop := ∀ d, (d < 4 ∨ 9 < d) → M' d = M d
theorem cX4_up {M' : xM} {d : Nat} {k v : Int} (h : cX4 M M') (hd : 4 ≤ d ∧ d ≤ 9) : cX4 M (xup M' d k v) := fun c hc => by
  rw [xup_ne (by omega)]
  exact h c hc
theorem cX4_rf : cX4 M M := fun _ _ => rfl
theorem q4_clear (hQ : ∀ M', cT4 pW0 M' → cX4 M M' → Q none M') : Wc 6 [xr 4] M Q := by
  simp (disch := first | assumption | decide +kernel | exact hM _ _ | exact hL _ | exact xG_b | exact xG_bt _ _ | omega) only [wc6, w6_0, w6_1, w6_3, w6_6, w6_7, w6_8, w6_11, w6_12, w6_13, w6_16, w6_17, w6_18, w6_21, w6_22, w6_23, w6_26, w6_27, w6_30, w6_31, w6_34, w6_35, w6_38, w6_39, w6_42, Int.reduceAdd, xup_twice, true_implies, false_implies, not_true_eq_false, not_false_eq_true, and_true, true_and, Int.reduceEq, Int.reduceLE, Int.reduceLT, Int.reduceNeg, xb_eq0, xb_eq1, xup_ne, xup_self, xup_k, xjl_i, xjl_r, xjl_j, xjl_l, Option.toList_some, Option.toList_none, List.cons_append, List.nil_append, xr_0_0, xr_0_1, xr_0_2, xr_0_3, xr_0_4, xr_0_5, xr_0_6, xr_0_7, xr_1_0, xr_1_1, xr_4_5, xr_4_6, xr_4_7, xr_4_8, xr_8_0, xr_10_5, xr_10_6, xr_10_7, xr_10_8, xr_14_0, xr_16_0, xr_16_1, xr_16_2, xr_20_0, xr_21_0, xr_21_1, xr_22_0, xr_24_0, xr_26_0, xr_26_1, xr_26_2, xr_30_0, xr_30_1, xr_30_2, xr_30_3, xr_30_4, xr_30_5, xr_30_6, xr_30_7, xr_31_0, xr_39_0, xr_39_1, xr_39_2, xr_42_0, xr_42_2, xr_42_3, xr_42_4, xr_42_5, xr_42_6, xr_42_8, xr_42_10, xr_42_13, xr_42_14, xr_42_15, xr_42_16, xr_42_23, xr_42_24, xr_42_25]
  refine hQ _ ?_ (by repeat (first | exact cX4_rf | refine cX4_up ?_ (by omega)))
  have hb0 : ∀ p : Int, 0 ≤ p → p < 31 → xbt 0 p = 0 := fun p h1 h2 => by
    obtain ⟨k, rfl⟩ : ∃ k : Nat, p = k := ⟨p.toNat, by omega⟩
    rw [xbt_t (by omega), xt_0]; rfl
  refine ⟨by simp [xup_app, pW0], by simp [xup_app, pW0], by simp [xup_app, pW0], by simp [xup_app, pW0], by simp [xup_app, pW0], by simp [xup_app, pW0], fun t h1 h2 => ?_, fun t h1 h2 => ?_, fun p h1 h2 => ?_⟩
  · simp [pW0] at h2; omega
  · simp [pW0] at h2; omega
  · simp [pW0] at h1
    simp [xup_app, hb0 p h1 h2]
theorem q4_addRing {x : Int} (hx : xG x) (hT : cT4 w M) (hY : 4 ≤ x ∧ x ≤ 24 → ∀ M', cT4 (xup w 0 0 x) M' → cX4 M M' → Q (some (xi 1)) M') (hN : ¬ (4 ≤ x ∧ x ≤ 24) → Q (some (xi 0)) M) : Wc 12 [xr 4, xi x] M Q := by
  have hy : 4 ≤ x ∧ x ≤ 24 → Q (some (xi 1)) (xup M 4 0 x) := fun h => by
    obtain ⟨h1, h2, h3, h4, h5, h6, h7, h8, h9⟩ := hT
    refine hY h _ ⟨?_, ?_, ?_, ?_, ?_, ?_, ?_, ?_, ?_⟩ (cX4_up cX4_rf (by omega))
    · simp [xup_app]
    · simpa [xup_app] using h2
    · simpa [xup_app] using h3
    · simpa [xup_app] using h4
    · simpa [xup_app] using h5
    · simpa [xup_app] using h6
    · simpa [xup_app] using h7
    · simpa [xup_app] using h8
    · simpa [xup_app] using h9
  simp (disch := first | assumption | decide +kernel | exact hM _ _ | exact hL _ | exact xG_b | exact xG_bt _ _ | omega) only [wc12, w12_0, w12_1, w12_2, w12_5, w12_6, w12_8, w12_11, w12_12, w12_13, w12_14, w12_15, w12_18, w12_19, Int.reduceAdd, xup_twice, true_implies, false_implies, not_true_eq_false, not_false_eq_true, and_true, true_and, Int.reduceEq, Int.reduceLE, Int.reduceLT, Int.reduceNeg, xb_eq0, xb_eq1, xup_ne, xup_self, xup_k, xjl_i, xjl_r, xjl_j, xjl_l, Option.toList_some, Option.toList_none, List.cons_append, List.nil_append, xr_0_0, xr_0_1, xr_0_2, xr_0_3, xr_0_4, xr_0_5, xr_0_6, xr_0_7, xr_1_0, xr_1_1, xr_4_5, xr_4_6, xr_4_7, xr_4_8, xr_8_0, xr_10_5, xr_10_6, xr_10_7, xr_10_8, xr_14_0, xr_16_0, xr_16_1, xr_16_2, xr_20_0, xr_21_0, xr_21_1, xr_22_0, xr_24_0, xr_26_0, xr_26_1, xr_26_2, xr_30_0, xr_30_1, xr_30_2, xr_30_3, xr_30_4, xr_30_5, xr_30_6, xr_30_7, xr_31_0, xr_39_0, xr_39_1, xr_39_2, xr_42_0, xr_42_2, xr_42_3, xr_42_4, xr_42_5, xr_42_6, xr_42_8, xr_42_10, xr_42_13, xr_42_14, xr_42_15, xr_42_16, xr_42_23, xr_42_24, xr_42_25]
  repeat' (first | apply And.intro | intro _)
  all_goals first | exact hy (by omega) | exact hN (by omega)
theorem q4_addTrain {x : Int} (hx : xG x) (hw : zW w) (hT : cT4 w M) (hY : w 0 1 < 5 ∧ 0 ≤ x ∧ x < w 0 0 → ∀ M', cT4 (pT w x) M' → cX4 M M' → Q (some (xi 1)) M') (hN : ¬ (w 0 1 < 5 ∧ 0 ≤ x ∧ x < w 0 0) → Q (some (xi 0)) M) : Wc 13 [xr 4, xi x] M Q := by
  have hw1 := hw.1
  have hw2 := hw.2.1
  obtain ⟨h1, h2, h3, h4, h5, h6, h7, h8, h9⟩ := hT
  have hy : w 0 1 < 5 ∧ 0 ≤ x ∧ x < w 0 0 → Wp 13 18 [xr 4, xi x] [] M Q := fun h => by
    simp (disch := first | assumption | decide +kernel | exact hM _ _ | exact hL _ | exact xG_b | exact xG_bt _ _ | omega) only [w13_18, w13_19, w13_22, w13_23, w13_26, w13_27, w13_28, w13_29, w13_30, w13_33, w13_34, w13_35, w13_38, w13_39, Int.reduceAdd, xup_twice, true_implies, false_implies, not_true_eq_false, not_false_eq_true, and_true, true_and, Int.reduceEq, Int.reduceLE, Int.reduceLT, Int.reduceNeg, xb_eq0, xb_eq1, xup_ne, xup_self, xup_k, xjl_i, xjl_r, xjl_j, xjl_l, Option.toList_some, Option.toList_none, List.cons_append, List.nil_append, xr_0_0, xr_0_1, xr_0_2, xr_0_3, xr_0_4, xr_0_5, xr_0_6, xr_0_7, xr_1_0, xr_1_1, xr_4_5, xr_4_6, xr_4_7, xr_4_8, xr_8_0, xr_10_5, xr_10_6, xr_10_7, xr_10_8, xr_14_0, xr_16_0, xr_16_1, xr_16_2, xr_20_0, xr_21_0, xr_21_1, xr_22_0, xr_24_0, xr_26_0, xr_26_1, xr_26_2, xr_30_0, xr_30_1, xr_30_2, xr_30_3, xr_30_4, xr_30_5, xr_30_6, xr_30_7, xr_31_0, xr_39_0, xr_39_1, xr_39_2, xr_42_0, xr_42_2, xr_42_3, xr_42_4, xr_42_5, xr_42_6, xr_42_8, xr_42_10, xr_42_13, xr_42_14, xr_42_15, xr_42_16, xr_42_23, xr_42_24, xr_42_25]
    refine hY h _ ⟨?_, ?_, ?_, ?_, ?_, ?_, fun t a b => ?_, ?_, ?_⟩ (by repeat (first | exact cX4_rf | refine cX4_up ?_ (by omega)))
    · simpa [xup_app, pT] using h1
    · simp [xup_app, pT, h2]
    · simpa [xup_app, pT] using h3
    · simpa [xup_app, pT] using h4
    · simpa [xup_app, pT] using h5
    · simpa [xup_app, pT] using h6
    · simp only [xup_app, pT] at b ⊢
      simp at b ⊢
      rw [h2]
      by_cases e : t = w 0 1
      · simp [e]
      · simp [e]; exact h7 t a (by omega)
    · simpa [xup_app, pT] using h8
    · simpa [xup_app, pT] using h9
  simp (disch := first | assumption | decide +kernel | exact hM _ _ | exact hL _ | exact xG_b | exact xG_bt _ _ | omega) only [w13_0, w13_1, w13_4, w13_5, w13_8, w13_9, w13_10, w13_13, w13_16, w13_17, wc13, Int.reduceAdd, xup_twice, true_implies, false_implies, not_true_eq_false, not_false_eq_true, and_true, true_and, Int.reduceEq, Int.reduceLE, Int.reduceLT, Int.reduceNeg, xb_eq0, xb_eq1, xup_ne, xup_self, xup_k, xjl_i, xjl_r, xjl_j, xjl_l, Option.toList_some, Option.toList_none, List.cons_append, List.nil_append, xr_0_0, xr_0_1, xr_0_2, xr_0_3, xr_0_4, xr_0_5, xr_0_6, xr_0_7, xr_1_0, xr_1_1, xr_4_5, xr_4_6, xr_4_7, xr_4_8, xr_8_0, xr_10_5, xr_10_6, xr_10_7, xr_10_8, xr_14_0, xr_16_0, xr_16_1, xr_16_2, xr_20_0, xr_21_0, xr_21_1, xr_22_0, xr_24_0, xr_26_0, xr_26_1, xr_26_2, xr_30_0, xr_30_1, xr_30_2, xr_30_3, xr_30_4, xr_30_5, xr_30_6, xr_30_7, xr_31_0, xr_39_0, xr_39_1, xr_39_2, xr_42_0, xr_42_2, xr_42_3, xr_42_4, xr_42_5, xr_42_6, xr_42_8, xr_42_10, xr_42_13, xr_42_14, xr_42_15, xr_42_16, xr_42_23, xr_42_24, xr_42_25, q_hasCell]
  repeat' (first | apply And.intro | intro _)
  all_goals first | exact hy (by omega) | exact hN (by omega)
theorem q4_addPassing {x : Int} (hx : xG x) (hw : zW w) (hT : cT4 w M) (hY : 0 ≤ x ∧ x < w 0 0 → ∀ M', cT4 (pA w x) M' → cX4 M M' → Q (some (xi 1)) M') (hN : ¬ (0 ≤ x ∧ x < w 0 0) → Q (some (xi 0)) M) : Wc 15 [xr 4, xi x] M Q := by
  have hw1 := hw.1
  obtain ⟨h1, h2, h3, h4, h5, h6, h7, h8, h9⟩ := hT
  have hy : 0 ≤ x ∧ x < w 0 0 → Wp 15 10 [xr 4, xi x] [] M Q := fun h => by
    simp (disch := first | assumption | decide +kernel | exact hM _ _ | exact hL _ | exact xG_b | exact xG_bt _ _ | omega) only [w15_10, w15_11, w15_14, w15_15, w15_18, w15_19, w15_20, w15_21, w15_22, w15_25, w15_26, Int.reduceAdd, xup_twice, true_implies, false_implies, not_true_eq_false, not_false_eq_true, and_true, true_and, Int.reduceEq, Int.reduceLE, Int.reduceLT, Int.reduceNeg, xb_eq0, xb_eq1, xup_ne, xup_self, xup_k, xjl_i, xjl_r, xjl_j, xjl_l, Option.toList_some, Option.toList_none, List.cons_append, List.nil_append, xr_0_0, xr_0_1, xr_0_2, xr_0_3, xr_0_4, xr_0_5, xr_0_6, xr_0_7, xr_1_0, xr_1_1, xr_4_5, xr_4_6, xr_4_7, xr_4_8, xr_8_0, xr_10_5, xr_10_6, xr_10_7, xr_10_8, xr_14_0, xr_16_0, xr_16_1, xr_16_2, xr_20_0, xr_21_0, xr_21_1, xr_22_0, xr_24_0, xr_26_0, xr_26_1, xr_26_2, xr_30_0, xr_30_1, xr_30_2, xr_30_3, xr_30_4, xr_30_5, xr_30_6, xr_30_7, xr_31_0, xr_39_0, xr_39_1, xr_39_2, xr_42_0, xr_42_2, xr_42_3, xr_42_4, xr_42_5, xr_42_6, xr_42_8, xr_42_10, xr_42_13, xr_42_14, xr_42_15, xr_42_16, xr_42_23, xr_42_24, xr_42_25]
    refine hY h _ ⟨?_, ?_, ?_, ?_, ?_, ?_, ?_, ?_, ?_⟩ (by repeat (first | exact cX4_rf | refine cX4_up ?_ (by omega)))
    · simpa [xup_app, pA] using h1
    · simpa [xup_app, pA] using h2
    · simpa [xup_app, pA] using h3
    · simpa [xup_app, pA] using h4
    · simpa [xup_app, pA] using h5
    · simp [xup_app, pA, h6]
    · simpa [xup_app, pA] using h7
    · simpa [xup_app, pA] using h8
    · simpa [xup_app, pA] using h9
  simp (disch := first | assumption | decide +kernel | exact hM _ _ | exact hL _ | exact xG_b | exact xG_bt _ _ | omega) only [w15_0, w15_1, w15_2, w15_5, w15_8, w15_9, wc15, Int.reduceAdd, xup_twice, true_implies, false_implies, not_true_eq_false, not_false_eq_true, and_true, true_and, Int.reduceEq, Int.reduceLE, Int.reduceLT, Int.reduceNeg, xb_eq0, xb_eq1, xup_ne, xup_self, xup_k, xjl_i, xjl_r, xjl_j, xjl_l, Option.toList_some, Option.toList_none, List.cons_append, List.nil_append, xr_0_0, xr_0_1, xr_0_2, xr_0_3, xr_0_4, xr_0_5, xr_0_6, xr_0_7, xr_1_0, xr_1_1, xr_4_5, xr_4_6, xr_4_7, xr_4_8, xr_8_0, xr_10_5, xr_10_6, xr_10_7, xr_10_8, xr_14_0, xr_16_0, xr_16_1, xr_16_2, xr_20_0, xr_21_0, xr_21_1, xr_22_0, xr_24_0, xr_26_0, xr_26_1, xr_26_2, xr_30_0, xr_30_1, xr_30_2, xr_30_3, xr_30_4, xr_30_5, xr_30_6, xr_30_7, xr_31_0, xr_39_0, xr_39_1, xr_39_2, xr_42_0, xr_42_2, xr_42_3, xr_42_4, xr_42_5, xr_42_6, xr_42_8, xr_42_10, xr_42_13, xr_42_14, xr_42_15, xr_42_16, xr_42_23, xr_42_24, xr_42_25, q_hasCell]
  repeat' (first | apply And.intro | intro _)
  all_goals first | exact hy (by omega) | exact hN (by omega)
theorem q4_addRain {x : Int} (hx : xG x) (hw : zW w) (hT : cT4 w M) (hY : 0 ≤ x ∧ x < w 0 0 → ∀ M', cT4 (pR w x) M' → cX4 M M' → Q (some (xi 1)) M') (hN : ¬ (0 ≤ x ∧ x < w 0 0) → Q (some (xi 0)) M) : Wc 16 [xr 4, xi x] M Q := by
  have hw1 := hw.1
  obtain ⟨h1, h2, h3, h4, h5, h6, h7, h8, h9⟩ := hT
  have hy : 0 ≤ x ∧ x < w 0 0 → Wp 16 10 [xr 4, xi x] [] M Q := fun h => by
    simp (disch := first | assumption | decide +kernel | exact hM _ _ | exact hL _ | exact xG_b | exact xG_bt _ _ | omega) only [w16_10, w16_11, w16_12, w16_15, w16_16, w16_17, w16_18, w16_19, w16_22, w16_23, Int.reduceAdd, xup_twice, true_implies, false_implies, not_true_eq_false, not_false_eq_true, and_true, true_and, Int.reduceEq, Int.reduceLE, Int.reduceLT, Int.reduceNeg, xb_eq0, xb_eq1, xup_ne, xup_self, xup_k, xjl_i, xjl_r, xjl_j, xjl_l, Option.toList_some, Option.toList_none, List.cons_append, List.nil_append, xr_0_0, xr_0_1, xr_0_2, xr_0_3, xr_0_4, xr_0_5, xr_0_6, xr_0_7, xr_1_0, xr_1_1, xr_4_5, xr_4_6, xr_4_7, xr_4_8, xr_8_0, xr_10_5, xr_10_6, xr_10_7, xr_10_8, xr_14_0, xr_16_0, xr_16_1, xr_16_2, xr_20_0, xr_21_0, xr_21_1, xr_22_0, xr_24_0, xr_26_0, xr_26_1, xr_26_2, xr_30_0, xr_30_1, xr_30_2, xr_30_3, xr_30_4, xr_30_5, xr_30_6, xr_30_7, xr_31_0, xr_39_0, xr_39_1, xr_39_2, xr_42_0, xr_42_2, xr_42_3, xr_42_4, xr_42_5, xr_42_6, xr_42_8, xr_42_10, xr_42_13, xr_42_14, xr_42_15, xr_42_16, xr_42_23, xr_42_24, xr_42_25]
    refine hY h _ ⟨?_, ?_, ?_, ?_, ?_, ?_, ?_, ?_, ?_⟩ (by repeat (first | exact cX4_rf | refine cX4_up ?_ (by omega)))
    · simpa [xup_app, pR] using h1
    · simpa [xup_app, pR] using h2
    · simpa [xup_app, pR] using h3
    · simp [xup_app, pR, h4]
    · simpa [xup_app, pR] using h5
    · simpa [xup_app, pR] using h6
    · simpa [xup_app, pR] using h7
    · simpa [xup_app, pR] using h8
    · simpa [xup_app, pR] using h9
  simp (disch := first | assumption | decide +kernel | exact hM _ _ | exact hL _ | exact xG_b | exact xG_bt _ _ | omega) only [w16_0, w16_1, w16_2, w16_5, w16_8, w16_9, wc16, Int.reduceAdd, xup_twice, true_implies, false_implies, not_true_eq_false, not_false_eq_true, and_true, true_and, Int.reduceEq, Int.reduceLE, Int.reduceLT, Int.reduceNeg, xb_eq0, xb_eq1, xup_ne, xup_self, xup_k, xjl_i, xjl_r, xjl_j, xjl_l, Option.toList_some, Option.toList_none, List.cons_append, List.nil_append, xr_0_0, xr_0_1, xr_0_2, xr_0_3, xr_0_4, xr_0_5, xr_0_6, xr_0_7, xr_1_0, xr_1_1, xr_4_5, xr_4_6, xr_4_7, xr_4_8, xr_8_0, xr_10_5, xr_10_6, xr_10_7, xr_10_8, xr_14_0, xr_16_0, xr_16_1, xr_16_2, xr_20_0, xr_21_0, xr_21_1, xr_22_0, xr_24_0, xr_26_0, xr_26_1, xr_26_2, xr_30_0, xr_30_1, xr_30_2, xr_30_3, xr_30_4, xr_30_5, xr_30_6, xr_30_7, xr_31_0, xr_39_0, xr_39_1, xr_39_2, xr_42_0, xr_42_2, xr_42_3, xr_42_4, xr_42_5, xr_42_6, xr_42_8, xr_42_10, xr_42_13, xr_42_14, xr_42_15, xr_42_16, xr_42_23, xr_42_24, xr_42_25, q_hasCell]
  repeat' (first | apply And.intro | intro _)
  all_goals first | exact hy (by omega) | exact hN (by omega)
theorem q4_addPlatform {k x d s : Int} (hk : 0 ≤ k ∧ k ≤ 99) (hx : 0 ≤ x ∧ x ≤ 99) (hd : 0 ≤ d ∧ d ≤ 99) (hs : 0 ≤ s ∧ s ≤ 99) (hw : zW w) (hT : cT4 w M) (hY : (w 0 2 < 5 ∧ k ≤ 4 ∧ x < w 0 0 ∧ d ≤ 1 ∧ s ≤ 30 ∧ pTold w x ≤ xbt (w 0 3) x) → ∀ M', cT4 (pP w k x d s) M' → cX4 M M' → Q (some (xi 1)) M') (hN : ¬ (w 0 2 < 5 ∧ k ≤ 4 ∧ x < w 0 0 ∧ d ≤ 1 ∧ s ≤ 30 ∧ pTold w x ≤ xbt (w 0 3) x) → Q (some (xi 0)) M) : Wc 14 [xr 4, xi k, xi x, xi d, xi s] M Q := by
  have hw1 := hw.1
  have hw3 := hw.2.2.1
  obtain ⟨h1, h2, h3, h4, h5, h6, h7, h8, h9⟩ := hT
  have hy2 : (w 0 2 < 5 ∧ k ≤ 4 ∧ x < w 0 0 ∧ d ≤ 1 ∧ s ≤ 30 ∧ pTold w x ≤ xbt (w 0 3) x) → Wp 14 58 [xr 4, xi k, xi x, xi d, xi s] [] M Q := fun h => by
    simp (disch := first | assumption | decide +kernel | exact hM _ _ | exact hL _ | exact xG_b | exact xG_bt _ _ | omega) only [w14_58, w14_59, w14_62, w14_63, w14_66, w14_67, w14_68, w14_69, w14_72, w14_73, w14_76, w14_77, w14_78, w14_79, w14_80, w14_83, w14_84, w14_85, w14_88, w14_89, w14_90, w14_93, w14_94, w14_97, w14_100, w14_101, w14_104, w14_106, w14_107, w14_108, w14_109, w14_112, w14_113, w14_114, w14_117, w14_118, Int.reduceAdd, xup_twice, true_implies, false_implies, not_true_eq_false, not_false_eq_true, and_true, true_and, Int.reduceEq, Int.reduceLE, Int.reduceLT, Int.reduceNeg, xb_eq0, xb_eq1, xup_ne, xup_self, xup_k, xjl_i, xjl_r, xjl_j, xjl_l, Option.toList_some, Option.toList_none, List.cons_append, List.nil_append, xr_0_0, xr_0_1, xr_0_2, xr_0_3, xr_0_4, xr_0_5, xr_0_6, xr_0_7, xr_1_0, xr_1_1, xr_4_5, xr_4_6, xr_4_7, xr_4_8, xr_8_0, xr_10_5, xr_10_6, xr_10_7, xr_10_8, xr_14_0, xr_16_0, xr_16_1, xr_16_2, xr_20_0, xr_21_0, xr_21_1, xr_22_0, xr_24_0, xr_26_0, xr_26_1, xr_26_2, xr_30_0, xr_30_1, xr_30_2, xr_30_3, xr_30_4, xr_30_5, xr_30_6, xr_30_7, xr_31_0, xr_39_0, xr_39_1, xr_39_2, xr_42_0, xr_42_2, xr_42_3, xr_42_4, xr_42_5, xr_42_6, xr_42_8, xr_42_10, xr_42_13, xr_42_14, xr_42_15, xr_42_16, xr_42_23, xr_42_24, xr_42_25]
    refine hY h _ ⟨?_, ?_, ?_, ?_, ?_, ?_, ?_, fun q a b => ?_, fun q a b => ?_⟩ (by repeat (first | exact cX4_rf | refine cX4_up ?_ (by omega)))
    · simpa [xup_app, pP] using h1
    · simpa [xup_app, pP] using h2
    · simp [xup_app, pP, h3]
    · simpa [xup_app, pP] using h4
    · simpa [xup_app, pP] using h5
    · simpa [xup_app, pP] using h6
    · simpa [xup_app, pP] using h7
    · simp only [xup_app, pP] at b ⊢
      simp at b ⊢
      rw [h3, xbt_or1 (by omega) (by omega) (by omega)]
      by_cases e : q = w 0 2
      · subst e
        simp
        rcases (show d = 0 ∨ d = 1 by omega) with rfl | rfl
        · simp; exact h9 _ (Int.le_refl _) (by omega)
        · simp
      · simp [e]; exact h8 q a (by omega)
    · simp only [xup_app, pP] at a ⊢
      simp at a ⊢
      rw [h3, xbt_or1 (by omega) (by omega) (by omega), if_neg (by omega)]
      exact h9 q (by omega) b
  have hy1 : (w 0 2 < 5 ∧ k ≤ 4 ∧ x < w 0 0 ∧ d ≤ 1 ∧ s ≤ 30) → Wp 14 37 [xr 4, xi k, xi x, xi d, xi s] [] M Q := fun h => by
    have htold : xcn (fun p => decide (M 7 p = x)) (M 4 2).toNat = pTold w x := by
      rw [pTold, h3]
      exact xcn_c (fun j hj => by rw [(h8 j (by omega) (by omega)).2.2.1])
    have hb := xcn_b (fun q => decide (w 4 q = x)) (w 0 2).toNat
    have hb2 : 0 ≤ pTold w x ∧ pTold w x ≤ (w 0 2).toNat := hb
    simp (disch := first | assumption | decide +kernel | exact hM _ _ | exact hL _ | exact xG_b | exact xG_bt _ _ | omega) only [w14_37, w14_38, w14_39, Int.reduceAdd, xup_twice, true_implies, false_implies, not_true_eq_false, not_false_eq_true, and_true, true_and, Int.reduceEq, Int.reduceLE, Int.reduceLT, Int.reduceNeg, xb_eq0, xb_eq1, xup_ne, xup_self, xup_k, xjl_i, xjl_r, xjl_j, xjl_l, Option.toList_some, Option.toList_none, List.cons_append, List.nil_append, xr_0_0, xr_0_1, xr_0_2, xr_0_3, xr_0_4, xr_0_5, xr_0_6, xr_0_7, xr_1_0, xr_1_1, xr_4_5, xr_4_6, xr_4_7, xr_4_8, xr_8_0, xr_10_5, xr_10_6, xr_10_7, xr_10_8, xr_14_0, xr_16_0, xr_16_1, xr_16_2, xr_20_0, xr_21_0, xr_21_1, xr_22_0, xr_24_0, xr_26_0, xr_26_1, xr_26_2, xr_30_0, xr_30_1, xr_30_2, xr_30_3, xr_30_4, xr_30_5, xr_30_6, xr_30_7, xr_31_0, xr_39_0, xr_39_1, xr_39_2, xr_42_0, xr_42_2, xr_42_3, xr_42_4, xr_42_5, xr_42_6, xr_42_8, xr_42_10, xr_42_13, xr_42_14, xr_42_15, xr_42_16, xr_42_23, xr_42_24, xr_42_25]
    rw [q_toldIn (pl := 7) rfl rfl rfl rfl (by constructor <;> omega) (by omega) (fun p a b => by rw [(h8 p a (by omega)).2.2.1]; have := hw.2.2.2.2.1 p a (by omega); constructor <;> omega), htold]
    simp (disch := first | assumption | decide +kernel | exact hM _ _ | exact hL _ | exact xG_b | exact xG_bt _ _ | omega) only [w14_42, w14_43, w14_46, w14_49, w14_50, w14_53, w14_56, w14_57, Int.reduceAdd, xup_twice, true_implies, false_implies, not_true_eq_false, not_false_eq_true, and_true, true_and, Int.reduceEq, Int.reduceLE, Int.reduceLT, Int.reduceNeg, xb_eq0, xb_eq1, xup_ne, xup_self, xup_k, xjl_i, xjl_r, xjl_j, xjl_l, Option.toList_some, Option.toList_none, List.cons_append, List.nil_append, xr_0_0, xr_0_1, xr_0_2, xr_0_3, xr_0_4, xr_0_5, xr_0_6, xr_0_7, xr_1_0, xr_1_1, xr_4_5, xr_4_6, xr_4_7, xr_4_8, xr_8_0, xr_10_5, xr_10_6, xr_10_7, xr_10_8, xr_14_0, xr_16_0, xr_16_1, xr_16_2, xr_20_0, xr_21_0, xr_21_1, xr_22_0, xr_24_0, xr_26_0, xr_26_1, xr_26_2, xr_30_0, xr_30_1, xr_30_2, xr_30_3, xr_30_4, xr_30_5, xr_30_6, xr_30_7, xr_31_0, xr_39_0, xr_39_1, xr_39_2, xr_42_0, xr_42_2, xr_42_3, xr_42_4, xr_42_5, xr_42_6, xr_42_8, xr_42_10, xr_42_13, xr_42_14, xr_42_15, xr_42_16, xr_42_23, xr_42_24, xr_42_25, q_bit]
    rw [h6]
    by_cases hc : pTold w x ≤ xbt (w 0 3) x
    · rw [xbr_t hc]; exact hy2 (by omega)
    · rw [xbr_f hc]; exact hN (by omega)
  simp (disch := first | assumption | decide +kernel | exact hM _ _ | exact hL _ | exact xG_b | exact xG_bt _ _ | omega) only [w14_0, w14_1, w14_4, w14_5, w14_8, w14_9, w14_10, w14_13, w14_14, w14_15, w14_18, w14_21, w14_22, w14_23, w14_24, w14_25, w14_28, w14_30, w14_32, w14_35, w14_36, wc14, Int.reduceAdd, xup_twice, true_implies, false_implies, not_true_eq_false, not_false_eq_true, and_true, true_and, Int.reduceEq, Int.reduceLE, Int.reduceLT, Int.reduceNeg, xb_eq0, xb_eq1, xup_ne, xup_self, xup_k, xjl_i, xjl_r, xjl_j, xjl_l, Option.toList_some, Option.toList_none, List.cons_append, List.nil_append, xr_0_0, xr_0_1, xr_0_2, xr_0_3, xr_0_4, xr_0_5, xr_0_6, xr_0_7, xr_1_0, xr_1_1, xr_4_5, xr_4_6, xr_4_7, xr_4_8, xr_8_0, xr_10_5, xr_10_6, xr_10_7, xr_10_8, xr_14_0, xr_16_0, xr_16_1, xr_16_2, xr_20_0, xr_21_0, xr_21_1, xr_22_0, xr_24_0, xr_26_0, xr_26_1, xr_26_2, xr_30_0, xr_30_1, xr_30_2, xr_30_3, xr_30_4, xr_30_5, xr_30_6, xr_30_7, xr_31_0, xr_39_0, xr_39_1, xr_39_2, xr_42_0, xr_42_2, xr_42_3, xr_42_4, xr_42_5, xr_42_6, xr_42_8, xr_42_10, xr_42_13, xr_42_14, xr_42_15, xr_42_16, xr_42_23, xr_42_24, xr_42_25, q_hasCell]
  repeat' (first | apply And.intro | intro _)
  all_goals first | exact hy1 (by omega) | exact hN (by omega)
/-- what is told, in a line's cells -/
def cT10 (w M : xM) : Prop := M 10 0 = w 0 0 ∧ M 10 1 = w 0 1 ∧ M 10 2 = w 0 2 ∧ M 10 4 = w 0 4 ∧ M 14 1 = 0 ∧ M 14 2 = w 0 3 ∧ (∀ t, 0 ≤ t → t < w 0 1 → M 11 t = w 1 t) ∧ (∀ p, 0 ≤ p → p < w 0 2 → M 12 p = w 2 p ∧ M 15 p = w 3 p ∧ M 13 p = w 4 p ∧ xbt (M 10 3) p = w 5 p) ∧ (∀ p, w 0 2 ≤ p → p < 31 → xbt (M 10 3) p = 0)
theorem cT10_F {M' : xM} (h : cT10 w M) (hf : ∀ d, 10 ≤ d → d ≤ 15 → M' d = M d) : cT10 w M' := by
  unfold cT10
  rw [hf 10 (by omega) (by omega), hf 11 (by omega) (by omega), hf 12 (by omega) (by omega), hf 13 (by omega) (by omega), hf 14 (by omega) (by omega), hf 15 (by omega) (by omega)]
  exact h
def cX10 (M M' : xM) : Prop := ∀ d, (d < 10 ∨ 15 < d) → M' d = M d
theorem cX10_up {M' : xM} {d : Nat} {k v : Int} (h : cX10 M M') (hd : 10 ≤ d ∧ d ≤ 15) : cX10 M (xup M' d k v) := fun c hc => by
  rw [xup_ne (by omega)]
  exact h c hc
theorem cX10_rf : cX10 M M := fun _ _ => rfl
theorem q10_clear (hQ : ∀ M', cT10 pW0 M' → cX10 M M' → Q none M') : Wc 6 [xr 10] M Q := by
  simp (disch := first | assumption | decide +kernel | exact hM _ _ | exact hL _ | exact xG_b | exact xG_bt _ _ | omega) only [wc6, w6_0, w6_1, w6_3, w6_6, w6_7, w6_8, w6_11, w6_12, w6_13, w6_16, w6_17, w6_18, w6_21, w6_22, w6_23, w6_26, w6_27, w6_30, w6_31, w6_34, w6_35, w6_38, w6_39, w6_42, Int.reduceAdd, xup_twice, true_implies, false_implies, not_true_eq_false, not_false_eq_true, and_true, true_and, Int.reduceEq, Int.reduceLE, Int.reduceLT, Int.reduceNeg, xb_eq0, xb_eq1, xup_ne, xup_self, xup_k, xjl_i, xjl_r, xjl_j, xjl_l, Option.toList_some, Option.toList_none, List.cons_append, List.nil_append, xr_0_0, xr_0_1, xr_0_2, xr_0_3, xr_0_4, xr_0_5, xr_0_6, xr_0_7, xr_1_0, xr_1_1, xr_4_5, xr_4_6, xr_4_7, xr_4_8, xr_8_0, xr_10_5, xr_10_6, xr_10_7, xr_10_8, xr_14_0, xr_16_0, xr_16_1, xr_16_2, xr_20_0, xr_21_0, xr_21_1, xr_22_0, xr_24_0, xr_26_0, xr_26_1, xr_26_2, xr_30_0, xr_30_1, xr_30_2, xr_30_3, xr_30_4, xr_30_5, xr_30_6, xr_30_7, xr_31_0, xr_39_0, xr_39_1, xr_39_2, xr_42_0, xr_42_2, xr_42_3, xr_42_4, xr_42_5, xr_42_6, xr_42_8, xr_42_10, xr_42_13, xr_42_14, xr_42_15, xr_42_16, xr_42_23, xr_42_24, xr_42_25]
  refine hQ _ ?_ (by repeat (first | exact cX10_rf | refine cX10_up ?_ (by omega)))
  have hb0 : ∀ p : Int, 0 ≤ p → p < 31 → xbt 0 p = 0 := fun p h1 h2 => by
    obtain ⟨k, rfl⟩ : ∃ k : Nat, p = k := ⟨p.toNat, by omega⟩
    rw [xbt_t (by omega), xt_0]; rfl
  refine ⟨by simp [xup_app, pW0], by simp [xup_app, pW0], by simp [xup_app, pW0], by simp [xup_app, pW0], by simp [xup_app, pW0], by simp [xup_app, pW0], fun t h1 h2 => ?_, fun t h1 h2 => ?_, fun p h1 h2 => ?_⟩
  · simp [pW0] at h2; omega
  · simp [pW0] at h2; omega
  · simp [pW0] at h1
    simp [xup_app, hb0 p h1 h2]
theorem q10_addRing {x : Int} (hx : xG x) (hT : cT10 w M) (hY : 4 ≤ x ∧ x ≤ 24 → ∀ M', cT10 (xup w 0 0 x) M' → cX10 M M' → Q (some (xi 1)) M') (hN : ¬ (4 ≤ x ∧ x ≤ 24) → Q (some (xi 0)) M) : Wc 12 [xr 10, xi x] M Q := by
  have hy : 4 ≤ x ∧ x ≤ 24 → Q (some (xi 1)) (xup M 10 0 x) := fun h => by
    obtain ⟨h1, h2, h3, h4, h5, h6, h7, h8, h9⟩ := hT
    refine hY h _ ⟨?_, ?_, ?_, ?_, ?_, ?_, ?_, ?_, ?_⟩ (cX10_up cX10_rf (by omega))
    · simp [xup_app]
    · simpa [xup_app] using h2
    · simpa [xup_app] using h3
    · simpa [xup_app] using h4
    · simpa [xup_app] using h5
    · simpa [xup_app] using h6
    · simpa [xup_app] using h7
    · simpa [xup_app] using h8
    · simpa [xup_app] using h9
  simp (disch := first | assumption | decide +kernel | exact hM _ _ | exact hL _ | exact xG_b | exact xG_bt _ _ | omega) only [wc12, w12_0, w12_1, w12_2, w12_5, w12_6, w12_8, w12_11, w12_12, w12_13, w12_14, w12_15, w12_18, w12_19, Int.reduceAdd, xup_twice, true_implies, false_implies, not_true_eq_false, not_false_eq_true, and_true, true_and, Int.reduceEq, Int.reduceLE, Int.reduceLT, Int.reduceNeg, xb_eq0, xb_eq1, xup_ne, xup_self, xup_k, xjl_i, xjl_r, xjl_j, xjl_l, Option.toList_some, Option.toList_none, List.cons_append, List.nil_append, xr_0_0, xr_0_1, xr_0_2, xr_0_3, xr_0_4, xr_0_5, xr_0_6, xr_0_7, xr_1_0, xr_1_1, xr_4_5, xr_4_6, xr_4_7, xr_4_8, xr_8_0, xr_10_5, xr_10_6, xr_10_7, xr_10_8, xr_14_0, xr_16_0, xr_16_1, xr_16_2, xr_20_0, xr_21_0, xr_21_1, xr_22_0, xr_24_0, xr_26_0, xr_26_1, xr_26_2, xr_30_0, xr_30_1, xr_30_2, xr_30_3, xr_30_4, xr_30_5, xr_30_6, xr_30_7, xr_31_0, xr_39_0, xr_39_1, xr_39_2, xr_42_0, xr_42_2, xr_42_3, xr_42_4, xr_42_5, xr_42_6, xr_42_8, xr_42_10, xr_42_13, xr_42_14, xr_42_15, xr_42_16, xr_42_23, xr_42_24, xr_42_25]
  repeat' (first | apply And.intro | intro _)
  all_goals first | exact hy (by omega) | exact hN (by omega)
theorem q10_addTrain {x : Int} (hx : xG x) (hw : zW w) (hT : cT10 w M) (hY : w 0 1 < 5 ∧ 0 ≤ x ∧ x < w 0 0 → ∀ M', cT10 (pT w x) M' → cX10 M M' → Q (some (xi 1)) M') (hN : ¬ (w 0 1 < 5 ∧ 0 ≤ x ∧ x < w 0 0) → Q (some (xi 0)) M) : Wc 13 [xr 10, xi x] M Q := by
  have hw1 := hw.1
  have hw2 := hw.2.1
  obtain ⟨h1, h2, h3, h4, h5, h6, h7, h8, h9⟩ := hT
  have hy : w 0 1 < 5 ∧ 0 ≤ x ∧ x < w 0 0 → Wp 13 18 [xr 10, xi x] [] M Q := fun h => by
    simp (disch := first | assumption | decide +kernel | exact hM _ _ | exact hL _ | exact xG_b | exact xG_bt _ _ | omega) only [w13_18, w13_19, w13_22, w13_23, w13_26, w13_27, w13_28, w13_29, w13_30, w13_33, w13_34, w13_35, w13_38, w13_39, Int.reduceAdd, xup_twice, true_implies, false_implies, not_true_eq_false, not_false_eq_true, and_true, true_and, Int.reduceEq, Int.reduceLE, Int.reduceLT, Int.reduceNeg, xb_eq0, xb_eq1, xup_ne, xup_self, xup_k, xjl_i, xjl_r, xjl_j, xjl_l, Option.toList_some, Option.toList_none, List.cons_append, List.nil_append, xr_0_0, xr_0_1, xr_0_2, xr_0_3, xr_0_4, xr_0_5, xr_0_6, xr_0_7, xr_1_0, xr_1_1, xr_4_5, xr_4_6, xr_4_7, xr_4_8, xr_8_0, xr_10_5, xr_10_6, xr_10_7, xr_10_8, xr_14_0, xr_16_0, xr_16_1, xr_16_2, xr_20_0, xr_21_0, xr_21_1, xr_22_0, xr_24_0, xr_26_0, xr_26_1, xr_26_2, xr_30_0, xr_30_1, xr_30_2, xr_30_3, xr_30_4, xr_30_5, xr_30_6, xr_30_7, xr_31_0, xr_39_0, xr_39_1, xr_39_2, xr_42_0, xr_42_2, xr_42_3, xr_42_4, xr_42_5, xr_42_6, xr_42_8, xr_42_10, xr_42_13, xr_42_14, xr_42_15, xr_42_16, xr_42_23, xr_42_24, xr_42_25]
    refine hY h _ ⟨?_, ?_, ?_, ?_, ?_, ?_, fun t a b => ?_, ?_, ?_⟩ (by repeat (first | exact cX10_rf | refine cX10_up ?_ (by omega)))
    · simpa [xup_app, pT] using h1
    · simp [xup_app, pT, h2]
    · simpa [xup_app, pT] using h3
    · simpa [xup_app, pT] using h4
    · simpa [xup_app, pT] using h5
    · simpa [xup_app, pT] using h6
    · simp only [xup_app, pT] at b ⊢
      simp at b ⊢
      rw [h2]
      by_cases e : t = w 0 1
      · simp [e]
      · simp [e]; exact h7 t a (by omega)
    · simpa [xup_app, pT] using h8
    · simpa [xup_app, pT] using h9
  simp (disch := first | assumption | decide +kernel | exact hM _ _ | exact hL _ | exact xG_b | exact xG_bt _ _ | omega) only [w13_0, w13_1, w13_4, w13_5, w13_8, w13_9, w13_10, w13_13, w13_16, w13_17, wc13, Int.reduceAdd, xup_twice, true_implies, false_implies, not_true_eq_false, not_false_eq_true, and_true, true_and, Int.reduceEq, Int.reduceLE, Int.reduceLT, Int.reduceNeg, xb_eq0, xb_eq1, xup_ne, xup_self, xup_k, xjl_i, xjl_r, xjl_j, xjl_l, Option.toList_some, Option.toList_none, List.cons_append, List.nil_append, xr_0_0, xr_0_1, xr_0_2, xr_0_3, xr_0_4, xr_0_5, xr_0_6, xr_0_7, xr_1_0, xr_1_1, xr_4_5, xr_4_6, xr_4_7, xr_4_8, xr_8_0, xr_10_5, xr_10_6, xr_10_7, xr_10_8, xr_14_0, xr_16_0, xr_16_1, xr_16_2, xr_20_0, xr_21_0, xr_21_1, xr_22_0, xr_24_0, xr_26_0, xr_26_1, xr_26_2, xr_30_0, xr_30_1, xr_30_2, xr_30_3, xr_30_4, xr_30_5, xr_30_6, xr_30_7, xr_31_0, xr_39_0, xr_39_1, xr_39_2, xr_42_0, xr_42_2, xr_42_3, xr_42_4, xr_42_5, xr_42_6, xr_42_8, xr_42_10, xr_42_13, xr_42_14, xr_42_15, xr_42_16, xr_42_23, xr_42_24, xr_42_25, q_hasCell]
  repeat' (first | apply And.intro | intro _)
  all_goals first | exact hy (by omega) | exact hN (by omega)
theorem q10_addPassing {x : Int} (hx : xG x) (hw : zW w) (hT : cT10 w M) (hY : 0 ≤ x ∧ x < w 0 0 → ∀ M', cT10 (pA w x) M' → cX10 M M' → Q (some (xi 1)) M') (hN : ¬ (0 ≤ x ∧ x < w 0 0) → Q (some (xi 0)) M) : Wc 15 [xr 10, xi x] M Q := by
  have hw1 := hw.1
  obtain ⟨h1, h2, h3, h4, h5, h6, h7, h8, h9⟩ := hT
  have hy : 0 ≤ x ∧ x < w 0 0 → Wp 15 10 [xr 10, xi x] [] M Q := fun h => by
    simp (disch := first | assumption | decide +kernel | exact hM _ _ | exact hL _ | exact xG_b | exact xG_bt _ _ | omega) only [w15_10, w15_11, w15_14, w15_15, w15_18, w15_19, w15_20, w15_21, w15_22, w15_25, w15_26, Int.reduceAdd, xup_twice, true_implies, false_implies, not_true_eq_false, not_false_eq_true, and_true, true_and, Int.reduceEq, Int.reduceLE, Int.reduceLT, Int.reduceNeg, xb_eq0, xb_eq1, xup_ne, xup_self, xup_k, xjl_i, xjl_r, xjl_j, xjl_l, Option.toList_some, Option.toList_none, List.cons_append, List.nil_append, xr_0_0, xr_0_1, xr_0_2, xr_0_3, xr_0_4, xr_0_5, xr_0_6, xr_0_7, xr_1_0, xr_1_1, xr_4_5, xr_4_6, xr_4_7, xr_4_8, xr_8_0, xr_10_5, xr_10_6, xr_10_7, xr_10_8, xr_14_0, xr_16_0, xr_16_1, xr_16_2, xr_20_0, xr_21_0, xr_21_1, xr_22_0, xr_24_0, xr_26_0, xr_26_1, xr_26_2, xr_30_0, xr_30_1, xr_30_2, xr_30_3, xr_30_4, xr_30_5, xr_30_6, xr_30_7, xr_31_0, xr_39_0, xr_39_1, xr_39_2, xr_42_0, xr_42_2, xr_42_3, xr_42_4, xr_42_5, xr_42_6, xr_42_8, xr_42_10, xr_42_13, xr_42_14, xr_42_15, xr_42_16, xr_42_23, xr_42_24, xr_42_25]
    refine hY h _ ⟨?_, ?_, ?_, ?_, ?_, ?_, ?_, ?_, ?_⟩ (by repeat (first | exact cX10_rf | refine cX10_up ?_ (by omega)))
    · simpa [xup_app, pA] using h1
    · simpa [xup_app, pA] using h2
    · simpa [xup_app, pA] using h3
    · simpa [xup_app, pA] using h4
    · simpa [xup_app, pA] using h5
    · simp [xup_app, pA, h6]
    · simpa [xup_app, pA] using h7
    · simpa [xup_app, pA] using h8
    · simpa [xup_app, pA] using h9
  simp (disch := first | assumption | decide +kernel | exact hM _ _ | exact hL _ | exact xG_b | exact xG_bt _ _ | omega) only [w15_0, w15_1, w15_2, w15_5, w15_8, w15_9, wc15, Int.reduceAdd, xup_twice, true_implies, false_implies, not_true_eq_false, not_false_eq_true, and_true, true_and, Int.reduceEq, Int.reduceLE, Int.reduceLT, Int.reduceNeg, xb_eq0, xb_eq1, xup_ne, xup_self, xup_k, xjl_i, xjl_r, xjl_j, xjl_l, Option.toList_some, Option.toList_none, List.cons_append, List.nil_append, xr_0_0, xr_0_1, xr_0_2, xr_0_3, xr_0_4, xr_0_5, xr_0_6, xr_0_7, xr_1_0, xr_1_1, xr_4_5, xr_4_6, xr_4_7, xr_4_8, xr_8_0, xr_10_5, xr_10_6, xr_10_7, xr_10_8, xr_14_0, xr_16_0, xr_16_1, xr_16_2, xr_20_0, xr_21_0, xr_21_1, xr_22_0, xr_24_0, xr_26_0, xr_26_1, xr_26_2, xr_30_0, xr_30_1, xr_30_2, xr_30_3, xr_30_4, xr_30_5, xr_30_6, xr_30_7, xr_31_0, xr_39_0, xr_39_1, xr_39_2, xr_42_0, xr_42_2, xr_42_3, xr_42_4, xr_42_5, xr_42_6, xr_42_8, xr_42_10, xr_42_13, xr_42_14, xr_42_15, xr_42_16, xr_42_23, xr_42_24, xr_42_25, q_hasCell]
  repeat' (first | apply And.intro | intro _)
  all_goals first | exact hy (by omega) | exact hN (by omega)
theorem q10_addRain {x : Int} (hx : xG x) (hw : zW w) (hT : cT10 w M) (hY : 0 ≤ x ∧ x < w 0 0 → ∀ M', cT10 (pR w x) M' → cX10 M M' → Q (some (xi 1)) M') (hN : ¬ (0 ≤ x ∧ x < w 0 0) → Q (some (xi 0)) M) : Wc 16 [xr 10, xi x] M Q := by
  have hw1 := hw.1
  obtain ⟨h1, h2, h3, h4, h5, h6, h7, h8, h9⟩ := hT
  have hy : 0 ≤ x ∧ x < w 0 0 → Wp 16 10 [xr 10, xi x] [] M Q := fun h => by
    simp (disch := first | assumption | decide +kernel | exact hM _ _ | exact hL _ | exact xG_b | exact xG_bt _ _ | omega) only [w16_10, w16_11, w16_12, w16_15, w16_16, w16_17, w16_18, w16_19, w16_22, w16_23, Int.reduceAdd, xup_twice, true_implies, false_implies, not_true_eq_false, not_false_eq_true, and_true, true_and, Int.reduceEq, Int.reduceLE, Int.reduceLT, Int.reduceNeg, xb_eq0, xb_eq1, xup_ne, xup_self, xup_k, xjl_i, xjl_r, xjl_j, xjl_l, Option.toList_some, Option.toList_none, List.cons_append, List.nil_append, xr_0_0, xr_0_1, xr_0_2, xr_0_3, xr_0_4, xr_0_5, xr_0_6, xr_0_7, xr_1_0, xr_1_1, xr_4_5, xr_4_6, xr_4_7, xr_4_8, xr_8_0, xr_10_5, xr_10_6, xr_10_7, xr_10_8, xr_14_0, xr_16_0, xr_16_1, xr_16_2, xr_20_0, xr_21_0, xr_21_1, xr_22_0, xr_24_0, xr_26_0, xr_26_1, xr_26_2, xr_30_0, xr_30_1, xr_30_2, xr_30_3, xr_30_4, xr_30_5, xr_30_6, xr_30_7, xr_31_0, xr_39_0, xr_39_1, xr_39_2, xr_42_0, xr_42_2, xr_42_3, xr_42_4, xr_42_5, xr_42_6, xr_42_8, xr_42_10, xr_42_13, xr_42_14, xr_42_15, xr_42_16, xr_42_23, xr_42_24, xr_42_25]
    refine hY h _ ⟨?_, ?_, ?_, ?_, ?_, ?_, ?_, ?_, ?_⟩ (by repeat (first | exact cX10_rf | refine cX10_up ?_ (by omega)))
    · simpa [xup_app, pR] using h1
    · simpa [xup_app, pR] using h2
    · simpa [xup_app, pR] using h3
    · simp [xup_app, pR, h4]
    · simpa [xup_app, pR] using h5
    · simpa [xup_app, pR] using h6
    · simpa [xup_app, pR] using h7
    · simpa [xup_app, pR] using h8
    · simpa [xup_app, pR] using h9
  simp (disch := first | assumption | decide +kernel | exact hM _ _ | exact hL _ | exact xG_b | exact xG_bt _ _ | omega) only [w16_0, w16_1, w16_2, w16_5, w16_8, w16_9, wc16, Int.reduceAdd, xup_twice, true_implies, false_implies, not_true_eq_false, not_false_eq_true, and_true, true_and, Int.reduceEq, Int.reduceLE, Int.reduceLT, Int.reduceNeg, xb_eq0, xb_eq1, xup_ne, xup_self, xup_k, xjl_i, xjl_r, xjl_j, xjl_l, Option.toList_some, Option.toList_none, List.cons_append, List.nil_append, xr_0_0, xr_0_1, xr_0_2, xr_0_3, xr_0_4, xr_0_5, xr_0_6, xr_0_7, xr_1_0, xr_1_1, xr_4_5, xr_4_6, xr_4_7, xr_4_8, xr_8_0, xr_10_5, xr_10_6, xr_10_7, xr_10_8, xr_14_0, xr_16_0, xr_16_1, xr_16_2, xr_20_0, xr_21_0, xr_21_1, xr_22_0, xr_24_0, xr_26_0, xr_26_1, xr_26_2, xr_30_0, xr_30_1, xr_30_2, xr_30_3, xr_30_4, xr_30_5, xr_30_6, xr_30_7, xr_31_0, xr_39_0, xr_39_1, xr_39_2, xr_42_0, xr_42_2, xr_42_3, xr_42_4, xr_42_5, xr_42_6, xr_42_8, xr_42_10, xr_42_13, xr_42_14, xr_42_15, xr_42_16, xr_42_23, xr_42_24, xr_42_25, q_hasCell]
  repeat' (first | apply And.intro | intro _)
  all_goals first | exact hy (by omega) | exact hN (by omega)
theorem q10_addPlatform {k x d s : Int} (hk : 0 ≤ k ∧ k ≤ 99) (hx : 0 ≤ x ∧ x ≤ 99) (hd : 0 ≤ d ∧ d ≤ 99) (hs : 0 ≤ s ∧ s ≤ 99) (hw : zW w) (hT : cT10 w M) (hY : (w 0 2 < 5 ∧ k ≤ 4 ∧ x < w 0 0 ∧ d ≤ 1 ∧ s ≤ 30 ∧ pTold w x ≤ xbt (w 0 3) x) → ∀ M', cT10 (pP w k x d s) M' → cX10 M M' → Q (some (xi 1)) M') (hN : ¬ (w 0 2 < 5 ∧ k ≤ 4 ∧ x < w 0 0 ∧ d ≤ 1 ∧ s ≤ 30 ∧ pTold w x ≤ xbt (w 0 3) x) → Q (some (xi 0)) M) : Wc 14 [xr 10, xi k, xi x, xi d, xi s] M Q := by
  have hw1 := hw.1
  have hw3 := hw.2.2.1
  obtain ⟨h1, h2, h3, h4, h5, h6, h7, h8, h9⟩ := hT
  have hy2 : (w 0 2 < 5 ∧ k ≤ 4 ∧ x < w 0 0 ∧ d ≤ 1 ∧ s ≤ 30 ∧ pTold w x ≤ xbt (w 0 3) x) → Wp 14 58 [xr 10, xi k, xi x, xi d, xi s] [] M Q := fun h => by
    simp (disch := first | assumption | decide +kernel | exact hM _ _ | exact hL _ | exact xG_b | exact xG_bt _ _ | omega) only [w14_58, w14_59, w14_62, w14_63, w14_66, w14_67, w14_68, w14_69, w14_72, w14_73, w14_76, w14_77, w14_78, w14_79, w14_80, w14_83, w14_84, w14_85, w14_88, w14_89, w14_90, w14_93, w14_94, w14_97, w14_100, w14_101, w14_104, w14_106, w14_107, w14_108, w14_109, w14_112, w14_113, w14_114, w14_117, w14_118, Int.reduceAdd, xup_twice, true_implies, false_implies, not_true_eq_false, not_false_eq_true, and_true, true_and, Int.reduceEq, Int.reduceLE, Int.reduceLT, Int.reduceNeg, xb_eq0, xb_eq1, xup_ne, xup_self, xup_k, xjl_i, xjl_r, xjl_j, xjl_l, Option.toList_some, Option.toList_none, List.cons_append, List.nil_append, xr_0_0, xr_0_1, xr_0_2, xr_0_3, xr_0_4, xr_0_5, xr_0_6, xr_0_7, xr_1_0, xr_1_1, xr_4_5, xr_4_6, xr_4_7, xr_4_8, xr_8_0, xr_10_5, xr_10_6, xr_10_7, xr_10_8, xr_14_0, xr_16_0, xr_16_1, xr_16_2, xr_20_0, xr_21_0, xr_21_1, xr_22_0, xr_24_0, xr_26_0, xr_26_1, xr_26_2, xr_30_0, xr_30_1, xr_30_2, xr_30_3, xr_30_4, xr_30_5, xr_30_6, xr_30_7, xr_31_0, xr_39_0, xr_39_1, xr_39_2, xr_42_0, xr_42_2, xr_42_3, xr_42_4, xr_42_5, xr_42_6, xr_42_8, xr_42_10, xr_42_13, xr_42_14, xr_42_15, xr_42_16, xr_42_23, xr_42_24, xr_42_25]
    refine hY h _ ⟨?_, ?_, ?_, ?_, ?_, ?_, ?_, fun q a b => ?_, fun q a b => ?_⟩ (by repeat (first | exact cX10_rf | refine cX10_up ?_ (by omega)))
    · simpa [xup_app, pP] using h1
    · simpa [xup_app, pP] using h2
    · simp [xup_app, pP, h3]
    · simpa [xup_app, pP] using h4
    · simpa [xup_app, pP] using h5
    · simpa [xup_app, pP] using h6
    · simpa [xup_app, pP] using h7
    · simp only [xup_app, pP] at b ⊢
      simp at b ⊢
      rw [h3, xbt_or1 (by omega) (by omega) (by omega)]
      by_cases e : q = w 0 2
      · subst e
        simp
        rcases (show d = 0 ∨ d = 1 by omega) with rfl | rfl
        · simp; exact h9 _ (Int.le_refl _) (by omega)
        · simp
      · simp [e]; exact h8 q a (by omega)
    · simp only [xup_app, pP] at a ⊢
      simp at a ⊢
      rw [h3, xbt_or1 (by omega) (by omega) (by omega), if_neg (by omega)]
      exact h9 q (by omega) b
  have hy1 : (w 0 2 < 5 ∧ k ≤ 4 ∧ x < w 0 0 ∧ d ≤ 1 ∧ s ≤ 30) → Wp 14 37 [xr 10, xi k, xi x, xi d, xi s] [] M Q := fun h => by
    have htold : xcn (fun p => decide (M 13 p = x)) (M 10 2).toNat = pTold w x := by
      rw [pTold, h3]
      exact xcn_c (fun j hj => by rw [(h8 j (by omega) (by omega)).2.2.1])
    have hb := xcn_b (fun q => decide (w 4 q = x)) (w 0 2).toNat
    have hb2 : 0 ≤ pTold w x ∧ pTold w x ≤ (w 0 2).toNat := hb
    simp (disch := first | assumption | decide +kernel | exact hM _ _ | exact hL _ | exact xG_b | exact xG_bt _ _ | omega) only [w14_37, w14_38, w14_39, Int.reduceAdd, xup_twice, true_implies, false_implies, not_true_eq_false, not_false_eq_true, and_true, true_and, Int.reduceEq, Int.reduceLE, Int.reduceLT, Int.reduceNeg, xb_eq0, xb_eq1, xup_ne, xup_self, xup_k, xjl_i, xjl_r, xjl_j, xjl_l, Option.toList_some, Option.toList_none, List.cons_append, List.nil_append, xr_0_0, xr_0_1, xr_0_2, xr_0_3, xr_0_4, xr_0_5, xr_0_6, xr_0_7, xr_1_0, xr_1_1, xr_4_5, xr_4_6, xr_4_7, xr_4_8, xr_8_0, xr_10_5, xr_10_6, xr_10_7, xr_10_8, xr_14_0, xr_16_0, xr_16_1, xr_16_2, xr_20_0, xr_21_0, xr_21_1, xr_22_0, xr_24_0, xr_26_0, xr_26_1, xr_26_2, xr_30_0, xr_30_1, xr_30_2, xr_30_3, xr_30_4, xr_30_5, xr_30_6, xr_30_7, xr_31_0, xr_39_0, xr_39_1, xr_39_2, xr_42_0, xr_42_2, xr_42_3, xr_42_4, xr_42_5, xr_42_6, xr_42_8, xr_42_10, xr_42_13, xr_42_14, xr_42_15, xr_42_16, xr_42_23, xr_42_24, xr_42_25]
    rw [q_toldIn (pl := 13) rfl rfl rfl rfl (by constructor <;> omega) (by omega) (fun p a b => by rw [(h8 p a (by omega)).2.2.1]; have := hw.2.2.2.2.1 p a (by omega); constructor <;> omega), htold]
    simp (disch := first | assumption | decide +kernel | exact hM _ _ | exact hL _ | exact xG_b | exact xG_bt _ _ | omega) only [w14_42, w14_43, w14_46, w14_49, w14_50, w14_53, w14_56, w14_57, Int.reduceAdd, xup_twice, true_implies, false_implies, not_true_eq_false, not_false_eq_true, and_true, true_and, Int.reduceEq, Int.reduceLE, Int.reduceLT, Int.reduceNeg, xb_eq0, xb_eq1, xup_ne, xup_self, xup_k, xjl_i, xjl_r, xjl_j, xjl_l, Option.toList_some, Option.toList_none, List.cons_append, List.nil_append, xr_0_0, xr_0_1, xr_0_2, xr_0_3, xr_0_4, xr_0_5, xr_0_6, xr_0_7, xr_1_0, xr_1_1, xr_4_5, xr_4_6, xr_4_7, xr_4_8, xr_8_0, xr_10_5, xr_10_6, xr_10_7, xr_10_8, xr_14_0, xr_16_0, xr_16_1, xr_16_2, xr_20_0, xr_21_0, xr_21_1, xr_22_0, xr_24_0, xr_26_0, xr_26_1, xr_26_2, xr_30_0, xr_30_1, xr_30_2, xr_30_3, xr_30_4, xr_30_5, xr_30_6, xr_30_7, xr_31_0, xr_39_0, xr_39_1, xr_39_2, xr_42_0, xr_42_2, xr_42_3, xr_42_4, xr_42_5, xr_42_6, xr_42_8, xr_42_10, xr_42_13, xr_42_14, xr_42_15, xr_42_16, xr_42_23, xr_42_24, xr_42_25, q_bit]
    rw [h6]
    by_cases hc : pTold w x ≤ xbt (w 0 3) x
    · rw [xbr_t hc]; exact hy2 (by omega)
    · rw [xbr_f hc]; exact hN (by omega)
  simp (disch := first | assumption | decide +kernel | exact hM _ _ | exact hL _ | exact xG_b | exact xG_bt _ _ | omega) only [w14_0, w14_1, w14_4, w14_5, w14_8, w14_9, w14_10, w14_13, w14_14, w14_15, w14_18, w14_21, w14_22, w14_23, w14_24, w14_25, w14_28, w14_30, w14_32, w14_35, w14_36, wc14, Int.reduceAdd, xup_twice, true_implies, false_implies, not_true_eq_false, not_false_eq_true, and_true, true_and, Int.reduceEq, Int.reduceLE, Int.reduceLT, Int.reduceNeg, xb_eq0, xb_eq1, xup_ne, xup_self, xup_k, xjl_i, xjl_r, xjl_j, xjl_l, Option.toList_some, Option.toList_none, List.cons_append, List.nil_append, xr_0_0, xr_0_1, xr_0_2, xr_0_3, xr_0_4, xr_0_5, xr_0_6, xr_0_7, xr_1_0, xr_1_1, xr_4_5, xr_4_6, xr_4_7, xr_4_8, xr_8_0, xr_10_5, xr_10_6, xr_10_7, xr_10_8, xr_14_0, xr_16_0, xr_16_1, xr_16_2, xr_20_0, xr_21_0, xr_21_1, xr_22_0, xr_24_0, xr_26_0, xr_26_1, xr_26_2, xr_30_0, xr_30_1, xr_30_2, xr_30_3, xr_30_4, xr_30_5, xr_30_6, xr_30_7, xr_31_0, xr_39_0, xr_39_1, xr_39_2, xr_42_0, xr_42_2, xr_42_3, xr_42_4, xr_42_5, xr_42_6, xr_42_8, xr_42_10, xr_42_13, xr_42_14, xr_42_15, xr_42_16, xr_42_23, xr_42_24, xr_42_25, q_hasCell]
  repeat' (first | apply And.intro | intro _)
  all_goals first | exact hy1 (by omega) | exact hN (by omega)
end ADD
