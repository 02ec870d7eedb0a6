/-! the line that stands at the beginning, in both -/
def oL : Int → Int := fun k => sCh k.toNat
def oR : Int × xM := pAll oL 63 200 0 1 pW0
theorem oR_1 : oR.1 = -4 := by decide +kernel
def w9a : xM := pT (pT (pT pW0 3) 7) 10
def w9b : xM := xup w9a 0 3 2112
def w9c : xM := pP (pP (pP (pP w9b 0 0 0 0) 2 5 1 0) 4 9 0 3) 3 2 1 1
def w9 : xM := xup w9c 0 4 48
theorem oR_w : ∀ q ∈ ([(0, 0), (0, 1), (0, 2), (0, 3), (0, 4), (1, 0), (1, 1), (1, 2), (2, 0), (2, 1), (2, 2), (2, 3), (3, 0), (3, 1), (3, 2), (3, 3), (4, 0), (4, 1), (4, 2), (4, 3), (5, 0), (5, 1), (5, 2), (5, 3)] : List (Nat × Int)), oR.2 q.1 q.2 = w9 q.1 q.2 := by decide +kernel
theorem w9_v : w9 0 0 = 12 ∧ w9 0 1 = 3 ∧ w9 0 2 = 4 ∧ w9 0 3 = 2112 := by decide +kernel
theorem zW_9a : zW w9a := zW_T (zW_T (zW_T zW_0 (by decide +kernel) (by decide +kernel)) (by decide +kernel) (by decide +kernel)) (by decide +kernel) (by decide +kernel)
theorem zW_up3 {w : xM} {v : Int} (hw : zW w) (hv : xG v) : zW (xup w 0 3 v) := zW_Q hw hv
theorem zW_up4 {w : xM} {v : Int} (hw : zW w) (hv : xG v) : zW (xup w 0 4 v) := by
  obtain ⟨a1, a2, a3, a4, a5, a6, a7⟩ := hw
  have e0 : ∀ k : Int, k ≠ 4 → xup w 0 4 v 0 k = w 0 k := fun k hk => xup_k hk
  have e1 : ∀ c : Nat, c ≠ 0 → xup w 0 4 v c = w c := fun c hc => xup_ne hc
  refine ⟨?_, ?_, ?_, ?_, ?_, ?_, ?_⟩
  · rw [e0 0 (by decide)]; exact a1
  · rw [e0 1 (by decide)]; exact a2
  · rw [e0 2 (by decide)]; exact a3
  · rw [e0 1 (by decide), e0 0 (by decide), e1 1 (by decide)]; exact a4
  · rw [e0 2 (by decide), e0 0 (by decide), e1 2 (by decide), e1 3 (by decide), e1 4 (by decide), e1 5 (by decide)]; exact a5
  · rw [e0 3 (by decide)]; exact a6
  · rw [xup_self]; exact hv
theorem zW_9b : zW w9b := zW_up3 zW_9a (by decide)
theorem zW_9p1 : zW (pP w9b 0 0 0 0) := zW_Pl zW_9b (by decide +kernel) (by decide) (by decide +kernel) (by decide) (by decide)
theorem zW_9p2 : zW (pP (pP w9b 0 0 0 0) 2 5 1 0) := zW_Pl zW_9p1 (by decide +kernel) (by decide) (by decide +kernel) (by decide) (by decide)
theorem zW_9p3 : zW (pP (pP (pP w9b 0 0 0 0) 2 5 1 0) 4 9 0 3) := zW_Pl zW_9p2 (by decide +kernel) (by decide) (by decide +kernel) (by decide) (by decide)
theorem zW_9c : zW w9c := zW_Pl zW_9p3 (by decide +kernel) (by decide) (by decide +kernel) (by decide) (by decide)
theorem zW_9 : zW w9 := zW_up4 zW_9c (by decide)
theorem oR_M : pRes (sL zM0 63) = oR := by
  unfold pRes oR
  rw [sL_1 rfl 63]
  exact pAll_c (L := (sL zM0 63) 2) (L' := oL) (n := 63) (fun i i0 i1 => by
    rw [sL_2 63 i, if_pos ⟨i0, i1⟩]
    rfl) 200 0 1 pW0 (by omega)
theorem tW_o : tW (sL zM0 63) := by
  have h1 := sL_1 (M := zM0) rfl 63
  refine ⟨by omega, fun i i0 i1 => ?_, fun i => ?_⟩
  · rw [h1] at i1
    rw [sL_2 63 i, if_pos ⟨i0, i1⟩]
    exact sCh_rng i.toNat (by omega)
  · rw [sL_2 63 i]
    split
    · have := sCh_rng i.toNat (by omega)
      constructor <;> omega
    · show xG 0
      exact ⟨by decide, by decide⟩
section BEGIN
variable {Q : Option xV → xM → Prop}
theorem q_open (hQ : ∀ M', cT4 oR.2 M' → (∀ c, (c = 2 ∨ 9 < c) → M' c = sL zM0 63 c) → M' 1 2 = 0 → Q none M') : Wp 133 109 [xr 0] [] (sL zM0 63) Q := by
  simp (disch := first | assumption | decide +kernel | exact hM _ _ | exact hL _ | exact xG_b | exact xG_bt _ _ | omega) only [w133_109, w133_110, w133_113, w133_114, w133_117, Int.reduceAdd, xup_twice, true_implies, false_implies, not_true_eq_false, not_false_eq_true, and_true, true_and, Int.reduceEq, Int.reduceLE, Int.reduceLT, Int.reduceNeg, xb_eq0, xb_eq1, xup_ne, xup_self, xup_k, xjl_i, xjl_r, xjl_j, xjl_l, Option.toList_some, Option.toList_none, List.cons_append, List.nil_append, xr_0_0, xr_0_1, xr_0_2, xr_0_3, xr_0_4, xr_0_5, xr_0_6, xr_0_7, xr_1_0, xr_1_1, xr_4_5, xr_4_6, xr_4_7, xr_4_8, xr_8_0, xr_10_5, xr_10_6, xr_10_7, xr_10_8, xr_14_0, xr_16_0, xr_16_1, xr_16_2, xr_20_0, xr_21_0, xr_21_1, xr_22_0, xr_24_0, xr_26_0, xr_26_1, xr_26_2, xr_30_0, xr_30_1, xr_30_2, xr_30_3, xr_30_4, xr_30_5, xr_30_6, xr_30_7, xr_31_0, xr_39_0, xr_39_1, xr_39_2, xr_42_0, xr_42_2, xr_42_3, xr_42_4, xr_42_5, xr_42_6, xr_42_8, xr_42_10, xr_42_13, xr_42_14, xr_42_15, xr_42_16, xr_42_23, xr_42_24, xr_42_25]
  refine q4_readInto tW_o (fun M1 h1 h2 => ?_)
  rw [oR_M] at h1
  simp (disch := first | assumption | decide +kernel | exact hM _ _ | exact hL _ | exact xG_b | exact xG_bt _ _ | omega) only [w133_120, w133_121, w133_122, w133_125, w133_126, w133_129, Int.reduceAdd, xup_twice, true_implies, false_implies, not_true_eq_false, not_false_eq_true, and_true, true_and, Int.reduceEq, Int.reduceLE, Int.reduceLT, Int.reduceNeg, xb_eq0, xb_eq1, xup_ne, xup_self, xup_k, xjl_i, xjl_r, xjl_j, xjl_l, Option.toList_some, Option.toList_none, List.cons_append, List.nil_append, xr_0_0, xr_0_1, xr_0_2, xr_0_3, xr_0_4, xr_0_5, xr_0_6, xr_0_7, xr_1_0, xr_1_1, xr_4_5, xr_4_6, xr_4_7, xr_4_8, xr_8_0, xr_10_5, xr_10_6, xr_10_7, xr_10_8, xr_14_0, xr_16_0, xr_16_1, xr_16_2, xr_20_0, xr_21_0, xr_21_1, xr_22_0, xr_24_0, xr_26_0, xr_26_1, xr_26_2, xr_30_0, xr_30_1, xr_30_2, xr_30_3, xr_30_4, xr_30_5, xr_30_6, xr_30_7, xr_31_0, xr_39_0, xr_39_1, xr_39_2, xr_42_0, xr_42_2, xr_42_3, xr_42_4, xr_42_5, xr_42_6, xr_42_8, xr_42_10, xr_42_13, xr_42_14, xr_42_15, xr_42_16, xr_42_23, xr_42_24, xr_42_25]
  exact hQ _ (cT4_F (h1 oR_1) (fun d a b => by rw [xup_ne (by omega)])) (fun c hc => by rw [xup_ne (by omega)]; exact h2.1 c (by omega) (by omega) (by omega)) (xup_self _ _ _ _)
theorem rD_3 {w M : xM} {o v : Int} (h : rD w o M) (hP : w 0 2 ≤ 5) : rD (xup w 0 3 v) o (xup M 46 6 v) := by
  obtain ⟨h0, h1, h2, h3, h4, h5, h6, h7, h8⟩ := h
  have e0 : ∀ k : Int, k ≠ 3 → xup w 0 3 v 0 k = w 0 k := fun k hk => xup_k hk
  have e1 : ∀ c : Nat, c ≠ 0 → xup w 0 3 v c = w c := fun c hc => xup_ne hc
  have f1 : ∀ c : Nat, c ≠ 46 → xup M 46 6 v c = M c := fun c hc => xup_ne hc
  refine ⟨?_, ?_, ?_, ?_, ?_, fun t a b => ?_, fun p a b => ?_, ?_, ?_⟩
  · rw [f1 45 (by decide), e0 0 (by decide)]; exact h0
  · rw [f1 45 (by decide), e0 1 (by decide)]; exact h1
  · rw [f1 45 (by decide), e0 2 (by decide)]; exact h2
  · rw [f1 45 (by decide), e0 4 (by decide)]; exact h3
  · rw [f1 45 (by decide)]; exact h4
  · rw [e0 1 (by decide)] at b
    rw [f1 45 (by decide), e1 1 (by decide)]; exact h5 t a b
  · rw [e0 2 (by decide)] at b
    have hp : p ≠ 6 := by omega
    rw [f1 45 (by decide), e1 2 (by decide), e1 4 (by decide), e1 5 (by decide), e1 3 (by decide), xup_k hp]; exact h6 p a b
  · rw [xup_k (by decide)]; exact h7
  · rw [xup_self, xup_self]
theorem rD_4 {w M : xM} {o v : Int} (h : rD w o M) (hT : w 0 1 ≤ 5) (hP : w 0 2 ≤ 5) : rD (xup w 0 4 v) o (xup M 45 3 v) := by
  obtain ⟨h0, h1, h2, h3, h4, h5, h6, h7, h8⟩ := h
  have e0 : ∀ k : Int, k ≠ 4 → xup w 0 4 v 0 k = w 0 k := fun k hk => xup_k hk
  have e1 : ∀ c : Nat, c ≠ 0 → xup w 0 4 v c = w c := fun c hc => xup_ne hc
  have f1 : ∀ c : Nat, c ≠ 45 → xup M 45 3 v c = M c := fun c hc => xup_ne hc
  have f2 : ∀ k : Int, k ≠ 3 → xup M 45 3 v 45 k = M 45 k := fun k hk => xup_k hk
  refine ⟨?_, ?_, ?_, ?_, ?_, fun t a b => ?_, fun p a b => ?_, ?_, ?_⟩
  · rw [f2 0 (by decide), e0 0 (by decide)]; exact h0
  · rw [f2 1 (by decide), e0 1 (by decide)]; exact h1
  · rw [f2 2 (by decide), e0 2 (by decide)]; exact h2
  · rw [xup_self, xup_self]
  · rw [f2 4 (by decide)]; exact h4
  · rw [e0 1 (by decide)] at b
    rw [f2 (5 + t) (by omega), e1 1 (by decide)]; exact h5 t a b
  · rw [e0 2 (by decide)] at b
    rw [f2 (10 + p) (by omega), f2 (15 + p) (by omega), f2 (20 + p) (by omega), f1 46 (by decide), e1 2 (by decide), e1 4 (by decide), e1 5 (by decide), e1 3 (by decide)]; exact h6 p a b
  · rw [f1 46 (by decide)]; exact h7
  · rw [f1 46 (by decide), e0 3 (by decide)]; exact h8
theorem q_made (hQ : ∀ M', rT w9 M' → rS w9 M' → M' 47 5 = 0 → (M' 42 7 = 0 ∧ M' 42 9 = 0 ∧ M' 42 11 = 0) → M' 42 1 = 0 → M' 42 20 = -1 → M' 42 22 = 0 → Q none M') : Wp 134 129 [xr 42] [] zM9 Q := by
  simp (disch := first | assumption | decide +kernel | exact hM _ _ | exact hL _ | exact xG_b | exact xG_bt _ _ | omega) only [w134_129, w134_130, Int.reduceAdd, xup_twice, true_implies, false_implies, not_true_eq_false, not_false_eq_true, and_true, true_and, Int.reduceEq, Int.reduceLE, Int.reduceLT, Int.reduceNeg, xb_eq0, xb_eq1, xup_ne, xup_self, xup_k, xjl_i, xjl_r, xjl_j, xjl_l, Option.toList_some, Option.toList_none, List.cons_append, List.nil_append, xr_0_0, xr_0_1, xr_0_2, xr_0_3, xr_0_4, xr_0_5, xr_0_6, xr_0_7, xr_1_0, xr_1_1, xr_4_5, xr_4_6, xr_4_7, xr_4_8, xr_8_0, xr_10_5, xr_10_6, xr_10_7, xr_10_8, xr_14_0, xr_16_0, xr_16_1, xr_16_2, xr_20_0, xr_21_0, xr_21_1, xr_22_0, xr_24_0, xr_26_0, xr_26_1, xr_26_2, xr_30_0, xr_30_1, xr_30_2, xr_30_3, xr_30_4, xr_30_5, xr_30_6, xr_30_7, xr_31_0, xr_39_0, xr_39_1, xr_39_2, xr_42_0, xr_42_2, xr_42_3, xr_42_4, xr_42_5, xr_42_6, xr_42_8, xr_42_10, xr_42_13, xr_42_14, xr_42_15, xr_42_16, xr_42_23, xr_42_24, xr_42_25]
  refine q9_begins (fun M1 b1 b2 d1 => ?_)
  simp (disch := first | assumption | decide +kernel | exact hM _ _ | exact hL _ | exact xG_b | exact xG_bt _ _ | omega) only [w134_133, w134_134, w134_135, Int.reduceAdd, xup_twice, true_implies, false_implies, not_true_eq_false, not_false_eq_true, and_true, true_and, Int.reduceEq, Int.reduceLE, Int.reduceLT, Int.reduceNeg, xb_eq0, xb_eq1, xup_ne, xup_self, xup_k, xjl_i, xjl_r, xjl_j, xjl_l, Option.toList_some, Option.toList_none, List.cons_append, List.nil_append, xr_0_0, xr_0_1, xr_0_2, xr_0_3, xr_0_4, xr_0_5, xr_0_6, xr_0_7, xr_1_0, xr_1_1, xr_4_5, xr_4_6, xr_4_7, xr_4_8, xr_8_0, xr_10_5, xr_10_6, xr_10_7, xr_10_8, xr_14_0, xr_16_0, xr_16_1, xr_16_2, xr_20_0, xr_21_0, xr_21_1, xr_22_0, xr_24_0, xr_26_0, xr_26_1, xr_26_2, xr_30_0, xr_30_1, xr_30_2, xr_30_3, xr_30_4, xr_30_5, xr_30_6, xr_30_7, xr_31_0, xr_39_0, xr_39_1, xr_39_2, xr_42_0, xr_42_2, xr_42_3, xr_42_4, xr_42_5, xr_42_6, xr_42_8, xr_42_10, xr_42_13, xr_42_14, xr_42_15, xr_42_16, xr_42_23, xr_42_24, xr_42_25]
  refine q9_trainOf d1 zW_0 (by decide +kernel) (fun M2 d2 f2 => ?_)
  simp (disch := first | assumption | decide +kernel | exact hM _ _ | exact hL _ | exact xG_b | exact xG_bt _ _ | omega) only [w134_138, w134_139, w134_141, Int.reduceAdd, xup_twice, true_implies, false_implies, not_true_eq_false, not_false_eq_true, and_true, true_and, Int.reduceEq, Int.reduceLE, Int.reduceLT, Int.reduceNeg, xb_eq0, xb_eq1, xup_ne, xup_self, xup_k, xjl_i, xjl_r, xjl_j, xjl_l, Option.toList_some, Option.toList_none, List.cons_append, List.nil_append, xr_0_0, xr_0_1, xr_0_2, xr_0_3, xr_0_4, xr_0_5, xr_0_6, xr_0_7, xr_1_0, xr_1_1, xr_4_5, xr_4_6, xr_4_7, xr_4_8, xr_8_0, xr_10_5, xr_10_6, xr_10_7, xr_10_8, xr_14_0, xr_16_0, xr_16_1, xr_16_2, xr_20_0, xr_21_0, xr_21_1, xr_22_0, xr_24_0, xr_26_0, xr_26_1, xr_26_2, xr_30_0, xr_30_1, xr_30_2, xr_30_3, xr_30_4, xr_30_5, xr_30_6, xr_30_7, xr_31_0, xr_39_0, xr_39_1, xr_39_2, xr_42_0, xr_42_2, xr_42_3, xr_42_4, xr_42_5, xr_42_6, xr_42_8, xr_42_10, xr_42_13, xr_42_14, xr_42_15, xr_42_16, xr_42_23, xr_42_24, xr_42_25]
  refine q9_trainOf d2 (zW_T zW_0 (by decide +kernel) (by decide +kernel)) (by decide +kernel) (fun M3 d3 f3 => ?_)
  simp (disch := first | assumption | decide +kernel | exact hM _ _ | exact hL _ | exact xG_b | exact xG_bt _ _ | omega) only [w134_144, w134_145, w134_147, Int.reduceAdd, xup_twice, true_implies, false_implies, not_true_eq_false, not_false_eq_true, and_true, true_and, Int.reduceEq, Int.reduceLE, Int.reduceLT, Int.reduceNeg, xb_eq0, xb_eq1, xup_ne, xup_self, xup_k, xjl_i, xjl_r, xjl_j, xjl_l, Option.toList_some, Option.toList_none, List.cons_append, List.nil_append, xr_0_0, xr_0_1, xr_0_2, xr_0_3, xr_0_4, xr_0_5, xr_0_6, xr_0_7, xr_1_0, xr_1_1, xr_4_5, xr_4_6, xr_4_7, xr_4_8, xr_8_0, xr_10_5, xr_10_6, xr_10_7, xr_10_8, xr_14_0, xr_16_0, xr_16_1, xr_16_2, xr_20_0, xr_21_0, xr_21_1, xr_22_0, xr_24_0, xr_26_0, xr_26_1, xr_26_2, xr_30_0, xr_30_1, xr_30_2, xr_30_3, xr_30_4, xr_30_5, xr_30_6, xr_30_7, xr_31_0, xr_39_0, xr_39_1, xr_39_2, xr_42_0, xr_42_2, xr_42_3, xr_42_4, xr_42_5, xr_42_6, xr_42_8, xr_42_10, xr_42_13, xr_42_14, xr_42_15, xr_42_16, xr_42_23, xr_42_24, xr_42_25]
  refine q9_trainOf d3 (zW_T (zW_T zW_0 (by decide +kernel) (by decide +kernel)) (by decide +kernel) (by decide +kernel)) (by decide +kernel) (fun M4 d4 f4 => ?_)
  simp (disch := first | assumption | decide +kernel | exact hM _ _ | exact hL _ | exact xG_b | exact xG_bt _ _ | omega) only [w134_150, w134_151, w134_154, w134_156, w134_159, w134_160, w134_161, w134_162, w134_163, w134_164, w134_165, Int.reduceAdd, xup_twice, true_implies, false_implies, not_true_eq_false, not_false_eq_true, and_true, true_and, Int.reduceEq, Int.reduceLE, Int.reduceLT, Int.reduceNeg, xb_eq0, xb_eq1, xup_ne, xup_self, xup_k, xjl_i, xjl_r, xjl_j, xjl_l, Option.toList_some, Option.toList_none, List.cons_append, List.nil_append, xr_0_0, xr_0_1, xr_0_2, xr_0_3, xr_0_4, xr_0_5, xr_0_6, xr_0_7, xr_1_0, xr_1_1, xr_4_5, xr_4_6, xr_4_7, xr_4_8, xr_8_0, xr_10_5, xr_10_6, xr_10_7, xr_10_8, xr_14_0, xr_16_0, xr_16_1, xr_16_2, xr_20_0, xr_21_0, xr_21_1, xr_22_0, xr_24_0, xr_26_0, xr_26_1, xr_26_2, xr_30_0, xr_30_1, xr_30_2, xr_30_3, xr_30_4, xr_30_5, xr_30_6, xr_30_7, xr_31_0, xr_39_0, xr_39_1, xr_39_2, xr_42_0, xr_42_2, xr_42_3, xr_42_4, xr_42_5, xr_42_6, xr_42_8, xr_42_10, xr_42_13, xr_42_14, xr_42_15, xr_42_16, xr_42_23, xr_42_24, xr_42_25]
  have d5 : rD w9b 1 (xup M4 46 6 2112) := rD_3 d4 (by decide +kernel)
  have f5 : ∀ k, xup M4 46 6 2112 42 k = M1 42 k := fun k => by rw [xup_ne (by decide), f4 42 (by decide), f3 42 (by decide), f2 42 (by decide)]
  generalize xup M4 46 6 2112 = M5 at d5 f5
  refine q9_platformOf d5 zW_9b (by decide +kernel) (fun M6 d6 f6 => ?_)
  simp (disch := first | assumption | decide +kernel | exact hM _ _ | exact hL _ | exact xG_b | exact xG_bt _ _ | omega) only [w134_168, w134_169, w134_170, w134_171, w134_172, w134_173, Int.reduceAdd, xup_twice, true_implies, false_implies, not_true_eq_false, not_false_eq_true, and_true, true_and, Int.reduceEq, Int.reduceLE, Int.reduceLT, Int.reduceNeg, xb_eq0, xb_eq1, xup_ne, xup_self, xup_k, xjl_i, xjl_r, xjl_j, xjl_l, Option.toList_some, Option.toList_none, List.cons_append, List.nil_append, xr_0_0, xr_0_1, xr_0_2, xr_0_3, xr_0_4, xr_0_5, xr_0_6, xr_0_7, xr_1_0, xr_1_1, xr_4_5, xr_4_6, xr_4_7, xr_4_8, xr_8_0, xr_10_5, xr_10_6, xr_10_7, xr_10_8, xr_14_0, xr_16_0, xr_16_1, xr_16_2, xr_20_0, xr_21_0, xr_21_1, xr_22_0, xr_24_0, xr_26_0, xr_26_1, xr_26_2, xr_30_0, xr_30_1, xr_30_2, xr_30_3, xr_30_4, xr_30_5, xr_30_6, xr_30_7, xr_31_0, xr_39_0, xr_39_1, xr_39_2, xr_42_0, xr_42_2, xr_42_3, xr_42_4, xr_42_5, xr_42_6, xr_42_8, xr_42_10, xr_42_13, xr_42_14, xr_42_15, xr_42_16, xr_42_23, xr_42_24, xr_42_25]
  refine q9_platformOf d6 zW_9p1 (by decide +kernel) (fun M7 d7 f7 => ?_)
  simp (disch := first | assumption | decide +kernel | exact hM _ _ | exact hL _ | exact xG_b | exact xG_bt _ _ | omega) only [w134_176, w134_177, w134_178, w134_180, w134_181, w134_182, Int.reduceAdd, xup_twice, true_implies, false_implies, not_true_eq_false, not_false_eq_true, and_true, true_and, Int.reduceEq, Int.reduceLE, Int.reduceLT, Int.reduceNeg, xb_eq0, xb_eq1, xup_ne, xup_self, xup_k, xjl_i, xjl_r, xjl_j, xjl_l, Option.toList_some, Option.toList_none, List.cons_append, List.nil_append, xr_0_0, xr_0_1, xr_0_2, xr_0_3, xr_0_4, xr_0_5, xr_0_6, xr_0_7, xr_1_0, xr_1_1, xr_4_5, xr_4_6, xr_4_7, xr_4_8, xr_8_0, xr_10_5, xr_10_6, xr_10_7, xr_10_8, xr_14_0, xr_16_0, xr_16_1, xr_16_2, xr_20_0, xr_21_0, xr_21_1, xr_22_0, xr_24_0, xr_26_0, xr_26_1, xr_26_2, xr_30_0, xr_30_1, xr_30_2, xr_30_3, xr_30_4, xr_30_5, xr_30_6, xr_30_7, xr_31_0, xr_39_0, xr_39_1, xr_39_2, xr_42_0, xr_42_2, xr_42_3, xr_42_4, xr_42_5, xr_42_6, xr_42_8, xr_42_10, xr_42_13, xr_42_14, xr_42_15, xr_42_16, xr_42_23, xr_42_24, xr_42_25]
  refine q9_platformOf d7 zW_9p2 (by decide +kernel) (fun M8 d8 f8 => ?_)
  simp (disch := first | assumption | decide +kernel | exact hM _ _ | exact hL _ | exact xG_b | exact xG_bt _ _ | omega) only [w134_185, w134_186, w134_187, w134_188, w134_189, w134_190, Int.reduceAdd, xup_twice, true_implies, false_implies, not_true_eq_false, not_false_eq_true, and_true, true_and, Int.reduceEq, Int.reduceLE, Int.reduceLT, Int.reduceNeg, xb_eq0, xb_eq1, xup_ne, xup_self, xup_k, xjl_i, xjl_r, xjl_j, xjl_l, Option.toList_some, Option.toList_none, List.cons_append, List.nil_append, xr_0_0, xr_0_1, xr_0_2, xr_0_3, xr_0_4, xr_0_5, xr_0_6, xr_0_7, xr_1_0, xr_1_1, xr_4_5, xr_4_6, xr_4_7, xr_4_8, xr_8_0, xr_10_5, xr_10_6, xr_10_7, xr_10_8, xr_14_0, xr_16_0, xr_16_1, xr_16_2, xr_20_0, xr_21_0, xr_21_1, xr_22_0, xr_24_0, xr_26_0, xr_26_1, xr_26_2, xr_30_0, xr_30_1, xr_30_2, xr_30_3, xr_30_4, xr_30_5, xr_30_6, xr_30_7, xr_31_0, xr_39_0, xr_39_1, xr_39_2, xr_42_0, xr_42_2, xr_42_3, xr_42_4, xr_42_5, xr_42_6, xr_42_8, xr_42_10, xr_42_13, xr_42_14, xr_42_15, xr_42_16, xr_42_23, xr_42_24, xr_42_25]
  refine q9_platformOf d8 zW_9p3 (by decide +kernel) (fun M9 d9 f9 => ?_)
  simp (disch := first | assumption | decide +kernel | exact hM _ _ | exact hL _ | exact xG_b | exact xG_bt _ _ | omega) only [w134_193, w134_194, w134_197, w134_198, w134_200, w134_201, w134_202, Int.reduceAdd, xup_twice, true_implies, false_implies, not_true_eq_false, not_false_eq_true, and_true, true_and, Int.reduceEq, Int.reduceLE, Int.reduceLT, Int.reduceNeg, xb_eq0, xb_eq1, xup_ne, xup_self, xup_k, xjl_i, xjl_r, xjl_j, xjl_l, Option.toList_some, Option.toList_none, List.cons_append, List.nil_append, xr_0_0, xr_0_1, xr_0_2, xr_0_3, xr_0_4, xr_0_5, xr_0_6, xr_0_7, xr_1_0, xr_1_1, xr_4_5, xr_4_6, xr_4_7, xr_4_8, xr_8_0, xr_10_5, xr_10_6, xr_10_7, xr_10_8, xr_14_0, xr_16_0, xr_16_1, xr_16_2, xr_20_0, xr_21_0, xr_21_1, xr_22_0, xr_24_0, xr_26_0, xr_26_1, xr_26_2, xr_30_0, xr_30_1, xr_30_2, xr_30_3, xr_30_4, xr_30_5, xr_30_6, xr_30_7, xr_31_0, xr_39_0, xr_39_1, xr_39_2, xr_42_0, xr_42_2, xr_42_3, xr_42_4, xr_42_5, xr_42_6, xr_42_8, xr_42_10, xr_42_13, xr_42_14, xr_42_15, xr_42_16, xr_42_23, xr_42_24, xr_42_25]
  have d10 : rD w9 1 (xup M9 45 3 48) := rD_4 d9 (by decide +kernel) (by decide +kernel)
  have f10 : ∀ k, xup M9 45 3 48 42 k = zM9 42 k := fun k => by rw [xup_ne (by decide), f9 42 (by decide) (by decide), f8 42 (by decide) (by decide), f7 42 (by decide) (by decide), f6 42 (by decide) (by decide), f5, b2]
  generalize xup M9 45 3 48 = M10 at d10 f10
  refine q9_lays d10 zW_9 (fun M11 t1 t2 t3 t4 t5 t6 g1 g2 => ?_)
  simp (disch := first | assumption | decide +kernel | exact hM _ _ | exact hL _ | exact xG_b | exact xG_bt _ _ | omega) only [w134_205, Int.reduceAdd, xup_twice, true_implies, false_implies, not_true_eq_false, not_false_eq_true, and_true, true_and, Int.reduceEq, Int.reduceLE, Int.reduceLT, Int.reduceNeg, xb_eq0, xb_eq1, xup_ne, xup_self, xup_k, xjl_i, xjl_r, xjl_j, xjl_l, Option.toList_some, Option.toList_none, List.cons_append, List.nil_append, xr_0_0, xr_0_1, xr_0_2, xr_0_3, xr_0_4, xr_0_5, xr_0_6, xr_0_7, xr_1_0, xr_1_1, xr_4_5, xr_4_6, xr_4_7, xr_4_8, xr_8_0, xr_10_5, xr_10_6, xr_10_7, xr_10_8, xr_14_0, xr_16_0, xr_16_1, xr_16_2, xr_20_0, xr_21_0, xr_21_1, xr_22_0, xr_24_0, xr_26_0, xr_26_1, xr_26_2, xr_30_0, xr_30_1, xr_30_2, xr_30_3, xr_30_4, xr_30_5, xr_30_6, xr_30_7, xr_31_0, xr_39_0, xr_39_1, xr_39_2, xr_42_0, xr_42_2, xr_42_3, xr_42_4, xr_42_5, xr_42_6, xr_42_8, xr_42_10, xr_42_13, xr_42_14, xr_42_15, xr_42_16, xr_42_23, xr_42_24, xr_42_25]
  refine hQ M11 t1 t2 t3 ⟨t4, t5, t6⟩ ?_ ?_ ?_
  · rw [g2 1 (by decide) (by decide) (by decide), f10]; rfl
  · rw [g2 20 (by decide) (by decide) (by decide), f10]; rfl
  · rw [g2 22 (by decide) (by decide) (by decide), f10]; rfl
end BEGIN
/-- both together: all holds at the beginning -/
theorem RR_0 {M M8 M9 : xM} (e8 : ∀ c, c < 42 → M c = M8 c) (e9 : ∀ c, 42 ≤ c → c < 58 → M c = M9 c) (h8 : cT4 oR.2 M8) (k8 : ∀ c, (c = 2 ∨ 9 < c) → M8 c = sL zM0 63 c) (l8 : M8 1 2 = 0) (t1 : rT w9 M9) (t2 : rS w9 M9) (t3 : M9 47 5 = 0) (t4 : M9 42 7 = 0 ∧ M9 42 9 = 0 ∧ M9 42 11 = 0) (t5 : M9 42 1 = 0) (t6 : M9 42 20 = -1) (t7 : M9 42 22 = 0) : RR M := by
  have z : ∀ c, 9 < c → c < 42 → M c = fun _ => 0 := fun c a b => by
    rw [e8 c b, k8 c (Or.inr a), sL_ne (by omega) (by omega) 63]; rfl
  obtain ⟨v0, v1, v2, v3⟩ := w9_v
  have w : ∀ (c : Nat) (k : Int), (c, k) ∈ ([(0, 0), (0, 1), (0, 2), (0, 3), (0, 4), (1, 0), (1, 1), (1, 2), (2, 0), (2, 1), (2, 2), (2, 3), (3, 0), (3, 1), (3, 2), (3, 3), (4, 0), (4, 1), (4, 2), (4, 3), (5, 0), (5, 1), (5, 2), (5, 3)] : List (Nat × Int)) → oR.2 c k = w9 c k := fun c k h => oR_w (c, k) h
  obtain ⟨c0, c1, c2, c3, c4, c5, c6, c7, c8⟩ := h8
  rw [w 0 0 (by decide)] at c0
  rw [w 0 1 (by decide)] at c1 c6
  rw [w 0 2 (by decide)] at c2 c7
  rw [w 0 4 (by decide)] at c3
  rw [w 0 3 (by decide)] at c5
  have a1 : ∀ t, 0 ≤ t → t < w9 0 1 → oR.2 1 t = w9 1 t := fun t a b => by
    rw [v1] at b
    rcases (show t = 0 ∨ t = 1 ∨ t = 2 by omega) with rfl | rfl | rfl
    · exact w 1 0 (by decide)
    · exact w 1 1 (by decide)
    · exact w 1 2 (by decide)
  have a2 : ∀ p, 0 ≤ p → p < w9 0 2 → oR.2 2 p = w9 2 p ∧ oR.2 3 p = w9 3 p ∧ oR.2 4 p = w9 4 p ∧ oR.2 5 p = w9 5 p := fun p a b => by
    rw [v2] at b
    rcases (show p = 0 ∨ p = 1 ∨ p = 2 ∨ p = 3 by omega) with rfl | rfl | rfl | rfl
    · exact ⟨w 2 0 (by decide), w 3 0 (by decide), w 4 0 (by decide), w 5 0 (by decide)⟩
    · exact ⟨w 2 1 (by decide), w 3 1 (by decide), w 4 1 (by decide), w 5 1 (by decide)⟩
    · exact ⟨w 2 2 (by decide), w 3 2 (by decide), w 4 2 (by decide), w 5 2 (by decide)⟩
    · exact ⟨w 2 3 (by decide), w 3 3 (by decide), w 4 3 (by decide), w 5 3 (by decide)⟩
  have hw9 := zW_9
  have m42 : M 42 = M9 42 := e9 42 (by omega) (by omega)
  have m47 : M 47 = M9 47 := e9 47 (by omega) (by omega)
  have m2 : M 2 = sL zM0 63 2 := by rw [e8 2 (by omega), k8 2 (Or.inl rfl)]
  have m1 : M 1 2 = 0 := by rw [e8 1 (by omega)]; exact l8
  refine RR_mk (w := w9) ⟨hw9, ⟨⟨?_, ?_, ?_, ?_, fun t a b => ?_, fun p a b => ?_⟩, rT_F t1 (e9 44 (by omega) (by omega)), fun p a b => ?_⟩, ⟨fun p a b => ?_, ?_, ?_, fun p a b => ?_, ?_, ?_⟩, ⟨⟨by omega, fun i a b => by omega, fun i => ?_⟩, by rw [m42, t5, m1], fun i a b => by omega⟩, ⟨?_, ?_, fun i a b => ?_, fun i a b => ?_⟩, ⟨?_, ?_, fun a => ?_, fun a => ?_⟩, ⟨⟨?_, fun i a b => ?_⟩, ?_, fun i a b => ?_⟩, by rw [m42]; exact t6, by rw [m42, t7]; decide⟩
  · rw [e8 4 (by omega)]; exact c0
  · rw [e8 4 (by omega)]; exact c1
  · rw [e8 4 (by omega)]; exact c2
  · rw [e8 4 (by omega)]; exact c3
  · rw [e8 5 (by omega), c6 t a b]; exact a1 t a b
  · rw [e8 6 (by omega), (c7 p a b).1]; exact (a2 p a b).1
  · rw [e8 7 (by omega), e8 4 (by omega), (c7 p a b).2.2.1, (c7 p a b).2.2.2]
    exact ⟨(a2 p a b).2.2.1, (a2 p a b).2.2.2⟩
  · rw [e8 9 (by omega), (c7 p a b).2.1, m47, t2.1 p a b]; exact (a2 p a b).2.1
  · rw [e8 8 (by omega), c4, m47, t3]
  · rw [e8 8 (by omega), c5, m47, t2.2]
  · rw [m47, t2.1 p a b]; exact (hw9.2.2.2.2.1 p a b).2.1
  · rw [m47, t3]; exact ⟨by decide, sB_0⟩
  · rw [m47, t2.2, v3]
    refine ⟨by decide, ?_⟩
    have e : (2112 : Int) = xor_ (xor_ 0 (xshl 1 6)) (xshl 1 11) := by decide +kernel
    rw [e]
    exact sB_or (sB_or sB_0 (by decide)) (by decide)
  · rw [m2]; exact tW_o.2.2 i
  · rw [z 16 (by omega) (by omega)]; decide
  · rw [m42, t4.1, z 16 (by omega) (by omega)]
  · rw [z 16 (by omega) (by omega)] at b; exact absurd b (Int.not_lt.mpr a)
  · rw [z 16 (by omega) (by omega)] at b; exact absurd b (Int.not_lt.mpr a)
  · rw [z 20 (by omega) (by omega)]; decide
  · rw [m42, t4.2.1, z 20 (by omega) (by omega)]
  · rw [z 20 (by omega) (by omega)] at a; exact absurd a (by decide)
  · rw [z 20 (by omega) (by omega)] at a; exact absurd a (by decide)
  · rw [z 26 (by omega) (by omega)]; decide
  · rw [z 26 (by omega) (by omega)] at b; exact absurd b (Int.not_lt.mpr a)
  · rw [m42, t4.2.2, z 26 (by omega) (by omega)]
  · rw [z 26 (by omega) (by omega)] at b; exact absurd b (Int.not_lt.mpr a)
