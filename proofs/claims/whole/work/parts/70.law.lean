/-! the law: its loop over the script -/
section LAW
variable {M : xM} {Q : Option xV → xM → Prop} {i : Int}
theorem wp_same {y pc n t : Nat} {ls st : List xV} {a : Int} (h : xcode y pc = i_cmp d_eq t n) : Wp y pc ls (xi a :: xi a :: st) M Q = Wp y t ls st M Q := by
  rw [wp_next (pc' := if d_eq (xn a) (xn a) then t else n) (ls' := ls) (st' := st) (M' := M) (by rw [h]; rfl)]
  rw [if_pos]
  rw [d_eq, decide_eq_true_eq]
theorem Wc.k58 {z : Nat} {as : List xV} (h : Wc z as M Q) : Wc z as M (fun r M' => Q r M' ∧ M' 58 = M 58) := by
  obtain ⟨f, r, M', hr, hq⟩ := h
  exact ⟨f, r, M', hr, hq, (x_sim xall f _ _ _ _ _ _ _ hr).1⟩
/-- between two calls: the script as the memory has it -/
def sOk (M : xM) (L : Int) : Prop := M 58 (-1) = L ∧ (0 ≤ L ∧ L ≤ 3072) ∧ ∀ j, 0 ≤ j → j < L → xG (M 58 j)
theorem sOk_x {M' : xM} {L : Int} (h : sOk M L) (e : M' 58 = M 58) : sOk M' L := by unfold sOk at h ⊢; rw [e]; exact h
set_option maxRecDepth 20000 in
theorem law_write {L : Int} (hR : RR M) (hs : sOk M L) (h0 : 0 ≤ i) (h6 : i + 6 ≤ L) (hQ : ∀ M', RR M' → M' 58 = M 58 → Wp 132 933 [xr 58, xr 0, xr 42, xi i] [] M' Q) : Wp 132 156 [xr 58, xr 0, xr 42, xi i] [] M Q := by
  obtain ⟨hl, hL, hG⟩ := id hs
  have l0 : i + 6 ≤ M 58 (-1) := by omega
  have g1 : xG (M 58 (i + 1)) := hG (i + 1) (by omega) (by omega)
  simp (disch := first | assumption | decide +kernel | exact hM _ _ | exact hL _ | exact xG_b | exact xG_bt _ _ | omega) only [w132_156, w132_157, w132_158, w132_159, w132_160, w132_161, w132_162, Int.reduceAdd, xup_twice, true_implies, false_implies, not_true_eq_false, not_false_eq_true, and_true, true_and, Int.reduceEq, Int.reduceLE, Int.reduceLT, Int.reduceNeg, xb_eq0, xb_eq1, xup_ne, xup_self, xup_k, xjl_i, xjl_r, xjl_j, xjl_l, Option.toList_some, Option.toList_none, List.cons_append, List.nil_append, xr_0_0, xr_0_1, xr_0_2, xr_0_3, xr_0_4, xr_0_5, xr_0_6, xr_0_7, xr_1_0, xr_1_1, xr_4_5, xr_4_6, xr_4_7, xr_4_8, xr_8_0, xr_10_5, xr_10_6, xr_10_7, xr_10_8, xr_14_0, xr_16_0, xr_16_1, xr_16_2, xr_20_0, xr_21_0, xr_21_1, xr_22_0, xr_24_0, xr_26_0, xr_26_1, xr_26_2, xr_30_0, xr_30_1, xr_30_2, xr_30_3, xr_30_4, xr_30_5, xr_30_6, xr_30_7, xr_31_0, xr_39_0, xr_39_1, xr_39_2, xr_42_0, xr_42_2, xr_42_3, xr_42_4, xr_42_5, xr_42_6, xr_42_8, xr_42_10, xr_42_13, xr_42_14, xr_42_15, xr_42_16, xr_42_23, xr_42_24, xr_42_25]
  refine Wc.mono (st_write g1 hR).k58 (fun r M1 h1 => ?_)
  obtain ⟨⟨a, rfl, hW⟩, e58⟩ := h1
  have l1 : i + 6 ≤ M1 58 (-1) := by rw [e58]; exact l0
  simp (disch := first | assumption | decide +kernel | exact hM _ _ | exact hL _ | exact xG_b | exact xG_bt _ _ | omega) only [w132_165, w132_166, w132_167, w132_168, w132_169, w132_170, w132_171, Int.reduceAdd, xup_twice, true_implies, false_implies, not_true_eq_false, not_false_eq_true, and_true, true_and, Int.reduceEq, Int.reduceLE, Int.reduceLT, Int.reduceNeg, xb_eq0, xb_eq1, xup_ne, xup_self, xup_k, xjl_i, xjl_r, xjl_j, xjl_l, Option.toList_some, Option.toList_none, List.cons_append, List.nil_append, xr_0_0, xr_0_1, xr_0_2, xr_0_3, xr_0_4, xr_0_5, xr_0_6, xr_0_7, xr_1_0, xr_1_1, xr_4_5, xr_4_6, xr_4_7, xr_4_8, xr_8_0, xr_10_5, xr_10_6, xr_10_7, xr_10_8, xr_14_0, xr_16_0, xr_16_1, xr_16_2, xr_20_0, xr_21_0, xr_21_1, xr_22_0, xr_24_0, xr_26_0, xr_26_1, xr_26_2, xr_30_0, xr_30_1, xr_30_2, xr_30_3, xr_30_4, xr_30_5, xr_30_6, xr_30_7, xr_31_0, xr_39_0, xr_39_1, xr_39_2, xr_42_0, xr_42_2, xr_42_3, xr_42_4, xr_42_5, xr_42_6, xr_42_8, xr_42_10, xr_42_13, xr_42_14, xr_42_15, xr_42_16, xr_42_23, xr_42_24, xr_42_25, e58]
  refine Wc.mono hW.k58 (fun r' M2 h2 => ?_)
  obtain ⟨⟨rfl, hR2⟩, e2⟩ := h2
  show Wp 132 174 [xr 58, xr 0, xr 42, xi i] [xi a, xi a] M2 Q
  rw [wp_same (t := 933) (n := 177) rfl]
  exact hQ M2 hR2 (e2.trans e58)
set_option maxRecDepth 20000 in
theorem law_wipe {L : Int} (hR : RR M) (hs : sOk M L) (h0 : 0 ≤ i) (h6 : i + 6 ≤ L) (hQ : ∀ M', RR M' → M' 58 = M 58 → Wp 132 933 [xr 58, xr 0, xr 42, xi i] [] M' Q) : Wp 132 179 [xr 58, xr 0, xr 42, xi i] [] M Q := by
  obtain ⟨hl, hL, hG⟩ := id hs
  have l0 : i + 6 ≤ M 58 (-1) := by omega
  simp (disch := first | assumption | decide +kernel | exact hM _ _ | exact hL _ | exact xG_b | exact xG_bt _ _ | omega) only [w132_179, w132_180, Int.reduceAdd, xup_twice, true_implies, false_implies, not_true_eq_false, not_false_eq_true, and_true, true_and, Int.reduceEq, Int.reduceLE, Int.reduceLT, Int.reduceNeg, xb_eq0, xb_eq1, xup_ne, xup_self, xup_k, xjl_i, xjl_r, xjl_j, xjl_l, Option.toList_some, Option.toList_none, List.cons_append, List.nil_append, xr_0_0, xr_0_1, xr_0_2, xr_0_3, xr_0_4, xr_0_5, xr_0_6, xr_0_7, xr_1_0, xr_1_1, xr_4_5, xr_4_6, xr_4_7, xr_4_8, xr_8_0, xr_10_5, xr_10_6, xr_10_7, xr_10_8, xr_14_0, xr_16_0, xr_16_1, xr_16_2, xr_20_0, xr_21_0, xr_21_1, xr_22_0, xr_24_0, xr_26_0, xr_26_1, xr_26_2, xr_30_0, xr_30_1, xr_30_2, xr_30_3, xr_30_4, xr_30_5, xr_30_6, xr_30_7, xr_31_0, xr_39_0, xr_39_1, xr_39_2, xr_42_0, xr_42_2, xr_42_3, xr_42_4, xr_42_5, xr_42_6, xr_42_8, xr_42_10, xr_42_13, xr_42_14, xr_42_15, xr_42_16, xr_42_23, xr_42_24, xr_42_25]
  refine Wc.mono (st_wipe  hR).k58 (fun r M1 h1 => ?_)
  obtain ⟨⟨a, rfl, hW⟩, e58⟩ := h1
  have l1 : i + 6 ≤ M1 58 (-1) := by rw [e58]; exact l0
  simp (disch := first | assumption | decide +kernel | exact hM _ _ | exact hL _ | exact xG_b | exact xG_bt _ _ | omega) only [w132_183, w132_184, Int.reduceAdd, xup_twice, true_implies, false_implies, not_true_eq_false, not_false_eq_true, and_true, true_and, Int.reduceEq, Int.reduceLE, Int.reduceLT, Int.reduceNeg, xb_eq0, xb_eq1, xup_ne, xup_self, xup_k, xjl_i, xjl_r, xjl_j, xjl_l, Option.toList_some, Option.toList_none, List.cons_append, List.nil_append, xr_0_0, xr_0_1, xr_0_2, xr_0_3, xr_0_4, xr_0_5, xr_0_6, xr_0_7, xr_1_0, xr_1_1, xr_4_5, xr_4_6, xr_4_7, xr_4_8, xr_8_0, xr_10_5, xr_10_6, xr_10_7, xr_10_8, xr_14_0, xr_16_0, xr_16_1, xr_16_2, xr_20_0, xr_21_0, xr_21_1, xr_22_0, xr_24_0, xr_26_0, xr_26_1, xr_26_2, xr_30_0, xr_30_1, xr_30_2, xr_30_3, xr_30_4, xr_30_5, xr_30_6, xr_30_7, xr_31_0, xr_39_0, xr_39_1, xr_39_2, xr_42_0, xr_42_2, xr_42_3, xr_42_4, xr_42_5, xr_42_6, xr_42_8, xr_42_10, xr_42_13, xr_42_14, xr_42_15, xr_42_16, xr_42_23, xr_42_24, xr_42_25, e58]
  refine Wc.mono hW.k58 (fun r' M2 h2 => ?_)
  obtain ⟨⟨rfl, hR2⟩, e2⟩ := h2
  show Wp 132 187 [xr 58, xr 0, xr 42, xi i] [xi a, xi a] M2 Q
  rw [wp_same (t := 933) (n := 190) rfl]
  exact hQ M2 hR2 (e2.trans e58)
set_option maxRecDepth 20000 in
theorem law_fault {L : Int} (hR : RR M) (hs : sOk M L) (h0 : 0 ≤ i) (h6 : i + 6 ≤ L) (hQ : ∀ M', RR M' → M' 58 = M 58 → Wp 132 933 [xr 58, xr 0, xr 42, xi i] [] M' Q) : Wp 132 192 [xr 58, xr 0, xr 42, xi i] [] M Q := by
  obtain ⟨hl, hL, hG⟩ := id hs
  have l0 : i + 6 ≤ M 58 (-1) := by omega
  simp (disch := first | assumption | decide +kernel | exact hM _ _ | exact hL _ | exact xG_b | exact xG_bt _ _ | omega) only [w132_192, w132_193, Int.reduceAdd, xup_twice, true_implies, false_implies, not_true_eq_false, not_false_eq_true, and_true, true_and, Int.reduceEq, Int.reduceLE, Int.reduceLT, Int.reduceNeg, xb_eq0, xb_eq1, xup_ne, xup_self, xup_k, xjl_i, xjl_r, xjl_j, xjl_l, Option.toList_some, Option.toList_none, List.cons_append, List.nil_append, xr_0_0, xr_0_1, xr_0_2, xr_0_3, xr_0_4, xr_0_5, xr_0_6, xr_0_7, xr_1_0, xr_1_1, xr_4_5, xr_4_6, xr_4_7, xr_4_8, xr_8_0, xr_10_5, xr_10_6, xr_10_7, xr_10_8, xr_14_0, xr_16_0, xr_16_1, xr_16_2, xr_20_0, xr_21_0, xr_21_1, xr_22_0, xr_24_0, xr_26_0, xr_26_1, xr_26_2, xr_30_0, xr_30_1, xr_30_2, xr_30_3, xr_30_4, xr_30_5, xr_30_6, xr_30_7, xr_31_0, xr_39_0, xr_39_1, xr_39_2, xr_42_0, xr_42_2, xr_42_3, xr_42_4, xr_42_5, xr_42_6, xr_42_8, xr_42_10, xr_42_13, xr_42_14, xr_42_15, xr_42_16, xr_42_23, xr_42_24, xr_42_25]
  refine Wc.mono (st_fault  hR).k58 (fun r M1 h1 => ?_)
  obtain ⟨⟨a, rfl, hW⟩, e58⟩ := h1
  have l1 : i + 6 ≤ M1 58 (-1) := by rw [e58]; exact l0
  simp (disch := first | assumption | decide +kernel | exact hM _ _ | exact hL _ | exact xG_b | exact xG_bt _ _ | omega) only [w132_196, w132_197, Int.reduceAdd, xup_twice, true_implies, false_implies, not_true_eq_false, not_false_eq_true, and_true, true_and, Int.reduceEq, Int.reduceLE, Int.reduceLT, Int.reduceNeg, xb_eq0, xb_eq1, xup_ne, xup_self, xup_k, xjl_i, xjl_r, xjl_j, xjl_l, Option.toList_some, Option.toList_none, List.cons_append, List.nil_append, xr_0_0, xr_0_1, xr_0_2, xr_0_3, xr_0_4, xr_0_5, xr_0_6, xr_0_7, xr_1_0, xr_1_1, xr_4_5, xr_4_6, xr_4_7, xr_4_8, xr_8_0, xr_10_5, xr_10_6, xr_10_7, xr_10_8, xr_14_0, xr_16_0, xr_16_1, xr_16_2, xr_20_0, xr_21_0, xr_21_1, xr_22_0, xr_24_0, xr_26_0, xr_26_1, xr_26_2, xr_30_0, xr_30_1, xr_30_2, xr_30_3, xr_30_4, xr_30_5, xr_30_6, xr_30_7, xr_31_0, xr_39_0, xr_39_1, xr_39_2, xr_42_0, xr_42_2, xr_42_3, xr_42_4, xr_42_5, xr_42_6, xr_42_8, xr_42_10, xr_42_13, xr_42_14, xr_42_15, xr_42_16, xr_42_23, xr_42_24, xr_42_25, e58]
  refine Wc.mono hW.k58 (fun r' M2 h2 => ?_)
  obtain ⟨⟨rfl, hR2⟩, e2⟩ := h2
  show Wp 132 200 [xr 58, xr 0, xr 42, xi i] [xi a, xi a] M2 Q
  rw [wp_same (t := 933) (n := 203) rfl]
  exact hQ M2 hR2 (e2.trans e58)
set_option maxRecDepth 20000 in
theorem law_lay {L : Int} (hR : RR M) (hs : sOk M L) (h0 : 0 ≤ i) (h6 : i + 6 ≤ L) (hQ : ∀ M', RR M' → M' 58 = M 58 → Wp 132 933 [xr 58, xr 0, xr 42, xi i] [] M' Q) : Wp 132 205 [xr 58, xr 0, xr 42, xi i] [] M Q := by
  obtain ⟨hl, hL, hG⟩ := id hs
  have l0 : i + 6 ≤ M 58 (-1) := by omega
  simp (disch := first | assumption | decide +kernel | exact hM _ _ | exact hL _ | exact xG_b | exact xG_bt _ _ | omega) only [w132_205, w132_206, Int.reduceAdd, xup_twice, true_implies, false_implies, not_true_eq_false, not_false_eq_true, and_true, true_and, Int.reduceEq, Int.reduceLE, Int.reduceLT, Int.reduceNeg, xb_eq0, xb_eq1, xup_ne, xup_self, xup_k, xjl_i, xjl_r, xjl_j, xjl_l, Option.toList_some, Option.toList_none, List.cons_append, List.nil_append, xr_0_0, xr_0_1, xr_0_2, xr_0_3, xr_0_4, xr_0_5, xr_0_6, xr_0_7, xr_1_0, xr_1_1, xr_4_5, xr_4_6, xr_4_7, xr_4_8, xr_8_0, xr_10_5, xr_10_6, xr_10_7, xr_10_8, xr_14_0, xr_16_0, xr_16_1, xr_16_2, xr_20_0, xr_21_0, xr_21_1, xr_22_0, xr_24_0, xr_26_0, xr_26_1, xr_26_2, xr_30_0, xr_30_1, xr_30_2, xr_30_3, xr_30_4, xr_30_5, xr_30_6, xr_30_7, xr_31_0, xr_39_0, xr_39_1, xr_39_2, xr_42_0, xr_42_2, xr_42_3, xr_42_4, xr_42_5, xr_42_6, xr_42_8, xr_42_10, xr_42_13, xr_42_14, xr_42_15, xr_42_16, xr_42_23, xr_42_24, xr_42_25]
  refine Wc.mono (st_lay  hR).k58 (fun r M1 h1 => ?_)
  obtain ⟨⟨a, rfl, hW⟩, e58⟩ := h1
  have l1 : i + 6 ≤ M1 58 (-1) := by rw [e58]; exact l0
  simp (disch := first | assumption | decide +kernel | exact hM _ _ | exact hL _ | exact xG_b | exact xG_bt _ _ | omega) only [w132_209, w132_210, Int.reduceAdd, xup_twice, true_implies, false_implies, not_true_eq_false, not_false_eq_true, and_true, true_and, Int.reduceEq, Int.reduceLE, Int.reduceLT, Int.reduceNeg, xb_eq0, xb_eq1, xup_ne, xup_self, xup_k, xjl_i, xjl_r, xjl_j, xjl_l, Option.toList_some, Option.toList_none, List.cons_append, List.nil_append, xr_0_0, xr_0_1, xr_0_2, xr_0_3, xr_0_4, xr_0_5, xr_0_6, xr_0_7, xr_1_0, xr_1_1, xr_4_5, xr_4_6, xr_4_7, xr_4_8, xr_8_0, xr_10_5, xr_10_6, xr_10_7, xr_10_8, xr_14_0, xr_16_0, xr_16_1, xr_16_2, xr_20_0, xr_21_0, xr_21_1, xr_22_0, xr_24_0, xr_26_0, xr_26_1, xr_26_2, xr_30_0, xr_30_1, xr_30_2, xr_30_3, xr_30_4, xr_30_5, xr_30_6, xr_30_7, xr_31_0, xr_39_0, xr_39_1, xr_39_2, xr_42_0, xr_42_2, xr_42_3, xr_42_4, xr_42_5, xr_42_6, xr_42_8, xr_42_10, xr_42_13, xr_42_14, xr_42_15, xr_42_16, xr_42_23, xr_42_24, xr_42_25, e58]
  refine Wc.mono hW.k58 (fun r' M2 h2 => ?_)
  obtain ⟨⟨rfl, hR2⟩, e2⟩ := h2
  show Wp 132 213 [xr 58, xr 0, xr 42, xi i] [xi a, xi a] M2 Q
  rw [wp_same (t := 933) (n := 216) rfl]
  exact hQ M2 hR2 (e2.trans e58)
set_option maxRecDepth 20000 in
theorem law_platform {L : Int} (hR : RR M) (hs : sOk M L) (h0 : 0 ≤ i) (h6 : i + 6 ≤ L) (hQ : ∀ M', RR M' → M' 58 = M 58 → Wp 132 933 [xr 58, xr 0, xr 42, xi i] [] M' Q) : Wp 132 218 [xr 58, xr 0, xr 42, xi i] [] M Q := by
  obtain ⟨hl, hL, hG⟩ := id hs
  have l0 : i + 6 ≤ M 58 (-1) := by omega
  have g1 : xG (M 58 (i + 1)) := hG (i + 1) (by omega) (by omega)
  have g2 : xG (M 58 (i + 2)) := hG (i + 2) (by omega) (by omega)
  simp (disch := first | assumption | decide +kernel | exact hM _ _ | exact hL _ | exact xG_b | exact xG_bt _ _ | omega) only [w132_218, w132_219, w132_220, w132_221, w132_222, w132_223, w132_224, w132_225, w132_226, w132_227, w132_228, w132_229, Int.reduceAdd, xup_twice, true_implies, false_implies, not_true_eq_false, not_false_eq_true, and_true, true_and, Int.reduceEq, Int.reduceLE, Int.reduceLT, Int.reduceNeg, xb_eq0, xb_eq1, xup_ne, xup_self, xup_k, xjl_i, xjl_r, xjl_j, xjl_l, Option.toList_some, Option.toList_none, List.cons_append, List.nil_append, xr_0_0, xr_0_1, xr_0_2, xr_0_3, xr_0_4, xr_0_5, xr_0_6, xr_0_7, xr_1_0, xr_1_1, xr_4_5, xr_4_6, xr_4_7, xr_4_8, xr_8_0, xr_10_5, xr_10_6, xr_10_7, xr_10_8, xr_14_0, xr_16_0, xr_16_1, xr_16_2, xr_20_0, xr_21_0, xr_21_1, xr_22_0, xr_24_0, xr_26_0, xr_26_1, xr_26_2, xr_30_0, xr_30_1, xr_30_2, xr_30_3, xr_30_4, xr_30_5, xr_30_6, xr_30_7, xr_31_0, xr_39_0, xr_39_1, xr_39_2, xr_42_0, xr_42_2, xr_42_3, xr_42_4, xr_42_5, xr_42_6, xr_42_8, xr_42_10, xr_42_13, xr_42_14, xr_42_15, xr_42_16, xr_42_23, xr_42_24, xr_42_25]
  refine Wc.mono (st_platform g1 g2 hR).k58 (fun r M1 h1 => ?_)
  obtain ⟨⟨a, rfl, hW⟩, e58⟩ := h1
  have l1 : i + 6 ≤ M1 58 (-1) := by rw [e58]; exact l0
  simp (disch := first | assumption | decide +kernel | exact hM _ _ | exact hL _ | exact xG_b | exact xG_bt _ _ | omega) only [w132_232, w132_233, w132_234, w132_235, w132_236, w132_237, w132_238, w132_239, w132_240, w132_241, w132_242, w132_243, Int.reduceAdd, xup_twice, true_implies, false_implies, not_true_eq_false, not_false_eq_true, and_true, true_and, Int.reduceEq, Int.reduceLE, Int.reduceLT, Int.reduceNeg, xb_eq0, xb_eq1, xup_ne, xup_self, xup_k, xjl_i, xjl_r, xjl_j, xjl_l, Option.toList_some, Option.toList_none, List.cons_append, List.nil_append, xr_0_0, xr_0_1, xr_0_2, xr_0_3, xr_0_4, xr_0_5, xr_0_6, xr_0_7, xr_1_0, xr_1_1, xr_4_5, xr_4_6, xr_4_7, xr_4_8, xr_8_0, xr_10_5, xr_10_6, xr_10_7, xr_10_8, xr_14_0, xr_16_0, xr_16_1, xr_16_2, xr_20_0, xr_21_0, xr_21_1, xr_22_0, xr_24_0, xr_26_0, xr_26_1, xr_26_2, xr_30_0, xr_30_1, xr_30_2, xr_30_3, xr_30_4, xr_30_5, xr_30_6, xr_30_7, xr_31_0, xr_39_0, xr_39_1, xr_39_2, xr_42_0, xr_42_2, xr_42_3, xr_42_4, xr_42_5, xr_42_6, xr_42_8, xr_42_10, xr_42_13, xr_42_14, xr_42_15, xr_42_16, xr_42_23, xr_42_24, xr_42_25, e58]
  refine Wc.mono hW.k58 (fun r' M2 h2 => ?_)
  obtain ⟨⟨rfl, hR2⟩, e2⟩ := h2
  show Wp 132 246 [xr 58, xr 0, xr 42, xi i] [xi a, xi a] M2 Q
  rw [wp_same (t := 933) (n := 249) rfl]
  exact hQ M2 hR2 (e2.trans e58)
set_option maxRecDepth 20000 in
theorem law_train {L : Int} (hR : RR M) (hs : sOk M L) (h0 : 0 ≤ i) (h6 : i + 6 ≤ L) (hQ : ∀ M', RR M' → M' 58 = M 58 → Wp 132 933 [xr 58, xr 0, xr 42, xi i] [] M' Q) : Wp 132 251 [xr 58, xr 0, xr 42, xi i] [] M Q := by
  obtain ⟨hl, hL, hG⟩ := id hs
  have l0 : i + 6 ≤ M 58 (-1) := by omega
  have g1 : xG (M 58 (i + 1)) := hG (i + 1) (by omega) (by omega)
  simp (disch := first | assumption | decide +kernel | exact hM _ _ | exact hL _ | exact xG_b | exact xG_bt _ _ | omega) only [w132_251, w132_252, w132_253, w132_254, w132_255, w132_256, w132_257, Int.reduceAdd, xup_twice, true_implies, false_implies, not_true_eq_false, not_false_eq_true, and_true, true_and, Int.reduceEq, Int.reduceLE, Int.reduceLT, Int.reduceNeg, xb_eq0, xb_eq1, xup_ne, xup_self, xup_k, xjl_i, xjl_r, xjl_j, xjl_l, Option.toList_some, Option.toList_none, List.cons_append, List.nil_append, xr_0_0, xr_0_1, xr_0_2, xr_0_3, xr_0_4, xr_0_5, xr_0_6, xr_0_7, xr_1_0, xr_1_1, xr_4_5, xr_4_6, xr_4_7, xr_4_8, xr_8_0, xr_10_5, xr_10_6, xr_10_7, xr_10_8, xr_14_0, xr_16_0, xr_16_1, xr_16_2, xr_20_0, xr_21_0, xr_21_1, xr_22_0, xr_24_0, xr_26_0, xr_26_1, xr_26_2, xr_30_0, xr_30_1, xr_30_2, xr_30_3, xr_30_4, xr_30_5, xr_30_6, xr_30_7, xr_31_0, xr_39_0, xr_39_1, xr_39_2, xr_42_0, xr_42_2, xr_42_3, xr_42_4, xr_42_5, xr_42_6, xr_42_8, xr_42_10, xr_42_13, xr_42_14, xr_42_15, xr_42_16, xr_42_23, xr_42_24, xr_42_25]
  refine Wc.mono (st_train g1 hR).k58 (fun r M1 h1 => ?_)
  obtain ⟨⟨a, rfl, hW⟩, e58⟩ := h1
  have l1 : i + 6 ≤ M1 58 (-1) := by rw [e58]; exact l0
  simp (disch := first | assumption | decide +kernel | exact hM _ _ | exact hL _ | exact xG_b | exact xG_bt _ _ | omega) only [w132_260, w132_261, w132_262, w132_263, w132_264, w132_265, w132_266, Int.reduceAdd, xup_twice, true_implies, false_implies, not_true_eq_false, not_false_eq_true, and_true, true_and, Int.reduceEq, Int.reduceLE, Int.reduceLT, Int.reduceNeg, xb_eq0, xb_eq1, xup_ne, xup_self, xup_k, xjl_i, xjl_r, xjl_j, xjl_l, Option.toList_some, Option.toList_none, List.cons_append, List.nil_append, xr_0_0, xr_0_1, xr_0_2, xr_0_3, xr_0_4, xr_0_5, xr_0_6, xr_0_7, xr_1_0, xr_1_1, xr_4_5, xr_4_6, xr_4_7, xr_4_8, xr_8_0, xr_10_5, xr_10_6, xr_10_7, xr_10_8, xr_14_0, xr_16_0, xr_16_1, xr_16_2, xr_20_0, xr_21_0, xr_21_1, xr_22_0, xr_24_0, xr_26_0, xr_26_1, xr_26_2, xr_30_0, xr_30_1, xr_30_2, xr_30_3, xr_30_4, xr_30_5, xr_30_6, xr_30_7, xr_31_0, xr_39_0, xr_39_1, xr_39_2, xr_42_0, xr_42_2, xr_42_3, xr_42_4, xr_42_5, xr_42_6, xr_42_8, xr_42_10, xr_42_13, xr_42_14, xr_42_15, xr_42_16, xr_42_23, xr_42_24, xr_42_25, e58]
  refine Wc.mono hW.k58 (fun r' M2 h2 => ?_)
  obtain ⟨⟨rfl, hR2⟩, e2⟩ := h2
  show Wp 132 269 [xr 58, xr 0, xr 42, xi i] [xi a, xi a] M2 Q
  rw [wp_same (t := 933) (n := 272) rfl]
  exact hQ M2 hR2 (e2.trans e58)
set_option maxRecDepth 20000 in
theorem law_cell {L : Int} (hR : RR M) (hs : sOk M L) (h0 : 0 ≤ i) (h6 : i + 6 ≤ L) (hQ : ∀ M', RR M' → M' 58 = M 58 → Wp 132 933 [xr 58, xr 0, xr 42, xi i] [] M' Q) : Wp 132 274 [xr 58, xr 0, xr 42, xi i] [] M Q := by
  obtain ⟨hl, hL, hG⟩ := id hs
  have l0 : i + 6 ≤ M 58 (-1) := by omega
  have g1 : xG (M 58 (i + 1)) := hG (i + 1) (by omega) (by omega)
  have g2 : xG (M 58 (i + 2)) := hG (i + 2) (by omega) (by omega)
  simp (disch := first | assumption | decide +kernel | exact hM _ _ | exact hL _ | exact xG_b | exact xG_bt _ _ | omega) only [w132_274, w132_275, w132_276, w132_277, w132_278, w132_279, w132_280, w132_281, w132_282, w132_283, w132_284, w132_285, Int.reduceAdd, xup_twice, true_implies, false_implies, not_true_eq_false, not_false_eq_true, and_true, true_and, Int.reduceEq, Int.reduceLE, Int.reduceLT, Int.reduceNeg, xb_eq0, xb_eq1, xup_ne, xup_self, xup_k, xjl_i, xjl_r, xjl_j, xjl_l, Option.toList_some, Option.toList_none, List.cons_append, List.nil_append, xr_0_0, xr_0_1, xr_0_2, xr_0_3, xr_0_4, xr_0_5, xr_0_6, xr_0_7, xr_1_0, xr_1_1, xr_4_5, xr_4_6, xr_4_7, xr_4_8, xr_8_0, xr_10_5, xr_10_6, xr_10_7, xr_10_8, xr_14_0, xr_16_0, xr_16_1, xr_16_2, xr_20_0, xr_21_0, xr_21_1, xr_22_0, xr_24_0, xr_26_0, xr_26_1, xr_26_2, xr_30_0, xr_30_1, xr_30_2, xr_30_3, xr_30_4, xr_30_5, xr_30_6, xr_30_7, xr_31_0, xr_39_0, xr_39_1, xr_39_2, xr_42_0, xr_42_2, xr_42_3, xr_42_4, xr_42_5, xr_42_6, xr_42_8, xr_42_10, xr_42_13, xr_42_14, xr_42_15, xr_42_16, xr_42_23, xr_42_24, xr_42_25]
  refine Wc.mono (st_cell g1 g2 hR).k58 (fun r M1 h1 => ?_)
  obtain ⟨⟨a, rfl, hW⟩, e58⟩ := h1
  have l1 : i + 6 ≤ M1 58 (-1) := by rw [e58]; exact l0
  simp (disch := first | assumption | decide +kernel | exact hM _ _ | exact hL _ | exact xG_b | exact xG_bt _ _ | omega) only [w132_288, w132_289, w132_290, w132_291, w132_292, w132_293, w132_294, w132_295, w132_296, w132_297, w132_298, w132_299, Int.reduceAdd, xup_twice, true_implies, false_implies, not_true_eq_false, not_false_eq_true, and_true, true_and, Int.reduceEq, Int.reduceLE, Int.reduceLT, Int.reduceNeg, xb_eq0, xb_eq1, xup_ne, xup_self, xup_k, xjl_i, xjl_r, xjl_j, xjl_l, Option.toList_some, Option.toList_none, List.cons_append, List.nil_append, xr_0_0, xr_0_1, xr_0_2, xr_0_3, xr_0_4, xr_0_5, xr_0_6, xr_0_7, xr_1_0, xr_1_1, xr_4_5, xr_4_6, xr_4_7, xr_4_8, xr_8_0, xr_10_5, xr_10_6, xr_10_7, xr_10_8, xr_14_0, xr_16_0, xr_16_1, xr_16_2, xr_20_0, xr_21_0, xr_21_1, xr_22_0, xr_24_0, xr_26_0, xr_26_1, xr_26_2, xr_30_0, xr_30_1, xr_30_2, xr_30_3, xr_30_4, xr_30_5, xr_30_6, xr_30_7, xr_31_0, xr_39_0, xr_39_1, xr_39_2, xr_42_0, xr_42_2, xr_42_3, xr_42_4, xr_42_5, xr_42_6, xr_42_8, xr_42_10, xr_42_13, xr_42_14, xr_42_15, xr_42_16, xr_42_23, xr_42_24, xr_42_25, e58]
  refine Wc.mono hW.k58 (fun r' M2 h2 => ?_)
  obtain ⟨⟨rfl, hR2⟩, e2⟩ := h2
  show Wp 132 302 [xr 58, xr 0, xr 42, xi i] [xi a, xi a] M2 Q
  rw [wp_same (t := 933) (n := 305) rfl]
  exact hQ M2 hR2 (e2.trans e58)
set_option maxRecDepth 20000 in
theorem law_start {L : Int} (hR : RR M) (hs : sOk M L) (h0 : 0 ≤ i) (h6 : i + 6 ≤ L) (hQ : ∀ M', RR M' → M' 58 = M 58 → Wp 132 933 [xr 58, xr 0, xr 42, xi i] [] M' Q) : Wp 132 307 [xr 58, xr 0, xr 42, xi i] [] M Q := by
  obtain ⟨hl, hL, hG⟩ := id hs
  have l0 : i + 6 ≤ M 58 (-1) := by omega
  have g1 : xG (M 58 (i + 1)) := hG (i + 1) (by omega) (by omega)
  have g2 : xG (M 58 (i + 2)) := hG (i + 2) (by omega) (by omega)
  simp (disch := first | assumption | decide +kernel | exact hM _ _ | exact hL _ | exact xG_b | exact xG_bt _ _ | omega) only [w132_307, w132_308, w132_309, w132_310, w132_311, w132_312, w132_313, w132_314, w132_315, w132_316, w132_317, w132_318, Int.reduceAdd, xup_twice, true_implies, false_implies, not_true_eq_false, not_false_eq_true, and_true, true_and, Int.reduceEq, Int.reduceLE, Int.reduceLT, Int.reduceNeg, xb_eq0, xb_eq1, xup_ne, xup_self, xup_k, xjl_i, xjl_r, xjl_j, xjl_l, Option.toList_some, Option.toList_none, List.cons_append, List.nil_append, xr_0_0, xr_0_1, xr_0_2, xr_0_3, xr_0_4, xr_0_5, xr_0_6, xr_0_7, xr_1_0, xr_1_1, xr_4_5, xr_4_6, xr_4_7, xr_4_8, xr_8_0, xr_10_5, xr_10_6, xr_10_7, xr_10_8, xr_14_0, xr_16_0, xr_16_1, xr_16_2, xr_20_0, xr_21_0, xr_21_1, xr_22_0, xr_24_0, xr_26_0, xr_26_1, xr_26_2, xr_30_0, xr_30_1, xr_30_2, xr_30_3, xr_30_4, xr_30_5, xr_30_6, xr_30_7, xr_31_0, xr_39_0, xr_39_1, xr_39_2, xr_42_0, xr_42_2, xr_42_3, xr_42_4, xr_42_5, xr_42_6, xr_42_8, xr_42_10, xr_42_13, xr_42_14, xr_42_15, xr_42_16, xr_42_23, xr_42_24, xr_42_25]
  refine Wc.mono (st_start g1 g2 hR).k58 (fun r M1 h1 => ?_)
  obtain ⟨⟨a, rfl, hW⟩, e58⟩ := h1
  have l1 : i + 6 ≤ M1 58 (-1) := by rw [e58]; exact l0
  simp (disch := first | assumption | decide +kernel | exact hM _ _ | exact hL _ | exact xG_b | exact xG_bt _ _ | omega) only [w132_321, w132_322, w132_323, w132_324, w132_325, w132_326, w132_327, w132_328, w132_329, w132_330, w132_331, w132_332, Int.reduceAdd, xup_twice, true_implies, false_implies, not_true_eq_false, not_false_eq_true, and_true, true_and, Int.reduceEq, Int.reduceLE, Int.reduceLT, Int.reduceNeg, xb_eq0, xb_eq1, xup_ne, xup_self, xup_k, xjl_i, xjl_r, xjl_j, xjl_l, Option.toList_some, Option.toList_none, List.cons_append, List.nil_append, xr_0_0, xr_0_1, xr_0_2, xr_0_3, xr_0_4, xr_0_5, xr_0_6, xr_0_7, xr_1_0, xr_1_1, xr_4_5, xr_4_6, xr_4_7, xr_4_8, xr_8_0, xr_10_5, xr_10_6, xr_10_7, xr_10_8, xr_14_0, xr_16_0, xr_16_1, xr_16_2, xr_20_0, xr_21_0, xr_21_1, xr_22_0, xr_24_0, xr_26_0, xr_26_1, xr_26_2, xr_30_0, xr_30_1, xr_30_2, xr_30_3, xr_30_4, xr_30_5, xr_30_6, xr_30_7, xr_31_0, xr_39_0, xr_39_1, xr_39_2, xr_42_0, xr_42_2, xr_42_3, xr_42_4, xr_42_5, xr_42_6, xr_42_8, xr_42_10, xr_42_13, xr_42_14, xr_42_15, xr_42_16, xr_42_23, xr_42_24, xr_42_25, e58]
  refine Wc.mono hW.k58 (fun r' M2 h2 => ?_)
  obtain ⟨⟨rfl, hR2⟩, e2⟩ := h2
  show Wp 132 335 [xr 58, xr 0, xr 42, xi i] [xi a, xi a] M2 Q
  rw [wp_same (t := 933) (n := 338) rfl]
  exact hQ M2 hR2 (e2.trans e58)
set_option maxRecDepth 20000 in
theorem law_hold {L : Int} (hR : RR M) (hs : sOk M L) (h0 : 0 ≤ i) (h6 : i + 6 ≤ L) (hQ : ∀ M', RR M' → M' 58 = M 58 → Wp 132 933 [xr 58, xr 0, xr 42, xi i] [] M' Q) : Wp 132 340 [xr 58, xr 0, xr 42, xi i] [] M Q := by
  obtain ⟨hl, hL, hG⟩ := id hs
  have l0 : i + 6 ≤ M 58 (-1) := by omega
  have g1 : xG (M 58 (i + 1)) := hG (i + 1) (by omega) (by omega)
  simp (disch := first | assumption | decide +kernel | exact hM _ _ | exact hL _ | exact xG_b | exact xG_bt _ _ | omega) only [w132_340, w132_341, w132_342, w132_343, w132_344, w132_345, w132_346, Int.reduceAdd, xup_twice, true_implies, false_implies, not_true_eq_false, not_false_eq_true, and_true, true_and, Int.reduceEq, Int.reduceLE, Int.reduceLT, Int.reduceNeg, xb_eq0, xb_eq1, xup_ne, xup_self, xup_k, xjl_i, xjl_r, xjl_j, xjl_l, Option.toList_some, Option.toList_none, List.cons_append, List.nil_append, xr_0_0, xr_0_1, xr_0_2, xr_0_3, xr_0_4, xr_0_5, xr_0_6, xr_0_7, xr_1_0, xr_1_1, xr_4_5, xr_4_6, xr_4_7, xr_4_8, xr_8_0, xr_10_5, xr_10_6, xr_10_7, xr_10_8, xr_14_0, xr_16_0, xr_16_1, xr_16_2, xr_20_0, xr_21_0, xr_21_1, xr_22_0, xr_24_0, xr_26_0, xr_26_1, xr_26_2, xr_30_0, xr_30_1, xr_30_2, xr_30_3, xr_30_4, xr_30_5, xr_30_6, xr_30_7, xr_31_0, xr_39_0, xr_39_1, xr_39_2, xr_42_0, xr_42_2, xr_42_3, xr_42_4, xr_42_5, xr_42_6, xr_42_8, xr_42_10, xr_42_13, xr_42_14, xr_42_15, xr_42_16, xr_42_23, xr_42_24, xr_42_25]
  refine Wc.mono (st_hold g1 hR).k58 (fun r M1 h1 => ?_)
  obtain ⟨⟨a, rfl, hW⟩, e58⟩ := h1
  have l1 : i + 6 ≤ M1 58 (-1) := by rw [e58]; exact l0
  simp (disch := first | assumption | decide +kernel | exact hM _ _ | exact hL _ | exact xG_b | exact xG_bt _ _ | omega) only [w132_349, w132_350, w132_351, w132_352, w132_353, w132_354, w132_355, Int.reduceAdd, xup_twice, true_implies, false_implies, not_true_eq_false, not_false_eq_true, and_true, true_and, Int.reduceEq, Int.reduceLE, Int.reduceLT, Int.reduceNeg, xb_eq0, xb_eq1, xup_ne, xup_self, xup_k, xjl_i, xjl_r, xjl_j, xjl_l, Option.toList_some, Option.toList_none, List.cons_append, List.nil_append, xr_0_0, xr_0_1, xr_0_2, xr_0_3, xr_0_4, xr_0_5, xr_0_6, xr_0_7, xr_1_0, xr_1_1, xr_4_5, xr_4_6, xr_4_7, xr_4_8, xr_8_0, xr_10_5, xr_10_6, xr_10_7, xr_10_8, xr_14_0, xr_16_0, xr_16_1, xr_16_2, xr_20_0, xr_21_0, xr_21_1, xr_22_0, xr_24_0, xr_26_0, xr_26_1, xr_26_2, xr_30_0, xr_30_1, xr_30_2, xr_30_3, xr_30_4, xr_30_5, xr_30_6, xr_30_7, xr_31_0, xr_39_0, xr_39_1, xr_39_2, xr_42_0, xr_42_2, xr_42_3, xr_42_4, xr_42_5, xr_42_6, xr_42_8, xr_42_10, xr_42_13, xr_42_14, xr_42_15, xr_42_16, xr_42_23, xr_42_24, xr_42_25, e58]
  refine Wc.mono hW.k58 (fun r' M2 h2 => ?_)
  obtain ⟨⟨rfl, hR2⟩, e2⟩ := h2
  show Wp 132 358 [xr 58, xr 0, xr 42, xi i] [xi a, xi a] M2 Q
  rw [wp_same (t := 933) (n := 361) rfl]
  exact hQ M2 hR2 (e2.trans e58)
set_option maxRecDepth 20000 in
theorem law_pass {L : Int} (hR : RR M) (hs : sOk M L) (h0 : 0 ≤ i) (h6 : i + 6 ≤ L) (hQ : ∀ M', RR M' → M' 58 = M 58 → Wp 132 933 [xr 58, xr 0, xr 42, xi i] [] M' Q) : Wp 132 363 [xr 58, xr 0, xr 42, xi i] [] M Q := by
  obtain ⟨hl, hL, hG⟩ := id hs
  have l0 : i + 6 ≤ M 58 (-1) := by omega
  have g1 : xG (M 58 (i + 1)) := hG (i + 1) (by omega) (by omega)
  simp (disch := first | assumption | decide +kernel | exact hM _ _ | exact hL _ | exact xG_b | exact xG_bt _ _ | omega) only [w132_363, w132_364, w132_365, w132_366, w132_367, w132_368, w132_369, Int.reduceAdd, xup_twice, true_implies, false_implies, not_true_eq_false, not_false_eq_true, and_true, true_and, Int.reduceEq, Int.reduceLE, Int.reduceLT, Int.reduceNeg, xb_eq0, xb_eq1, xup_ne, xup_self, xup_k, xjl_i, xjl_r, xjl_j, xjl_l, Option.toList_some, Option.toList_none, List.cons_append, List.nil_append, xr_0_0, xr_0_1, xr_0_2, xr_0_3, xr_0_4, xr_0_5, xr_0_6, xr_0_7, xr_1_0, xr_1_1, xr_4_5, xr_4_6, xr_4_7, xr_4_8, xr_8_0, xr_10_5, xr_10_6, xr_10_7, xr_10_8, xr_14_0, xr_16_0, xr_16_1, xr_16_2, xr_20_0, xr_21_0, xr_21_1, xr_22_0, xr_24_0, xr_26_0, xr_26_1, xr_26_2, xr_30_0, xr_30_1, xr_30_2, xr_30_3, xr_30_4, xr_30_5, xr_30_6, xr_30_7, xr_31_0, xr_39_0, xr_39_1, xr_39_2, xr_42_0, xr_42_2, xr_42_3, xr_42_4, xr_42_5, xr_42_6, xr_42_8, xr_42_10, xr_42_13, xr_42_14, xr_42_15, xr_42_16, xr_42_23, xr_42_24, xr_42_25]
  refine Wc.mono (st_pass g1 hR).k58 (fun r M1 h1 => ?_)
  obtain ⟨⟨a, rfl, hW⟩, e58⟩ := h1
  have l1 : i + 6 ≤ M1 58 (-1) := by rw [e58]; exact l0
  simp (disch := first | assumption | decide +kernel | exact hM _ _ | exact hL _ | exact xG_b | exact xG_bt _ _ | omega) only [w132_372, w132_373, w132_374, w132_375, w132_376, w132_377, w132_378, Int.reduceAdd, xup_twice, true_implies, false_implies, not_true_eq_false, not_false_eq_true, and_true, true_and, Int.reduceEq, Int.reduceLE, Int.reduceLT, Int.reduceNeg, xb_eq0, xb_eq1, xup_ne, xup_self, xup_k, xjl_i, xjl_r, xjl_j, xjl_l, Option.toList_some, Option.toList_none, List.cons_append, List.nil_append, xr_0_0, xr_0_1, xr_0_2, xr_0_3, xr_0_4, xr_0_5, xr_0_6, xr_0_7, xr_1_0, xr_1_1, xr_4_5, xr_4_6, xr_4_7, xr_4_8, xr_8_0, xr_10_5, xr_10_6, xr_10_7, xr_10_8, xr_14_0, xr_16_0, xr_16_1, xr_16_2, xr_20_0, xr_21_0, xr_21_1, xr_22_0, xr_24_0, xr_26_0, xr_26_1, xr_26_2, xr_30_0, xr_30_1, xr_30_2, xr_30_3, xr_30_4, xr_30_5, xr_30_6, xr_30_7, xr_31_0, xr_39_0, xr_39_1, xr_39_2, xr_42_0, xr_42_2, xr_42_3, xr_42_4, xr_42_5, xr_42_6, xr_42_8, xr_42_10, xr_42_13, xr_42_14, xr_42_15, xr_42_16, xr_42_23, xr_42_24, xr_42_25, e58]
  refine Wc.mono hW.k58 (fun r' M2 h2 => ?_)
  obtain ⟨⟨rfl, hR2⟩, e2⟩ := h2
  show Wp 132 381 [xr 58, xr 0, xr 42, xi i] [xi a, xi a] M2 Q
  rw [wp_same (t := 933) (n := 384) rfl]
  exact hQ M2 hR2 (e2.trans e58)
set_option maxRecDepth 20000 in
theorem law_undo {L : Int} (hR : RR M) (hs : sOk M L) (h0 : 0 ≤ i) (h6 : i + 6 ≤ L) (hQ : ∀ M', RR M' → M' 58 = M 58 → Wp 132 933 [xr 58, xr 0, xr 42, xi i] [] M' Q) : Wp 132 386 [xr 58, xr 0, xr 42, xi i] [] M Q := by
  obtain ⟨hl, hL, hG⟩ := id hs
  have l0 : i + 6 ≤ M 58 (-1) := by omega
  simp (disch := first | assumption | decide +kernel | exact hM _ _ | exact hL _ | exact xG_b | exact xG_bt _ _ | omega) only [w132_386, w132_387, Int.reduceAdd, xup_twice, true_implies, false_implies, not_true_eq_false, not_false_eq_true, and_true, true_and, Int.reduceEq, Int.reduceLE, Int.reduceLT, Int.reduceNeg, xb_eq0, xb_eq1, xup_ne, xup_self, xup_k, xjl_i, xjl_r, xjl_j, xjl_l, Option.toList_some, Option.toList_none, List.cons_append, List.nil_append, xr_0_0, xr_0_1, xr_0_2, xr_0_3, xr_0_4, xr_0_5, xr_0_6, xr_0_7, xr_1_0, xr_1_1, xr_4_5, xr_4_6, xr_4_7, xr_4_8, xr_8_0, xr_10_5, xr_10_6, xr_10_7, xr_10_8, xr_14_0, xr_16_0, xr_16_1, xr_16_2, xr_20_0, xr_21_0, xr_21_1, xr_22_0, xr_24_0, xr_26_0, xr_26_1, xr_26_2, xr_30_0, xr_30_1, xr_30_2, xr_30_3, xr_30_4, xr_30_5, xr_30_6, xr_30_7, xr_31_0, xr_39_0, xr_39_1, xr_39_2, xr_42_0, xr_42_2, xr_42_3, xr_42_4, xr_42_5, xr_42_6, xr_42_8, xr_42_10, xr_42_13, xr_42_14, xr_42_15, xr_42_16, xr_42_23, xr_42_24, xr_42_25]
  refine Wc.mono (st_undo  hR).k58 (fun r M1 h1 => ?_)
  obtain ⟨⟨a, rfl, hW⟩, e58⟩ := h1
  have l1 : i + 6 ≤ M1 58 (-1) := by rw [e58]; exact l0
  simp (disch := first | assumption | decide +kernel | exact hM _ _ | exact hL _ | exact xG_b | exact xG_bt _ _ | omega) only [w132_390, w132_391, Int.reduceAdd, xup_twice, true_implies, false_implies, not_true_eq_false, not_false_eq_true, and_true, true_and, Int.reduceEq, Int.reduceLE, Int.reduceLT, Int.reduceNeg, xb_eq0, xb_eq1, xup_ne, xup_self, xup_k, xjl_i, xjl_r, xjl_j, xjl_l, Option.toList_some, Option.toList_none, List.cons_append, List.nil_append, xr_0_0, xr_0_1, xr_0_2, xr_0_3, xr_0_4, xr_0_5, xr_0_6, xr_0_7, xr_1_0, xr_1_1, xr_4_5, xr_4_6, xr_4_7, xr_4_8, xr_8_0, xr_10_5, xr_10_6, xr_10_7, xr_10_8, xr_14_0, xr_16_0, xr_16_1, xr_16_2, xr_20_0, xr_21_0, xr_21_1, xr_22_0, xr_24_0, xr_26_0, xr_26_1, xr_26_2, xr_30_0, xr_30_1, xr_30_2, xr_30_3, xr_30_4, xr_30_5, xr_30_6, xr_30_7, xr_31_0, xr_39_0, xr_39_1, xr_39_2, xr_42_0, xr_42_2, xr_42_3, xr_42_4, xr_42_5, xr_42_6, xr_42_8, xr_42_10, xr_42_13, xr_42_14, xr_42_15, xr_42_16, xr_42_23, xr_42_24, xr_42_25, e58]
  refine Wc.mono hW.k58 (fun r' M2 h2 => ?_)
  obtain ⟨⟨rfl, hR2⟩, e2⟩ := h2
  show Wp 132 394 [xr 58, xr 0, xr 42, xi i] [xi a, xi a] M2 Q
  rw [wp_same (t := 933) (n := 397) rfl]
  exact hQ M2 hR2 (e2.trans e58)
set_option maxRecDepth 20000 in
theorem law_where {L : Int} (hR : RR M) (hs : sOk M L) (h0 : 0 ≤ i) (h6 : i + 6 ≤ L) (hQ : ∀ M', RR M' → M' 58 = M 58 → Wp 132 933 [xr 58, xr 0, xr 42, xi i] [] M' Q) : Wp 132 399 [xr 58, xr 0, xr 42, xi i] [] M Q := by
  obtain ⟨hl, hL, hG⟩ := id hs
  have l0 : i + 6 ≤ M 58 (-1) := by omega
  have g1 : xG (M 58 (i + 1)) := hG (i + 1) (by omega) (by omega)
  have g2 : xG (M 58 (i + 2)) := hG (i + 2) (by omega) (by omega)
  have g3 : xG (M 58 (i + 3)) := hG (i + 3) (by omega) (by omega)
  simp (disch := first | assumption | decide +kernel | exact hM _ _ | exact hL _ | exact xG_b | exact xG_bt _ _ | omega) only [w132_399, w132_400, w132_401, w132_402, w132_403, w132_404, w132_405, w132_406, w132_407, w132_408, w132_409, w132_410, w132_411, w132_412, w132_413, w132_414, w132_415, Int.reduceAdd, xup_twice, true_implies, false_implies, not_true_eq_false, not_false_eq_true, and_true, true_and, Int.reduceEq, Int.reduceLE, Int.reduceLT, Int.reduceNeg, xb_eq0, xb_eq1, xup_ne, xup_self, xup_k, xjl_i, xjl_r, xjl_j, xjl_l, Option.toList_some, Option.toList_none, List.cons_append, List.nil_append, xr_0_0, xr_0_1, xr_0_2, xr_0_3, xr_0_4, xr_0_5, xr_0_6, xr_0_7, xr_1_0, xr_1_1, xr_4_5, xr_4_6, xr_4_7, xr_4_8, xr_8_0, xr_10_5, xr_10_6, xr_10_7, xr_10_8, xr_14_0, xr_16_0, xr_16_1, xr_16_2, xr_20_0, xr_21_0, xr_21_1, xr_22_0, xr_24_0, xr_26_0, xr_26_1, xr_26_2, xr_30_0, xr_30_1, xr_30_2, xr_30_3, xr_30_4, xr_30_5, xr_30_6, xr_30_7, xr_31_0, xr_39_0, xr_39_1, xr_39_2, xr_42_0, xr_42_2, xr_42_3, xr_42_4, xr_42_5, xr_42_6, xr_42_8, xr_42_10, xr_42_13, xr_42_14, xr_42_15, xr_42_16, xr_42_23, xr_42_24, xr_42_25]
  refine Wc.mono (st_where g1 g2 g3 hR).k58 (fun r M1 h1 => ?_)
  obtain ⟨⟨a, rfl, hW⟩, e58⟩ := h1
  have l1 : i + 6 ≤ M1 58 (-1) := by rw [e58]; exact l0
  simp (disch := first | assumption | decide +kernel | exact hM _ _ | exact hL _ | exact xG_b | exact xG_bt _ _ | omega) only [w132_418, w132_419, w132_420, w132_421, w132_422, w132_423, w132_424, w132_425, w132_426, w132_427, w132_428, w132_429, w132_430, w132_431, w132_432, w132_433, w132_434, Int.reduceAdd, xup_twice, true_implies, false_implies, not_true_eq_false, not_false_eq_true, and_true, true_and, Int.reduceEq, Int.reduceLE, Int.reduceLT, Int.reduceNeg, xb_eq0, xb_eq1, xup_ne, xup_self, xup_k, xjl_i, xjl_r, xjl_j, xjl_l, Option.toList_some, Option.toList_none, List.cons_append, List.nil_append, xr_0_0, xr_0_1, xr_0_2, xr_0_3, xr_0_4, xr_0_5, xr_0_6, xr_0_7, xr_1_0, xr_1_1, xr_4_5, xr_4_6, xr_4_7, xr_4_8, xr_8_0, xr_10_5, xr_10_6, xr_10_7, xr_10_8, xr_14_0, xr_16_0, xr_16_1, xr_16_2, xr_20_0, xr_21_0, xr_21_1, xr_22_0, xr_24_0, xr_26_0, xr_26_1, xr_26_2, xr_30_0, xr_30_1, xr_30_2, xr_30_3, xr_30_4, xr_30_5, xr_30_6, xr_30_7, xr_31_0, xr_39_0, xr_39_1, xr_39_2, xr_42_0, xr_42_2, xr_42_3, xr_42_4, xr_42_5, xr_42_6, xr_42_8, xr_42_10, xr_42_13, xr_42_14, xr_42_15, xr_42_16, xr_42_23, xr_42_24, xr_42_25, e58]
  refine Wc.mono hW.k58 (fun r' M2 h2 => ?_)
  obtain ⟨⟨rfl, hR2⟩, e2⟩ := h2
  show Wp 132 437 [xr 58, xr 0, xr 42, xi i] [xi a, xi a] M2 Q
  rw [wp_same (t := 933) (n := 440) rfl]
  exact hQ M2 hR2 (e2.trans e58)
set_option maxRecDepth 20000 in
theorem law_first {L : Int} (hR : RR M) (hs : sOk M L) (h0 : 0 ≤ i) (h6 : i + 6 ≤ L) (hQ : ∀ M', RR M' → M' 58 = M 58 → Wp 132 933 [xr 58, xr 0, xr 42, xi i] [] M' Q) : Wp 132 442 [xr 58, xr 0, xr 42, xi i] [] M Q := by
  obtain ⟨hl, hL, hG⟩ := id hs
  have l0 : i + 6 ≤ M 58 (-1) := by omega
  have g1 : xG (M 58 (i + 1)) := hG (i + 1) (by omega) (by omega)
  have g2 : xG (M 58 (i + 2)) := hG (i + 2) (by omega) (by omega)
  simp (disch := first | assumption | decide +kernel | exact hM _ _ | exact hL _ | exact xG_b | exact xG_bt _ _ | omega) only [w132_442, w132_443, w132_444, w132_445, w132_446, w132_447, w132_448, w132_449, w132_450, w132_451, w132_452, w132_453, Int.reduceAdd, xup_twice, true_implies, false_implies, not_true_eq_false, not_false_eq_true, and_true, true_and, Int.reduceEq, Int.reduceLE, Int.reduceLT, Int.reduceNeg, xb_eq0, xb_eq1, xup_ne, xup_self, xup_k, xjl_i, xjl_r, xjl_j, xjl_l, Option.toList_some, Option.toList_none, List.cons_append, List.nil_append, xr_0_0, xr_0_1, xr_0_2, xr_0_3, xr_0_4, xr_0_5, xr_0_6, xr_0_7, xr_1_0, xr_1_1, xr_4_5, xr_4_6, xr_4_7, xr_4_8, xr_8_0, xr_10_5, xr_10_6, xr_10_7, xr_10_8, xr_14_0, xr_16_0, xr_16_1, xr_16_2, xr_20_0, xr_21_0, xr_21_1, xr_22_0, xr_24_0, xr_26_0, xr_26_1, xr_26_2, xr_30_0, xr_30_1, xr_30_2, xr_30_3, xr_30_4, xr_30_5, xr_30_6, xr_30_7, xr_31_0, xr_39_0, xr_39_1, xr_39_2, xr_42_0, xr_42_2, xr_42_3, xr_42_4, xr_42_5, xr_42_6, xr_42_8, xr_42_10, xr_42_13, xr_42_14, xr_42_15, xr_42_16, xr_42_23, xr_42_24, xr_42_25]
  refine Wc.mono (st_first g1 g2 hR).k58 (fun r M1 h1 => ?_)
  obtain ⟨⟨a, rfl, hW⟩, e58⟩ := h1
  have l1 : i + 6 ≤ M1 58 (-1) := by rw [e58]; exact l0
  simp (disch := first | assumption | decide +kernel | exact hM _ _ | exact hL _ | exact xG_b | exact xG_bt _ _ | omega) only [w132_456, w132_457, w132_458, w132_459, w132_460, w132_461, w132_462, w132_463, w132_464, w132_465, w132_466, w132_467, Int.reduceAdd, xup_twice, true_implies, false_implies, not_true_eq_false, not_false_eq_true, and_true, true_and, Int.reduceEq, Int.reduceLE, Int.reduceLT, Int.reduceNeg, xb_eq0, xb_eq1, xup_ne, xup_self, xup_k, xjl_i, xjl_r, xjl_j, xjl_l, Option.toList_some, Option.toList_none, List.cons_append, List.nil_append, xr_0_0, xr_0_1, xr_0_2, xr_0_3, xr_0_4, xr_0_5, xr_0_6, xr_0_7, xr_1_0, xr_1_1, xr_4_5, xr_4_6, xr_4_7, xr_4_8, xr_8_0, xr_10_5, xr_10_6, xr_10_7, xr_10_8, xr_14_0, xr_16_0, xr_16_1, xr_16_2, xr_20_0, xr_21_0, xr_21_1, xr_22_0, xr_24_0, xr_26_0, xr_26_1, xr_26_2, xr_30_0, xr_30_1, xr_30_2, xr_30_3, xr_30_4, xr_30_5, xr_30_6, xr_30_7, xr_31_0, xr_39_0, xr_39_1, xr_39_2, xr_42_0, xr_42_2, xr_42_3, xr_42_4, xr_42_5, xr_42_6, xr_42_8, xr_42_10, xr_42_13, xr_42_14, xr_42_15, xr_42_16, xr_42_23, xr_42_24, xr_42_25, e58]
  refine Wc.mono hW.k58 (fun r' M2 h2 => ?_)
  obtain ⟨⟨rfl, hR2⟩, e2⟩ := h2
  show Wp 132 470 [xr 58, xr 0, xr 42, xi i] [xi a, xi a] M2 Q
  rw [wp_same (t := 933) (n := 473) rfl]
  exact hQ M2 hR2 (e2.trans e58)
set_option maxRecDepth 20000 in
theorem law_hang {L : Int} (hR : RR M) (hs : sOk M L) (h0 : 0 ≤ i) (h6 : i + 6 ≤ L) (hQ : ∀ M', RR M' → M' 58 = M 58 → Wp 132 933 [xr 58, xr 0, xr 42, xi i] [] M' Q) : Wp 132 475 [xr 58, xr 0, xr 42, xi i] [] M Q := by
  obtain ⟨hl, hL, hG⟩ := id hs
  have l0 : i + 6 ≤ M 58 (-1) := by omega
  simp (disch := first | assumption | decide +kernel | exact hM _ _ | exact hL _ | exact xG_b | exact xG_bt _ _ | omega) only [w132_475, w132_476, Int.reduceAdd, xup_twice, true_implies, false_implies, not_true_eq_false, not_false_eq_true, and_true, true_and, Int.reduceEq, Int.reduceLE, Int.reduceLT, Int.reduceNeg, xb_eq0, xb_eq1, xup_ne, xup_self, xup_k, xjl_i, xjl_r, xjl_j, xjl_l, Option.toList_some, Option.toList_none, List.cons_append, List.nil_append, xr_0_0, xr_0_1, xr_0_2, xr_0_3, xr_0_4, xr_0_5, xr_0_6, xr_0_7, xr_1_0, xr_1_1, xr_4_5, xr_4_6, xr_4_7, xr_4_8, xr_8_0, xr_10_5, xr_10_6, xr_10_7, xr_10_8, xr_14_0, xr_16_0, xr_16_1, xr_16_2, xr_20_0, xr_21_0, xr_21_1, xr_22_0, xr_24_0, xr_26_0, xr_26_1, xr_26_2, xr_30_0, xr_30_1, xr_30_2, xr_30_3, xr_30_4, xr_30_5, xr_30_6, xr_30_7, xr_31_0, xr_39_0, xr_39_1, xr_39_2, xr_42_0, xr_42_2, xr_42_3, xr_42_4, xr_42_5, xr_42_6, xr_42_8, xr_42_10, xr_42_13, xr_42_14, xr_42_15, xr_42_16, xr_42_23, xr_42_24, xr_42_25]
  refine Wc.mono (st_hang  hR).k58 (fun r M1 h1 => ?_)
  obtain ⟨⟨a, rfl, hW⟩, e58⟩ := h1
  have l1 : i + 6 ≤ M1 58 (-1) := by rw [e58]; exact l0
  simp (disch := first | assumption | decide +kernel | exact hM _ _ | exact hL _ | exact xG_b | exact xG_bt _ _ | omega) only [w132_479, w132_480, Int.reduceAdd, xup_twice, true_implies, false_implies, not_true_eq_false, not_false_eq_true, and_true, true_and, Int.reduceEq, Int.reduceLE, Int.reduceLT, Int.reduceNeg, xb_eq0, xb_eq1, xup_ne, xup_self, xup_k, xjl_i, xjl_r, xjl_j, xjl_l, Option.toList_some, Option.toList_none, List.cons_append, List.nil_append, xr_0_0, xr_0_1, xr_0_2, xr_0_3, xr_0_4, xr_0_5, xr_0_6, xr_0_7, xr_1_0, xr_1_1, xr_4_5, xr_4_6, xr_4_7, xr_4_8, xr_8_0, xr_10_5, xr_10_6, xr_10_7, xr_10_8, xr_14_0, xr_16_0, xr_16_1, xr_16_2, xr_20_0, xr_21_0, xr_21_1, xr_22_0, xr_24_0, xr_26_0, xr_26_1, xr_26_2, xr_30_0, xr_30_1, xr_30_2, xr_30_3, xr_30_4, xr_30_5, xr_30_6, xr_30_7, xr_31_0, xr_39_0, xr_39_1, xr_39_2, xr_42_0, xr_42_2, xr_42_3, xr_42_4, xr_42_5, xr_42_6, xr_42_8, xr_42_10, xr_42_13, xr_42_14, xr_42_15, xr_42_16, xr_42_23, xr_42_24, xr_42_25, e58]
  refine Wc.mono hW.k58 (fun r' M2 h2 => ?_)
  obtain ⟨⟨rfl, hR2⟩, e2⟩ := h2
  show Wp 132 483 [xr 58, xr 0, xr 42, xi i] [xi a, xi a] M2 Q
  rw [wp_same (t := 933) (n := 486) rfl]
  exact hQ M2 hR2 (e2.trans e58)
set_option maxRecDepth 20000 in
theorem law_trip {L : Int} (hR : RR M) (hs : sOk M L) (h0 : 0 ≤ i) (h6 : i + 6 ≤ L) (hQ : ∀ M', RR M' → M' 58 = M 58 → Wp 132 933 [xr 58, xr 0, xr 42, xi i] [] M' Q) : Wp 132 488 [xr 58, xr 0, xr 42, xi i] [] M Q := by
  obtain ⟨hl, hL, hG⟩ := id hs
  have l0 : i + 6 ≤ M 58 (-1) := by omega
  have g1 : xG (M 58 (i + 1)) := hG (i + 1) (by omega) (by omega)
  have g2 : xG (M 58 (i + 2)) := hG (i + 2) (by omega) (by omega)
  have g3 : xG (M 58 (i + 3)) := hG (i + 3) (by omega) (by omega)
  simp (disch := first | assumption | decide +kernel | exact hM _ _ | exact hL _ | exact xG_b | exact xG_bt _ _ | omega) only [w132_488, w132_489, w132_490, w132_491, w132_492, w132_493, w132_494, w132_495, w132_496, w132_497, w132_498, w132_499, w132_500, w132_501, w132_502, w132_503, w132_504, Int.reduceAdd, xup_twice, true_implies, false_implies, not_true_eq_false, not_false_eq_true, and_true, true_and, Int.reduceEq, Int.reduceLE, Int.reduceLT, Int.reduceNeg, xb_eq0, xb_eq1, xup_ne, xup_self, xup_k, xjl_i, xjl_r, xjl_j, xjl_l, Option.toList_some, Option.toList_none, List.cons_append, List.nil_append, xr_0_0, xr_0_1, xr_0_2, xr_0_3, xr_0_4, xr_0_5, xr_0_6, xr_0_7, xr_1_0, xr_1_1, xr_4_5, xr_4_6, xr_4_7, xr_4_8, xr_8_0, xr_10_5, xr_10_6, xr_10_7, xr_10_8, xr_14_0, xr_16_0, xr_16_1, xr_16_2, xr_20_0, xr_21_0, xr_21_1, xr_22_0, xr_24_0, xr_26_0, xr_26_1, xr_26_2, xr_30_0, xr_30_1, xr_30_2, xr_30_3, xr_30_4, xr_30_5, xr_30_6, xr_30_7, xr_31_0, xr_39_0, xr_39_1, xr_39_2, xr_42_0, xr_42_2, xr_42_3, xr_42_4, xr_42_5, xr_42_6, xr_42_8, xr_42_10, xr_42_13, xr_42_14, xr_42_15, xr_42_16, xr_42_23, xr_42_24, xr_42_25]
  refine Wc.mono (st_trip g1 g2 g3 hR).k58 (fun r M1 h1 => ?_)
  obtain ⟨⟨a, rfl, hW⟩, e58⟩ := h1
  have l1 : i + 6 ≤ M1 58 (-1) := by rw [e58]; exact l0
  simp (disch := first | assumption | decide +kernel | exact hM _ _ | exact hL _ | exact xG_b | exact xG_bt _ _ | omega) only [w132_507, w132_508, w132_509, w132_510, w132_511, w132_512, w132_513, w132_514, w132_515, w132_516, w132_517, w132_518, w132_519, w132_520, w132_521, w132_522, w132_523, Int.reduceAdd, xup_twice, true_implies, false_implies, not_true_eq_false, not_false_eq_true, and_true, true_and, Int.reduceEq, Int.reduceLE, Int.reduceLT, Int.reduceNeg, xb_eq0, xb_eq1, xup_ne, xup_self, xup_k, xjl_i, xjl_r, xjl_j, xjl_l, Option.toList_some, Option.toList_none, List.cons_append, List.nil_append, xr_0_0, xr_0_1, xr_0_2, xr_0_3, xr_0_4, xr_0_5, xr_0_6, xr_0_7, xr_1_0, xr_1_1, xr_4_5, xr_4_6, xr_4_7, xr_4_8, xr_8_0, xr_10_5, xr_10_6, xr_10_7, xr_10_8, xr_14_0, xr_16_0, xr_16_1, xr_16_2, xr_20_0, xr_21_0, xr_21_1, xr_22_0, xr_24_0, xr_26_0, xr_26_1, xr_26_2, xr_30_0, xr_30_1, xr_30_2, xr_30_3, xr_30_4, xr_30_5, xr_30_6, xr_30_7, xr_31_0, xr_39_0, xr_39_1, xr_39_2, xr_42_0, xr_42_2, xr_42_3, xr_42_4, xr_42_5, xr_42_6, xr_42_8, xr_42_10, xr_42_13, xr_42_14, xr_42_15, xr_42_16, xr_42_23, xr_42_24, xr_42_25, e58]
  refine Wc.mono hW.k58 (fun r' M2 h2 => ?_)
  obtain ⟨⟨rfl, hR2⟩, e2⟩ := h2
  show Wp 132 526 [xr 58, xr 0, xr 42, xi i] [xi a, xi a] M2 Q
  rw [wp_same (t := 933) (n := 529) rfl]
  exact hQ M2 hR2 (e2.trans e58)
set_option maxRecDepth 20000 in
theorem law_best {L : Int} (hR : RR M) (hs : sOk M L) (h0 : 0 ≤ i) (h6 : i + 6 ≤ L) (hQ : ∀ M', RR M' → M' 58 = M 58 → Wp 132 933 [xr 58, xr 0, xr 42, xi i] [] M' Q) : Wp 132 531 [xr 58, xr 0, xr 42, xi i] [] M Q := by
  obtain ⟨hl, hL, hG⟩ := id hs
  have l0 : i + 6 ≤ M 58 (-1) := by omega
  have g1 : xG (M 58 (i + 1)) := hG (i + 1) (by omega) (by omega)
  have g2 : xG (M 58 (i + 2)) := hG (i + 2) (by omega) (by omega)
  have g3 : xG (M 58 (i + 3)) := hG (i + 3) (by omega) (by omega)
  simp (disch := first | assumption | decide +kernel | exact hM _ _ | exact hL _ | exact xG_b | exact xG_bt _ _ | omega) only [w132_531, w132_532, w132_533, w132_534, w132_535, w132_536, w132_537, w132_538, w132_539, w132_540, w132_541, w132_542, w132_543, w132_544, w132_545, w132_546, w132_547, Int.reduceAdd, xup_twice, true_implies, false_implies, not_true_eq_false, not_false_eq_true, and_true, true_and, Int.reduceEq, Int.reduceLE, Int.reduceLT, Int.reduceNeg, xb_eq0, xb_eq1, xup_ne, xup_self, xup_k, xjl_i, xjl_r, xjl_j, xjl_l, Option.toList_some, Option.toList_none, List.cons_append, List.nil_append, xr_0_0, xr_0_1, xr_0_2, xr_0_3, xr_0_4, xr_0_5, xr_0_6, xr_0_7, xr_1_0, xr_1_1, xr_4_5, xr_4_6, xr_4_7, xr_4_8, xr_8_0, xr_10_5, xr_10_6, xr_10_7, xr_10_8, xr_14_0, xr_16_0, xr_16_1, xr_16_2, xr_20_0, xr_21_0, xr_21_1, xr_22_0, xr_24_0, xr_26_0, xr_26_1, xr_26_2, xr_30_0, xr_30_1, xr_30_2, xr_30_3, xr_30_4, xr_30_5, xr_30_6, xr_30_7, xr_31_0, xr_39_0, xr_39_1, xr_39_2, xr_42_0, xr_42_2, xr_42_3, xr_42_4, xr_42_5, xr_42_6, xr_42_8, xr_42_10, xr_42_13, xr_42_14, xr_42_15, xr_42_16, xr_42_23, xr_42_24, xr_42_25]
  refine Wc.mono (st_best g1 g2 g3 hR).k58 (fun r M1 h1 => ?_)
  obtain ⟨⟨a, rfl, hW⟩, e58⟩ := h1
  have l1 : i + 6 ≤ M1 58 (-1) := by rw [e58]; exact l0
  simp (disch := first | assumption | decide +kernel | exact hM _ _ | exact hL _ | exact xG_b | exact xG_bt _ _ | omega) only [w132_550, w132_551, w132_552, w132_553, w132_554, w132_555, w132_556, w132_557, w132_558, w132_559, w132_560, w132_561, w132_562, w132_563, w132_564, w132_565, w132_566, Int.reduceAdd, xup_twice, true_implies, false_implies, not_true_eq_false, not_false_eq_true, and_true, true_and, Int.reduceEq, Int.reduceLE, Int.reduceLT, Int.reduceNeg, xb_eq0, xb_eq1, xup_ne, xup_self, xup_k, xjl_i, xjl_r, xjl_j, xjl_l, Option.toList_some, Option.toList_none, List.cons_append, List.nil_append, xr_0_0, xr_0_1, xr_0_2, xr_0_3, xr_0_4, xr_0_5, xr_0_6, xr_0_7, xr_1_0, xr_1_1, xr_4_5, xr_4_6, xr_4_7, xr_4_8, xr_8_0, xr_10_5, xr_10_6, xr_10_7, xr_10_8, xr_14_0, xr_16_0, xr_16_1, xr_16_2, xr_20_0, xr_21_0, xr_21_1, xr_22_0, xr_24_0, xr_26_0, xr_26_1, xr_26_2, xr_30_0, xr_30_1, xr_30_2, xr_30_3, xr_30_4, xr_30_5, xr_30_6, xr_30_7, xr_31_0, xr_39_0, xr_39_1, xr_39_2, xr_42_0, xr_42_2, xr_42_3, xr_42_4, xr_42_5, xr_42_6, xr_42_8, xr_42_10, xr_42_13, xr_42_14, xr_42_15, xr_42_16, xr_42_23, xr_42_24, xr_42_25, e58]
  refine Wc.mono hW.k58 (fun r' M2 h2 => ?_)
  obtain ⟨⟨rfl, hR2⟩, e2⟩ := h2
  show Wp 132 569 [xr 58, xr 0, xr 42, xi i] [xi a, xi a] M2 Q
  rw [wp_same (t := 933) (n := 572) rfl]
  exact hQ M2 hR2 (e2.trans e58)
set_option maxRecDepth 20000 in
theorem law_places {L : Int} (hR : RR M) (hs : sOk M L) (h0 : 0 ≤ i) (h6 : i + 6 ≤ L) (hQ : ∀ M', RR M' → M' 58 = M 58 → Wp 132 933 [xr 58, xr 0, xr 42, xi i] [] M' Q) : Wp 132 574 [xr 58, xr 0, xr 42, xi i] [] M Q := by
  obtain ⟨hl, hL, hG⟩ := id hs
  have l0 : i + 6 ≤ M 58 (-1) := by omega
  have g1 : xG (M 58 (i + 1)) := hG (i + 1) (by omega) (by omega)
  simp (disch := first | assumption | decide +kernel | exact hM _ _ | exact hL _ | exact xG_b | exact xG_bt _ _ | omega) only [w132_574, w132_575, w132_576, w132_577, w132_578, w132_579, w132_580, Int.reduceAdd, xup_twice, true_implies, false_implies, not_true_eq_false, not_false_eq_true, and_true, true_and, Int.reduceEq, Int.reduceLE, Int.reduceLT, Int.reduceNeg, xb_eq0, xb_eq1, xup_ne, xup_self, xup_k, xjl_i, xjl_r, xjl_j, xjl_l, Option.toList_some, Option.toList_none, List.cons_append, List.nil_append, xr_0_0, xr_0_1, xr_0_2, xr_0_3, xr_0_4, xr_0_5, xr_0_6, xr_0_7, xr_1_0, xr_1_1, xr_4_5, xr_4_6, xr_4_7, xr_4_8, xr_8_0, xr_10_5, xr_10_6, xr_10_7, xr_10_8, xr_14_0, xr_16_0, xr_16_1, xr_16_2, xr_20_0, xr_21_0, xr_21_1, xr_22_0, xr_24_0, xr_26_0, xr_26_1, xr_26_2, xr_30_0, xr_30_1, xr_30_2, xr_30_3, xr_30_4, xr_30_5, xr_30_6, xr_30_7, xr_31_0, xr_39_0, xr_39_1, xr_39_2, xr_42_0, xr_42_2, xr_42_3, xr_42_4, xr_42_5, xr_42_6, xr_42_8, xr_42_10, xr_42_13, xr_42_14, xr_42_15, xr_42_16, xr_42_23, xr_42_24, xr_42_25]
  refine Wc.mono (st_places g1 hR).k58 (fun r M1 h1 => ?_)
  obtain ⟨⟨a, rfl, hW⟩, e58⟩ := h1
  have l1 : i + 6 ≤ M1 58 (-1) := by rw [e58]; exact l0
  simp (disch := first | assumption | decide +kernel | exact hM _ _ | exact hL _ | exact xG_b | exact xG_bt _ _ | omega) only [w132_583, w132_584, w132_585, w132_586, w132_587, w132_588, w132_589, Int.reduceAdd, xup_twice, true_implies, false_implies, not_true_eq_false, not_false_eq_true, and_true, true_and, Int.reduceEq, Int.reduceLE, Int.reduceLT, Int.reduceNeg, xb_eq0, xb_eq1, xup_ne, xup_self, xup_k, xjl_i, xjl_r, xjl_j, xjl_l, Option.toList_some, Option.toList_none, List.cons_append, List.nil_append, xr_0_0, xr_0_1, xr_0_2, xr_0_3, xr_0_4, xr_0_5, xr_0_6, xr_0_7, xr_1_0, xr_1_1, xr_4_5, xr_4_6, xr_4_7, xr_4_8, xr_8_0, xr_10_5, xr_10_6, xr_10_7, xr_10_8, xr_14_0, xr_16_0, xr_16_1, xr_16_2, xr_20_0, xr_21_0, xr_21_1, xr_22_0, xr_24_0, xr_26_0, xr_26_1, xr_26_2, xr_30_0, xr_30_1, xr_30_2, xr_30_3, xr_30_4, xr_30_5, xr_30_6, xr_30_7, xr_31_0, xr_39_0, xr_39_1, xr_39_2, xr_42_0, xr_42_2, xr_42_3, xr_42_4, xr_42_5, xr_42_6, xr_42_8, xr_42_10, xr_42_13, xr_42_14, xr_42_15, xr_42_16, xr_42_23, xr_42_24, xr_42_25, e58]
  refine Wc.mono hW.k58 (fun r' M2 h2 => ?_)
  obtain ⟨⟨rfl, hR2⟩, e2⟩ := h2
  show Wp 132 592 [xr 58, xr 0, xr 42, xi i] [xi a, xi a] M2 Q
  rw [wp_same (t := 933) (n := 595) rfl]
  exact hQ M2 hR2 (e2.trans e58)
set_option maxRecDepth 20000 in
theorem law_came {L : Int} (hR : RR M) (hs : sOk M L) (h0 : 0 ≤ i) (h6 : i + 6 ≤ L) (hQ : ∀ M', RR M' → M' 58 = M 58 → Wp 132 933 [xr 58, xr 0, xr 42, xi i] [] M' Q) : Wp 132 597 [xr 58, xr 0, xr 42, xi i] [] M Q := by
  obtain ⟨hl, hL, hG⟩ := id hs
  have l0 : i + 6 ≤ M 58 (-1) := by omega
  have g1 : xG (M 58 (i + 1)) := hG (i + 1) (by omega) (by omega)
  have g2 : xG (M 58 (i + 2)) := hG (i + 2) (by omega) (by omega)
  have g3 : xG (M 58 (i + 3)) := hG (i + 3) (by omega) (by omega)
  have back : ∀ (d : Int) (M1 : xM), d = 0 ∨ d = 1 → (M 58 (i + 3) = 0 → d = 0) → (¬ M 58 (i + 3) = 0 → d = 1) → M1 58 = M 58 → ∀ a : Int, Wc 121 [xr 42, xi (M 58 (i + 1)), xi (M 58 (i + 2)), xi d] M1 (fun r' M2 => r' = some (xi a) ∧ RR M2) → Wp 132 624 [xr 58, xr 0, xr 42, xi i] [xi a] M1 Q := fun d M1 hd hd0 hd1 e58 a hW => by
    have l1 : i + 6 ≤ M1 58 (-1) := by rw [e58]; exact l0
    have last : Wp 132 648 [xr 58, xr 0, xr 42, xi i] [xi d, xi (M 58 (i + 2)), xi (M 58 (i + 1)), xr 42, xi a] M1 Q := by
      simp (disch := first | assumption | decide +kernel | exact hM _ _ | exact hL _ | exact xG_b | exact xG_bt _ _ | omega) only [w132_648, Int.reduceAdd, xup_twice, true_implies, false_implies, not_true_eq_false, not_false_eq_true, and_true, true_and, Int.reduceEq, Int.reduceLE, Int.reduceLT, Int.reduceNeg, xb_eq0, xb_eq1, xup_ne, xup_self, xup_k, xjl_i, xjl_r, xjl_j, xjl_l, Option.toList_some, Option.toList_none, List.cons_append, List.nil_append, xr_0_0, xr_0_1, xr_0_2, xr_0_3, xr_0_4, xr_0_5, xr_0_6, xr_0_7, xr_1_0, xr_1_1, xr_4_5, xr_4_6, xr_4_7, xr_4_8, xr_8_0, xr_10_5, xr_10_6, xr_10_7, xr_10_8, xr_14_0, xr_16_0, xr_16_1, xr_16_2, xr_20_0, xr_21_0, xr_21_1, xr_22_0, xr_24_0, xr_26_0, xr_26_1, xr_26_2, xr_30_0, xr_30_1, xr_30_2, xr_30_3, xr_30_4, xr_30_5, xr_30_6, xr_30_7, xr_31_0, xr_39_0, xr_39_1, xr_39_2, xr_42_0, xr_42_2, xr_42_3, xr_42_4, xr_42_5, xr_42_6, xr_42_8, xr_42_10, xr_42_13, xr_42_14, xr_42_15, xr_42_16, xr_42_23, xr_42_24, xr_42_25]
      refine Wc.mono hW.k58 (fun r' M2 h2 => ?_)
      obtain ⟨⟨rfl, hR2⟩, e2⟩ := h2
      show Wp 132 651 [xr 58, xr 0, xr 42, xi i] [xi a, xi a] M2 Q
      rw [wp_same (t := 933) (n := 654) rfl]
      exact hQ M2 hR2 (e2.trans e58)
    simp (disch := first | assumption | decide +kernel | exact hM _ _ | exact hL _ | exact xG_b | exact xG_bt _ _ | omega) only [w132_624, w132_625, w132_626, w132_627, w132_628, w132_629, w132_630, w132_631, w132_632, w132_633, w132_634, w132_635, w132_636, w132_637, w132_638, w132_639, Int.reduceAdd, xup_twice, true_implies, false_implies, not_true_eq_false, not_false_eq_true, and_true, true_and, Int.reduceEq, Int.reduceLE, Int.reduceLT, Int.reduceNeg, xb_eq0, xb_eq1, xup_ne, xup_self, xup_k, xjl_i, xjl_r, xjl_j, xjl_l, Option.toList_some, Option.toList_none, List.cons_append, List.nil_append, xr_0_0, xr_0_1, xr_0_2, xr_0_3, xr_0_4, xr_0_5, xr_0_6, xr_0_7, xr_1_0, xr_1_1, xr_4_5, xr_4_6, xr_4_7, xr_4_8, xr_8_0, xr_10_5, xr_10_6, xr_10_7, xr_10_8, xr_14_0, xr_16_0, xr_16_1, xr_16_2, xr_20_0, xr_21_0, xr_21_1, xr_22_0, xr_24_0, xr_26_0, xr_26_1, xr_26_2, xr_30_0, xr_30_1, xr_30_2, xr_30_3, xr_30_4, xr_30_5, xr_30_6, xr_30_7, xr_31_0, xr_39_0, xr_39_1, xr_39_2, xr_42_0, xr_42_2, xr_42_3, xr_42_4, xr_42_5, xr_42_6, xr_42_8, xr_42_10, xr_42_13, xr_42_14, xr_42_15, xr_42_16, xr_42_23, xr_42_24, xr_42_25, e58]
    simp (disch := first | assumption | decide +kernel | exact hM _ _ | exact hL _ | exact xG_b | exact xG_bt _ _ | omega) only [w132_640, Int.reduceAdd, xup_twice, true_implies, false_implies, not_true_eq_false, not_false_eq_true, and_true, true_and, Int.reduceEq, Int.reduceLE, Int.reduceLT, Int.reduceNeg, xb_eq0, xb_eq1, xup_ne, xup_self, xup_k, xjl_i, xjl_r, xjl_j, xjl_l, Option.toList_some, Option.toList_none, List.cons_append, List.nil_append, xr_0_0, xr_0_1, xr_0_2, xr_0_3, xr_0_4, xr_0_5, xr_0_6, xr_0_7, xr_1_0, xr_1_1, xr_4_5, xr_4_6, xr_4_7, xr_4_8, xr_8_0, xr_10_5, xr_10_6, xr_10_7, xr_10_8, xr_14_0, xr_16_0, xr_16_1, xr_16_2, xr_20_0, xr_21_0, xr_21_1, xr_22_0, xr_24_0, xr_26_0, xr_26_1, xr_26_2, xr_30_0, xr_30_1, xr_30_2, xr_30_3, xr_30_4, xr_30_5, xr_30_6, xr_30_7, xr_31_0, xr_39_0, xr_39_1, xr_39_2, xr_42_0, xr_42_2, xr_42_3, xr_42_4, xr_42_5, xr_42_6, xr_42_8, xr_42_10, xr_42_13, xr_42_14, xr_42_15, xr_42_16, xr_42_23, xr_42_24, xr_42_25]
    refine ⟨fun h => ?_, fun h => ?_⟩
    · simp (disch := first | assumption | decide +kernel | exact hM _ _ | exact hL _ | exact xG_b | exact xG_bt _ _ | omega) only [w132_647, Int.reduceAdd, xup_twice, true_implies, false_implies, not_true_eq_false, not_false_eq_true, and_true, true_and, Int.reduceEq, Int.reduceLE, Int.reduceLT, Int.reduceNeg, xb_eq0, xb_eq1, xup_ne, xup_self, xup_k, xjl_i, xjl_r, xjl_j, xjl_l, Option.toList_some, Option.toList_none, List.cons_append, List.nil_append, xr_0_0, xr_0_1, xr_0_2, xr_0_3, xr_0_4, xr_0_5, xr_0_6, xr_0_7, xr_1_0, xr_1_1, xr_4_5, xr_4_6, xr_4_7, xr_4_8, xr_8_0, xr_10_5, xr_10_6, xr_10_7, xr_10_8, xr_14_0, xr_16_0, xr_16_1, xr_16_2, xr_20_0, xr_21_0, xr_21_1, xr_22_0, xr_24_0, xr_26_0, xr_26_1, xr_26_2, xr_30_0, xr_30_1, xr_30_2, xr_30_3, xr_30_4, xr_30_5, xr_30_6, xr_30_7, xr_31_0, xr_39_0, xr_39_1, xr_39_2, xr_42_0, xr_42_2, xr_42_3, xr_42_4, xr_42_5, xr_42_6, xr_42_8, xr_42_10, xr_42_13, xr_42_14, xr_42_15, xr_42_16, xr_42_23, xr_42_24, xr_42_25]
      rw [hd0 h] at last
      exact last
    · simp (disch := first | assumption | decide +kernel | exact hM _ _ | exact hL _ | exact xG_b | exact xG_bt _ _ | omega) only [w132_643, w132_644, Int.reduceAdd, xup_twice, true_implies, false_implies, not_true_eq_false, not_false_eq_true, and_true, true_and, Int.reduceEq, Int.reduceLE, Int.reduceLT, Int.reduceNeg, xb_eq0, xb_eq1, xup_ne, xup_self, xup_k, xjl_i, xjl_r, xjl_j, xjl_l, Option.toList_some, Option.toList_none, List.cons_append, List.nil_append, xr_0_0, xr_0_1, xr_0_2, xr_0_3, xr_0_4, xr_0_5, xr_0_6, xr_0_7, xr_1_0, xr_1_1, xr_4_5, xr_4_6, xr_4_7, xr_4_8, xr_8_0, xr_10_5, xr_10_6, xr_10_7, xr_10_8, xr_14_0, xr_16_0, xr_16_1, xr_16_2, xr_20_0, xr_21_0, xr_21_1, xr_22_0, xr_24_0, xr_26_0, xr_26_1, xr_26_2, xr_30_0, xr_30_1, xr_30_2, xr_30_3, xr_30_4, xr_30_5, xr_30_6, xr_30_7, xr_31_0, xr_39_0, xr_39_1, xr_39_2, xr_42_0, xr_42_2, xr_42_3, xr_42_4, xr_42_5, xr_42_6, xr_42_8, xr_42_10, xr_42_13, xr_42_14, xr_42_15, xr_42_16, xr_42_23, xr_42_24, xr_42_25]
      rw [hd1 h] at last
      exact last
  simp (disch := first | assumption | decide +kernel | exact hM _ _ | exact hL _ | exact xG_b | exact xG_bt _ _ | omega) only [w132_597, w132_598, w132_599, w132_600, w132_601, w132_602, w132_603, w132_604, w132_605, w132_606, w132_607, w132_608, w132_609, w132_610, w132_611, w132_612, w132_613, Int.reduceAdd, xup_twice, true_implies, false_implies, not_true_eq_false, not_false_eq_true, and_true, true_and, Int.reduceEq, Int.reduceLE, Int.reduceLT, Int.reduceNeg, xb_eq0, xb_eq1, xup_ne, xup_self, xup_k, xjl_i, xjl_r, xjl_j, xjl_l, Option.toList_some, Option.toList_none, List.cons_append, List.nil_append, xr_0_0, xr_0_1, xr_0_2, xr_0_3, xr_0_4, xr_0_5, xr_0_6, xr_0_7, xr_1_0, xr_1_1, xr_4_5, xr_4_6, xr_4_7, xr_4_8, xr_8_0, xr_10_5, xr_10_6, xr_10_7, xr_10_8, xr_14_0, xr_16_0, xr_16_1, xr_16_2, xr_20_0, xr_21_0, xr_21_1, xr_22_0, xr_24_0, xr_26_0, xr_26_1, xr_26_2, xr_30_0, xr_30_1, xr_30_2, xr_30_3, xr_30_4, xr_30_5, xr_30_6, xr_30_7, xr_31_0, xr_39_0, xr_39_1, xr_39_2, xr_42_0, xr_42_2, xr_42_3, xr_42_4, xr_42_5, xr_42_6, xr_42_8, xr_42_10, xr_42_13, xr_42_14, xr_42_15, xr_42_16, xr_42_23, xr_42_24, xr_42_25]
  refine ⟨fun h => ?_, fun h => ?_⟩
  · simp (disch := first | assumption | decide +kernel | exact hM _ _ | exact hL _ | exact xG_b | exact xG_bt _ _ | omega) only [w132_620, w132_621, Int.reduceAdd, xup_twice, true_implies, false_implies, not_true_eq_false, not_false_eq_true, and_true, true_and, Int.reduceEq, Int.reduceLE, Int.reduceLT, Int.reduceNeg, xb_eq0, xb_eq1, xup_ne, xup_self, xup_k, xjl_i, xjl_r, xjl_j, xjl_l, Option.toList_some, Option.toList_none, List.cons_append, List.nil_append, xr_0_0, xr_0_1, xr_0_2, xr_0_3, xr_0_4, xr_0_5, xr_0_6, xr_0_7, xr_1_0, xr_1_1, xr_4_5, xr_4_6, xr_4_7, xr_4_8, xr_8_0, xr_10_5, xr_10_6, xr_10_7, xr_10_8, xr_14_0, xr_16_0, xr_16_1, xr_16_2, xr_20_0, xr_21_0, xr_21_1, xr_22_0, xr_24_0, xr_26_0, xr_26_1, xr_26_2, xr_30_0, xr_30_1, xr_30_2, xr_30_3, xr_30_4, xr_30_5, xr_30_6, xr_30_7, xr_31_0, xr_39_0, xr_39_1, xr_39_2, xr_42_0, xr_42_2, xr_42_3, xr_42_4, xr_42_5, xr_42_6, xr_42_8, xr_42_10, xr_42_13, xr_42_14, xr_42_15, xr_42_16, xr_42_23, xr_42_24, xr_42_25]
    refine Wc.mono (st_came g1 g2 (Or.inl rfl) hR).k58 (fun r M1 h1 => ?_)
    obtain ⟨⟨a, rfl, hW⟩, e58⟩ := h1
    exact back 0 M1 (Or.inl rfl) (fun _ => rfl) (fun x => absurd h x) e58 a hW
  · simp (disch := first | assumption | decide +kernel | exact hM _ _ | exact hL _ | exact xG_b | exact xG_bt _ _ | omega) only [w132_616, w132_617, w132_621, Int.reduceAdd, xup_twice, true_implies, false_implies, not_true_eq_false, not_false_eq_true, and_true, true_and, Int.reduceEq, Int.reduceLE, Int.reduceLT, Int.reduceNeg, xb_eq0, xb_eq1, xup_ne, xup_self, xup_k, xjl_i, xjl_r, xjl_j, xjl_l, Option.toList_some, Option.toList_none, List.cons_append, List.nil_append, xr_0_0, xr_0_1, xr_0_2, xr_0_3, xr_0_4, xr_0_5, xr_0_6, xr_0_7, xr_1_0, xr_1_1, xr_4_5, xr_4_6, xr_4_7, xr_4_8, xr_8_0, xr_10_5, xr_10_6, xr_10_7, xr_10_8, xr_14_0, xr_16_0, xr_16_1, xr_16_2, xr_20_0, xr_21_0, xr_21_1, xr_22_0, xr_24_0, xr_26_0, xr_26_1, xr_26_2, xr_30_0, xr_30_1, xr_30_2, xr_30_3, xr_30_4, xr_30_5, xr_30_6, xr_30_7, xr_31_0, xr_39_0, xr_39_1, xr_39_2, xr_42_0, xr_42_2, xr_42_3, xr_42_4, xr_42_5, xr_42_6, xr_42_8, xr_42_10, xr_42_13, xr_42_14, xr_42_15, xr_42_16, xr_42_23, xr_42_24, xr_42_25]
    refine Wc.mono (st_came g1 g2 (Or.inr rfl) hR).k58 (fun r M1 h1 => ?_)
    obtain ⟨⟨a, rfl, hW⟩, e58⟩ := h1
    exact back 1 M1 (Or.inr rfl) (fun x => absurd x h) (fun _ => rfl) e58 a hW
set_option maxRecDepth 20000 in
theorem law_forget {L : Int} (hR : RR M) (hs : sOk M L) (h0 : 0 ≤ i) (h6 : i + 6 ≤ L) (hQ : ∀ M', RR M' → M' 58 = M 58 → Wp 132 933 [xr 58, xr 0, xr 42, xi i] [] M' Q) : Wp 132 656 [xr 58, xr 0, xr 42, xi i] [] M Q := by
  obtain ⟨hl, hL, hG⟩ := id hs
  have l0 : i + 6 ≤ M 58 (-1) := by omega
  simp (disch := first | assumption | decide +kernel | exact hM _ _ | exact hL _ | exact xG_b | exact xG_bt _ _ | omega) only [w132_656, w132_657, Int.reduceAdd, xup_twice, true_implies, false_implies, not_true_eq_false, not_false_eq_true, and_true, true_and, Int.reduceEq, Int.reduceLE, Int.reduceLT, Int.reduceNeg, xb_eq0, xb_eq1, xup_ne, xup_self, xup_k, xjl_i, xjl_r, xjl_j, xjl_l, Option.toList_some, Option.toList_none, List.cons_append, List.nil_append, xr_0_0, xr_0_1, xr_0_2, xr_0_3, xr_0_4, xr_0_5, xr_0_6, xr_0_7, xr_1_0, xr_1_1, xr_4_5, xr_4_6, xr_4_7, xr_4_8, xr_8_0, xr_10_5, xr_10_6, xr_10_7, xr_10_8, xr_14_0, xr_16_0, xr_16_1, xr_16_2, xr_20_0, xr_21_0, xr_21_1, xr_22_0, xr_24_0, xr_26_0, xr_26_1, xr_26_2, xr_30_0, xr_30_1, xr_30_2, xr_30_3, xr_30_4, xr_30_5, xr_30_6, xr_30_7, xr_31_0, xr_39_0, xr_39_1, xr_39_2, xr_42_0, xr_42_2, xr_42_3, xr_42_4, xr_42_5, xr_42_6, xr_42_8, xr_42_10, xr_42_13, xr_42_14, xr_42_15, xr_42_16, xr_42_23, xr_42_24, xr_42_25]
  refine Wc.mono (st_forget  hR).k58 (fun r M1 h1 => ?_)
  obtain ⟨⟨a, rfl, hW⟩, e58⟩ := h1
  have l1 : i + 6 ≤ M1 58 (-1) := by rw [e58]; exact l0
  simp (disch := first | assumption | decide +kernel | exact hM _ _ | exact hL _ | exact xG_b | exact xG_bt _ _ | omega) only [w132_660, w132_661, Int.reduceAdd, xup_twice, true_implies, false_implies, not_true_eq_false, not_false_eq_true, and_true, true_and, Int.reduceEq, Int.reduceLE, Int.reduceLT, Int.reduceNeg, xb_eq0, xb_eq1, xup_ne, xup_self, xup_k, xjl_i, xjl_r, xjl_j, xjl_l, Option.toList_some, Option.toList_none, List.cons_append, List.nil_append, xr_0_0, xr_0_1, xr_0_2, xr_0_3, xr_0_4, xr_0_5, xr_0_6, xr_0_7, xr_1_0, xr_1_1, xr_4_5, xr_4_6, xr_4_7, xr_4_8, xr_8_0, xr_10_5, xr_10_6, xr_10_7, xr_10_8, xr_14_0, xr_16_0, xr_16_1, xr_16_2, xr_20_0, xr_21_0, xr_21_1, xr_22_0, xr_24_0, xr_26_0, xr_26_1, xr_26_2, xr_30_0, xr_30_1, xr_30_2, xr_30_3, xr_30_4, xr_30_5, xr_30_6, xr_30_7, xr_31_0, xr_39_0, xr_39_1, xr_39_2, xr_42_0, xr_42_2, xr_42_3, xr_42_4, xr_42_5, xr_42_6, xr_42_8, xr_42_10, xr_42_13, xr_42_14, xr_42_15, xr_42_16, xr_42_23, xr_42_24, xr_42_25, e58]
  refine Wc.mono hW.k58 (fun r' M2 h2 => ?_)
  obtain ⟨⟨rfl, hR2⟩, e2⟩ := h2
  show Wp 132 664 [xr 58, xr 0, xr 42, xi i] [xi a, xi a] M2 Q
  rw [wp_same (t := 933) (n := 667) rfl]
  exact hQ M2 hR2 (e2.trans e58)
set_option maxRecDepth 20000 in
theorem law_fits {L : Int} (hR : RR M) (hs : sOk M L) (h0 : 0 ≤ i) (h6 : i + 6 ≤ L) (hQ : ∀ M', RR M' → M' 58 = M 58 → Wp 132 933 [xr 58, xr 0, xr 42, xi i] [] M' Q) : Wp 132 669 [xr 58, xr 0, xr 42, xi i] [] M Q := by
  obtain ⟨hl, hL, hG⟩ := id hs
  have l0 : i + 6 ≤ M 58 (-1) := by omega
  have g1 : xG (M 58 (i + 1)) := hG (i + 1) (by omega) (by omega)
  simp (disch := first | assumption | decide +kernel | exact hM _ _ | exact hL _ | exact xG_b | exact xG_bt _ _ | omega) only [w132_669, w132_670, w132_671, w132_672, w132_673, w132_674, w132_675, Int.reduceAdd, xup_twice, true_implies, false_implies, not_true_eq_false, not_false_eq_true, and_true, true_and, Int.reduceEq, Int.reduceLE, Int.reduceLT, Int.reduceNeg, xb_eq0, xb_eq1, xup_ne, xup_self, xup_k, xjl_i, xjl_r, xjl_j, xjl_l, Option.toList_some, Option.toList_none, List.cons_append, List.nil_append, xr_0_0, xr_0_1, xr_0_2, xr_0_3, xr_0_4, xr_0_5, xr_0_6, xr_0_7, xr_1_0, xr_1_1, xr_4_5, xr_4_6, xr_4_7, xr_4_8, xr_8_0, xr_10_5, xr_10_6, xr_10_7, xr_10_8, xr_14_0, xr_16_0, xr_16_1, xr_16_2, xr_20_0, xr_21_0, xr_21_1, xr_22_0, xr_24_0, xr_26_0, xr_26_1, xr_26_2, xr_30_0, xr_30_1, xr_30_2, xr_30_3, xr_30_4, xr_30_5, xr_30_6, xr_30_7, xr_31_0, xr_39_0, xr_39_1, xr_39_2, xr_42_0, xr_42_2, xr_42_3, xr_42_4, xr_42_5, xr_42_6, xr_42_8, xr_42_10, xr_42_13, xr_42_14, xr_42_15, xr_42_16, xr_42_23, xr_42_24, xr_42_25]
  refine Wc.mono (st_fits g1 hR).k58 (fun r M1 h1 => ?_)
  obtain ⟨⟨a, rfl, hW⟩, e58⟩ := h1
  have l1 : i + 6 ≤ M1 58 (-1) := by rw [e58]; exact l0
  simp (disch := first | assumption | decide +kernel | exact hM _ _ | exact hL _ | exact xG_b | exact xG_bt _ _ | omega) only [w132_678, w132_679, w132_680, w132_681, w132_682, w132_683, w132_684, Int.reduceAdd, xup_twice, true_implies, false_implies, not_true_eq_false, not_false_eq_true, and_true, true_and, Int.reduceEq, Int.reduceLE, Int.reduceLT, Int.reduceNeg, xb_eq0, xb_eq1, xup_ne, xup_self, xup_k, xjl_i, xjl_r, xjl_j, xjl_l, Option.toList_some, Option.toList_none, List.cons_append, List.nil_append, xr_0_0, xr_0_1, xr_0_2, xr_0_3, xr_0_4, xr_0_5, xr_0_6, xr_0_7, xr_1_0, xr_1_1, xr_4_5, xr_4_6, xr_4_7, xr_4_8, xr_8_0, xr_10_5, xr_10_6, xr_10_7, xr_10_8, xr_14_0, xr_16_0, xr_16_1, xr_16_2, xr_20_0, xr_21_0, xr_21_1, xr_22_0, xr_24_0, xr_26_0, xr_26_1, xr_26_2, xr_30_0, xr_30_1, xr_30_2, xr_30_3, xr_30_4, xr_30_5, xr_30_6, xr_30_7, xr_31_0, xr_39_0, xr_39_1, xr_39_2, xr_42_0, xr_42_2, xr_42_3, xr_42_4, xr_42_5, xr_42_6, xr_42_8, xr_42_10, xr_42_13, xr_42_14, xr_42_15, xr_42_16, xr_42_23, xr_42_24, xr_42_25, e58]
  refine Wc.mono hW.k58 (fun r' M2 h2 => ?_)
  obtain ⟨⟨rfl, hR2⟩, e2⟩ := h2
  show Wp 132 687 [xr 58, xr 0, xr 42, xi i] [xi a, xi a] M2 Q
  rw [wp_same (t := 933) (n := 690) rfl]
  exact hQ M2 hR2 (e2.trans e58)
set_option maxRecDepth 20000 in
theorem law_from {L : Int} (hR : RR M) (hs : sOk M L) (h0 : 0 ≤ i) (h6 : i + 6 ≤ L) (hQ : ∀ M', RR M' → M' 58 = M 58 → Wp 132 933 [xr 58, xr 0, xr 42, xi i] [] M' Q) : Wp 132 692 [xr 58, xr 0, xr 42, xi i] [] M Q := by
  obtain ⟨hl, hL, hG⟩ := id hs
  have l0 : i + 6 ≤ M 58 (-1) := by omega
  have g1 : xG (M 58 (i + 1)) := hG (i + 1) (by omega) (by omega)
  have g2 : xG (M 58 (i + 2)) := hG (i + 2) (by omega) (by omega)
  have g3 : xG (M 58 (i + 3)) := hG (i + 3) (by omega) (by omega)
  have g4 : xG (M 58 (i + 4)) := hG (i + 4) (by omega) (by omega)
  simp (disch := first | assumption | decide +kernel | exact hM _ _ | exact hL _ | exact xG_b | exact xG_bt _ _ | omega) only [w132_692, w132_693, w132_694, w132_695, w132_696, w132_697, w132_698, w132_699, w132_700, w132_701, w132_702, w132_703, w132_704, w132_705, w132_706, w132_707, w132_708, w132_709, w132_710, w132_711, w132_712, w132_713, Int.reduceAdd, xup_twice, true_implies, false_implies, not_true_eq_false, not_false_eq_true, and_true, true_and, Int.reduceEq, Int.reduceLE, Int.reduceLT, Int.reduceNeg, xb_eq0, xb_eq1, xup_ne, xup_self, xup_k, xjl_i, xjl_r, xjl_j, xjl_l, Option.toList_some, Option.toList_none, List.cons_append, List.nil_append, xr_0_0, xr_0_1, xr_0_2, xr_0_3, xr_0_4, xr_0_5, xr_0_6, xr_0_7, xr_1_0, xr_1_1, xr_4_5, xr_4_6, xr_4_7, xr_4_8, xr_8_0, xr_10_5, xr_10_6, xr_10_7, xr_10_8, xr_14_0, xr_16_0, xr_16_1, xr_16_2, xr_20_0, xr_21_0, xr_21_1, xr_22_0, xr_24_0, xr_26_0, xr_26_1, xr_26_2, xr_30_0, xr_30_1, xr_30_2, xr_30_3, xr_30_4, xr_30_5, xr_30_6, xr_30_7, xr_31_0, xr_39_0, xr_39_1, xr_39_2, xr_42_0, xr_42_2, xr_42_3, xr_42_4, xr_42_5, xr_42_6, xr_42_8, xr_42_10, xr_42_13, xr_42_14, xr_42_15, xr_42_16, xr_42_23, xr_42_24, xr_42_25]
  refine Wc.mono (st_from g1 g2 g3 g4 hR).k58 (fun r M1 h1 => ?_)
  obtain ⟨⟨a, rfl, hW⟩, e58⟩ := h1
  have l1 : i + 6 ≤ M1 58 (-1) := by rw [e58]; exact l0
  simp (disch := first | assumption | decide +kernel | exact hM _ _ | exact hL _ | exact xG_b | exact xG_bt _ _ | omega) only [w132_716, w132_717, w132_718, w132_719, w132_720, w132_721, w132_722, w132_723, w132_724, w132_725, w132_726, w132_727, w132_728, w132_729, w132_730, w132_731, w132_732, w132_733, w132_734, w132_735, w132_736, w132_737, Int.reduceAdd, xup_twice, true_implies, false_implies, not_true_eq_false, not_false_eq_true, and_true, true_and, Int.reduceEq, Int.reduceLE, Int.reduceLT, Int.reduceNeg, xb_eq0, xb_eq1, xup_ne, xup_self, xup_k, xjl_i, xjl_r, xjl_j, xjl_l, Option.toList_some, Option.toList_none, List.cons_append, List.nil_append, xr_0_0, xr_0_1, xr_0_2, xr_0_3, xr_0_4, xr_0_5, xr_0_6, xr_0_7, xr_1_0, xr_1_1, xr_4_5, xr_4_6, xr_4_7, xr_4_8, xr_8_0, xr_10_5, xr_10_6, xr_10_7, xr_10_8, xr_14_0, xr_16_0, xr_16_1, xr_16_2, xr_20_0, xr_21_0, xr_21_1, xr_22_0, xr_24_0, xr_26_0, xr_26_1, xr_26_2, xr_30_0, xr_30_1, xr_30_2, xr_30_3, xr_30_4, xr_30_5, xr_30_6, xr_30_7, xr_31_0, xr_39_0, xr_39_1, xr_39_2, xr_42_0, xr_42_2, xr_42_3, xr_42_4, xr_42_5, xr_42_6, xr_42_8, xr_42_10, xr_42_13, xr_42_14, xr_42_15, xr_42_16, xr_42_23, xr_42_24, xr_42_25, e58]
  refine Wc.mono hW.k58 (fun r' M2 h2 => ?_)
  obtain ⟨⟨rfl, hR2⟩, e2⟩ := h2
  show Wp 132 740 [xr 58, xr 0, xr 42, xi i] [xi a, xi a] M2 Q
  rw [wp_same (t := 933) (n := 743) rfl]
  exact hQ M2 hR2 (e2.trans e58)
set_option maxRecDepth 20000 in
theorem law_clocks {L : Int} (hR : RR M) (hs : sOk M L) (h0 : 0 ≤ i) (h6 : i + 6 ≤ L) (hQ : ∀ M', RR M' → M' 58 = M 58 → Wp 132 933 [xr 58, xr 0, xr 42, xi i] [] M' Q) : Wp 132 745 [xr 58, xr 0, xr 42, xi i] [] M Q := by
  obtain ⟨hl, hL, hG⟩ := id hs
  have l0 : i + 6 ≤ M 58 (-1) := by omega
  have g1 : xG (M 58 (i + 1)) := hG (i + 1) (by omega) (by omega)
  have g2 : xG (M 58 (i + 2)) := hG (i + 2) (by omega) (by omega)
  have g3 : xG (M 58 (i + 3)) := hG (i + 3) (by omega) (by omega)
  simp (disch := first | assumption | decide +kernel | exact hM _ _ | exact hL _ | exact xG_b | exact xG_bt _ _ | omega) only [w132_745, w132_746, w132_747, w132_748, w132_749, w132_750, w132_751, w132_752, w132_753, w132_754, w132_755, w132_756, w132_757, w132_758, w132_759, w132_760, w132_761, Int.reduceAdd, xup_twice, true_implies, false_implies, not_true_eq_false, not_false_eq_true, and_true, true_and, Int.reduceEq, Int.reduceLE, Int.reduceLT, Int.reduceNeg, xb_eq0, xb_eq1, xup_ne, xup_self, xup_k, xjl_i, xjl_r, xjl_j, xjl_l, Option.toList_some, Option.toList_none, List.cons_append, List.nil_append, xr_0_0, xr_0_1, xr_0_2, xr_0_3, xr_0_4, xr_0_5, xr_0_6, xr_0_7, xr_1_0, xr_1_1, xr_4_5, xr_4_6, xr_4_7, xr_4_8, xr_8_0, xr_10_5, xr_10_6, xr_10_7, xr_10_8, xr_14_0, xr_16_0, xr_16_1, xr_16_2, xr_20_0, xr_21_0, xr_21_1, xr_22_0, xr_24_0, xr_26_0, xr_26_1, xr_26_2, xr_30_0, xr_30_1, xr_30_2, xr_30_3, xr_30_4, xr_30_5, xr_30_6, xr_30_7, xr_31_0, xr_39_0, xr_39_1, xr_39_2, xr_42_0, xr_42_2, xr_42_3, xr_42_4, xr_42_5, xr_42_6, xr_42_8, xr_42_10, xr_42_13, xr_42_14, xr_42_15, xr_42_16, xr_42_23, xr_42_24, xr_42_25]
  refine Wc.mono (st_clocks g1 g2 g3 hR).k58 (fun r M1 h1 => ?_)
  obtain ⟨⟨a, rfl, hW⟩, e58⟩ := h1
  have l1 : i + 6 ≤ M1 58 (-1) := by rw [e58]; exact l0
  simp (disch := first | assumption | decide +kernel | exact hM _ _ | exact hL _ | exact xG_b | exact xG_bt _ _ | omega) only [w132_764, w132_765, w132_766, w132_767, w132_768, w132_769, w132_770, w132_771, w132_772, w132_773, w132_774, w132_775, w132_776, w132_777, w132_778, w132_779, w132_780, Int.reduceAdd, xup_twice, true_implies, false_implies, not_true_eq_false, not_false_eq_true, and_true, true_and, Int.reduceEq, Int.reduceLE, Int.reduceLT, Int.reduceNeg, xb_eq0, xb_eq1, xup_ne, xup_self, xup_k, xjl_i, xjl_r, xjl_j, xjl_l, Option.toList_some, Option.toList_none, List.cons_append, List.nil_append, xr_0_0, xr_0_1, xr_0_2, xr_0_3, xr_0_4, xr_0_5, xr_0_6, xr_0_7, xr_1_0, xr_1_1, xr_4_5, xr_4_6, xr_4_7, xr_4_8, xr_8_0, xr_10_5, xr_10_6, xr_10_7, xr_10_8, xr_14_0, xr_16_0, xr_16_1, xr_16_2, xr_20_0, xr_21_0, xr_21_1, xr_22_0, xr_24_0, xr_26_0, xr_26_1, xr_26_2, xr_30_0, xr_30_1, xr_30_2, xr_30_3, xr_30_4, xr_30_5, xr_30_6, xr_30_7, xr_31_0, xr_39_0, xr_39_1, xr_39_2, xr_42_0, xr_42_2, xr_42_3, xr_42_4, xr_42_5, xr_42_6, xr_42_8, xr_42_10, xr_42_13, xr_42_14, xr_42_15, xr_42_16, xr_42_23, xr_42_24, xr_42_25, e58]
  refine Wc.mono hW.k58 (fun r' M2 h2 => ?_)
  obtain ⟨⟨rfl, hR2⟩, e2⟩ := h2
  show Wp 132 783 [xr 58, xr 0, xr 42, xi i] [xi a, xi a] M2 Q
  rw [wp_same (t := 933) (n := 786) rfl]
  exact hQ M2 hR2 (e2.trans e58)
set_option maxRecDepth 20000 in
theorem law_floods {L : Int} (hR : RR M) (hs : sOk M L) (h0 : 0 ≤ i) (h6 : i + 6 ≤ L) (hQ : ∀ M', RR M' → M' 58 = M 58 → Wp 132 933 [xr 58, xr 0, xr 42, xi i] [] M' Q) : Wp 132 788 [xr 58, xr 0, xr 42, xi i] [] M Q := by
  obtain ⟨hl, hL, hG⟩ := id hs
  have l0 : i + 6 ≤ M 58 (-1) := by omega
  have g1 : xG (M 58 (i + 1)) := hG (i + 1) (by omega) (by omega)
  have g2 : xG (M 58 (i + 2)) := hG (i + 2) (by omega) (by omega)
  have g3 : xG (M 58 (i + 3)) := hG (i + 3) (by omega) (by omega)
  have g4 : xG (M 58 (i + 4)) := hG (i + 4) (by omega) (by omega)
  have g5 : xG (M 58 (i + 5)) := hG (i + 5) (by omega) (by omega)
  simp (disch := first | assumption | decide +kernel | exact hM _ _ | exact hL _ | exact xG_b | exact xG_bt _ _ | omega) only [w132_788, w132_789, w132_790, w132_791, w132_792, w132_793, w132_794, w132_795, w132_796, w132_797, w132_798, w132_799, w132_800, w132_801, w132_802, w132_803, w132_804, w132_805, w132_806, w132_807, w132_808, w132_809, w132_810, w132_811, w132_812, w132_813, w132_814, Int.reduceAdd, xup_twice, true_implies, false_implies, not_true_eq_false, not_false_eq_true, and_true, true_and, Int.reduceEq, Int.reduceLE, Int.reduceLT, Int.reduceNeg, xb_eq0, xb_eq1, xup_ne, xup_self, xup_k, xjl_i, xjl_r, xjl_j, xjl_l, Option.toList_some, Option.toList_none, List.cons_append, List.nil_append, xr_0_0, xr_0_1, xr_0_2, xr_0_3, xr_0_4, xr_0_5, xr_0_6, xr_0_7, xr_1_0, xr_1_1, xr_4_5, xr_4_6, xr_4_7, xr_4_8, xr_8_0, xr_10_5, xr_10_6, xr_10_7, xr_10_8, xr_14_0, xr_16_0, xr_16_1, xr_16_2, xr_20_0, xr_21_0, xr_21_1, xr_22_0, xr_24_0, xr_26_0, xr_26_1, xr_26_2, xr_30_0, xr_30_1, xr_30_2, xr_30_3, xr_30_4, xr_30_5, xr_30_6, xr_30_7, xr_31_0, xr_39_0, xr_39_1, xr_39_2, xr_42_0, xr_42_2, xr_42_3, xr_42_4, xr_42_5, xr_42_6, xr_42_8, xr_42_10, xr_42_13, xr_42_14, xr_42_15, xr_42_16, xr_42_23, xr_42_24, xr_42_25]
  refine Wc.mono (st_floods g1 g2 g3 g4 g5 hR).k58 (fun r M1 h1 => ?_)
  obtain ⟨⟨a, rfl, hW⟩, e58⟩ := h1
  have l1 : i + 6 ≤ M1 58 (-1) := by rw [e58]; exact l0
  simp (disch := first | assumption | decide +kernel | exact hM _ _ | exact hL _ | exact xG_b | exact xG_bt _ _ | omega) only [w132_817, w132_818, w132_819, w132_820, w132_821, w132_822, w132_823, w132_824, w132_825, w132_826, w132_827, w132_828, w132_829, w132_830, w132_831, w132_832, w132_833, w132_834, w132_835, w132_836, w132_837, w132_838, w132_839, w132_840, w132_841, w132_842, w132_843, Int.reduceAdd, xup_twice, true_implies, false_implies, not_true_eq_false, not_false_eq_true, and_true, true_and, Int.reduceEq, Int.reduceLE, Int.reduceLT, Int.reduceNeg, xb_eq0, xb_eq1, xup_ne, xup_self, xup_k, xjl_i, xjl_r, xjl_j, xjl_l, Option.toList_some, Option.toList_none, List.cons_append, List.nil_append, xr_0_0, xr_0_1, xr_0_2, xr_0_3, xr_0_4, xr_0_5, xr_0_6, xr_0_7, xr_1_0, xr_1_1, xr_4_5, xr_4_6, xr_4_7, xr_4_8, xr_8_0, xr_10_5, xr_10_6, xr_10_7, xr_10_8, xr_14_0, xr_16_0, xr_16_1, xr_16_2, xr_20_0, xr_21_0, xr_21_1, xr_22_0, xr_24_0, xr_26_0, xr_26_1, xr_26_2, xr_30_0, xr_30_1, xr_30_2, xr_30_3, xr_30_4, xr_30_5, xr_30_6, xr_30_7, xr_31_0, xr_39_0, xr_39_1, xr_39_2, xr_42_0, xr_42_2, xr_42_3, xr_42_4, xr_42_5, xr_42_6, xr_42_8, xr_42_10, xr_42_13, xr_42_14, xr_42_15, xr_42_16, xr_42_23, xr_42_24, xr_42_25, e58]
  refine Wc.mono hW.k58 (fun r' M2 h2 => ?_)
  obtain ⟨⟨rfl, hR2⟩, e2⟩ := h2
  show Wp 132 846 [xr 58, xr 0, xr 42, xi i] [xi a, xi a] M2 Q
  rw [wp_same (t := 933) (n := 849) rfl]
  exact hQ M2 hR2 (e2.trans e58)
set_option maxRecDepth 20000 in
theorem law_day {L : Int} (hR : RR M) (hs : sOk M L) (h0 : 0 ≤ i) (h6 : i + 6 ≤ L) (hQ : ∀ M', RR M' → M' 58 = M 58 → Wp 132 933 [xr 58, xr 0, xr 42, xi i] [] M' Q) : Wp 132 851 [xr 58, xr 0, xr 42, xi i] [] M Q := by
  obtain ⟨hl, hL, hG⟩ := id hs
  have l0 : i + 6 ≤ M 58 (-1) := by omega
  have g1 : xG (M 58 (i + 1)) := hG (i + 1) (by omega) (by omega)
  have g2 : xG (M 58 (i + 2)) := hG (i + 2) (by omega) (by omega)
  simp (disch := first | assumption | decide +kernel | exact hM _ _ | exact hL _ | exact xG_b | exact xG_bt _ _ | omega) only [w132_851, w132_852, w132_853, w132_854, w132_855, w132_856, w132_857, w132_858, w132_859, w132_860, w132_861, w132_862, Int.reduceAdd, xup_twice, true_implies, false_implies, not_true_eq_false, not_false_eq_true, and_true, true_and, Int.reduceEq, Int.reduceLE, Int.reduceLT, Int.reduceNeg, xb_eq0, xb_eq1, xup_ne, xup_self, xup_k, xjl_i, xjl_r, xjl_j, xjl_l, Option.toList_some, Option.toList_none, List.cons_append, List.nil_append, xr_0_0, xr_0_1, xr_0_2, xr_0_3, xr_0_4, xr_0_5, xr_0_6, xr_0_7, xr_1_0, xr_1_1, xr_4_5, xr_4_6, xr_4_7, xr_4_8, xr_8_0, xr_10_5, xr_10_6, xr_10_7, xr_10_8, xr_14_0, xr_16_0, xr_16_1, xr_16_2, xr_20_0, xr_21_0, xr_21_1, xr_22_0, xr_24_0, xr_26_0, xr_26_1, xr_26_2, xr_30_0, xr_30_1, xr_30_2, xr_30_3, xr_30_4, xr_30_5, xr_30_6, xr_30_7, xr_31_0, xr_39_0, xr_39_1, xr_39_2, xr_42_0, xr_42_2, xr_42_3, xr_42_4, xr_42_5, xr_42_6, xr_42_8, xr_42_10, xr_42_13, xr_42_14, xr_42_15, xr_42_16, xr_42_23, xr_42_24, xr_42_25]
  refine Wc.mono (st_day g1 g2 hR).k58 (fun r M1 h1 => ?_)
  obtain ⟨⟨a, rfl, hW⟩, e58⟩ := h1
  have l1 : i + 6 ≤ M1 58 (-1) := by rw [e58]; exact l0
  simp (disch := first | assumption | decide +kernel | exact hM _ _ | exact hL _ | exact xG_b | exact xG_bt _ _ | omega) only [w132_865, w132_866, w132_867, w132_868, w132_869, w132_870, w132_871, w132_872, w132_873, w132_874, w132_875, w132_876, Int.reduceAdd, xup_twice, true_implies, false_implies, not_true_eq_false, not_false_eq_true, and_true, true_and, Int.reduceEq, Int.reduceLE, Int.reduceLT, Int.reduceNeg, xb_eq0, xb_eq1, xup_ne, xup_self, xup_k, xjl_i, xjl_r, xjl_j, xjl_l, Option.toList_some, Option.toList_none, List.cons_append, List.nil_append, xr_0_0, xr_0_1, xr_0_2, xr_0_3, xr_0_4, xr_0_5, xr_0_6, xr_0_7, xr_1_0, xr_1_1, xr_4_5, xr_4_6, xr_4_7, xr_4_8, xr_8_0, xr_10_5, xr_10_6, xr_10_7, xr_10_8, xr_14_0, xr_16_0, xr_16_1, xr_16_2, xr_20_0, xr_21_0, xr_21_1, xr_22_0, xr_24_0, xr_26_0, xr_26_1, xr_26_2, xr_30_0, xr_30_1, xr_30_2, xr_30_3, xr_30_4, xr_30_5, xr_30_6, xr_30_7, xr_31_0, xr_39_0, xr_39_1, xr_39_2, xr_42_0, xr_42_2, xr_42_3, xr_42_4, xr_42_5, xr_42_6, xr_42_8, xr_42_10, xr_42_13, xr_42_14, xr_42_15, xr_42_16, xr_42_23, xr_42_24, xr_42_25, e58]
  refine Wc.mono hW.k58 (fun r' M2 h2 => ?_)
  obtain ⟨⟨rfl, hR2⟩, e2⟩ := h2
  show Wp 132 879 [xr 58, xr 0, xr 42, xi i] [xi a, xi a] M2 Q
  rw [wp_same (t := 933) (n := 882) rfl]
  exact hQ M2 hR2 (e2.trans e58)
set_option maxRecDepth 20000 in
theorem law_keep {L : Int} (hR : RR M) (hs : sOk M L) (h0 : 0 ≤ i) (h6 : i + 6 ≤ L) (hQ : ∀ M', RR M' → M' 58 = M 58 → Wp 132 933 [xr 58, xr 0, xr 42, xi i] [] M' Q) : Wp 132 884 [xr 58, xr 0, xr 42, xi i] [] M Q := by
  obtain ⟨hl, hL, hG⟩ := id hs
  have l0 : i + 6 ≤ M 58 (-1) := by omega
  simp (disch := first | assumption | decide +kernel | exact hM _ _ | exact hL _ | exact xG_b | exact xG_bt _ _ | omega) only [w132_884, w132_885, Int.reduceAdd, xup_twice, true_implies, false_implies, not_true_eq_false, not_false_eq_true, and_true, true_and, Int.reduceEq, Int.reduceLE, Int.reduceLT, Int.reduceNeg, xb_eq0, xb_eq1, xup_ne, xup_self, xup_k, xjl_i, xjl_r, xjl_j, xjl_l, Option.toList_some, Option.toList_none, List.cons_append, List.nil_append, xr_0_0, xr_0_1, xr_0_2, xr_0_3, xr_0_4, xr_0_5, xr_0_6, xr_0_7, xr_1_0, xr_1_1, xr_4_5, xr_4_6, xr_4_7, xr_4_8, xr_8_0, xr_10_5, xr_10_6, xr_10_7, xr_10_8, xr_14_0, xr_16_0, xr_16_1, xr_16_2, xr_20_0, xr_21_0, xr_21_1, xr_22_0, xr_24_0, xr_26_0, xr_26_1, xr_26_2, xr_30_0, xr_30_1, xr_30_2, xr_30_3, xr_30_4, xr_30_5, xr_30_6, xr_30_7, xr_31_0, xr_39_0, xr_39_1, xr_39_2, xr_42_0, xr_42_2, xr_42_3, xr_42_4, xr_42_5, xr_42_6, xr_42_8, xr_42_10, xr_42_13, xr_42_14, xr_42_15, xr_42_16, xr_42_23, xr_42_24, xr_42_25]
  refine Wc.mono (st_keep  hR).k58 (fun r M1 h1 => ?_)
  obtain ⟨⟨a, rfl, hW⟩, e58⟩ := h1
  have l1 : i + 6 ≤ M1 58 (-1) := by rw [e58]; exact l0
  simp (disch := first | assumption | decide +kernel | exact hM _ _ | exact hL _ | exact xG_b | exact xG_bt _ _ | omega) only [w132_888, w132_889, Int.reduceAdd, xup_twice, true_implies, false_implies, not_true_eq_false, not_false_eq_true, and_true, true_and, Int.reduceEq, Int.reduceLE, Int.reduceLT, Int.reduceNeg, xb_eq0, xb_eq1, xup_ne, xup_self, xup_k, xjl_i, xjl_r, xjl_j, xjl_l, Option.toList_some, Option.toList_none, List.cons_append, List.nil_append, xr_0_0, xr_0_1, xr_0_2, xr_0_3, xr_0_4, xr_0_5, xr_0_6, xr_0_7, xr_1_0, xr_1_1, xr_4_5, xr_4_6, xr_4_7, xr_4_8, xr_8_0, xr_10_5, xr_10_6, xr_10_7, xr_10_8, xr_14_0, xr_16_0, xr_16_1, xr_16_2, xr_20_0, xr_21_0, xr_21_1, xr_22_0, xr_24_0, xr_26_0, xr_26_1, xr_26_2, xr_30_0, xr_30_1, xr_30_2, xr_30_3, xr_30_4, xr_30_5, xr_30_6, xr_30_7, xr_31_0, xr_39_0, xr_39_1, xr_39_2, xr_42_0, xr_42_2, xr_42_3, xr_42_4, xr_42_5, xr_42_6, xr_42_8, xr_42_10, xr_42_13, xr_42_14, xr_42_15, xr_42_16, xr_42_23, xr_42_24, xr_42_25, e58]
  refine Wc.mono hW.k58 (fun r' M2 h2 => ?_)
  obtain ⟨⟨rfl, hR2⟩, e2⟩ := h2
  show Wp 132 892 [xr 58, xr 0, xr 42, xi i] [xi a, xi a] M2 Q
  rw [wp_same (t := 933) (n := 895) rfl]
  exact hQ M2 hR2 (e2.trans e58)
set_option maxRecDepth 20000 in
theorem law_back {L : Int} (hR : RR M) (hs : sOk M L) (h0 : 0 ≤ i) (h6 : i + 6 ≤ L) (hQ : ∀ M', RR M' → M' 58 = M 58 → Wp 132 933 [xr 58, xr 0, xr 42, xi i] [] M' Q) : Wp 132 897 [xr 58, xr 0, xr 42, xi i] [] M Q := by
  obtain ⟨hl, hL, hG⟩ := id hs
  have l0 : i + 6 ≤ M 58 (-1) := by omega
  simp (disch := first | assumption | decide +kernel | exact hM _ _ | exact hL _ | exact xG_b | exact xG_bt _ _ | omega) only [w132_897, w132_898, Int.reduceAdd, xup_twice, true_implies, false_implies, not_true_eq_false, not_false_eq_true, and_true, true_and, Int.reduceEq, Int.reduceLE, Int.reduceLT, Int.reduceNeg, xb_eq0, xb_eq1, xup_ne, xup_self, xup_k, xjl_i, xjl_r, xjl_j, xjl_l, Option.toList_some, Option.toList_none, List.cons_append, List.nil_append, xr_0_0, xr_0_1, xr_0_2, xr_0_3, xr_0_4, xr_0_5, xr_0_6, xr_0_7, xr_1_0, xr_1_1, xr_4_5, xr_4_6, xr_4_7, xr_4_8, xr_8_0, xr_10_5, xr_10_6, xr_10_7, xr_10_8, xr_14_0, xr_16_0, xr_16_1, xr_16_2, xr_20_0, xr_21_0, xr_21_1, xr_22_0, xr_24_0, xr_26_0, xr_26_1, xr_26_2, xr_30_0, xr_30_1, xr_30_2, xr_30_3, xr_30_4, xr_30_5, xr_30_6, xr_30_7, xr_31_0, xr_39_0, xr_39_1, xr_39_2, xr_42_0, xr_42_2, xr_42_3, xr_42_4, xr_42_5, xr_42_6, xr_42_8, xr_42_10, xr_42_13, xr_42_14, xr_42_15, xr_42_16, xr_42_23, xr_42_24, xr_42_25]
  refine Wc.mono (st_back  hR).k58 (fun r M1 h1 => ?_)
  obtain ⟨⟨a, rfl, hW⟩, e58⟩ := h1
  have l1 : i + 6 ≤ M1 58 (-1) := by rw [e58]; exact l0
  simp (disch := first | assumption | decide +kernel | exact hM _ _ | exact hL _ | exact xG_b | exact xG_bt _ _ | omega) only [w132_901, w132_902, Int.reduceAdd, xup_twice, true_implies, false_implies, not_true_eq_false, not_false_eq_true, and_true, true_and, Int.reduceEq, Int.reduceLE, Int.reduceLT, Int.reduceNeg, xb_eq0, xb_eq1, xup_ne, xup_self, xup_k, xjl_i, xjl_r, xjl_j, xjl_l, Option.toList_some, Option.toList_none, List.cons_append, List.nil_append, xr_0_0, xr_0_1, xr_0_2, xr_0_3, xr_0_4, xr_0_5, xr_0_6, xr_0_7, xr_1_0, xr_1_1, xr_4_5, xr_4_6, xr_4_7, xr_4_8, xr_8_0, xr_10_5, xr_10_6, xr_10_7, xr_10_8, xr_14_0, xr_16_0, xr_16_1, xr_16_2, xr_20_0, xr_21_0, xr_21_1, xr_22_0, xr_24_0, xr_26_0, xr_26_1, xr_26_2, xr_30_0, xr_30_1, xr_30_2, xr_30_3, xr_30_4, xr_30_5, xr_30_6, xr_30_7, xr_31_0, xr_39_0, xr_39_1, xr_39_2, xr_42_0, xr_42_2, xr_42_3, xr_42_4, xr_42_5, xr_42_6, xr_42_8, xr_42_10, xr_42_13, xr_42_14, xr_42_15, xr_42_16, xr_42_23, xr_42_24, xr_42_25, e58]
  refine Wc.mono hW.k58 (fun r' M2 h2 => ?_)
  obtain ⟨⟨rfl, hR2⟩, e2⟩ := h2
  show Wp 132 905 [xr 58, xr 0, xr 42, xi i] [xi a, xi a] M2 Q
  rw [wp_same (t := 933) (n := 908) rfl]
  exact hQ M2 hR2 (e2.trans e58)
set_option maxRecDepth 20000 in
theorem law_count {L : Int} (hR : RR M) (hs : sOk M L) (h0 : 0 ≤ i) (h6 : i + 6 ≤ L) (hQ : ∀ M', RR M' → M' 58 = M 58 → Wp 132 933 [xr 58, xr 0, xr 42, xi i] [] M' Q) : Wp 132 910 [xr 58, xr 0, xr 42, xi i] [] M Q := by
  obtain ⟨hl, hL, hG⟩ := id hs
  have l0 : i + 6 ≤ M 58 (-1) := by omega
  have g1 : xG (M 58 (i + 1)) := hG (i + 1) (by omega) (by omega)
  simp (disch := first | assumption | decide +kernel | exact hM _ _ | exact hL _ | exact xG_b | exact xG_bt _ _ | omega) only [w132_910, w132_911, w132_912, w132_913, w132_914, w132_915, w132_916, Int.reduceAdd, xup_twice, true_implies, false_implies, not_true_eq_false, not_false_eq_true, and_true, true_and, Int.reduceEq, Int.reduceLE, Int.reduceLT, Int.reduceNeg, xb_eq0, xb_eq1, xup_ne, xup_self, xup_k, xjl_i, xjl_r, xjl_j, xjl_l, Option.toList_some, Option.toList_none, List.cons_append, List.nil_append, xr_0_0, xr_0_1, xr_0_2, xr_0_3, xr_0_4, xr_0_5, xr_0_6, xr_0_7, xr_1_0, xr_1_1, xr_4_5, xr_4_6, xr_4_7, xr_4_8, xr_8_0, xr_10_5, xr_10_6, xr_10_7, xr_10_8, xr_14_0, xr_16_0, xr_16_1, xr_16_2, xr_20_0, xr_21_0, xr_21_1, xr_22_0, xr_24_0, xr_26_0, xr_26_1, xr_26_2, xr_30_0, xr_30_1, xr_30_2, xr_30_3, xr_30_4, xr_30_5, xr_30_6, xr_30_7, xr_31_0, xr_39_0, xr_39_1, xr_39_2, xr_42_0, xr_42_2, xr_42_3, xr_42_4, xr_42_5, xr_42_6, xr_42_8, xr_42_10, xr_42_13, xr_42_14, xr_42_15, xr_42_16, xr_42_23, xr_42_24, xr_42_25]
  refine Wc.mono (st_count g1 hR).k58 (fun r M1 h1 => ?_)
  obtain ⟨⟨a, rfl, hW⟩, e58⟩ := h1
  have l1 : i + 6 ≤ M1 58 (-1) := by rw [e58]; exact l0
  simp (disch := first | assumption | decide +kernel | exact hM _ _ | exact hL _ | exact xG_b | exact xG_bt _ _ | omega) only [w132_919, w132_920, w132_921, w132_922, w132_923, w132_924, w132_925, Int.reduceAdd, xup_twice, true_implies, false_implies, not_true_eq_false, not_false_eq_true, and_true, true_and, Int.reduceEq, Int.reduceLE, Int.reduceLT, Int.reduceNeg, xb_eq0, xb_eq1, xup_ne, xup_self, xup_k, xjl_i, xjl_r, xjl_j, xjl_l, Option.toList_some, Option.toList_none, List.cons_append, List.nil_append, xr_0_0, xr_0_1, xr_0_2, xr_0_3, xr_0_4, xr_0_5, xr_0_6, xr_0_7, xr_1_0, xr_1_1, xr_4_5, xr_4_6, xr_4_7, xr_4_8, xr_8_0, xr_10_5, xr_10_6, xr_10_7, xr_10_8, xr_14_0, xr_16_0, xr_16_1, xr_16_2, xr_20_0, xr_21_0, xr_21_1, xr_22_0, xr_24_0, xr_26_0, xr_26_1, xr_26_2, xr_30_0, xr_30_1, xr_30_2, xr_30_3, xr_30_4, xr_30_5, xr_30_6, xr_30_7, xr_31_0, xr_39_0, xr_39_1, xr_39_2, xr_42_0, xr_42_2, xr_42_3, xr_42_4, xr_42_5, xr_42_6, xr_42_8, xr_42_10, xr_42_13, xr_42_14, xr_42_15, xr_42_16, xr_42_23, xr_42_24, xr_42_25, e58]
  refine Wc.mono hW.k58 (fun r' M2 h2 => ?_)
  obtain ⟨⟨rfl, hR2⟩, e2⟩ := h2
  show Wp 132 928 [xr 58, xr 0, xr 42, xi i] [xi a, xi a] M2 Q
  rw [wp_same (t := 933) (n := 931) rfl]
  exact hQ M2 hR2 (e2.trans e58)
theorem and31 (x : Int) : 0 ≤ xand x 31 ∧ xand x 31 ≤ 31 := by
  have key : ∀ y : Int32, 0 ≤ (y &&& 31).toInt ∧ (y &&& 31).toInt ≤ 31 := by
    intro y
    have h1 : (y &&& 31).toBitVec = y.toBitVec &&& 31#32 := rfl
    have h2 : (y &&& 31).toInt = (y.toBitVec &&& 31#32).toInt := by rw [← h1]; rfl
    rw [h2]
    have h3 : (y.toBitVec &&& 31#32).toNat ≤ 31 := by
      rw [BitVec.toNat_and]
      exact Nat.and_le_right
    rw [BitVec.toInt_eq_toNat_of_lt (by omega)]
    omega
  exact key (Int32.ofInt x)
/-- one call of the script, whichever it is -/
theorem law_one {L : Int} (hR : RR M) (hs : sOk M L) (h0 : 0 ≤ i) (h6 : i + 6 ≤ L) (hQ : ∀ M', RR M' → M' 58 = M 58 → Wp 132 933 [xr 58, xr 0, xr 42, xi i] [] M' Q) : Wp 132 27 [xr 58, xr 0, xr 42, xi i] [] M Q := by
  obtain ⟨hl, hL, hG⟩ := id hs
  have l0 : i + 6 ≤ M 58 (-1) := by omega
  have h31 := and31 (M 58 i)
  have g31 : xG (xand (M 58 i) 31) := xG_and _ _
  simp (disch := first | assumption | decide +kernel | exact hM _ _ | exact hL _ | exact xG_b | exact xG_bt _ _ | omega) only [w132_27, w132_28, w132_29, w132_30, w132_32, w132_33, Int.reduceAdd, xup_twice, true_implies, false_implies, not_true_eq_false, not_false_eq_true, and_true, true_and, Int.reduceEq, Int.reduceLE, Int.reduceLT, Int.reduceNeg, xb_eq0, xb_eq1, xup_ne, xup_self, xup_k, xjl_i, xjl_r, xjl_j, xjl_l, Option.toList_some, Option.toList_none, List.cons_append, List.nil_append, xr_0_0, xr_0_1, xr_0_2, xr_0_3, xr_0_4, xr_0_5, xr_0_6, xr_0_7, xr_1_0, xr_1_1, xr_4_5, xr_4_6, xr_4_7, xr_4_8, xr_8_0, xr_10_5, xr_10_6, xr_10_7, xr_10_8, xr_14_0, xr_16_0, xr_16_1, xr_16_2, xr_20_0, xr_21_0, xr_21_1, xr_22_0, xr_24_0, xr_26_0, xr_26_1, xr_26_2, xr_30_0, xr_30_1, xr_30_2, xr_30_3, xr_30_4, xr_30_5, xr_30_6, xr_30_7, xr_31_0, xr_39_0, xr_39_1, xr_39_2, xr_42_0, xr_42_2, xr_42_3, xr_42_4, xr_42_5, xr_42_6, xr_42_8, xr_42_10, xr_42_13, xr_42_14, xr_42_15, xr_42_16, xr_42_23, xr_42_24, xr_42_25]
  generalize xand (M 58 i) 31 = k at h31 g31 ⊢
  by_cases h26 : k ≤ 26
  · rw [if_pos ⟨h31.1, h26⟩]
    have : k = 0 ∨ k = 1 ∨ k = 2 ∨ k = 3 ∨ k = 4 ∨ k = 5 ∨ k = 6 ∨ k = 7 ∨ k = 8 ∨ k = 9 ∨ k = 10 ∨ k = 11 ∨ k = 12 ∨ k = 13 ∨ k = 14 ∨ k = 15 ∨ k = 16 ∨ k = 17 ∨ k = 18 ∨ k = 19 ∨ k = 20 ∨ k = 21 ∨ k = 22 ∨ k = 23 ∨ k = 24 ∨ k = 25 ∨ k = 26 := by omega
    rcases this with rfl | rfl | rfl | rfl | rfl | rfl | rfl | rfl | rfl | rfl | rfl | rfl | rfl | rfl | rfl | rfl | rfl | rfl | rfl | rfl | rfl | rfl | rfl | rfl | rfl | rfl | rfl
    · exact law_write hR hs h0 h6 hQ
    · exact law_wipe hR hs h0 h6 hQ
    · exact law_fault hR hs h0 h6 hQ
    · exact law_lay hR hs h0 h6 hQ
    · exact law_platform hR hs h0 h6 hQ
    · exact law_train hR hs h0 h6 hQ
    · exact law_cell hR hs h0 h6 hQ
    · exact law_start hR hs h0 h6 hQ
    · exact law_hold hR hs h0 h6 hQ
    · exact law_pass hR hs h0 h6 hQ
    · exact law_undo hR hs h0 h6 hQ
    · exact law_where hR hs h0 h6 hQ
    · exact law_first hR hs h0 h6 hQ
    · exact law_hang hR hs h0 h6 hQ
    · exact law_trip hR hs h0 h6 hQ
    · exact law_best hR hs h0 h6 hQ
    · exact law_places hR hs h0 h6 hQ
    · exact law_came hR hs h0 h6 hQ
    · exact law_forget hR hs h0 h6 hQ
    · exact law_fits hR hs h0 h6 hQ
    · exact law_from hR hs h0 h6 hQ
    · exact law_clocks hR hs h0 h6 hQ
    · exact law_floods hR hs h0 h6 hQ
    · exact law_day hR hs h0 h6 hQ
    · exact law_keep hR hs h0 h6 hQ
    · exact law_back hR hs h0 h6 hQ
    · exact law_count hR hs h0 h6 hQ
  · rw [if_neg (fun x => h26 x.2)]
    exact hQ M hR rfl
theorem lp_law {L : Int} : ∀ (f : Nat) (i : Int) (M : xM), RR M → sOk M L → 0 ≤ i → i ≤ L → L - i ≤ f → Wp 132 18 [xr 58, xr 0, xr 42, xi i] [] M (fun r _ => r = some (xi 1)) := by
  intro f
  induction f with
  | zero =>
    intro i M hR hs h0 hiL hf
    obtain ⟨hl, hL, hG⟩ := id hs
    have hend : Wp 132 939 [xr 58, xr 0, xr 42, xi i] [] M (fun r _ => r = some (xi 1)) := by
      simp (disch := first | assumption | decide +kernel | exact hM _ _ | exact hL _ | exact xG_b | exact xG_bt _ _ | omega) only [w132_939, w132_940, Int.reduceAdd, xup_twice, true_implies, false_implies, not_true_eq_false, not_false_eq_true, and_true, true_and, Int.reduceEq, Int.reduceLE, Int.reduceLT, Int.reduceNeg, xb_eq0, xb_eq1, xup_ne, xup_self, xup_k, xjl_i, xjl_r, xjl_j, xjl_l, Option.toList_some, Option.toList_none, List.cons_append, List.nil_append, xr_0_0, xr_0_1, xr_0_2, xr_0_3, xr_0_4, xr_0_5, xr_0_6, xr_0_7, xr_1_0, xr_1_1, xr_4_5, xr_4_6, xr_4_7, xr_4_8, xr_8_0, xr_10_5, xr_10_6, xr_10_7, xr_10_8, xr_14_0, xr_16_0, xr_16_1, xr_16_2, xr_20_0, xr_21_0, xr_21_1, xr_22_0, xr_24_0, xr_26_0, xr_26_1, xr_26_2, xr_30_0, xr_30_1, xr_30_2, xr_30_3, xr_30_4, xr_30_5, xr_30_6, xr_30_7, xr_31_0, xr_39_0, xr_39_1, xr_39_2, xr_42_0, xr_42_2, xr_42_3, xr_42_4, xr_42_5, xr_42_6, xr_42_8, xr_42_10, xr_42_13, xr_42_14, xr_42_15, xr_42_16, xr_42_23, xr_42_24, xr_42_25]
    simp (disch := first | assumption | decide +kernel | exact hM _ _ | exact hL _ | exact xG_b | exact xG_bt _ _ | omega) only [w132_18, w132_19, w132_20, w132_21, w132_23, w132_24, Int.reduceAdd, xup_twice, true_implies, false_implies, not_true_eq_false, not_false_eq_true, and_true, true_and, Int.reduceEq, Int.reduceLE, Int.reduceLT, Int.reduceNeg, xb_eq0, xb_eq1, xup_ne, xup_self, xup_k, xjl_i, xjl_r, xjl_j, xjl_l, Option.toList_some, Option.toList_none, List.cons_append, List.nil_append, xr_0_0, xr_0_1, xr_0_2, xr_0_3, xr_0_4, xr_0_5, xr_0_6, xr_0_7, xr_1_0, xr_1_1, xr_4_5, xr_4_6, xr_4_7, xr_4_8, xr_8_0, xr_10_5, xr_10_6, xr_10_7, xr_10_8, xr_14_0, xr_16_0, xr_16_1, xr_16_2, xr_20_0, xr_21_0, xr_21_1, xr_22_0, xr_24_0, xr_26_0, xr_26_1, xr_26_2, xr_30_0, xr_30_1, xr_30_2, xr_30_3, xr_30_4, xr_30_5, xr_30_6, xr_30_7, xr_31_0, xr_39_0, xr_39_1, xr_39_2, xr_42_0, xr_42_2, xr_42_3, xr_42_4, xr_42_5, xr_42_6, xr_42_8, xr_42_10, xr_42_13, xr_42_14, xr_42_15, xr_42_16, xr_42_23, xr_42_24, xr_42_25, hl]
    exact ⟨fun _ => hend, fun h => absurd h (by omega)⟩
  | succ f ih =>
    intro i M hR hs h0 hiL hf
    obtain ⟨hl, hL, hG⟩ := id hs
    have hend : Wp 132 939 [xr 58, xr 0, xr 42, xi i] [] M (fun r _ => r = some (xi 1)) := by
      simp (disch := first | assumption | decide +kernel | exact hM _ _ | exact hL _ | exact xG_b | exact xG_bt _ _ | omega) only [w132_939, w132_940, Int.reduceAdd, xup_twice, true_implies, false_implies, not_true_eq_false, not_false_eq_true, and_true, true_and, Int.reduceEq, Int.reduceLE, Int.reduceLT, Int.reduceNeg, xb_eq0, xb_eq1, xup_ne, xup_self, xup_k, xjl_i, xjl_r, xjl_j, xjl_l, Option.toList_some, Option.toList_none, List.cons_append, List.nil_append, xr_0_0, xr_0_1, xr_0_2, xr_0_3, xr_0_4, xr_0_5, xr_0_6, xr_0_7, xr_1_0, xr_1_1, xr_4_5, xr_4_6, xr_4_7, xr_4_8, xr_8_0, xr_10_5, xr_10_6, xr_10_7, xr_10_8, xr_14_0, xr_16_0, xr_16_1, xr_16_2, xr_20_0, xr_21_0, xr_21_1, xr_22_0, xr_24_0, xr_26_0, xr_26_1, xr_26_2, xr_30_0, xr_30_1, xr_30_2, xr_30_3, xr_30_4, xr_30_5, xr_30_6, xr_30_7, xr_31_0, xr_39_0, xr_39_1, xr_39_2, xr_42_0, xr_42_2, xr_42_3, xr_42_4, xr_42_5, xr_42_6, xr_42_8, xr_42_10, xr_42_13, xr_42_14, xr_42_15, xr_42_16, xr_42_23, xr_42_24, xr_42_25]
    simp (disch := first | assumption | decide +kernel | exact hM _ _ | exact hL _ | exact xG_b | exact xG_bt _ _ | omega) only [w132_18, w132_19, w132_20, w132_21, w132_23, w132_24, Int.reduceAdd, xup_twice, true_implies, false_implies, not_true_eq_false, not_false_eq_true, and_true, true_and, Int.reduceEq, Int.reduceLE, Int.reduceLT, Int.reduceNeg, xb_eq0, xb_eq1, xup_ne, xup_self, xup_k, xjl_i, xjl_r, xjl_j, xjl_l, Option.toList_some, Option.toList_none, List.cons_append, List.nil_append, xr_0_0, xr_0_1, xr_0_2, xr_0_3, xr_0_4, xr_0_5, xr_0_6, xr_0_7, xr_1_0, xr_1_1, xr_4_5, xr_4_6, xr_4_7, xr_4_8, xr_8_0, xr_10_5, xr_10_6, xr_10_7, xr_10_8, xr_14_0, xr_16_0, xr_16_1, xr_16_2, xr_20_0, xr_21_0, xr_21_1, xr_22_0, xr_24_0, xr_26_0, xr_26_1, xr_26_2, xr_30_0, xr_30_1, xr_30_2, xr_30_3, xr_30_4, xr_30_5, xr_30_6, xr_30_7, xr_31_0, xr_39_0, xr_39_1, xr_39_2, xr_42_0, xr_42_2, xr_42_3, xr_42_4, xr_42_5, xr_42_6, xr_42_8, xr_42_10, xr_42_13, xr_42_14, xr_42_15, xr_42_16, xr_42_23, xr_42_24, xr_42_25, hl]
    refine ⟨fun _ => hend, fun h => ?_⟩
    refine law_one hR hs h0 (by omega) (fun M' hR' e58 => ?_)
    simp (disch := first | assumption | decide +kernel | exact hM _ _ | exact hL _ | exact xG_b | exact xG_bt _ _ | omega) only [w132_933, w132_936, Int.reduceAdd, xup_twice, true_implies, false_implies, not_true_eq_false, not_false_eq_true, and_true, true_and, Int.reduceEq, Int.reduceLE, Int.reduceLT, Int.reduceNeg, xb_eq0, xb_eq1, xup_ne, xup_self, xup_k, xjl_i, xjl_r, xjl_j, xjl_l, Option.toList_some, Option.toList_none, List.cons_append, List.nil_append, xr_0_0, xr_0_1, xr_0_2, xr_0_3, xr_0_4, xr_0_5, xr_0_6, xr_0_7, xr_1_0, xr_1_1, xr_4_5, xr_4_6, xr_4_7, xr_4_8, xr_8_0, xr_10_5, xr_10_6, xr_10_7, xr_10_8, xr_14_0, xr_16_0, xr_16_1, xr_16_2, xr_20_0, xr_21_0, xr_21_1, xr_22_0, xr_24_0, xr_26_0, xr_26_1, xr_26_2, xr_30_0, xr_30_1, xr_30_2, xr_30_3, xr_30_4, xr_30_5, xr_30_6, xr_30_7, xr_31_0, xr_39_0, xr_39_1, xr_39_2, xr_42_0, xr_42_2, xr_42_3, xr_42_4, xr_42_5, xr_42_6, xr_42_8, xr_42_10, xr_42_13, xr_42_14, xr_42_15, xr_42_16, xr_42_23, xr_42_24, xr_42_25]
    exact ih (i + 6) M' hR' (sOk_x hs e58) (by omega) (by omega) (by omega)
end LAW
