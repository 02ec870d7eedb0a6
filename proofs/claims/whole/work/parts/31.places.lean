section PLACES
variable {w M : xM} {Q : Option xV → xM → Prop} {h : Int → Int → Int}
/-- the k-th of bits, from x on -/
def xkO (bits : Int) : Nat → Int → Int → Int
  | 0, _, _ => -4
  | j + 1, x, b => if b - xbt bits x = 0 then x else xkO bits j (x + 1) (b - xbt bits x)
theorem lp_kth {bits k : Int} : ∀ (j n : Nat) (b : Int), n + j = 24 → -100 ≤ b - j → b ≤ 100 → Wp 75 4 [xi bits, xi k, xi b, xi n] [] M Q = Q (some (xi (xkO bits j n b))) M := by
  intro j
  induction j with
  | zero =>
    intro n b hn h1 h2
    rw [w75_4]
    simp (disch := first | assumption | decide +kernel | exact hM _ _ | exact hL _ | exact xG_b | exact xG_bt _ _ | omega) only [w75_5, w75_7, w75_30, w75_32, true_implies, false_implies, not_true_eq_false, not_false_eq_true, and_true, true_and, Int.reduceEq, Int.reduceLE, Int.reduceLT, Int.reduceNeg, xb_eq0, xb_eq1, xup_ne, xup_self, xup_k, xjl_i, xjl_r, xjl_j, xjl_l, Option.toList_some, Option.toList_none, List.cons_append, List.nil_append, xr_0_0, xr_0_1, xr_0_2, xr_0_3, xr_0_4, xr_0_5, xr_0_6, xr_0_7, xr_1_0, xr_1_1, xr_4_5, xr_4_6, xr_4_7, xr_4_8, xr_8_0, xr_10_5, xr_10_6, xr_10_7, xr_10_8, xr_14_0, xr_16_0, xr_16_1, xr_16_2, xr_20_0, xr_21_0, xr_21_1, xr_22_0, xr_24_0, xr_26_0, xr_26_1, xr_26_2, xr_30_0, xr_30_1, xr_30_2, xr_30_3, xr_30_4, xr_30_5, xr_30_6, xr_30_7, xr_31_0, xr_39_0, xr_39_1, xr_39_2, xr_42_0, xr_42_2, xr_42_3, xr_42_4, xr_42_5, xr_42_6, xr_42_8, xr_42_10, xr_42_13, xr_42_14, xr_42_15, xr_42_16, xr_42_23, xr_42_24, xr_42_25]
    rw [xbr_t (by omega)]
    rfl
  | succ j ih =>
    intro n b hn h1 h2
    have h01 : xbt bits n = 0 ∨ xbt bits n = 1 := xbt_01 (by omega)
    rw [w75_4]
    simp (disch := first | assumption | decide +kernel | exact hM _ _ | exact hL _ | exact xG_b | exact xG_bt _ _ | omega) only [w75_5, w75_7, w75_10, w75_11, w75_12, w75_13, w75_16, w75_17, w75_18, w75_19, w75_22, w75_23, true_implies, false_implies, not_true_eq_false, not_false_eq_true, and_true, true_and, Int.reduceEq, Int.reduceLE, Int.reduceLT, Int.reduceNeg, xb_eq0, xb_eq1, xup_ne, xup_self, xup_k, xjl_i, xjl_r, xjl_j, xjl_l, Option.toList_some, Option.toList_none, List.cons_append, List.nil_append, xr_0_0, xr_0_1, xr_0_2, xr_0_3, xr_0_4, xr_0_5, xr_0_6, xr_0_7, xr_1_0, xr_1_1, xr_4_5, xr_4_6, xr_4_7, xr_4_8, xr_8_0, xr_10_5, xr_10_6, xr_10_7, xr_10_8, xr_14_0, xr_16_0, xr_16_1, xr_16_2, xr_20_0, xr_21_0, xr_21_1, xr_22_0, xr_24_0, xr_26_0, xr_26_1, xr_26_2, xr_30_0, xr_30_1, xr_30_2, xr_30_3, xr_30_4, xr_30_5, xr_30_6, xr_30_7, xr_31_0, xr_39_0, xr_39_1, xr_39_2, xr_42_0, xr_42_2, xr_42_3, xr_42_4, xr_42_5, xr_42_6, xr_42_8, xr_42_10, xr_42_13, xr_42_14, xr_42_15, xr_42_16, xr_42_23, xr_42_24, xr_42_25, q_bit]
    rw [xbr_f (by omega), xkO]
    by_cases hc : b - xbt bits n = 0
    · rw [xbr_t' hc, if_pos hc]
    · rw [xbr_f' hc, if_neg hc]
      simp (disch := first | assumption | decide +kernel | exact hM _ _ | exact hL _ | exact xG_b | exact xG_bt _ _ | omega) only [w75_24, w75_27, true_implies, false_implies, not_true_eq_false, not_false_eq_true, and_true, true_and, Int.reduceEq, Int.reduceLE, Int.reduceLT, Int.reduceNeg, xb_eq0, xb_eq1, xup_ne, xup_self, xup_k, xjl_i, xjl_r, xjl_j, xjl_l, Option.toList_some, Option.toList_none, List.cons_append, List.nil_append, xr_0_0, xr_0_1, xr_0_2, xr_0_3, xr_0_4, xr_0_5, xr_0_6, xr_0_7, xr_1_0, xr_1_1, xr_4_5, xr_4_6, xr_4_7, xr_4_8, xr_8_0, xr_10_5, xr_10_6, xr_10_7, xr_10_8, xr_14_0, xr_16_0, xr_16_1, xr_16_2, xr_20_0, xr_21_0, xr_21_1, xr_22_0, xr_24_0, xr_26_0, xr_26_1, xr_26_2, xr_30_0, xr_30_1, xr_30_2, xr_30_3, xr_30_4, xr_30_5, xr_30_6, xr_30_7, xr_31_0, xr_39_0, xr_39_1, xr_39_2, xr_42_0, xr_42_2, xr_42_3, xr_42_4, xr_42_5, xr_42_6, xr_42_8, xr_42_10, xr_42_13, xr_42_14, xr_42_15, xr_42_16, xr_42_23, xr_42_24, xr_42_25]
      exact ih (n + 1) (b - xbt bits n) (by omega) (by omega) (by omega)
theorem q_kth {bits k : Int} (hk : 0 ≤ k ∧ k ≤ 2) : Wc 75 [xi bits, xi k] M Q = Q (some (xi (xkO bits 24 0 k))) M := by
  simp (disch := first | assumption | decide +kernel | exact hM _ _ | exact hL _ | exact xG_b | exact xG_bt _ _ | omega) only [w75_0, w75_1, w75_2, w75_3, wc75, true_implies, false_implies, not_true_eq_false, not_false_eq_true, and_true, true_and, Int.reduceEq, Int.reduceLE, Int.reduceLT, Int.reduceNeg, xb_eq0, xb_eq1, xup_ne, xup_self, xup_k, xjl_i, xjl_r, xjl_j, xjl_l, Option.toList_some, Option.toList_none, List.cons_append, List.nil_append, xr_0_0, xr_0_1, xr_0_2, xr_0_3, xr_0_4, xr_0_5, xr_0_6, xr_0_7, xr_1_0, xr_1_1, xr_4_5, xr_4_6, xr_4_7, xr_4_8, xr_8_0, xr_10_5, xr_10_6, xr_10_7, xr_10_8, xr_14_0, xr_16_0, xr_16_1, xr_16_2, xr_20_0, xr_21_0, xr_21_1, xr_22_0, xr_24_0, xr_26_0, xr_26_1, xr_26_2, xr_30_0, xr_30_1, xr_30_2, xr_30_3, xr_30_4, xr_30_5, xr_30_6, xr_30_7, xr_31_0, xr_39_0, xr_39_1, xr_39_2, xr_42_0, xr_42_2, xr_42_3, xr_42_4, xr_42_5, xr_42_6, xr_42_8, xr_42_10, xr_42_13, xr_42_14, xr_42_15, xr_42_16, xr_42_23, xr_42_24, xr_42_25]
  exact lp_kth 24 0 k (by omega) (by omega) (by omega)
/-- with passing places besides -/
def wP (w : xM) (b : Int) : xM := xup w 0 3 (xor_ (w 0 3) b)
theorem zW_P {b : Int} (hw : zW w) : zW (wP w b) := by
  obtain ⟨a1, a2, a3, a4, a5, a6, a7⟩ := hw
  have e0 : ∀ k : Int, k ≠ 3 → wP w b 0 k = w 0 k := fun k hk => by rw [wP, xup_k hk]
  have e1 : ∀ c : Nat, c ≠ 0 → wP w b c = w c := fun c hc => by rw [wP, xup_ne hc]
  refine ⟨?_, ?_, ?_, ?_, ?_, ?_, ?_⟩
  · rw [e0 0 (by decide)]; exact a1
  · rw [e0 1 (by decide)]; exact a2
  · rw [e0 2 (by decide)]; exact a3
  · rw [e0 1 (by decide), e0 0 (by decide), e1 1 (by decide)]; exact a4
  · rw [e0 2 (by decide), e0 0 (by decide), e1 2 (by decide), e1 3 (by decide), e1 4 (by decide), e1 5 (by decide)]; exact a5
  · rw [wP, xup_self]; exact xG_or _ _
  · rw [e0 4 (by decide)]; exact a7
theorem cR_P {b : Int} (hR : cR w (zR w h 0) 0 M) : cR (wP w b) (zR (wP w b) h 0) 0 (xup M 31 2 (xor_ (M 31 2) b)) := by
  obtain ⟨⟨l1, l2, l3, l4, l5, l6⟩, ⟨s1, s2⟩, z1, z2, z3, z4, z5⟩ := hR
  have e0 : ∀ k : Int, k ≠ 3 → wP w b 0 k = w 0 k := fun k hk => by rw [wP, xup_k hk]
  have e1 : ∀ c : Nat, c ≠ 0 → wP w b c = w c := fun c hc => by rw [wP, xup_ne hc]
  have ez : zR (wP w b) h 0 = zR w h 0 := by
    funext c k
    simp [zR, z0, e1]
  refine ⟨⟨?_, ?_, ?_, ?_, ?_, ?_⟩, ⟨?_, ?_⟩, z1, ?_, ?_, ?_, ?_⟩
  · rw [e0 0 (by decide)]; exact l1
  · rw [e0 1 (by decide)]; exact l2
  · rw [e0 2 (by decide)]; exact l3
  · rw [e0 4 (by decide)]; exact l4
  · rw [e0 1 (by decide), e1 1 (by decide)]; exact l5
  · rw [e0 2 (by decide), e1 2 (by decide)]; exact l6
  · rw [wP, xup_self, xup_self, s1]
  · rw [e0 2 (by decide), e1 3 (by decide)]; exact s2
  · rw [ez]; exact z2
  · rw [ez]; exact z3
  · rw [ez, e0 2 (by decide)]; exact z4
  · intro x a b
    rw [ez, zAll, e0 2 (by decide)]
    exact z5 x a b
/-- waits in sixty steps, and the first full cell, with these besides -/
def pWaits (w : xM) (h : Int → Int → Int) (b : Int) : Int := zR (wP w b) h 60 6 0
def pFull (w : xM) (h : Int → Int → Int) (b : Int) : Int := zR (wP w b) h 60 6 1
/-- the cells that must be passing places: j more tries from b on -/
def pFew (w : xM) (h : Int → Int → Int) : Nat → Int → Int
  | 0, _ => -4
  | j + 1, b => if pWaits w h b = 0 then b else pFew w h j (xor_ b (xshl 1 (pFull w h b)))
theorem lp_few (hw : zW w) (hB : cB w M) (hQ : ∀ M', cG M M' → Q (some (xi (pFew w (hC M) 3 0))) M') : ∀ (j n : Nat) (b : Int) (M1 : xM), n + j = 3 → pFew w (hC M) j b = pFew w (hC M) 3 0 → cG M M1 → Wp 74 4 [xr 0, xi b, xi n] [] M1 Q := by
  intro j
  induction j with
  | zero =>
    intro n b M1 hn hb hG
    have := hQ M1 hG
    rw [← hb] at this
    rw [w74_4]
    simp (disch := first | assumption | decide +kernel | exact hM _ _ | exact hL _ | exact xG_b | exact xG_bt _ _ | omega) only [w74_5, w74_6, w74_71, w74_73, true_implies, false_implies, not_true_eq_false, not_false_eq_true, and_true, true_and, Int.reduceEq, Int.reduceLE, Int.reduceLT, Int.reduceNeg, xb_eq0, xb_eq1, xup_ne, xup_self, xup_k, xjl_i, xjl_r, xjl_j, xjl_l, Option.toList_some, Option.toList_none, List.cons_append, List.nil_append, xr_0_0, xr_0_1, xr_0_2, xr_0_3, xr_0_4, xr_0_5, xr_0_6, xr_0_7, xr_1_0, xr_1_1, xr_4_5, xr_4_6, xr_4_7, xr_4_8, xr_8_0, xr_10_5, xr_10_6, xr_10_7, xr_10_8, xr_14_0, xr_16_0, xr_16_1, xr_16_2, xr_20_0, xr_21_0, xr_21_1, xr_22_0, xr_24_0, xr_26_0, xr_26_1, xr_26_2, xr_30_0, xr_30_1, xr_30_2, xr_30_3, xr_30_4, xr_30_5, xr_30_6, xr_30_7, xr_31_0, xr_39_0, xr_39_1, xr_39_2, xr_42_0, xr_42_2, xr_42_3, xr_42_4, xr_42_5, xr_42_6, xr_42_8, xr_42_10, xr_42_13, xr_42_14, xr_42_15, xr_42_16, xr_42_23, xr_42_24, xr_42_25]
    rw [xbr_t (by omega)]
    exact this
  | succ j ih =>
    intro n b M1 hn hb hG
    rw [w74_4]
    simp (disch := first | assumption | decide +kernel | exact hM _ _ | exact hL _ | exact xG_b | exact xG_bt _ _ | omega) only [w74_5, w74_6, w74_9, w74_10, w74_13, true_implies, false_implies, not_true_eq_false, not_false_eq_true, and_true, true_and, Int.reduceEq, Int.reduceLE, Int.reduceLT, Int.reduceNeg, xb_eq0, xb_eq1, xup_ne, xup_self, xup_k, xjl_i, xjl_r, xjl_j, xjl_l, Option.toList_some, Option.toList_none, List.cons_append, List.nil_append, xr_0_0, xr_0_1, xr_0_2, xr_0_3, xr_0_4, xr_0_5, xr_0_6, xr_0_7, xr_1_0, xr_1_1, xr_4_5, xr_4_6, xr_4_7, xr_4_8, xr_8_0, xr_10_5, xr_10_6, xr_10_7, xr_10_8, xr_14_0, xr_16_0, xr_16_1, xr_16_2, xr_20_0, xr_21_0, xr_21_1, xr_22_0, xr_24_0, xr_26_0, xr_26_1, xr_26_2, xr_30_0, xr_30_1, xr_30_2, xr_30_3, xr_30_4, xr_30_5, xr_30_6, xr_30_7, xr_31_0, xr_39_0, xr_39_1, xr_39_2, xr_42_0, xr_42_2, xr_42_3, xr_42_4, xr_42_5, xr_42_6, xr_42_8, xr_42_10, xr_42_13, xr_42_14, xr_42_15, xr_42_16, xr_42_23, xr_42_24, xr_42_25]
    rw [xbr_f (by omega)]
    have e81 : M1 8 = M 8 := hG 8 (by omega)
    refine q_begin (h := hC M) hw (cB_G hB hG) (fun M2 hR2 e2 hG2 => ?_)
    simp (disch := first | assumption | decide +kernel | exact hM _ _ | exact hL _ | exact xG_b | exact xG_bt _ _ | omega) only [w74_16, w74_17, w74_20, w74_23, w74_24, w74_27, w74_28, w74_29, w74_32, w74_33, w74_36, w74_38, true_implies, false_implies, not_true_eq_false, not_false_eq_true, and_true, true_and, Int.reduceEq, Int.reduceLE, Int.reduceLT, Int.reduceNeg, xb_eq0, xb_eq1, xup_ne, xup_self, xup_k, xjl_i, xjl_r, xjl_j, xjl_l, Option.toList_some, Option.toList_none, List.cons_append, List.nil_append, xr_0_0, xr_0_1, xr_0_2, xr_0_3, xr_0_4, xr_0_5, xr_0_6, xr_0_7, xr_1_0, xr_1_1, xr_4_5, xr_4_6, xr_4_7, xr_4_8, xr_8_0, xr_10_5, xr_10_6, xr_10_7, xr_10_8, xr_14_0, xr_16_0, xr_16_1, xr_16_2, xr_20_0, xr_21_0, xr_21_1, xr_22_0, xr_24_0, xr_26_0, xr_26_1, xr_26_2, xr_30_0, xr_30_1, xr_30_2, xr_30_3, xr_30_4, xr_30_5, xr_30_6, xr_30_7, xr_31_0, xr_39_0, xr_39_1, xr_39_2, xr_42_0, xr_42_2, xr_42_3, xr_42_4, xr_42_5, xr_42_6, xr_42_8, xr_42_10, xr_42_13, xr_42_14, xr_42_15, xr_42_16, xr_42_23, xr_42_24, xr_42_25]
    refine q_goTo (w := wP w b) (h := hC M) (n := 0) (m := 60) (zW_P hw) (by omega) (by omega) (cR_P hR2) (fun t a b q c d => by rw [xup_k (by decide), e2, e81]) (fun M3 hR3 hF3 => ?_)
    have hv := (zR_V' (h := hC M) (zW_P (b := b) hw) (n := 60) (by omega)).2
    have e1 : M3 30 10 = pWaits w (hC M) b := hR3.2.2.2.1
    have e3 : M3 30 11 = pFull w (hC M) b := hR3.2.2.2.2.1
    have hv1 : 0 ≤ pWaits w (hC M) b ∧ pWaits w (hC M) b ≤ 1000 := hv.1
    have hG3 : cG M M3 := fun c hc => by rw [hF3 c (by omega) (by omega), xup_ne (by omega), hG2 c hc]; exact hG c hc
    simp (disch := first | assumption | decide +kernel | exact hM _ _ | exact hL _ | exact xG_b | exact xG_bt _ _ | omega) only [w74_41, w74_42, w74_45, w74_48, w74_51, w74_52, true_implies, false_implies, not_true_eq_false, not_false_eq_true, and_true, true_and, Int.reduceEq, Int.reduceLE, Int.reduceLT, Int.reduceNeg, xb_eq0, xb_eq1, xup_ne, xup_self, xup_k, xjl_i, xjl_r, xjl_j, xjl_l, Option.toList_some, Option.toList_none, List.cons_append, List.nil_append, xr_0_0, xr_0_1, xr_0_2, xr_0_3, xr_0_4, xr_0_5, xr_0_6, xr_0_7, xr_1_0, xr_1_1, xr_4_5, xr_4_6, xr_4_7, xr_4_8, xr_8_0, xr_10_5, xr_10_6, xr_10_7, xr_10_8, xr_14_0, xr_16_0, xr_16_1, xr_16_2, xr_20_0, xr_21_0, xr_21_1, xr_22_0, xr_24_0, xr_26_0, xr_26_1, xr_26_2, xr_30_0, xr_30_1, xr_30_2, xr_30_3, xr_30_4, xr_30_5, xr_30_6, xr_30_7, xr_31_0, xr_39_0, xr_39_1, xr_39_2, xr_42_0, xr_42_2, xr_42_3, xr_42_4, xr_42_5, xr_42_6, xr_42_8, xr_42_10, xr_42_13, xr_42_14, xr_42_15, xr_42_16, xr_42_23, xr_42_24, xr_42_25]
    rw [e1]
    rw [pFew] at hb
    by_cases hc : pWaits w (hC M) b = 0
    · rw [xbr_t' hc]
      rw [if_pos hc] at hb
      have := hQ M3 hG3
      rw [← hb] at this
      exact this
    · rw [xbr_f' hc]
      rw [if_neg hc] at hb
      simp (disch := first | assumption | decide +kernel | exact hM _ _ | exact hL _ | exact xG_b | exact xG_bt _ _ | omega) only [w74_53, w74_54, w74_55, w74_56, w74_59, w74_62, w74_63, w74_64, w74_65, w74_68, true_implies, false_implies, not_true_eq_false, not_false_eq_true, and_true, true_and, Int.reduceEq, Int.reduceLE, Int.reduceLT, Int.reduceNeg, xb_eq0, xb_eq1, xup_ne, xup_self, xup_k, xjl_i, xjl_r, xjl_j, xjl_l, Option.toList_some, Option.toList_none, List.cons_append, List.nil_append, xr_0_0, xr_0_1, xr_0_2, xr_0_3, xr_0_4, xr_0_5, xr_0_6, xr_0_7, xr_1_0, xr_1_1, xr_4_5, xr_4_6, xr_4_7, xr_4_8, xr_8_0, xr_10_5, xr_10_6, xr_10_7, xr_10_8, xr_14_0, xr_16_0, xr_16_1, xr_16_2, xr_20_0, xr_21_0, xr_21_1, xr_22_0, xr_24_0, xr_26_0, xr_26_1, xr_26_2, xr_30_0, xr_30_1, xr_30_2, xr_30_3, xr_30_4, xr_30_5, xr_30_6, xr_30_7, xr_31_0, xr_39_0, xr_39_1, xr_39_2, xr_42_0, xr_42_2, xr_42_3, xr_42_4, xr_42_5, xr_42_6, xr_42_8, xr_42_10, xr_42_13, xr_42_14, xr_42_15, xr_42_16, xr_42_23, xr_42_24, xr_42_25]
      rw [e3]
      exact ih (n + 1) _ M3 (by omega) hb hG3
theorem q_few (hw : zW w) (hB : cB w M) (hQ : ∀ M', cG M M' → Q (some (xi (pFew w (hC M) 3 0))) M') : Wc 74 [xr 0] M Q := by
  simp (disch := first | assumption | decide +kernel | exact hM _ _ | exact hL _ | exact xG_b | exact xG_bt _ _ | omega) only [w74_0, w74_1, w74_2, w74_3, wc74, true_implies, false_implies, not_true_eq_false, not_false_eq_true, and_true, true_and, Int.reduceEq, Int.reduceLE, Int.reduceLT, Int.reduceNeg, xb_eq0, xb_eq1, xup_ne, xup_self, xup_k, xjl_i, xjl_r, xjl_j, xjl_l, Option.toList_some, Option.toList_none, List.cons_append, List.nil_append, xr_0_0, xr_0_1, xr_0_2, xr_0_3, xr_0_4, xr_0_5, xr_0_6, xr_0_7, xr_1_0, xr_1_1, xr_4_5, xr_4_6, xr_4_7, xr_4_8, xr_8_0, xr_10_5, xr_10_6, xr_10_7, xr_10_8, xr_14_0, xr_16_0, xr_16_1, xr_16_2, xr_20_0, xr_21_0, xr_21_1, xr_22_0, xr_24_0, xr_26_0, xr_26_1, xr_26_2, xr_30_0, xr_30_1, xr_30_2, xr_30_3, xr_30_4, xr_30_5, xr_30_6, xr_30_7, xr_31_0, xr_39_0, xr_39_1, xr_39_2, xr_42_0, xr_42_2, xr_42_3, xr_42_4, xr_42_5, xr_42_6, xr_42_8, xr_42_10, xr_42_13, xr_42_14, xr_42_15, xr_42_16, xr_42_23, xr_42_24, xr_42_25]
  exact lp_few hw hB hQ 3 0 0 M (by omega) rfl cG_rf
theorem pFew_G {w : xM} {h : Int → Int → Int} : ∀ (j : Nat) (b : Int), xG b → xG (pFew w h j b)
  | 0, b, _ => by simp [pFew, xG]
  | j + 1, b, hb => by
    rw [pFew]
    split
    · exact hb
    · exact pFew_G j _ (xG_or _ _)
def aPlaces (w : xM) (h : Int → Int → Int) (k : Int) : Int := if 0 ≤ k ∧ k ≤ 2 then (if pFew w h 3 0 = -4 then -4 else if k = 0 then xbc (pFew w h 3 0) else xkO (pFew w h 3 0) 24 0 k) else -1
theorem q8_places {k : Int} (hk : xG k) (hw : zW w) (hB : cB w M) (hQ : ∀ M', cG M M' → Q (some (xi (aPlaces w (hC M) k))) M') : Wc 61 [xr 0, xi k] M Q := by
  have hbad : ¬ (0 ≤ k ∧ k ≤ 2) → Q (some (xi (-1))) M := fun h => by
    have := hQ M cG_rf
    rw [aPlaces, if_neg h] at this
    exact this
  have hgood : (0 ≤ k ∧ k ≤ 2) → Wp 61 11 [xr 0, xi k, xj] [] M Q := fun h => by
    simp only [aPlaces, if_pos h] at hQ
    simp (disch := first | assumption | decide +kernel | exact hM _ _ | exact hL _ | exact xG_b | exact xG_bt _ _ | omega) only [w61_11, w61_12, true_implies, false_implies, not_true_eq_false, not_false_eq_true, and_true, true_and, Int.reduceEq, Int.reduceLE, Int.reduceLT, Int.reduceNeg, xb_eq0, xb_eq1, xup_ne, xup_self, xup_k, xjl_i, xjl_r, xjl_j, xjl_l, Option.toList_some, Option.toList_none, List.cons_append, List.nil_append, xr_0_0, xr_0_1, xr_0_2, xr_0_3, xr_0_4, xr_0_5, xr_0_6, xr_0_7, xr_1_0, xr_1_1, xr_4_5, xr_4_6, xr_4_7, xr_4_8, xr_8_0, xr_10_5, xr_10_6, xr_10_7, xr_10_8, xr_14_0, xr_16_0, xr_16_1, xr_16_2, xr_20_0, xr_21_0, xr_21_1, xr_22_0, xr_24_0, xr_26_0, xr_26_1, xr_26_2, xr_30_0, xr_30_1, xr_30_2, xr_30_3, xr_30_4, xr_30_5, xr_30_6, xr_30_7, xr_31_0, xr_39_0, xr_39_1, xr_39_2, xr_42_0, xr_42_2, xr_42_3, xr_42_4, xr_42_5, xr_42_6, xr_42_8, xr_42_10, xr_42_13, xr_42_14, xr_42_15, xr_42_16, xr_42_23, xr_42_24, xr_42_25]
    refine q_few hw hB (fun M1 hG1 => ?_)
    have hq := hQ M1 hG1
    have hr := pFew_G (w := w) (h := hC M) 3 0 (by simp [xG])
    simp (disch := first | assumption | decide +kernel | exact hM _ _ | exact hL _ | exact xG_b | exact xG_bt _ _ | omega) only [w61_15, w61_16, w61_17, w61_19, w61_22, w61_24, w61_25, w61_26, w61_29, w61_30, w61_33, w61_36, w61_37, w61_38, w61_41, true_implies, false_implies, not_true_eq_false, not_false_eq_true, and_true, true_and, Int.reduceEq, Int.reduceLE, Int.reduceLT, Int.reduceNeg, xb_eq0, xb_eq1, xup_ne, xup_self, xup_k, xjl_i, xjl_r, xjl_j, xjl_l, Option.toList_some, Option.toList_none, List.cons_append, List.nil_append, xr_0_0, xr_0_1, xr_0_2, xr_0_3, xr_0_4, xr_0_5, xr_0_6, xr_0_7, xr_1_0, xr_1_1, xr_4_5, xr_4_6, xr_4_7, xr_4_8, xr_8_0, xr_10_5, xr_10_6, xr_10_7, xr_10_8, xr_14_0, xr_16_0, xr_16_1, xr_16_2, xr_20_0, xr_21_0, xr_21_1, xr_22_0, xr_24_0, xr_26_0, xr_26_1, xr_26_2, xr_30_0, xr_30_1, xr_30_2, xr_30_3, xr_30_4, xr_30_5, xr_30_6, xr_30_7, xr_31_0, xr_39_0, xr_39_1, xr_39_2, xr_42_0, xr_42_2, xr_42_3, xr_42_4, xr_42_5, xr_42_6, xr_42_8, xr_42_10, xr_42_13, xr_42_14, xr_42_15, xr_42_16, xr_42_23, xr_42_24, xr_42_25, q_kth]
    by_cases hc : pFew w (hC M) 3 0 = -4
    · rw [xbr_t' hc]; rw [if_pos hc] at hq; exact hq
    · rw [xbr_f' hc]
      rw [if_neg hc] at hq
      by_cases k0 : k = 0
      · rw [xbr_t' k0]; rw [if_pos k0] at hq; exact hq
      · rw [xbr_f' k0]; rw [if_neg k0] at hq; exact hq
  simp (disch := first | assumption | decide +kernel | exact hM _ _ | exact hL _ | exact xG_b | exact xG_bt _ _ | omega) only [w61_0, w61_1, w61_4, w61_5, w61_6, w61_9, w61_10, wc61, true_implies, false_implies, not_true_eq_false, not_false_eq_true, and_true, true_and, Int.reduceEq, Int.reduceLE, Int.reduceLT, Int.reduceNeg, xb_eq0, xb_eq1, xup_ne, xup_self, xup_k, xjl_i, xjl_r, xjl_j, xjl_l, Option.toList_some, Option.toList_none, List.cons_append, List.nil_append, xr_0_0, xr_0_1, xr_0_2, xr_0_3, xr_0_4, xr_0_5, xr_0_6, xr_0_7, xr_1_0, xr_1_1, xr_4_5, xr_4_6, xr_4_7, xr_4_8, xr_8_0, xr_10_5, xr_10_6, xr_10_7, xr_10_8, xr_14_0, xr_16_0, xr_16_1, xr_16_2, xr_20_0, xr_21_0, xr_21_1, xr_22_0, xr_24_0, xr_26_0, xr_26_1, xr_26_2, xr_30_0, xr_30_1, xr_30_2, xr_30_3, xr_30_4, xr_30_5, xr_30_6, xr_30_7, xr_31_0, xr_39_0, xr_39_1, xr_39_2, xr_42_0, xr_42_2, xr_42_3, xr_42_4, xr_42_5, xr_42_6, xr_42_8, xr_42_10, xr_42_13, xr_42_14, xr_42_15, xr_42_16, xr_42_23, xr_42_24, xr_42_25]
  repeat' (first | apply And.intro | intro _)
  all_goals first | exact hgood (by omega) | exact hbad (by omega)
end PLACES
