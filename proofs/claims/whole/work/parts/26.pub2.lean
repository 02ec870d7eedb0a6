section PUB2
variable {w M : xM} {Q : Option xV → xM → Prop}
def zMeet (w : xM) (h : Int → Int → Int) (p q : Int) (s : Nat) : Bool := decide (zR w h s 0 p = zR w h s 0 q)
def aClocks (w : xM) (h : Int → Int → Int) (p q k : Int) : Int := if (0 ≤ p ∧ p < w 0 2) ∧ (0 ≤ q ∧ q < w 0 2) ∧ ¬ p = q ∧ (k = 0 ∨ k = 1) then (if k = 0 then xcn (fun s => zMeet w h p q s.toNat) 61 else xfst (zMeet w h p q) 61) else -1
theorem lp_clocks (hw : zW w) {p q k : Int} (hp : 0 ≤ p ∧ p < w 0 2) (hq : 0 ≤ q ∧ q < w 0 2) (hQ : ∀ M', cG M M' → Wp 66 108 [xr 0, xi p, xi q, xi k, xi (xcn (fun s => zMeet w (hC M) p q s.toNat) 61), xi (xfst (zMeet w (hC M) p q) 61), xi 61] [] M' Q) : ∀ (j n : Nat) (M1 : xM), n + j = 61 → cR w (zR w (hC M) (n - 1)) ((n - 1 : Nat) : Int) M1 → cH w (hC M) 0 60 M1 → cG M M1 → Wp 66 53 [xr 0, xi p, xi q, xi k, xi (xcn (fun s => zMeet w (hC M) p q s.toNat) n), xi (xfst (zMeet w (hC M) p q) n), xi n] [] M1 Q := by
  have hw1 := hw.1
  have hw3 := hw.2.2.1
  intro j
  induction j with
  | zero =>
    intro n M1 hn hR1 hH hG
    have e : n = 61 := by omega
    subst e
    rw [w66_53]
    simp (disch := first | assumption | decide +kernel | exact hM _ _ | exact hL _ | exact xG_b | exact xG_bt _ _ | omega) only [w66_55, w66_57, true_implies, false_implies, not_true_eq_false, not_false_eq_true, and_true, true_and, Int.reduceEq, Int.reduceLE, Int.reduceLT, Int.reduceNeg, xb_eq0, xb_eq1, xup_ne, xup_self, xup_k, xjl_i, xjl_r, xjl_j, xjl_l, Option.toList_some, Option.toList_none, List.cons_append, List.nil_append, xr_0_0, xr_0_1, xr_0_2, xr_0_3, xr_0_4, xr_0_5, xr_0_6, xr_0_7, xr_1_0, xr_1_1, xr_4_5, xr_4_6, xr_4_7, xr_4_8, xr_8_0, xr_10_5, xr_10_6, xr_10_7, xr_10_8, xr_14_0, xr_16_0, xr_16_1, xr_16_2, xr_20_0, xr_21_0, xr_21_1, xr_22_0, xr_24_0, xr_26_0, xr_26_1, xr_26_2, xr_30_0, xr_30_1, xr_30_2, xr_30_3, xr_30_4, xr_30_5, xr_30_6, xr_30_7, xr_31_0, xr_39_0, xr_39_1, xr_39_2, xr_42_0, xr_42_2, xr_42_3, xr_42_4, xr_42_5, xr_42_6, xr_42_8, xr_42_10, xr_42_13, xr_42_14, xr_42_15, xr_42_16, xr_42_23, xr_42_24, xr_42_25]
    rw [xbr_t (by omega)]
    exact hQ M1 hG
  | succ j ih =>
    intro n M1 hn hR1 hH hG
    have hcb := xcn_b (fun s => zMeet w (hC M) p q s.toNat) n
    have hxr := @xfst_rng (zMeet w (hC M) p q) n
    rw [w66_53]
    simp (disch := first | assumption | decide +kernel | exact hM _ _ | exact hL _ | exact xG_b | exact xG_bt _ _ | omega) only [w66_55, w66_57, w66_60, w66_61, w66_64, w66_66, true_implies, false_implies, not_true_eq_false, not_false_eq_true, and_true, true_and, Int.reduceEq, Int.reduceLE, Int.reduceLT, Int.reduceNeg, xb_eq0, xb_eq1, xup_ne, xup_self, xup_k, xjl_i, xjl_r, xjl_j, xjl_l, Option.toList_some, Option.toList_none, List.cons_append, List.nil_append, xr_0_0, xr_0_1, xr_0_2, xr_0_3, xr_0_4, xr_0_5, xr_0_6, xr_0_7, xr_1_0, xr_1_1, xr_4_5, xr_4_6, xr_4_7, xr_4_8, xr_8_0, xr_10_5, xr_10_6, xr_10_7, xr_10_8, xr_14_0, xr_16_0, xr_16_1, xr_16_2, xr_20_0, xr_21_0, xr_21_1, xr_22_0, xr_24_0, xr_26_0, xr_26_1, xr_26_2, xr_30_0, xr_30_1, xr_30_2, xr_30_3, xr_30_4, xr_30_5, xr_30_6, xr_30_7, xr_31_0, xr_39_0, xr_39_1, xr_39_2, xr_42_0, xr_42_2, xr_42_3, xr_42_4, xr_42_5, xr_42_6, xr_42_8, xr_42_10, xr_42_13, xr_42_14, xr_42_15, xr_42_16, xr_42_23, xr_42_24, xr_42_25]
    rw [xbr_f (by omega)]
    refine q_goTo (h := hC M) hw (n := n - 1) (m := n) (by omega) (by omega) hR1 (fun t h1 h2 => hH t (by omega) (by omega)) (fun M2 hR2 hF2 => ?_)
    have hv := (zR_V' (h := hC M) hw (n := n) (by omega)).1
    have vp := hv p hp.1 hp.2
    have vq := hv q hq.1 hq.2
    have e1 : M2 33 p = zR w (hC M) n 0 p := (hR2.2.2.2.2.2.1 p hp.1 hp.2).1
    have e2 : M2 33 q = zR w (hC M) n 0 q := (hR2.2.2.2.2.2.1 q hq.1 hq.2).1
    simp (disch := first | assumption | decide +kernel | exact hM _ _ | exact hL _ | exact xG_b | exact xG_bt _ _ | omega) only [w66_69, w66_70, w66_73, w66_76, w66_77, w66_78, w66_79, w66_82, w66_85, w66_86, w66_87, w66_90, w66_92, w66_95, w66_97, w66_99, true_implies, false_implies, not_true_eq_false, not_false_eq_true, and_true, true_and, Int.reduceEq, Int.reduceLE, Int.reduceLT, Int.reduceNeg, xb_eq0, xb_eq1, xup_ne, xup_self, xup_k, xjl_i, xjl_r, xjl_j, xjl_l, Option.toList_some, Option.toList_none, List.cons_append, List.nil_append, xr_0_0, xr_0_1, xr_0_2, xr_0_3, xr_0_4, xr_0_5, xr_0_6, xr_0_7, xr_1_0, xr_1_1, xr_4_5, xr_4_6, xr_4_7, xr_4_8, xr_8_0, xr_10_5, xr_10_6, xr_10_7, xr_10_8, xr_14_0, xr_16_0, xr_16_1, xr_16_2, xr_20_0, xr_21_0, xr_21_1, xr_22_0, xr_24_0, xr_26_0, xr_26_1, xr_26_2, xr_30_0, xr_30_1, xr_30_2, xr_30_3, xr_30_4, xr_30_5, xr_30_6, xr_30_7, xr_31_0, xr_39_0, xr_39_1, xr_39_2, xr_42_0, xr_42_2, xr_42_3, xr_42_4, xr_42_5, xr_42_6, xr_42_8, xr_42_10, xr_42_13, xr_42_14, xr_42_15, xr_42_16, xr_42_23, xr_42_24, xr_42_25]
    rw [e1, e2]
    have ih' := ih (n + 1) M2 (by omega) hR2 (cH_F hH hF2) (cG_tr hG (cG_F hF2))
    rw [xcn_s, xfst] at ih'
    have hz : zMeet w (hC M) p q ((n : Int)).toNat = zMeet w (hC M) p q n := by simp
    by_cases hm : zR w (hC M) n 0 p = zR w (hC M) n 0 q
    · have hmt : zMeet w (hC M) p q n = true := by simp [zMeet, hm]
      rw [xbr_t' hm]
      rw [hz, hmt, if_pos rfl, if_pos rfl] at ih'
      by_cases h0 : xcn (fun s => zMeet w (hC M) p q s.toNat) n = 0
      · rw [xbr_t' h0]
        have hf : xfst (zMeet w (hC M) p q) n = -4 := by
          apply xfst_no
          intro i hi
          cases hb : zMeet w (hC M) p q i with
          | false => rfl
          | true =>
            exfalso
            have : 0 < xcn (fun s => zMeet w (hC M) p q s.toNat) n := xcn_pos.mpr ⟨i, hi, by simpa using hb⟩
            omega
        rw [if_pos hf] at ih'
        simp (disch := first | assumption | decide +kernel | exact hM _ _ | exact hL _ | exact xG_b | exact xG_bt _ _ | omega) only [w66_99, w66_102, w66_105, true_implies, false_implies, not_true_eq_false, not_false_eq_true, and_true, true_and, Int.reduceEq, Int.reduceLE, Int.reduceLT, Int.reduceNeg, xb_eq0, xb_eq1, xup_ne, xup_self, xup_k, xjl_i, xjl_r, xjl_j, xjl_l, Option.toList_some, Option.toList_none, List.cons_append, List.nil_append, xr_0_0, xr_0_1, xr_0_2, xr_0_3, xr_0_4, xr_0_5, xr_0_6, xr_0_7, xr_1_0, xr_1_1, xr_4_5, xr_4_6, xr_4_7, xr_4_8, xr_8_0, xr_10_5, xr_10_6, xr_10_7, xr_10_8, xr_14_0, xr_16_0, xr_16_1, xr_16_2, xr_20_0, xr_21_0, xr_21_1, xr_22_0, xr_24_0, xr_26_0, xr_26_1, xr_26_2, xr_30_0, xr_30_1, xr_30_2, xr_30_3, xr_30_4, xr_30_5, xr_30_6, xr_30_7, xr_31_0, xr_39_0, xr_39_1, xr_39_2, xr_42_0, xr_42_2, xr_42_3, xr_42_4, xr_42_5, xr_42_6, xr_42_8, xr_42_10, xr_42_13, xr_42_14, xr_42_15, xr_42_16, xr_42_23, xr_42_24, xr_42_25]
        exact ih'
      · rw [xbr_f' h0]
        have hf : ¬ xfst (zMeet w (hC M) p q) n = -4 := by
          have : 0 < xcn (fun s => zMeet w (hC M) p q s.toNat) n := by omega
          obtain ⟨i0, h1, h2⟩ := xcn_pos.mp this
          have h2 : zMeet w (hC M) p q i0 = true := by simpa using h2
          rcases @xfst_rng (zMeet w (hC M) p q) n with h3 | h3
          · exfalso
            obtain ⟨i1, h4, h5⟩ := pk_least (fun i => zMeet w (hC M) p q i = true) ⟨i0, h2⟩
            have hle : i1 ≤ i0 := Nat.le_of_not_lt (fun hlt => h5 i0 hlt h2)
            rw [xfst_yes h4 (fun j hj => by cases hb : zMeet w (hC M) p q j with
              | false => rfl
              | true => exact absurd hb (h5 j hj)) (n := n) (by omega)] at h3
            omega
          · omega
        rw [if_neg hf] at ih'
        simp (disch := first | assumption | decide +kernel | exact hM _ _ | exact hL _ | exact xG_b | exact xG_bt _ _ | omega) only [w66_99, w66_102, w66_105, true_implies, false_implies, not_true_eq_false, not_false_eq_true, and_true, true_and, Int.reduceEq, Int.reduceLE, Int.reduceLT, Int.reduceNeg, xb_eq0, xb_eq1, xup_ne, xup_self, xup_k, xjl_i, xjl_r, xjl_j, xjl_l, Option.toList_some, Option.toList_none, List.cons_append, List.nil_append, xr_0_0, xr_0_1, xr_0_2, xr_0_3, xr_0_4, xr_0_5, xr_0_6, xr_0_7, xr_1_0, xr_1_1, xr_4_5, xr_4_6, xr_4_7, xr_4_8, xr_8_0, xr_10_5, xr_10_6, xr_10_7, xr_10_8, xr_14_0, xr_16_0, xr_16_1, xr_16_2, xr_20_0, xr_21_0, xr_21_1, xr_22_0, xr_24_0, xr_26_0, xr_26_1, xr_26_2, xr_30_0, xr_30_1, xr_30_2, xr_30_3, xr_30_4, xr_30_5, xr_30_6, xr_30_7, xr_31_0, xr_39_0, xr_39_1, xr_39_2, xr_42_0, xr_42_2, xr_42_3, xr_42_4, xr_42_5, xr_42_6, xr_42_8, xr_42_10, xr_42_13, xr_42_14, xr_42_15, xr_42_16, xr_42_23, xr_42_24, xr_42_25]
        exact ih'
    · have hmt : zMeet w (hC M) p q n = false := by simp [zMeet, hm]
      rw [xbr_f' hm]
      simp only [hz, hmt, Bool.false_eq_true, if_false] at ih'
      rw [show (if xfst (zMeet w (hC M) p q) n = -4 then (-4 : Int) else xfst (zMeet w (hC M) p q) n) = xfst (zMeet w (hC M) p q) n by split <;> simp [*]] at ih'
      rw [Int.add_zero] at ih'
      simp (disch := first | assumption | decide +kernel | exact hM _ _ | exact hL _ | exact xG_b | exact xG_bt _ _ | omega) only [w66_102, w66_105, true_implies, false_implies, not_true_eq_false, not_false_eq_true, and_true, true_and, Int.reduceEq, Int.reduceLE, Int.reduceLT, Int.reduceNeg, xb_eq0, xb_eq1, xup_ne, xup_self, xup_k, xjl_i, xjl_r, xjl_j, xjl_l, Option.toList_some, Option.toList_none, List.cons_append, List.nil_append, xr_0_0, xr_0_1, xr_0_2, xr_0_3, xr_0_4, xr_0_5, xr_0_6, xr_0_7, xr_1_0, xr_1_1, xr_4_5, xr_4_6, xr_4_7, xr_4_8, xr_8_0, xr_10_5, xr_10_6, xr_10_7, xr_10_8, xr_14_0, xr_16_0, xr_16_1, xr_16_2, xr_20_0, xr_21_0, xr_21_1, xr_22_0, xr_24_0, xr_26_0, xr_26_1, xr_26_2, xr_30_0, xr_30_1, xr_30_2, xr_30_3, xr_30_4, xr_30_5, xr_30_6, xr_30_7, xr_31_0, xr_39_0, xr_39_1, xr_39_2, xr_42_0, xr_42_2, xr_42_3, xr_42_4, xr_42_5, xr_42_6, xr_42_8, xr_42_10, xr_42_13, xr_42_14, xr_42_15, xr_42_16, xr_42_23, xr_42_24, xr_42_25]
      exact ih'
theorem q8_clocks {p q k : Int} (hp : xG p) (hq : xG q) (hk : xG k) (hw : zW w) (hB : cB w M) (hQ : ∀ M', cG M M' → Q (some (xi (aClocks w (hC M) p q k))) M') : Wc 66 [xr 0, xi p, xi q, xi k] M Q := by
  have l3 := hB.1.2.2.1
  have hw3 := hw.2.2.1
  have hbad : ¬ ((0 ≤ p ∧ p < w 0 2) ∧ (0 ≤ q ∧ q < w 0 2) ∧ ¬ p = q ∧ (k = 0 ∨ k = 1)) → Q (some (xi (-1))) M := fun h => by
    have := hQ M cG_rf
    rw [aClocks, if_neg h] at this
    exact this
  have hgood : ((0 ≤ p ∧ p < w 0 2) ∧ (0 ≤ q ∧ q < w 0 2) ∧ ¬ p = q ∧ (k = 0 ∨ k = 1)) → Wp 66 36 [xr 0, xi p, xi q, xi k, xj, xj, xj] [] M Q := fun h => by
    simp only [aClocks, if_pos h] at hQ
    simp (disch := first | assumption | decide +kernel | exact hM _ _ | exact hL _ | exact xG_b | exact xG_bt _ _ | omega) only [w66_36, w66_37, w66_39, w66_41, w66_43, w66_44, w66_47, true_implies, false_implies, not_true_eq_false, not_false_eq_true, and_true, true_and, Int.reduceEq, Int.reduceLE, Int.reduceLT, Int.reduceNeg, xb_eq0, xb_eq1, xup_ne, xup_self, xup_k, xjl_i, xjl_r, xjl_j, xjl_l, Option.toList_some, Option.toList_none, List.cons_append, List.nil_append, xr_0_0, xr_0_1, xr_0_2, xr_0_3, xr_0_4, xr_0_5, xr_0_6, xr_0_7, xr_1_0, xr_1_1, xr_4_5, xr_4_6, xr_4_7, xr_4_8, xr_8_0, xr_10_5, xr_10_6, xr_10_7, xr_10_8, xr_14_0, xr_16_0, xr_16_1, xr_16_2, xr_20_0, xr_21_0, xr_21_1, xr_22_0, xr_24_0, xr_26_0, xr_26_1, xr_26_2, xr_30_0, xr_30_1, xr_30_2, xr_30_3, xr_30_4, xr_30_5, xr_30_6, xr_30_7, xr_31_0, xr_39_0, xr_39_1, xr_39_2, xr_42_0, xr_42_2, xr_42_3, xr_42_4, xr_42_5, xr_42_6, xr_42_8, xr_42_10, xr_42_13, xr_42_14, xr_42_15, xr_42_16, xr_42_23, xr_42_24, xr_42_25]
    refine q_begin (h := hC M) hw hB (fun M1 hR1 e1 hG1 => ?_)
    simp (disch := first | assumption | decide +kernel | exact hM _ _ | exact hL _ | exact xG_b | exact xG_bt _ _ | omega) only [w66_50, w66_51, true_implies, false_implies, not_true_eq_false, not_false_eq_true, and_true, true_and, Int.reduceEq, Int.reduceLE, Int.reduceLT, Int.reduceNeg, xb_eq0, xb_eq1, xup_ne, xup_self, xup_k, xjl_i, xjl_r, xjl_j, xjl_l, Option.toList_some, Option.toList_none, List.cons_append, List.nil_append, xr_0_0, xr_0_1, xr_0_2, xr_0_3, xr_0_4, xr_0_5, xr_0_6, xr_0_7, xr_1_0, xr_1_1, xr_4_5, xr_4_6, xr_4_7, xr_4_8, xr_8_0, xr_10_5, xr_10_6, xr_10_7, xr_10_8, xr_14_0, xr_16_0, xr_16_1, xr_16_2, xr_20_0, xr_21_0, xr_21_1, xr_22_0, xr_24_0, xr_26_0, xr_26_1, xr_26_2, xr_30_0, xr_30_1, xr_30_2, xr_30_3, xr_30_4, xr_30_5, xr_30_6, xr_30_7, xr_31_0, xr_39_0, xr_39_1, xr_39_2, xr_42_0, xr_42_2, xr_42_3, xr_42_4, xr_42_5, xr_42_6, xr_42_8, xr_42_10, xr_42_13, xr_42_14, xr_42_15, xr_42_16, xr_42_23, xr_42_24, xr_42_25]
    refine lp_clocks (M := M) hw h.1 h.2.1 (fun M2 hG2 => ?_) 61 0 M1 (by omega) hR1 (cH_C e1) hG1
    have hq := hQ M2 hG2
    simp (disch := first | assumption | decide +kernel | exact hM _ _ | exact hL _ | exact xG_b | exact xG_bt _ _ | omega) only [w66_108, w66_109, w66_112, w66_114, w66_117, w66_119, true_implies, false_implies, not_true_eq_false, not_false_eq_true, and_true, true_and, Int.reduceEq, Int.reduceLE, Int.reduceLT, Int.reduceNeg, xb_eq0, xb_eq1, xup_ne, xup_self, xup_k, xjl_i, xjl_r, xjl_j, xjl_l, Option.toList_some, Option.toList_none, List.cons_append, List.nil_append, xr_0_0, xr_0_1, xr_0_2, xr_0_3, xr_0_4, xr_0_5, xr_0_6, xr_0_7, xr_1_0, xr_1_1, xr_4_5, xr_4_6, xr_4_7, xr_4_8, xr_8_0, xr_10_5, xr_10_6, xr_10_7, xr_10_8, xr_14_0, xr_16_0, xr_16_1, xr_16_2, xr_20_0, xr_21_0, xr_21_1, xr_22_0, xr_24_0, xr_26_0, xr_26_1, xr_26_2, xr_30_0, xr_30_1, xr_30_2, xr_30_3, xr_30_4, xr_30_5, xr_30_6, xr_30_7, xr_31_0, xr_39_0, xr_39_1, xr_39_2, xr_42_0, xr_42_2, xr_42_3, xr_42_4, xr_42_5, xr_42_6, xr_42_8, xr_42_10, xr_42_13, xr_42_14, xr_42_15, xr_42_16, xr_42_23, xr_42_24, xr_42_25]
    by_cases k0 : k = 0
    · rw [xbr_t' k0]; rw [if_pos k0] at hq; exact hq
    · rw [xbr_f' k0]; rw [if_neg k0] at hq; exact hq
  simp (disch := first | assumption | decide +kernel | exact hM _ _ | exact hL _ | exact xG_b | exact xG_bt _ _ | omega) only [w66_0, w66_1, w66_4, w66_5, w66_8, w66_11, w66_12, w66_15, w66_16, w66_19, w66_22, w66_23, w66_24, w66_27, w66_28, w66_31, w66_34, w66_35, wc66, true_implies, false_implies, not_true_eq_false, not_false_eq_true, and_true, true_and, Int.reduceEq, Int.reduceLE, Int.reduceLT, Int.reduceNeg, xb_eq0, xb_eq1, xup_ne, xup_self, xup_k, xjl_i, xjl_r, xjl_j, xjl_l, Option.toList_some, Option.toList_none, List.cons_append, List.nil_append, xr_0_0, xr_0_1, xr_0_2, xr_0_3, xr_0_4, xr_0_5, xr_0_6, xr_0_7, xr_1_0, xr_1_1, xr_4_5, xr_4_6, xr_4_7, xr_4_8, xr_8_0, xr_10_5, xr_10_6, xr_10_7, xr_10_8, xr_14_0, xr_16_0, xr_16_1, xr_16_2, xr_20_0, xr_21_0, xr_21_1, xr_22_0, xr_24_0, xr_26_0, xr_26_1, xr_26_2, xr_30_0, xr_30_1, xr_30_2, xr_30_3, xr_30_4, xr_30_5, xr_30_6, xr_30_7, xr_31_0, xr_39_0, xr_39_1, xr_39_2, xr_42_0, xr_42_2, xr_42_3, xr_42_4, xr_42_5, xr_42_6, xr_42_8, xr_42_10, xr_42_13, xr_42_14, xr_42_15, xr_42_16, xr_42_23, xr_42_24, xr_42_25, q_hasPlatform, q_isEither]
  repeat' (first | apply And.intro | intro _)
  all_goals first | exact hgood (by omega) | exact hbad (by omega)
/-- the best of the starts 30, 29 .. (n of them), by what F says of each: the start and the step -/
def bBest (F : Int → Int) : Nat → Int × Int
  | 0 => (-4, -4)
  | n + 1 => if ¬ F (30 - n) = -4 ∧ ((bBest F n).2 = -4 ∨ F (30 - n) < (bBest F n).2) then (30 - n, F (30 - n)) else bBest F n
def aBest (w : xM) (h : Int → Int → Int) (p t k : Int) : Int := if (0 ≤ p ∧ p < w 0 2) ∧ (0 ≤ t ∧ t < w 0 1) ∧ (k = 0 ∨ k = 1) then (if k = 0 then (bBest (fun s => aFst (xup w 3 p s) h p t) 31).1 else (bBest (fun s => aFst (xup w 3 p s) h p t) 31).2) else -1
theorem aFst_rng {h : Int → Int → Int} {p t : Int} : aFst w h p t = -4 ∨ (0 ≤ aFst w h p t ∧ aFst w h p t < 61) := xfst_rng
theorem bBest_rng {F : Int → Int} (hF : ∀ s, F s = -4 ∨ (0 ≤ F s ∧ F s < 61)) : ∀ n : Nat, n ≤ 31 → (-4 ≤ (bBest F n).2 ∧ (bBest F n).2 < 61) ∧ (-4 ≤ (bBest F n).1 ∧ (bBest F n).1 ≤ 30)
  | 0, _ => by simp [bBest]
  | n + 1, hn => by
    rw [bBest]
    have h1 := hF (30 - n)
    have h2 := bBest_rng hF n (by omega)
    split
    · constructor <;> constructor <;> simp <;> omega
    · exact h2
theorem lp_best (hw : zW w) (hB : cB w M) {p t k : Int} (hp : 0 ≤ p ∧ p < w 0 2) (ht : 0 ≤ t ∧ t < w 0 1) {v7 : xV} (hQ : ∀ (M' : xM) (v7 : xV), cG M M' → Wp 60 115 [xr 0, xi p, xi t, xi k, xi (bBest (fun s => aFst (xup w 3 p s) (hC M) p t) 31).1, xi (bBest (fun s => aFst (xup w 3 p s) (hC M) p t) 31).2, xi (-1), v7] [] M' Q) : ∀ (j n : Nat) (M1 : xM) (v7 : xV), n + j = 31 → cG M M1 → Wp 60 43 [xr 0, xi p, xi t, xi k, xi (bBest (fun s => aFst (xup w 3 p s) (hC M) p t) n).1, xi (bBest (fun s => aFst (xup w 3 p s) (hC M) p t) n).2, xi (30 - n), v7] [] M1 Q := by
  have hw1 := hw.1
  have hw2 := hw.2.1
  have hw3 := hw.2.2.1
  intro j
  induction j with
  | zero =>
    intro n M1 v7 hn hG
    have e : n = 31 := by omega
    subst e
    rw [w60_43]
    simp (disch := first | assumption | decide +kernel | exact hM _ _ | exact hL _ | exact xG_b | exact xG_bt _ _ | omega) only [w60_45, true_implies, false_implies, not_true_eq_false, not_false_eq_true, and_true, true_and, Int.reduceEq, Int.reduceLE, Int.reduceLT, Int.reduceNeg, xb_eq0, xb_eq1, xup_ne, xup_self, xup_k, xjl_i, xjl_r, xjl_j, xjl_l, Option.toList_some, Option.toList_none, List.cons_append, List.nil_append, xr_0_0, xr_0_1, xr_0_2, xr_0_3, xr_0_4, xr_0_5, xr_0_6, xr_0_7, xr_1_0, xr_1_1, xr_4_5, xr_4_6, xr_4_7, xr_4_8, xr_8_0, xr_10_5, xr_10_6, xr_10_7, xr_10_8, xr_14_0, xr_16_0, xr_16_1, xr_16_2, xr_20_0, xr_21_0, xr_21_1, xr_22_0, xr_24_0, xr_26_0, xr_26_1, xr_26_2, xr_30_0, xr_30_1, xr_30_2, xr_30_3, xr_30_4, xr_30_5, xr_30_6, xr_30_7, xr_31_0, xr_39_0, xr_39_1, xr_39_2, xr_42_0, xr_42_2, xr_42_3, xr_42_4, xr_42_5, xr_42_6, xr_42_8, xr_42_10, xr_42_13, xr_42_14, xr_42_15, xr_42_16, xr_42_23, xr_42_24, xr_42_25]
    rw [xbr_t (by omega)]
    exact hQ M1 v7 hG
  | succ j ih =>
    intro n M1 v7 hn hG
    rw [w60_43]
    simp (disch := first | assumption | decide +kernel | exact hM _ _ | exact hL _ | exact xG_b | exact xG_bt _ _ | omega) only [w60_45, w60_48, w60_49, w60_52, true_implies, false_implies, not_true_eq_false, not_false_eq_true, and_true, true_and, Int.reduceEq, Int.reduceLE, Int.reduceLT, Int.reduceNeg, xb_eq0, xb_eq1, xup_ne, xup_self, xup_k, xjl_i, xjl_r, xjl_j, xjl_l, Option.toList_some, Option.toList_none, List.cons_append, List.nil_append, xr_0_0, xr_0_1, xr_0_2, xr_0_3, xr_0_4, xr_0_5, xr_0_6, xr_0_7, xr_1_0, xr_1_1, xr_4_5, xr_4_6, xr_4_7, xr_4_8, xr_8_0, xr_10_5, xr_10_6, xr_10_7, xr_10_8, xr_14_0, xr_16_0, xr_16_1, xr_16_2, xr_20_0, xr_21_0, xr_21_1, xr_22_0, xr_24_0, xr_26_0, xr_26_1, xr_26_2, xr_30_0, xr_30_1, xr_30_2, xr_30_3, xr_30_4, xr_30_5, xr_30_6, xr_30_7, xr_31_0, xr_39_0, xr_39_1, xr_39_2, xr_42_0, xr_42_2, xr_42_3, xr_42_4, xr_42_5, xr_42_6, xr_42_8, xr_42_10, xr_42_13, xr_42_14, xr_42_15, xr_42_16, xr_42_23, xr_42_24, xr_42_25]
    rw [xbr_f (by omega)]
    have e81 : M1 8 = M 8 := hG 8 (by omega)
    have ehc : hC M1 = hC M := by funext a b; show xbt (M1 8 1) b = xbt (M 8 1) b; rw [e81]
    refine q_begin (h := hC M) hw (cB_G hB hG) (fun M2 hR2 e2 hG2 => ?_)
    simp (disch := first | assumption | decide +kernel | exact hM _ _ | exact hL _ | exact xG_b | exact xG_bt _ _ | omega) only [w60_55, w60_56, w60_59, w60_62, w60_65, w60_66, w60_68, w60_69, w60_70, w60_73, w60_74, w60_75, true_implies, false_implies, not_true_eq_false, not_false_eq_true, and_true, true_and, Int.reduceEq, Int.reduceLE, Int.reduceLT, Int.reduceNeg, xb_eq0, xb_eq1, xup_ne, xup_self, xup_k, xjl_i, xjl_r, xjl_j, xjl_l, Option.toList_some, Option.toList_none, List.cons_append, List.nil_append, xr_0_0, xr_0_1, xr_0_2, xr_0_3, xr_0_4, xr_0_5, xr_0_6, xr_0_7, xr_1_0, xr_1_1, xr_4_5, xr_4_6, xr_4_7, xr_4_8, xr_8_0, xr_10_5, xr_10_6, xr_10_7, xr_10_8, xr_14_0, xr_16_0, xr_16_1, xr_16_2, xr_20_0, xr_21_0, xr_21_1, xr_22_0, xr_24_0, xr_26_0, xr_26_1, xr_26_2, xr_30_0, xr_30_1, xr_30_2, xr_30_3, xr_30_4, xr_30_5, xr_30_6, xr_30_7, xr_31_0, xr_39_0, xr_39_1, xr_39_2, xr_42_0, xr_42_2, xr_42_3, xr_42_4, xr_42_5, xr_42_6, xr_42_8, xr_42_10, xr_42_13, xr_42_14, xr_42_15, xr_42_16, xr_42_23, xr_42_24, xr_42_25]
    have hW2 := zW_start (p := p) (s := 30 - n) hw (by omega)
    refine q_firstAt (w := xup w 3 p (30 - n)) (h := hC M) hW2 hp ht (cR_start hR2) (fun t' h1 h2 q h3 h4 => by rw [xup_ne (by omega), e2, e81]) (fun M3 hG3 => ?_)
    have hfr := @aFst_rng (xup w 3 p (30 - n)) (hC M) p t
    have hbr := bBest_rng (F := fun s => aFst (xup w 3 p s) (hC M) p t) (fun s => aFst_rng) n (by omega)
    change Wp 60 78 _ [xi (aFst (xup w 3 p (30 - n)) (hC M) p t)] M3 Q
    have hG' : cG M M3 := fun c hc => by rw [hG3 c hc, xup_ne (by omega), hG2 c hc]; exact hG c hc
    have ih' := ih (n + 1) M3 (xi (aFst (xup w 3 p (30 - n)) (hC M) p t)) (by omega) hG'
    rw [show (30 : Int) - ((n + 1 : Nat) : Int) = 30 - n + -1 by omega] at ih'
    rw [bBest] at ih'
    generalize hB1 : bBest (fun s => aFst (xup w 3 p s) (hC M) p t) n = BB at ih' hbr ⊢
    generalize hF : aFst (xup w 3 p (30 - n)) (hC M) p t = F at ih' hfr ⊢
    simp (disch := first | assumption | decide +kernel | exact hM _ _ | exact hL _ | exact xG_b | exact xG_bt _ _ | omega) only [w60_78, w60_80, w60_82, w60_84, w60_87, w60_89, w60_91, w60_94, w60_96, w60_98, w60_101, w60_103, w60_105, w60_107, true_implies, false_implies, not_true_eq_false, not_false_eq_true, and_true, true_and, Int.reduceEq, Int.reduceLE, Int.reduceLT, Int.reduceNeg, xb_eq0, xb_eq1, xup_ne, xup_self, xup_k, xjl_i, xjl_r, xjl_j, xjl_l, Option.toList_some, Option.toList_none, List.cons_append, List.nil_append, xr_0_0, xr_0_1, xr_0_2, xr_0_3, xr_0_4, xr_0_5, xr_0_6, xr_0_7, xr_1_0, xr_1_1, xr_4_5, xr_4_6, xr_4_7, xr_4_8, xr_8_0, xr_10_5, xr_10_6, xr_10_7, xr_10_8, xr_14_0, xr_16_0, xr_16_1, xr_16_2, xr_20_0, xr_21_0, xr_21_1, xr_22_0, xr_24_0, xr_26_0, xr_26_1, xr_26_2, xr_30_0, xr_30_1, xr_30_2, xr_30_3, xr_30_4, xr_30_5, xr_30_6, xr_30_7, xr_31_0, xr_39_0, xr_39_1, xr_39_2, xr_42_0, xr_42_2, xr_42_3, xr_42_4, xr_42_5, xr_42_6, xr_42_8, xr_42_10, xr_42_13, xr_42_14, xr_42_15, xr_42_16, xr_42_23, xr_42_24, xr_42_25]
    have hno : (¬ (¬ F = -4 ∧ (BB.2 = -4 ∨ F < BB.2))) → Wp 60 109 [xr 0, xi p, xi t, xi k, xi BB.1, xi BB.2, xi (30 - n), xi F] [] M3 Q := by
      intro hc
      rw [if_neg hc] at ih'
      simp (disch := first | assumption | decide +kernel | exact hM _ _ | exact hL _ | exact xG_b | exact xG_bt _ _ | omega) only [w60_109, w60_112, true_implies, false_implies, not_true_eq_false, not_false_eq_true, and_true, true_and, Int.reduceEq, Int.reduceLE, Int.reduceLT, Int.reduceNeg, xb_eq0, xb_eq1, xup_ne, xup_self, xup_k, xjl_i, xjl_r, xjl_j, xjl_l, Option.toList_some, Option.toList_none, List.cons_append, List.nil_append, xr_0_0, xr_0_1, xr_0_2, xr_0_3, xr_0_4, xr_0_5, xr_0_6, xr_0_7, xr_1_0, xr_1_1, xr_4_5, xr_4_6, xr_4_7, xr_4_8, xr_8_0, xr_10_5, xr_10_6, xr_10_7, xr_10_8, xr_14_0, xr_16_0, xr_16_1, xr_16_2, xr_20_0, xr_21_0, xr_21_1, xr_22_0, xr_24_0, xr_26_0, xr_26_1, xr_26_2, xr_30_0, xr_30_1, xr_30_2, xr_30_3, xr_30_4, xr_30_5, xr_30_6, xr_30_7, xr_31_0, xr_39_0, xr_39_1, xr_39_2, xr_42_0, xr_42_2, xr_42_3, xr_42_4, xr_42_5, xr_42_6, xr_42_8, xr_42_10, xr_42_13, xr_42_14, xr_42_15, xr_42_16, xr_42_23, xr_42_24, xr_42_25]
      exact ih'
    have hyes : (¬ F = -4 ∧ (BB.2 = -4 ∨ F < BB.2)) → Wp 60 109 [xr 0, xi p, xi t, xi k, xi (30 - n), xi F, xi (30 - n), xi F] [] M3 Q := by
      intro hc
      rw [if_pos hc] at ih'
      simp (disch := first | assumption | decide +kernel | exact hM _ _ | exact hL _ | exact xG_b | exact xG_bt _ _ | omega) only [w60_109, w60_112, true_implies, false_implies, not_true_eq_false, not_false_eq_true, and_true, true_and, Int.reduceEq, Int.reduceLE, Int.reduceLT, Int.reduceNeg, xb_eq0, xb_eq1, xup_ne, xup_self, xup_k, xjl_i, xjl_r, xjl_j, xjl_l, Option.toList_some, Option.toList_none, List.cons_append, List.nil_append, xr_0_0, xr_0_1, xr_0_2, xr_0_3, xr_0_4, xr_0_5, xr_0_6, xr_0_7, xr_1_0, xr_1_1, xr_4_5, xr_4_6, xr_4_7, xr_4_8, xr_8_0, xr_10_5, xr_10_6, xr_10_7, xr_10_8, xr_14_0, xr_16_0, xr_16_1, xr_16_2, xr_20_0, xr_21_0, xr_21_1, xr_22_0, xr_24_0, xr_26_0, xr_26_1, xr_26_2, xr_30_0, xr_30_1, xr_30_2, xr_30_3, xr_30_4, xr_30_5, xr_30_6, xr_30_7, xr_31_0, xr_39_0, xr_39_1, xr_39_2, xr_42_0, xr_42_2, xr_42_3, xr_42_4, xr_42_5, xr_42_6, xr_42_8, xr_42_10, xr_42_13, xr_42_14, xr_42_15, xr_42_16, xr_42_23, xr_42_24, xr_42_25]
      exact ih'
    repeat' (first | apply And.intro | intro _)
    all_goals first | exact hyes (by omega) | exact hno (by omega)
theorem q8_best {p t k : Int} (hp : xG p) (ht : xG t) (hk : xG k) (hw : zW w) (hB : cB w M) (hQ : ∀ M', cG M M' → Q (some (xi (aBest w (hC M) p t k))) M') : Wc 60 [xr 0, xi p, xi t, xi k] M Q := by
  have l2 := hB.1.2.1
  have l3 := hB.1.2.2.1
  have hw2 := hw.2.1
  have hw3 := hw.2.2.1
  have hbad : ¬ ((0 ≤ p ∧ p < w 0 2) ∧ (0 ≤ t ∧ t < w 0 1) ∧ (k = 0 ∨ k = 1)) → Q (some (xi (-1))) M := fun h => by
    have := hQ M cG_rf
    rw [aBest, if_neg h] at this
    exact this
  have hgood : ((0 ≤ p ∧ p < w 0 2) ∧ (0 ≤ t ∧ t < w 0 1) ∧ (k = 0 ∨ k = 1)) → Wp 60 31 [xr 0, xi p, xi t, xi k, xj, xj, xj, xj] [] M Q := fun h => by
    simp only [aBest, if_pos h] at hQ
    simp (disch := first | assumption | decide +kernel | exact hM _ _ | exact hL _ | exact xG_b | exact xG_bt _ _ | omega) only [w60_31, w60_33, w60_35, w60_37, w60_39, w60_41, true_implies, false_implies, not_true_eq_false, not_false_eq_true, and_true, true_and, Int.reduceEq, Int.reduceLE, Int.reduceLT, Int.reduceNeg, xb_eq0, xb_eq1, xup_ne, xup_self, xup_k, xjl_i, xjl_r, xjl_j, xjl_l, Option.toList_some, Option.toList_none, List.cons_append, List.nil_append, xr_0_0, xr_0_1, xr_0_2, xr_0_3, xr_0_4, xr_0_5, xr_0_6, xr_0_7, xr_1_0, xr_1_1, xr_4_5, xr_4_6, xr_4_7, xr_4_8, xr_8_0, xr_10_5, xr_10_6, xr_10_7, xr_10_8, xr_14_0, xr_16_0, xr_16_1, xr_16_2, xr_20_0, xr_21_0, xr_21_1, xr_22_0, xr_24_0, xr_26_0, xr_26_1, xr_26_2, xr_30_0, xr_30_1, xr_30_2, xr_30_3, xr_30_4, xr_30_5, xr_30_6, xr_30_7, xr_31_0, xr_39_0, xr_39_1, xr_39_2, xr_42_0, xr_42_2, xr_42_3, xr_42_4, xr_42_5, xr_42_6, xr_42_8, xr_42_10, xr_42_13, xr_42_14, xr_42_15, xr_42_16, xr_42_23, xr_42_24, xr_42_25]
    refine lp_best (M := M) (v7 := xj) hw hB h.1 h.2.1 (fun M2 v7 hG2 => ?_) 31 0 M xj (by omega) cG_rf
    have hq := hQ M2 hG2
    simp (disch := first | assumption | decide +kernel | exact hM _ _ | exact hL _ | exact xG_b | exact xG_bt _ _ | omega) only [w60_115, w60_116, w60_119, w60_121, w60_124, w60_126, true_implies, false_implies, not_true_eq_false, not_false_eq_true, and_true, true_and, Int.reduceEq, Int.reduceLE, Int.reduceLT, Int.reduceNeg, xb_eq0, xb_eq1, xup_ne, xup_self, xup_k, xjl_i, xjl_r, xjl_j, xjl_l, Option.toList_some, Option.toList_none, List.cons_append, List.nil_append, xr_0_0, xr_0_1, xr_0_2, xr_0_3, xr_0_4, xr_0_5, xr_0_6, xr_0_7, xr_1_0, xr_1_1, xr_4_5, xr_4_6, xr_4_7, xr_4_8, xr_8_0, xr_10_5, xr_10_6, xr_10_7, xr_10_8, xr_14_0, xr_16_0, xr_16_1, xr_16_2, xr_20_0, xr_21_0, xr_21_1, xr_22_0, xr_24_0, xr_26_0, xr_26_1, xr_26_2, xr_30_0, xr_30_1, xr_30_2, xr_30_3, xr_30_4, xr_30_5, xr_30_6, xr_30_7, xr_31_0, xr_39_0, xr_39_1, xr_39_2, xr_42_0, xr_42_2, xr_42_3, xr_42_4, xr_42_5, xr_42_6, xr_42_8, xr_42_10, xr_42_13, xr_42_14, xr_42_15, xr_42_16, xr_42_23, xr_42_24, xr_42_25]
    by_cases k0 : k = 0
    · rw [xbr_t' k0]; rw [if_pos k0] at hq; exact hq
    · rw [xbr_f' k0]; rw [if_neg k0] at hq; exact hq
  simp (disch := first | assumption | decide +kernel | exact hM _ _ | exact hL _ | exact xG_b | exact xG_bt _ _ | omega) only [w60_0, w60_1, w60_4, w60_5, w60_8, w60_11, w60_12, w60_15, w60_16, w60_19, w60_22, w60_23, w60_26, w60_29, w60_30, wc60, true_implies, false_implies, not_true_eq_false, not_false_eq_true, and_true, true_and, Int.reduceEq, Int.reduceLE, Int.reduceLT, Int.reduceNeg, xb_eq0, xb_eq1, xup_ne, xup_self, xup_k, xjl_i, xjl_r, xjl_j, xjl_l, Option.toList_some, Option.toList_none, List.cons_append, List.nil_append, xr_0_0, xr_0_1, xr_0_2, xr_0_3, xr_0_4, xr_0_5, xr_0_6, xr_0_7, xr_1_0, xr_1_1, xr_4_5, xr_4_6, xr_4_7, xr_4_8, xr_8_0, xr_10_5, xr_10_6, xr_10_7, xr_10_8, xr_14_0, xr_16_0, xr_16_1, xr_16_2, xr_20_0, xr_21_0, xr_21_1, xr_22_0, xr_24_0, xr_26_0, xr_26_1, xr_26_2, xr_30_0, xr_30_1, xr_30_2, xr_30_3, xr_30_4, xr_30_5, xr_30_6, xr_30_7, xr_31_0, xr_39_0, xr_39_1, xr_39_2, xr_42_0, xr_42_2, xr_42_3, xr_42_4, xr_42_5, xr_42_6, xr_42_8, xr_42_10, xr_42_13, xr_42_14, xr_42_15, xr_42_16, xr_42_23, xr_42_24, xr_42_25, q_hasPlatform, q_hasTrain, q_isEither]
  repeat' (first | apply And.intro | intro _)
  all_goals first | exact hgood (by omega) | exact hbad (by omega)
end PUB2
