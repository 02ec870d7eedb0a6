/-! the class's answers out of its run: where, first, hang, from, clocks, best -/
section PUB
variable {w M : xM} {Q : Option xV → xM → Prop}
/-- who is held, as the line has it -/
abbrev hC (M : xM) : Int → Int → Int := fun _ p => xbt (M 8 1) p
theorem cH_C {M1 : xM} {n m : Nat} (h : M1 31 1 = M 8 1) : cH w (hC M) n m M1 := fun t h1 h2 p h3 h4 => by rw [h]
theorem xup_w {c : Nat} {k v : Int} {d : Nat} (h : d ≠ c) : xup w c k v d = w d := xup_ne h
theorem zW_start {p s : Int} (hw : zW w) (hs : 0 ≤ s ∧ s ≤ 30) : zW (xup w 3 p s) := by
  obtain ⟨a1, a2, a3, a4, a5, a6, a7⟩ := hw
  refine ⟨a1, a2, a3, a4, fun q h1 h2 => ?_, a6, a7⟩
  have := a5 q h1 h2
  simp only [xup_app]
  by_cases hq : q = p
  · subst hq; simp; exact ⟨this.1, hs, this.2.2⟩
  · simp [hq]; exact this
theorem zAll_w {w' z : xM} {x : Int} (h : w' 0 2 = w 0 2) : zAll w' z x = zAll w z x := by rw [zAll, zAll, h]
theorem cR_start {h : Int → Int → Int} {p s : Int} (hR : cR w (zR w h 0) 0 M) : cR (xup w 3 p s) (zR (xup w 3 p s) h 0) 0 (xup M 32 p s) := by
  obtain ⟨⟨l1, l2, l3, l4, l5, l6⟩, ⟨s1, s2⟩, z1, z2, z3, z4, z5⟩ := hR
  have e0 : zR (xup w 3 p s) h 0 = zR w h 0 := by
    funext c k
    simp [zR, z0, xup_app]
  refine ⟨⟨l1, l2, l3, l4, l5, l6⟩, ⟨s1, fun q h1 h2 => ?_⟩, z1, ?_, ?_, fun q h1 h2 => ?_, fun x h1 h2 => ?_⟩
  · simp only [xup_app]
    by_cases hq : q = p
    · simp [hq]
    · simp [hq]; exact s2 q h1 h2
  · rw [e0]; exact z2
  · rw [e0]; exact z3
  · rw [e0]; exact z4 q h1 h2
  · rw [e0, show zAll (xup w 3 p s) (zR w h 0) x = zAll w (zR w h 0) x from rfl]; exact z5 x h1 h2
def aWhere (w : xM) (h : Int → Int → Int) (p s k : Int) : Int := if (0 ≤ p ∧ p < w 0 2) ∧ (0 ≤ s ∧ s ≤ 60) ∧ (0 ≤ k ∧ k ≤ 2) then (if k = 0 then zR w h s.toNat 0 p else if k = 1 then zR w h s.toNat 4 p else zR w h s.toNat 5 p) else -1
theorem q8_where {p s k : Int} (hp : xG p) (hs : xG s) (hk : xG k) (hw : zW w) (hB : cB w M) (hQ : ∀ M', cG M M' → Q (some (xi (aWhere w (hC M) p s k))) M') : Wc 56 [xr 0, xi p, xi s, xi k] M Q := by
  have l3 := hB.1.2.2.1
  have hw3 := hw.2.2.1
  have hbad : ¬ ((0 ≤ p ∧ p < w 0 2) ∧ (0 ≤ s ∧ s ≤ 60) ∧ (0 ≤ k ∧ k ≤ 2)) → Q (some (xi (-1))) M := fun h => by
    have := hQ M cG_rf
    rw [aWhere, if_neg h] at this
    exact this
  have hgood : ((0 ≤ p ∧ p < w 0 2) ∧ (0 ≤ s ∧ s ≤ 60) ∧ (0 ≤ k ∧ k ≤ 2)) → Wp 56 32 [xr 0, xi p, xi s, xi k] [] M Q := fun h => by
    obtain ⟨m, rfl⟩ : ∃ m : Nat, s = m := ⟨s.toNat, by omega⟩
    simp only [aWhere, if_pos h, Int.toNat_natCast] at hQ
    simp (disch := first | assumption | decide +kernel | exact hM _ _ | exact hL _ | exact xG_b | exact xG_bt _ _ | omega) only [w56_32, w56_33, w56_36, true_implies, false_implies, not_true_eq_false, not_false_eq_true, and_true, true_and, Int.reduceEq, Int.reduceLE, Int.reduceLT, Int.reduceNeg, xb_eq0, xb_eq1, xup_ne, xup_self, xup_k, xjl_i, xjl_r, xjl_j, xjl_l, Option.toList_some, Option.toList_none, List.cons_append, List.nil_append, xr_0_0, xr_0_1, xr_0_2, xr_0_3, xr_0_4, xr_0_5, xr_0_6, xr_0_7, xr_1_0, xr_1_1, xr_4_5, xr_4_6, xr_4_7, xr_4_8, xr_8_0, xr_10_5, xr_10_6, xr_10_7, xr_10_8, xr_14_0, xr_16_0, xr_16_1, xr_16_2, xr_20_0, xr_21_0, xr_21_1, xr_22_0, xr_24_0, xr_26_0, xr_26_1, xr_26_2, xr_30_0, xr_30_1, xr_30_2, xr_30_3, xr_30_4, xr_30_5, xr_30_6, xr_30_7, xr_31_0, xr_39_0, xr_39_1, xr_39_2, xr_42_0, xr_42_2, xr_42_3, xr_42_4, xr_42_5, xr_42_6, xr_42_8, xr_42_10, xr_42_13, xr_42_14, xr_42_15, xr_42_16, xr_42_23, xr_42_24, xr_42_25]
    refine q_begin (h := hC M) hw hB (fun M1 hR1 e1 hG1 => ?_)
    simp (disch := first | assumption | decide +kernel | exact hM _ _ | exact hL _ | exact xG_b | exact xG_bt _ _ | omega) only [w56_39, w56_40, w56_43, w56_44, true_implies, false_implies, not_true_eq_false, not_false_eq_true, and_true, true_and, Int.reduceEq, Int.reduceLE, Int.reduceLT, Int.reduceNeg, xb_eq0, xb_eq1, xup_ne, xup_self, xup_k, xjl_i, xjl_r, xjl_j, xjl_l, Option.toList_some, Option.toList_none, List.cons_append, List.nil_append, xr_0_0, xr_0_1, xr_0_2, xr_0_3, xr_0_4, xr_0_5, xr_0_6, xr_0_7, xr_1_0, xr_1_1, xr_4_5, xr_4_6, xr_4_7, xr_4_8, xr_8_0, xr_10_5, xr_10_6, xr_10_7, xr_10_8, xr_14_0, xr_16_0, xr_16_1, xr_16_2, xr_20_0, xr_21_0, xr_21_1, xr_22_0, xr_24_0, xr_26_0, xr_26_1, xr_26_2, xr_30_0, xr_30_1, xr_30_2, xr_30_3, xr_30_4, xr_30_5, xr_30_6, xr_30_7, xr_31_0, xr_39_0, xr_39_1, xr_39_2, xr_42_0, xr_42_2, xr_42_3, xr_42_4, xr_42_5, xr_42_6, xr_42_8, xr_42_10, xr_42_13, xr_42_14, xr_42_15, xr_42_16, xr_42_23, xr_42_24, xr_42_25]
    refine q_goTo (h := hC M) (n := 0) (m := m) hw (by omega) (by omega) hR1 (cH_C e1) (fun M2 hR2 hF2 => ?_)
    have hz := hR2.2.2.2.2.2.1 p h.1.1 h.1.2
    have hq := hQ M2 (cG_tr hG1 (cG_F hF2))
    simp (disch := first | assumption | decide +kernel | exact hM _ _ | exact hL _ | exact xG_b | exact xG_bt _ _ | omega) only [w56_47, w56_48, w56_51, w56_52, w56_55, w56_58, w56_59, w56_60, w56_61, w56_62, w56_63, w56_66, w56_67, w56_70, w56_73, w56_74, w56_75, w56_78, w56_79, w56_82, w56_85, w56_86, w56_87, true_implies, false_implies, not_true_eq_false, not_false_eq_true, and_true, true_and, Int.reduceEq, Int.reduceLE, Int.reduceLT, Int.reduceNeg, xb_eq0, xb_eq1, xup_ne, xup_self, xup_k, xjl_i, xjl_r, xjl_j, xjl_l, Option.toList_some, Option.toList_none, List.cons_append, List.nil_append, xr_0_0, xr_0_1, xr_0_2, xr_0_3, xr_0_4, xr_0_5, xr_0_6, xr_0_7, xr_1_0, xr_1_1, xr_4_5, xr_4_6, xr_4_7, xr_4_8, xr_8_0, xr_10_5, xr_10_6, xr_10_7, xr_10_8, xr_14_0, xr_16_0, xr_16_1, xr_16_2, xr_20_0, xr_21_0, xr_21_1, xr_22_0, xr_24_0, xr_26_0, xr_26_1, xr_26_2, xr_30_0, xr_30_1, xr_30_2, xr_30_3, xr_30_4, xr_30_5, xr_30_6, xr_30_7, xr_31_0, xr_39_0, xr_39_1, xr_39_2, xr_42_0, xr_42_2, xr_42_3, xr_42_4, xr_42_5, xr_42_6, xr_42_8, xr_42_10, xr_42_13, xr_42_14, xr_42_15, xr_42_16, xr_42_23, xr_42_24, xr_42_25]
    by_cases k0 : k = 0
    · rw [xbr_t' k0, hz.1]
      rw [if_pos k0] at hq
      exact hq
    · rw [xbr_f' k0]
      rw [if_neg k0] at hq
      by_cases k1 : k = 1
      · rw [xbr_t' k1, hz.2.2.2.2.1]
        rw [if_pos k1] at hq
        exact hq
      · rw [xbr_f' k1, hz.2.2.2.2.2]
        rw [if_neg k1] at hq
        exact hq
  simp (disch := first | assumption | decide +kernel | exact hM _ _ | exact hL _ | exact xG_b | exact xG_bt _ _ | omega) only [w56_0, w56_1, w56_4, w56_5, w56_8, w56_11, w56_12, w56_15, w56_16, w56_18, w56_21, w56_22, w56_25, w56_26, w56_27, w56_30, w56_31, wc56, true_implies, false_implies, not_true_eq_false, not_false_eq_true, and_true, true_and, Int.reduceEq, Int.reduceLE, Int.reduceLT, Int.reduceNeg, xb_eq0, xb_eq1, xup_ne, xup_self, xup_k, xjl_i, xjl_r, xjl_j, xjl_l, Option.toList_some, Option.toList_none, List.cons_append, List.nil_append, xr_0_0, xr_0_1, xr_0_2, xr_0_3, xr_0_4, xr_0_5, xr_0_6, xr_0_7, xr_1_0, xr_1_1, xr_4_5, xr_4_6, xr_4_7, xr_4_8, xr_8_0, xr_10_5, xr_10_6, xr_10_7, xr_10_8, xr_14_0, xr_16_0, xr_16_1, xr_16_2, xr_20_0, xr_21_0, xr_21_1, xr_22_0, xr_24_0, xr_26_0, xr_26_1, xr_26_2, xr_30_0, xr_30_1, xr_30_2, xr_30_3, xr_30_4, xr_30_5, xr_30_6, xr_30_7, xr_31_0, xr_39_0, xr_39_1, xr_39_2, xr_42_0, xr_42_2, xr_42_3, xr_42_4, xr_42_5, xr_42_6, xr_42_8, xr_42_10, xr_42_13, xr_42_14, xr_42_15, xr_42_16, xr_42_23, xr_42_24, xr_42_25, q_hasPlatform]
  repeat' (first | apply And.intro | intro _)
  all_goals first | exact hgood (by omega) | exact hbad (by omega)
def aFst (w : xM) (h : Int → Int → Int) (p t : Int) : Int := xfst (fun s => decide (zR w h s 0 p = w 1 t)) 61
def aFirst (w : xM) (h : Int → Int → Int) (p t : Int) : Int := if (0 ≤ p ∧ p < w 0 2) ∧ (0 ≤ t ∧ t < w 0 1) then aFst w h p t else -1
theorem q8_first {p t : Int} (hp : xG p) (ht : xG t) (hw : zW w) (hB : cB w M) (hQ : ∀ M', cG M M' → Q (some (xi (aFirst w (hC M) p t))) M') : Wc 57 [xr 0, xi p, xi t] M Q := by
  have l2 := hB.1.2.1
  have l3 := hB.1.2.2.1
  have hw2 := hw.2.1
  have hw3 := hw.2.2.1
  have hbad : ¬ ((0 ≤ p ∧ p < w 0 2) ∧ (0 ≤ t ∧ t < w 0 1)) → Q (some (xi (-1))) M := fun h => by
    have := hQ M cG_rf
    rw [aFirst, if_neg h] at this
    exact this
  have hgood : ((0 ≤ p ∧ p < w 0 2) ∧ (0 ≤ t ∧ t < w 0 1)) → Wp 57 24 [xr 0, xi p, xi t] [] M Q := fun h => by
    simp only [aFirst, if_pos h] at hQ
    simp (disch := first | assumption | decide +kernel | exact hM _ _ | exact hL _ | exact xG_b | exact xG_bt _ _ | omega) only [w57_24, w57_25, w57_28, true_implies, false_implies, not_true_eq_false, not_false_eq_true, and_true, true_and, Int.reduceEq, Int.reduceLE, Int.reduceLT, Int.reduceNeg, xb_eq0, xb_eq1, xup_ne, xup_self, xup_k, xjl_i, xjl_r, xjl_j, xjl_l, Option.toList_some, Option.toList_none, List.cons_append, List.nil_append, xr_0_0, xr_0_1, xr_0_2, xr_0_3, xr_0_4, xr_0_5, xr_0_6, xr_0_7, xr_1_0, xr_1_1, xr_4_5, xr_4_6, xr_4_7, xr_4_8, xr_8_0, xr_10_5, xr_10_6, xr_10_7, xr_10_8, xr_14_0, xr_16_0, xr_16_1, xr_16_2, xr_20_0, xr_21_0, xr_21_1, xr_22_0, xr_24_0, xr_26_0, xr_26_1, xr_26_2, xr_30_0, xr_30_1, xr_30_2, xr_30_3, xr_30_4, xr_30_5, xr_30_6, xr_30_7, xr_31_0, xr_39_0, xr_39_1, xr_39_2, xr_42_0, xr_42_2, xr_42_3, xr_42_4, xr_42_5, xr_42_6, xr_42_8, xr_42_10, xr_42_13, xr_42_14, xr_42_15, xr_42_16, xr_42_23, xr_42_24, xr_42_25]
    refine q_begin (h := hC M) hw hB (fun M1 hR1 e1 hG1 => ?_)
    simp (disch := first | assumption | decide +kernel | exact hM _ _ | exact hL _ | exact xG_b | exact xG_bt _ _ | omega) only [w57_31, w57_32, w57_35, w57_36, w57_37, true_implies, false_implies, not_true_eq_false, not_false_eq_true, and_true, true_and, Int.reduceEq, Int.reduceLE, Int.reduceLT, Int.reduceNeg, xb_eq0, xb_eq1, xup_ne, xup_self, xup_k, xjl_i, xjl_r, xjl_j, xjl_l, Option.toList_some, Option.toList_none, List.cons_append, List.nil_append, xr_0_0, xr_0_1, xr_0_2, xr_0_3, xr_0_4, xr_0_5, xr_0_6, xr_0_7, xr_1_0, xr_1_1, xr_4_5, xr_4_6, xr_4_7, xr_4_8, xr_8_0, xr_10_5, xr_10_6, xr_10_7, xr_10_8, xr_14_0, xr_16_0, xr_16_1, xr_16_2, xr_20_0, xr_21_0, xr_21_1, xr_22_0, xr_24_0, xr_26_0, xr_26_1, xr_26_2, xr_30_0, xr_30_1, xr_30_2, xr_30_3, xr_30_4, xr_30_5, xr_30_6, xr_30_7, xr_31_0, xr_39_0, xr_39_1, xr_39_2, xr_42_0, xr_42_2, xr_42_3, xr_42_4, xr_42_5, xr_42_6, xr_42_8, xr_42_10, xr_42_13, xr_42_14, xr_42_15, xr_42_16, xr_42_23, xr_42_24, xr_42_25]
    refine q_firstAt (h := hC M) hw h.1 h.2 hR1 (cH_C e1) (fun M2 hG2 => ?_)
    simp (disch := first | assumption | decide +kernel | exact hM _ _ | exact hL _ | exact xG_b | exact xG_bt _ _ | omega) only [w57_40, true_implies, false_implies, not_true_eq_false, not_false_eq_true, and_true, true_and, Int.reduceEq, Int.reduceLE, Int.reduceLT, Int.reduceNeg, xb_eq0, xb_eq1, xup_ne, xup_self, xup_k, xjl_i, xjl_r, xjl_j, xjl_l, Option.toList_some, Option.toList_none, List.cons_append, List.nil_append, xr_0_0, xr_0_1, xr_0_2, xr_0_3, xr_0_4, xr_0_5, xr_0_6, xr_0_7, xr_1_0, xr_1_1, xr_4_5, xr_4_6, xr_4_7, xr_4_8, xr_8_0, xr_10_5, xr_10_6, xr_10_7, xr_10_8, xr_14_0, xr_16_0, xr_16_1, xr_16_2, xr_20_0, xr_21_0, xr_21_1, xr_22_0, xr_24_0, xr_26_0, xr_26_1, xr_26_2, xr_30_0, xr_30_1, xr_30_2, xr_30_3, xr_30_4, xr_30_5, xr_30_6, xr_30_7, xr_31_0, xr_39_0, xr_39_1, xr_39_2, xr_42_0, xr_42_2, xr_42_3, xr_42_4, xr_42_5, xr_42_6, xr_42_8, xr_42_10, xr_42_13, xr_42_14, xr_42_15, xr_42_16, xr_42_23, xr_42_24, xr_42_25]
    exact hQ M2 (cG_tr hG1 hG2)
  simp (disch := first | assumption | decide +kernel | exact hM _ _ | exact hL _ | exact xG_b | exact xG_bt _ _ | omega) only [w57_0, w57_1, w57_4, w57_5, w57_8, w57_11, w57_12, w57_15, w57_16, w57_19, w57_22, w57_23, wc57, true_implies, false_implies, not_true_eq_false, not_false_eq_true, and_true, true_and, Int.reduceEq, Int.reduceLE, Int.reduceLT, Int.reduceNeg, xb_eq0, xb_eq1, xup_ne, xup_self, xup_k, xjl_i, xjl_r, xjl_j, xjl_l, Option.toList_some, Option.toList_none, List.cons_append, List.nil_append, xr_0_0, xr_0_1, xr_0_2, xr_0_3, xr_0_4, xr_0_5, xr_0_6, xr_0_7, xr_1_0, xr_1_1, xr_4_5, xr_4_6, xr_4_7, xr_4_8, xr_8_0, xr_10_5, xr_10_6, xr_10_7, xr_10_8, xr_14_0, xr_16_0, xr_16_1, xr_16_2, xr_20_0, xr_21_0, xr_21_1, xr_22_0, xr_24_0, xr_26_0, xr_26_1, xr_26_2, xr_30_0, xr_30_1, xr_30_2, xr_30_3, xr_30_4, xr_30_5, xr_30_6, xr_30_7, xr_31_0, xr_39_0, xr_39_1, xr_39_2, xr_42_0, xr_42_2, xr_42_3, xr_42_4, xr_42_5, xr_42_6, xr_42_8, xr_42_10, xr_42_13, xr_42_14, xr_42_15, xr_42_16, xr_42_23, xr_42_24, xr_42_25, q_hasPlatform, q_hasTrain]
  repeat' (first | apply And.intro | intro _)
  all_goals first | exact hgood (by omega) | exact hbad (by omega)
/-- bits of those of the first n that are so -/
def xbits (f : Nat → Bool) : Nat → Int
  | 0 => 0
  | n + 1 => if f n then xor_ (xbits f n) (xshl 1 n) else xbits f n
theorem xbits_c {f g : Nat → Bool} : ∀ {n : Nat}, (∀ j : Nat, j < n → f j = g j) → xbits f n = xbits g n
  | 0, _ => rfl
  | n + 1, h => by rw [xbits, xbits, xbits_c (fun j hj => h j (by omega)), h n (by omega)]
def aHang (w : xM) (h : Int → Int → Int) : Int := xbits (fun p => decide (h 60 p = 0 ∧ zR w h 60 2 p ≤ 30)) (w 0 2).toNat
theorem lp_hang (hw : zW w) {M0 : xM} (hR : cR w (zR w (hC M) 60) 60 M0) (e1 : M0 31 1 = M 8 1) (hQ : Q (some (xi (aHang w (hC M)))) M0) : ∀ (k n : Nat), (n : Int) + k = w 0 2 → Wp 58 20 [xr 0, xi (xbits (fun p => decide (hC M 60 p = 0 ∧ zR w (hC M) 60 2 p ≤ 30)) n), xi n] [] M0 Q := by
  have hw3 := hw.2.2.1
  have l3 := hR.1.2.2.1
  intro k
  induction k with
  | zero =>
    intro n hn
    rw [w58_20]
    simp (disch := first | assumption | decide +kernel | exact hM _ _ | exact hL _ | exact xG_b | exact xG_bt _ _ | omega) only [w58_21, w58_22, w58_25, w58_28, w58_54, w58_55, true_implies, false_implies, not_true_eq_false, not_false_eq_true, and_true, true_and, Int.reduceEq, Int.reduceLE, Int.reduceLT, Int.reduceNeg, xb_eq0, xb_eq1, xup_ne, xup_self, xup_k, xjl_i, xjl_r, xjl_j, xjl_l, Option.toList_some, Option.toList_none, List.cons_append, List.nil_append, xr_0_0, xr_0_1, xr_0_2, xr_0_3, xr_0_4, xr_0_5, xr_0_6, xr_0_7, xr_1_0, xr_1_1, xr_4_5, xr_4_6, xr_4_7, xr_4_8, xr_8_0, xr_10_5, xr_10_6, xr_10_7, xr_10_8, xr_14_0, xr_16_0, xr_16_1, xr_16_2, xr_20_0, xr_21_0, xr_21_1, xr_22_0, xr_24_0, xr_26_0, xr_26_1, xr_26_2, xr_30_0, xr_30_1, xr_30_2, xr_30_3, xr_30_4, xr_30_5, xr_30_6, xr_30_7, xr_31_0, xr_39_0, xr_39_1, xr_39_2, xr_42_0, xr_42_2, xr_42_3, xr_42_4, xr_42_5, xr_42_6, xr_42_8, xr_42_10, xr_42_13, xr_42_14, xr_42_15, xr_42_16, xr_42_23, xr_42_24, xr_42_25]
    rw [xbr_t (by omega)]
    have e2 : n = (w 0 2).toNat := by omega
    rw [aHang, ← e2] at hQ
    exact hQ
  | succ k ih =>
    intro n hn
    have hz := hR.2.2.2.2.2.1 n (by omega) (by omega)
    have hv := (zR_V' (h := hC M) hw (n := 60) (by omega)).1 n (by omega) (by omega)
    have ih' := ih (n + 1) (by omega)
    rw [xbits] at ih'
    rw [w58_20]
    simp (disch := first | assumption | decide +kernel | exact hM _ _ | exact hL _ | exact xG_b | exact xG_bt _ _ | omega) only [w58_21, w58_22, w58_25, w58_28, w58_31, w58_32, w58_35, w58_36, w58_39, w58_42, w58_43, w58_44, w58_45, w58_46, w58_47, true_implies, false_implies, not_true_eq_false, not_false_eq_true, and_true, true_and, Int.reduceEq, Int.reduceLE, Int.reduceLT, Int.reduceNeg, xb_eq0, xb_eq1, xup_ne, xup_self, xup_k, xjl_i, xjl_r, xjl_j, xjl_l, Option.toList_some, Option.toList_none, List.cons_append, List.nil_append, xr_0_0, xr_0_1, xr_0_2, xr_0_3, xr_0_4, xr_0_5, xr_0_6, xr_0_7, xr_1_0, xr_1_1, xr_4_5, xr_4_6, xr_4_7, xr_4_8, xr_8_0, xr_10_5, xr_10_6, xr_10_7, xr_10_8, xr_14_0, xr_16_0, xr_16_1, xr_16_2, xr_20_0, xr_21_0, xr_21_1, xr_22_0, xr_24_0, xr_26_0, xr_26_1, xr_26_2, xr_30_0, xr_30_1, xr_30_2, xr_30_3, xr_30_4, xr_30_5, xr_30_6, xr_30_7, xr_31_0, xr_39_0, xr_39_1, xr_39_2, xr_42_0, xr_42_2, xr_42_3, xr_42_4, xr_42_5, xr_42_6, xr_42_8, xr_42_10, xr_42_13, xr_42_14, xr_42_15, xr_42_16, xr_42_23, xr_42_24, xr_42_25, q_hangs]
    rw [xbr_f (by omega), e1, hz.2.2.1]
    by_cases hc : xbt (M 8 1) n = 0 ∧ zR w (hC M) 60 2 n ≤ 30
    · rw [xbr_t' hc]
      rw [if_pos (by simpa using hc)] at ih'
      simp (disch := first | assumption | decide +kernel | exact hM _ _ | exact hL _ | exact xG_b | exact xG_bt _ _ | omega) only [w58_48, w58_51, true_implies, false_implies, not_true_eq_false, not_false_eq_true, and_true, true_and, Int.reduceEq, Int.reduceLE, Int.reduceLT, Int.reduceNeg, xb_eq0, xb_eq1, xup_ne, xup_self, xup_k, xjl_i, xjl_r, xjl_j, xjl_l, Option.toList_some, Option.toList_none, List.cons_append, List.nil_append, xr_0_0, xr_0_1, xr_0_2, xr_0_3, xr_0_4, xr_0_5, xr_0_6, xr_0_7, xr_1_0, xr_1_1, xr_4_5, xr_4_6, xr_4_7, xr_4_8, xr_8_0, xr_10_5, xr_10_6, xr_10_7, xr_10_8, xr_14_0, xr_16_0, xr_16_1, xr_16_2, xr_20_0, xr_21_0, xr_21_1, xr_22_0, xr_24_0, xr_26_0, xr_26_1, xr_26_2, xr_30_0, xr_30_1, xr_30_2, xr_30_3, xr_30_4, xr_30_5, xr_30_6, xr_30_7, xr_31_0, xr_39_0, xr_39_1, xr_39_2, xr_42_0, xr_42_2, xr_42_3, xr_42_4, xr_42_5, xr_42_6, xr_42_8, xr_42_10, xr_42_13, xr_42_14, xr_42_15, xr_42_16, xr_42_23, xr_42_24, xr_42_25]
      exact ih'
    · rw [xbr_f' hc]
      rw [if_neg (by simpa using hc)] at ih'
      simp (disch := first | assumption | decide +kernel | exact hM _ _ | exact hL _ | exact xG_b | exact xG_bt _ _ | omega) only [w58_48, w58_51, true_implies, false_implies, not_true_eq_false, not_false_eq_true, and_true, true_and, Int.reduceEq, Int.reduceLE, Int.reduceLT, Int.reduceNeg, xb_eq0, xb_eq1, xup_ne, xup_self, xup_k, xjl_i, xjl_r, xjl_j, xjl_l, Option.toList_some, Option.toList_none, List.cons_append, List.nil_append, xr_0_0, xr_0_1, xr_0_2, xr_0_3, xr_0_4, xr_0_5, xr_0_6, xr_0_7, xr_1_0, xr_1_1, xr_4_5, xr_4_6, xr_4_7, xr_4_8, xr_8_0, xr_10_5, xr_10_6, xr_10_7, xr_10_8, xr_14_0, xr_16_0, xr_16_1, xr_16_2, xr_20_0, xr_21_0, xr_21_1, xr_22_0, xr_24_0, xr_26_0, xr_26_1, xr_26_2, xr_30_0, xr_30_1, xr_30_2, xr_30_3, xr_30_4, xr_30_5, xr_30_6, xr_30_7, xr_31_0, xr_39_0, xr_39_1, xr_39_2, xr_42_0, xr_42_2, xr_42_3, xr_42_4, xr_42_5, xr_42_6, xr_42_8, xr_42_10, xr_42_13, xr_42_14, xr_42_15, xr_42_16, xr_42_23, xr_42_24, xr_42_25]
      exact ih'
theorem q8_hang (hw : zW w) (hB : cB w M) (hQ : ∀ M', cG M M' → Q (some (xi (aHang w (hC M)))) M') : Wc 58 [xr 0] M Q := by
  simp (disch := first | assumption | decide +kernel | exact hM _ _ | exact hL _ | exact xG_b | exact xG_bt _ _ | omega) only [w58_0, w58_1, w58_4, wc58, true_implies, false_implies, not_true_eq_false, not_false_eq_true, and_true, true_and, Int.reduceEq, Int.reduceLE, Int.reduceLT, Int.reduceNeg, xb_eq0, xb_eq1, xup_ne, xup_self, xup_k, xjl_i, xjl_r, xjl_j, xjl_l, Option.toList_some, Option.toList_none, List.cons_append, List.nil_append, xr_0_0, xr_0_1, xr_0_2, xr_0_3, xr_0_4, xr_0_5, xr_0_6, xr_0_7, xr_1_0, xr_1_1, xr_4_5, xr_4_6, xr_4_7, xr_4_8, xr_8_0, xr_10_5, xr_10_6, xr_10_7, xr_10_8, xr_14_0, xr_16_0, xr_16_1, xr_16_2, xr_20_0, xr_21_0, xr_21_1, xr_22_0, xr_24_0, xr_26_0, xr_26_1, xr_26_2, xr_30_0, xr_30_1, xr_30_2, xr_30_3, xr_30_4, xr_30_5, xr_30_6, xr_30_7, xr_31_0, xr_39_0, xr_39_1, xr_39_2, xr_42_0, xr_42_2, xr_42_3, xr_42_4, xr_42_5, xr_42_6, xr_42_8, xr_42_10, xr_42_13, xr_42_14, xr_42_15, xr_42_16, xr_42_23, xr_42_24, xr_42_25]
  refine q_begin (h := hC M) hw hB (fun M1 hR1 e1 hG1 => ?_)
  simp (disch := first | assumption | decide +kernel | exact hM _ _ | exact hL _ | exact xG_b | exact xG_bt _ _ | omega) only [w58_7, w58_8, w58_11, w58_13, true_implies, false_implies, not_true_eq_false, not_false_eq_true, and_true, true_and, Int.reduceEq, Int.reduceLE, Int.reduceLT, Int.reduceNeg, xb_eq0, xb_eq1, xup_ne, xup_self, xup_k, xjl_i, xjl_r, xjl_j, xjl_l, Option.toList_some, Option.toList_none, List.cons_append, List.nil_append, xr_0_0, xr_0_1, xr_0_2, xr_0_3, xr_0_4, xr_0_5, xr_0_6, xr_0_7, xr_1_0, xr_1_1, xr_4_5, xr_4_6, xr_4_7, xr_4_8, xr_8_0, xr_10_5, xr_10_6, xr_10_7, xr_10_8, xr_14_0, xr_16_0, xr_16_1, xr_16_2, xr_20_0, xr_21_0, xr_21_1, xr_22_0, xr_24_0, xr_26_0, xr_26_1, xr_26_2, xr_30_0, xr_30_1, xr_30_2, xr_30_3, xr_30_4, xr_30_5, xr_30_6, xr_30_7, xr_31_0, xr_39_0, xr_39_1, xr_39_2, xr_42_0, xr_42_2, xr_42_3, xr_42_4, xr_42_5, xr_42_6, xr_42_8, xr_42_10, xr_42_13, xr_42_14, xr_42_15, xr_42_16, xr_42_23, xr_42_24, xr_42_25]
  refine q_goTo (h := hC M) (n := 0) (m := 60) hw (by omega) (by omega) hR1 (cH_C e1) (fun M2 hR2 hF2 => ?_)
  simp (disch := first | assumption | decide +kernel | exact hM _ _ | exact hL _ | exact xG_b | exact xG_bt _ _ | omega) only [w58_16, w58_17, w58_18, w58_19, true_implies, false_implies, not_true_eq_false, not_false_eq_true, and_true, true_and, Int.reduceEq, Int.reduceLE, Int.reduceLT, Int.reduceNeg, xb_eq0, xb_eq1, xup_ne, xup_self, xup_k, xjl_i, xjl_r, xjl_j, xjl_l, Option.toList_some, Option.toList_none, List.cons_append, List.nil_append, xr_0_0, xr_0_1, xr_0_2, xr_0_3, xr_0_4, xr_0_5, xr_0_6, xr_0_7, xr_1_0, xr_1_1, xr_4_5, xr_4_6, xr_4_7, xr_4_8, xr_8_0, xr_10_5, xr_10_6, xr_10_7, xr_10_8, xr_14_0, xr_16_0, xr_16_1, xr_16_2, xr_20_0, xr_21_0, xr_21_1, xr_22_0, xr_24_0, xr_26_0, xr_26_1, xr_26_2, xr_30_0, xr_30_1, xr_30_2, xr_30_3, xr_30_4, xr_30_5, xr_30_6, xr_30_7, xr_31_0, xr_39_0, xr_39_1, xr_39_2, xr_42_0, xr_42_2, xr_42_3, xr_42_4, xr_42_5, xr_42_6, xr_42_8, xr_42_10, xr_42_13, xr_42_14, xr_42_15, xr_42_16, xr_42_23, xr_42_24, xr_42_25]
  exact lp_hang (M := M) hw hR2 (by rw [hF2 31 (by omega) (by omega)]; exact e1) (hQ M2 (cG_tr hG1 (cG_F hF2))) (w 0 2).toNat 0 (by have := hw.2.2.1; omega)
/-- how many cells up a train is -/
def aUp (w z : xM) (p t : Int) : Int := if w 1 t - z 0 p < 0 then w 1 t - z 0 p + w 0 0 else w 1 t - z 0 p
def aFrom (w : xM) (h : Int → Int → Int) (p t s k : Int) : Int := if (0 ≤ p ∧ p < w 0 2) ∧ (0 ≤ t ∧ t < w 0 1) ∧ (k = 0 ∨ k = 1) ∧ (k ≤ s ∧ s ≤ 60) then (if k = 0 then aUp w (zR w h s.toNat) p t else xround (w 0 0) (aUp w (zR w h (s.toNat - 1)) p t - aUp w (zR w h s.toNat) p t) + 100) else -1
theorem q8_from {p t s k : Int} (hp : xG p) (ht : xG t) (hs : xG s) (hk : xG k) (hw : zW w) (hB : cB w M) (hQ : ∀ M', cG M M' → Q (some (xi (aFrom w (hC M) p t s k))) M') : Wc 65 [xr 0, xi p, xi t, xi s, xi k] M Q := by
  have l2 := hB.1.2.1
  have l3 := hB.1.2.2.1
  have hw1 := hw.1
  have hw2 := hw.2.1
  have hw3 := hw.2.2.1
  have hbad : ¬ ((0 ≤ p ∧ p < w 0 2) ∧ (0 ≤ t ∧ t < w 0 1) ∧ (k = 0 ∨ k = 1) ∧ (k ≤ s ∧ s ≤ 60)) → Q (some (xi (-1))) M := fun h => by
    have := hQ M cG_rf
    rw [aFrom, if_neg h] at this
    exact this
  have hgood : ((0 ≤ p ∧ p < w 0 2) ∧ (0 ≤ t ∧ t < w 0 1) ∧ (k = 0 ∨ k = 1) ∧ (k ≤ s ∧ s ≤ 60)) → Wp 65 46 [xr 0, xi p, xi t, xi s, xi k, xj] [] M Q := fun h => by
    obtain ⟨m, rfl⟩ : ∃ m : Nat, s = m := ⟨s.toNat, by omega⟩
    have hst := hw.2.2.2.1 t h.2.1.1 h.2.1.2
    simp only [aFrom, if_pos h, Int.toNat_natCast] at hQ
    simp (disch := first | assumption | decide +kernel | exact hM _ _ | exact hL _ | exact xG_b | exact xG_bt _ _ | omega) only [w65_46, w65_47, w65_50, true_implies, false_implies, not_true_eq_false, not_false_eq_true, and_true, true_and, Int.reduceEq, Int.reduceLE, Int.reduceLT, Int.reduceNeg, xb_eq0, xb_eq1, xup_ne, xup_self, xup_k, xjl_i, xjl_r, xjl_j, xjl_l, Option.toList_some, Option.toList_none, List.cons_append, List.nil_append, xr_0_0, xr_0_1, xr_0_2, xr_0_3, xr_0_4, xr_0_5, xr_0_6, xr_0_7, xr_1_0, xr_1_1, xr_4_5, xr_4_6, xr_4_7, xr_4_8, xr_8_0, xr_10_5, xr_10_6, xr_10_7, xr_10_8, xr_14_0, xr_16_0, xr_16_1, xr_16_2, xr_20_0, xr_21_0, xr_21_1, xr_22_0, xr_24_0, xr_26_0, xr_26_1, xr_26_2, xr_30_0, xr_30_1, xr_30_2, xr_30_3, xr_30_4, xr_30_5, xr_30_6, xr_30_7, xr_31_0, xr_39_0, xr_39_1, xr_39_2, xr_42_0, xr_42_2, xr_42_3, xr_42_4, xr_42_5, xr_42_6, xr_42_8, xr_42_10, xr_42_13, xr_42_14, xr_42_15, xr_42_16, xr_42_23, xr_42_24, xr_42_25]
    refine q_begin (h := hC M) hw hB (fun M1 hR1 e1 hG1 => ?_)
    simp (disch := first | assumption | decide +kernel | exact hM _ _ | exact hL _ | exact xG_b | exact xG_bt _ _ | omega) only [w65_53, w65_54, w65_57, w65_58, w65_60, w65_61, true_implies, false_implies, not_true_eq_false, not_false_eq_true, and_true, true_and, Int.reduceEq, Int.reduceLE, Int.reduceLT, Int.reduceNeg, xb_eq0, xb_eq1, xup_ne, xup_self, xup_k, xjl_i, xjl_r, xjl_j, xjl_l, Option.toList_some, Option.toList_none, List.cons_append, List.nil_append, xr_0_0, xr_0_1, xr_0_2, xr_0_3, xr_0_4, xr_0_5, xr_0_6, xr_0_7, xr_1_0, xr_1_1, xr_4_5, xr_4_6, xr_4_7, xr_4_8, xr_8_0, xr_10_5, xr_10_6, xr_10_7, xr_10_8, xr_14_0, xr_16_0, xr_16_1, xr_16_2, xr_20_0, xr_21_0, xr_21_1, xr_22_0, xr_24_0, xr_26_0, xr_26_1, xr_26_2, xr_30_0, xr_30_1, xr_30_2, xr_30_3, xr_30_4, xr_30_5, xr_30_6, xr_30_7, xr_31_0, xr_39_0, xr_39_1, xr_39_2, xr_42_0, xr_42_2, xr_42_3, xr_42_4, xr_42_5, xr_42_6, xr_42_8, xr_42_10, xr_42_13, xr_42_14, xr_42_15, xr_42_16, xr_42_23, xr_42_24, xr_42_25]
    have hup : ∀ (j : Nat) (M2 : xM), j ≤ 60 → cR w (zR w (hC M) j) j M2 → (0 ≤ M2 33 p ∧ M2 33 p < 24) ∧ (0 ≤ M2 5 t ∧ M2 5 t < 24) ∧ (if M2 5 t - M2 33 p < 0 then M2 5 t - M2 33 p + M2 4 0 else M2 5 t - M2 33 p) = aUp w (zR w (hC M) j) p t ∧ (0 ≤ aUp w (zR w (hC M) j) p t ∧ aUp w (zR w (hC M) j) p t < w 0 0) := by
      intro j M2 hj hR2
      have hz := hR2.2.2.2.2.2.1 p h.1.1 h.1.2
      have hv := (zR_V' (h := hC M) hw (n := j) hj).1 p h.1.1 h.1.2
      have e5 := hR2.1.2.2.2.2.1 t h.2.1.1 h.2.1.2
      have e4 := hR2.1.1
      refine ⟨by omega, by omega, by rw [hz.1, e5, e4]; rfl, ?_⟩
      unfold aUp
      split <;> omega
    rcases h.2.2.1 with rfl | rfl
    · rw [show (m : Int) - 0 = (m : Nat) by omega]
      refine q_goTo (h := hC M) (n := 0) (m := m) hw (by omega) (by omega) hR1 (cH_C e1) (fun M2 hR2 hF2 => ?_)
      obtain ⟨a1, a2, a3, a4⟩ := hup m M2 (by omega) hR2
      simp (disch := first | assumption | decide +kernel | exact hM _ _ | exact hL _ | exact xG_b | exact xG_bt _ _ | omega) only [w65_64, w65_65, w65_68, w65_69, w65_70, w65_73, w65_75, w65_77, w65_80, w65_82, true_implies, false_implies, not_true_eq_false, not_false_eq_true, and_true, true_and, Int.reduceEq, Int.reduceLE, Int.reduceLT, Int.reduceNeg, xb_eq0, xb_eq1, xup_ne, xup_self, xup_k, xjl_i, xjl_r, xjl_j, xjl_l, Option.toList_some, Option.toList_none, List.cons_append, List.nil_append, xr_0_0, xr_0_1, xr_0_2, xr_0_3, xr_0_4, xr_0_5, xr_0_6, xr_0_7, xr_1_0, xr_1_1, xr_4_5, xr_4_6, xr_4_7, xr_4_8, xr_8_0, xr_10_5, xr_10_6, xr_10_7, xr_10_8, xr_14_0, xr_16_0, xr_16_1, xr_16_2, xr_20_0, xr_21_0, xr_21_1, xr_22_0, xr_24_0, xr_26_0, xr_26_1, xr_26_2, xr_30_0, xr_30_1, xr_30_2, xr_30_3, xr_30_4, xr_30_5, xr_30_6, xr_30_7, xr_31_0, xr_39_0, xr_39_1, xr_39_2, xr_42_0, xr_42_2, xr_42_3, xr_42_4, xr_42_5, xr_42_6, xr_42_8, xr_42_10, xr_42_13, xr_42_14, xr_42_15, xr_42_16, xr_42_23, xr_42_24, xr_42_25, q_cellsUpTo]
      rw [a3]
      have := hQ M2 (cG_tr hG1 (cG_F hF2))
      rw [if_pos rfl] at this
      exact this
    · rw [show (m : Int) - 1 = ((m - 1 : Nat) : Int) by omega]
      refine q_goTo (h := hC M) (n := 0) (m := m - 1) hw (by omega) (by omega) hR1 (cH_C e1) (fun M2 hR2 hF2 => ?_)
      obtain ⟨a1, a2, a3, a4⟩ := hup (m - 1) M2 (by omega) hR2
      simp (disch := first | assumption | decide +kernel | exact hM _ _ | exact hL _ | exact xG_b | exact xG_bt _ _ | omega) only [w65_64, w65_65, w65_68, w65_69, w65_70, w65_73, w65_75, w65_77, w65_80, w65_82, w65_83, w65_84, w65_87, w65_88, true_implies, false_implies, not_true_eq_false, not_false_eq_true, and_true, true_and, Int.reduceEq, Int.reduceLE, Int.reduceLT, Int.reduceNeg, xb_eq0, xb_eq1, xup_ne, xup_self, xup_k, xjl_i, xjl_r, xjl_j, xjl_l, Option.toList_some, Option.toList_none, List.cons_append, List.nil_append, xr_0_0, xr_0_1, xr_0_2, xr_0_3, xr_0_4, xr_0_5, xr_0_6, xr_0_7, xr_1_0, xr_1_1, xr_4_5, xr_4_6, xr_4_7, xr_4_8, xr_8_0, xr_10_5, xr_10_6, xr_10_7, xr_10_8, xr_14_0, xr_16_0, xr_16_1, xr_16_2, xr_20_0, xr_21_0, xr_21_1, xr_22_0, xr_24_0, xr_26_0, xr_26_1, xr_26_2, xr_30_0, xr_30_1, xr_30_2, xr_30_3, xr_30_4, xr_30_5, xr_30_6, xr_30_7, xr_31_0, xr_39_0, xr_39_1, xr_39_2, xr_42_0, xr_42_2, xr_42_3, xr_42_4, xr_42_5, xr_42_6, xr_42_8, xr_42_10, xr_42_13, xr_42_14, xr_42_15, xr_42_16, xr_42_23, xr_42_24, xr_42_25, q_cellsUpTo]
      rw [a3]
      refine q_goTo (h := hC M) (n := m - 1) (m := m) hw (by omega) (by omega) hR2 (cH_C (by rw [hF2 31 (by omega) (by omega)]; exact e1)) (fun M3 hR3 hF3 => ?_)
      obtain ⟨b1, b2, b3, b4⟩ := hup m M3 (by omega) hR3
      have e4 := hR3.1.1
      simp (disch := first | assumption | decide +kernel | exact hM _ _ | exact hL _ | exact xG_b | exact xG_bt _ _ | omega) only [w65_91, w65_92, w65_95, w65_97, w65_98, w65_101, w65_102, w65_103, true_implies, false_implies, not_true_eq_false, not_false_eq_true, and_true, true_and, Int.reduceEq, Int.reduceLE, Int.reduceLT, Int.reduceNeg, xb_eq0, xb_eq1, xup_ne, xup_self, xup_k, xjl_i, xjl_r, xjl_j, xjl_l, Option.toList_some, Option.toList_none, List.cons_append, List.nil_append, xr_0_0, xr_0_1, xr_0_2, xr_0_3, xr_0_4, xr_0_5, xr_0_6, xr_0_7, xr_1_0, xr_1_1, xr_4_5, xr_4_6, xr_4_7, xr_4_8, xr_8_0, xr_10_5, xr_10_6, xr_10_7, xr_10_8, xr_14_0, xr_16_0, xr_16_1, xr_16_2, xr_20_0, xr_21_0, xr_21_1, xr_22_0, xr_24_0, xr_26_0, xr_26_1, xr_26_2, xr_30_0, xr_30_1, xr_30_2, xr_30_3, xr_30_4, xr_30_5, xr_30_6, xr_30_7, xr_31_0, xr_39_0, xr_39_1, xr_39_2, xr_42_0, xr_42_2, xr_42_3, xr_42_4, xr_42_5, xr_42_6, xr_42_8, xr_42_10, xr_42_13, xr_42_14, xr_42_15, xr_42_16, xr_42_23, xr_42_24, xr_42_25, q_cellsUpTo]
      rw [b3]
      simp (disch := first | assumption | decide +kernel | exact hM _ _ | exact hL _ | exact xG_b | exact xG_bt _ _ | omega) only [w65_106, w65_107, w65_110, w65_112, w65_113, true_implies, false_implies, not_true_eq_false, not_false_eq_true, and_true, true_and, Int.reduceEq, Int.reduceLE, Int.reduceLT, Int.reduceNeg, xb_eq0, xb_eq1, xup_ne, xup_self, xup_k, xjl_i, xjl_r, xjl_j, xjl_l, Option.toList_some, Option.toList_none, List.cons_append, List.nil_append, xr_0_0, xr_0_1, xr_0_2, xr_0_3, xr_0_4, xr_0_5, xr_0_6, xr_0_7, xr_1_0, xr_1_1, xr_4_5, xr_4_6, xr_4_7, xr_4_8, xr_8_0, xr_10_5, xr_10_6, xr_10_7, xr_10_8, xr_14_0, xr_16_0, xr_16_1, xr_16_2, xr_20_0, xr_21_0, xr_21_1, xr_22_0, xr_24_0, xr_26_0, xr_26_1, xr_26_2, xr_30_0, xr_30_1, xr_30_2, xr_30_3, xr_30_4, xr_30_5, xr_30_6, xr_30_7, xr_31_0, xr_39_0, xr_39_1, xr_39_2, xr_42_0, xr_42_2, xr_42_3, xr_42_4, xr_42_5, xr_42_6, xr_42_8, xr_42_10, xr_42_13, xr_42_14, xr_42_15, xr_42_16, xr_42_23, xr_42_24, xr_42_25, q_byRound]
      rw [e4]
      have := hQ M3 (cG_tr (cG_tr hG1 (cG_F hF2)) (cG_F hF3))
      rw [if_neg (by omega)] at this
      exact this
  simp (disch := first | assumption | decide +kernel | exact hM _ _ | exact hL _ | exact xG_b | exact xG_bt _ _ | omega) only [w65_0, w65_1, w65_4, w65_5, w65_8, w65_11, w65_12, w65_15, w65_16, w65_19, w65_22, w65_24, w65_27, w65_30, w65_31, w65_32, w65_33, w65_35, w65_38, w65_39, w65_41, w65_44, w65_45, wc65, true_implies, false_implies, not_true_eq_false, not_false_eq_true, and_true, true_and, Int.reduceEq, Int.reduceLE, Int.reduceLT, Int.reduceNeg, xb_eq0, xb_eq1, xup_ne, xup_self, xup_k, xjl_i, xjl_r, xjl_j, xjl_l, Option.toList_some, Option.toList_none, List.cons_append, List.nil_append, xr_0_0, xr_0_1, xr_0_2, xr_0_3, xr_0_4, xr_0_5, xr_0_6, xr_0_7, xr_1_0, xr_1_1, xr_4_5, xr_4_6, xr_4_7, xr_4_8, xr_8_0, xr_10_5, xr_10_6, xr_10_7, xr_10_8, xr_14_0, xr_16_0, xr_16_1, xr_16_2, xr_20_0, xr_21_0, xr_21_1, xr_22_0, xr_24_0, xr_26_0, xr_26_1, xr_26_2, xr_30_0, xr_30_1, xr_30_2, xr_30_3, xr_30_4, xr_30_5, xr_30_6, xr_30_7, xr_31_0, xr_39_0, xr_39_1, xr_39_2, xr_42_0, xr_42_2, xr_42_3, xr_42_4, xr_42_5, xr_42_6, xr_42_8, xr_42_10, xr_42_13, xr_42_14, xr_42_15, xr_42_16, xr_42_23, xr_42_24, xr_42_25, q_hasPlatform, q_hasTrain, q_isEither]
  repeat' (first | apply And.intro | intro _)
  all_goals first | exact hgood (by omega) | exact hbad (by omega)
end PUB
