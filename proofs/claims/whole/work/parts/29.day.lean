section DAY
variable {w M : xM} {Q : Option xV → xM → Prop} {h : Int → Int → Int}
/-- p was at t in one of the first n steps (0 on) -/
def zSaw (w : xM) (h : Int → Int → Int) (n : Nat) (p t : Int) : Bool := decide (¬ xfst (fun s => decide (zR w h s 0 p = w 1 t)) n = -4)
theorem xfst_none {f : Nat → Bool} {n : Nat} : xfst f n = -4 ↔ ∀ j : Nat, j < n → f j = false := by
  constructor
  · intro h j hj
    cases hb : f j with
    | false => rfl
    | true =>
      exfalso
      obtain ⟨i1, h4, h5⟩ := pk_least (fun i => f i = true) ⟨j, hb⟩
      have hle : i1 ≤ j := Nat.le_of_not_lt (fun hlt => h5 j hlt hb)
      rw [xfst_yes h4 (fun j hj => by cases hb : f j with
        | false => rfl
        | true => exact absurd hb (h5 j hj)) (n := n) (by omega)] at h
      omega
  · exact xfst_no
theorem zSaw_0 {p t : Int} : zSaw w h 0 p t = false := by simp [zSaw, xfst]
theorem zSaw_s {n : Nat} {p t : Int} : zSaw w h (n + 1) p t = (zSaw w h n p t || decide (zR w h n 0 p = w 1 t)) := by
  apply Bool.eq_iff_iff.mpr
  rw [Bool.or_eq_true, zSaw, zSaw, decide_eq_true_eq, decide_eq_true_eq, xfst_none, xfst_none]
  constructor
  · intro hh
    by_cases hc : zR w h n 0 p = w 1 t
    · exact Or.inr (by simp [hc])
    · refine Or.inl (fun h2 => hh (fun j hj => ?_))
      by_cases e : j = n
      · subst e; simp [hc]
      · exact h2 j (by omega)
  · rintro (hh | hh) h2
    · exact hh (fun j hj => h2 j (by omega))
    · have := h2 n (by omega)
      rw [this] at hh; cases hh
/-- the bits 5 p + t of those that f says, p under a, and p = a with t under b -/
def sBits (f : Int → Int → Bool) (T a b : Int) (v : Int) : Prop := ∀ p t : Nat, p < 5 → t < 5 → xt v (5 * p + t) = (decide (((p : Int) < a ∨ ((p : Int) = a ∧ (t : Int) < b)) ∧ (t : Int) < T) && f p t)
def sHi (v : Int) : Prop := ∀ k : Nat, 25 ≤ k → xt v k = false
/-- bits of a step half way: those before, and those of the step that are through -/
def tIn (w : xM) (h : Int → Int → Int) (s : Nat) (a b v : Int) : Prop := sHi v ∧ ∀ p t : Nat, p < 5 → t < 5 → xt v (5 * p + t) = (decide ((p : Int) < w 0 2 ∧ (t : Int) < w 0 1) && (zSaw w h s p t || (decide ((p : Int) < a ∨ ((p : Int) = a ∧ (t : Int) < b)) && decide (zR w h s 0 p = w 1 t))))
theorem tIn_up {s : Nat} {a b v : Int} (ha : 0 ≤ a ∧ a < w 0 2) (hb : 0 ≤ b ∧ b < w 0 1) (hw : zW w) (hv : tIn w h s a b v) : tIn w h s a (b + 1) (if zR w h s 0 a = w 1 b then xor_ v (xshl 1 (5 * a + b)) else v) := by
  have hw2 := hw.2.1
  have hw3 := hw.2.2.1
  obtain ⟨a', rfl⟩ : ∃ k : Nat, a = k := ⟨a.toNat, by omega⟩
  obtain ⟨b', rfl⟩ : ∃ k : Nat, b = k := ⟨b.toNat, by omega⟩
  have hsh : ∀ k : Nat, xt (xshl 1 (5 * (a' : Int) + (b' : Int))) k = decide (k = 5 * a' + b') := fun k => by
    rw [show 5 * (a' : Int) + (b' : Int) = ((5 * a' + b' : Nat) : Int) by omega]
    exact xt_shl1 (by omega)
  constructor
  · intro k hk
    split
    · rw [xt_or, hv.1 k hk, hsh]
      simp; omega
    · exact hv.1 k hk
  · intro p t hp ht
    have h1 := hv.2 p t hp ht
    by_cases e : p = a' ∧ t = b'
    · obtain ⟨rfl, rfl⟩ := e
      by_cases hc : zR w h s 0 (p : Int) = w 1 (t : Int)
      · rw [if_pos hc, xt_or, hsh, h1]
        have c1 : (p : Int) < w 0 2 ∧ (t : Int) < w 0 1 := by omega
        simp [hc, c1]
        exact Or.inr (by omega)
      · rw [if_neg hc, h1]
        simp [hc]
    · have c2 : ((p : Int) < (a' : Int) ∨ ((p : Int) = a' ∧ (t : Int) < (b' : Int) + 1)) ↔ ((p : Int) < (a' : Int) ∨ ((p : Int) = a' ∧ (t : Int) < (b' : Int))) := by omega
      have c3 : ¬ (5 * p + t = 5 * a' + b') := by omega
      have h2 : xt (if zR w h s 0 (a' : Int) = w 1 (b' : Int) then xor_ v (xshl 1 (5 * (a' : Int) + (b' : Int))) else v) (5 * p + t) = xt v (5 * p + t) := by
        split
        · rw [xt_or, hsh]; simp [c3]
        · rfl
      rw [h2, h1]
      simp only [c2]
theorem tIn_row {s : Nat} {a v : Int} (ha : 0 ≤ a) (hv : tIn w h s a (w 0 1) v) : tIn w h s (a + 1) 0 v := by
  refine ⟨hv.1, fun p t hp ht => ?_⟩
  rw [hv.2 p t hp ht]
  by_cases c : (p : Int) < w 0 2 ∧ (t : Int) < w 0 1
  · have c2 : ((p : Int) < a ∨ ((p : Int) = a ∧ (t : Int) < w 0 1)) ↔ ((p : Int) < a + 1 ∨ ((p : Int) = a + 1 ∧ (t : Int) < 0)) := by omega
    simp only [c2]
  · simp [c]
theorem tIn_step {s : Nat} {v : Int} (hv : tIn w h s (w 0 2) 0 v) : tIn w h (s + 1) 0 0 v := by
  refine ⟨hv.1, fun p t hp ht => ?_⟩
  rw [hv.2 p t hp ht, zSaw_s]
  by_cases c : (p : Int) < w 0 2 ∧ (t : Int) < w 0 1
  · simp [c]; omega
  · simp [c]
theorem lp_two3 (hw : zW w) {s : Nat} (hs : s ≤ 60) {p : Int} (hp : 0 ≤ p ∧ p < w 0 2) {M1 : xM} (hR : cR w (zR w h s) s M1) (hQ : ∀ v : Int, tIn w h s p (w 0 1) v → Wp 36 70 [xr 30, xi v, xi s, xi p, xi (w 0 1)] [] M1 Q) : ∀ (k n : Nat) (v : Int), (n : Int) + k = w 0 1 → tIn w h s p n v → Wp 36 31 [xr 30, xi v, xi s, xi p, xi n] [] M1 Q := by
  have hw1 := hw.1
  have hw2 := hw.2.1
  have hw3 := hw.2.2.1
  have l2 := hR.1.2.1
  have e1 : M1 33 p = zR w h s 0 p := (hR.2.2.2.2.2.1 p hp.1 hp.2).1
  have hv := (zR_V' (h := h) hw hs).1 p hp.1 hp.2
  intro k
  induction k with
  | zero =>
    intro n v hn ht
    rw [w36_31]
    simp (disch := first | assumption | decide +kernel | exact hM _ _ | exact hL _ | exact xG_b | exact xG_bt _ _ | omega) only [w36_33, w36_34, w36_37, w36_40, true_implies, false_implies, not_true_eq_false, not_false_eq_true, and_true, true_and, Int.reduceEq, Int.reduceLE, Int.reduceLT, Int.reduceNeg, xb_eq0, xb_eq1, xup_ne, xup_self, xup_k, xjl_i, xjl_r, xjl_j, xjl_l, Option.toList_some, Option.toList_none, List.cons_append, List.nil_append, xr_0_0, xr_0_1, xr_0_2, xr_0_3, xr_0_4, xr_0_5, xr_0_6, xr_0_7, xr_1_0, xr_1_1, xr_4_5, xr_4_6, xr_4_7, xr_4_8, xr_8_0, xr_10_5, xr_10_6, xr_10_7, xr_10_8, xr_14_0, xr_16_0, xr_16_1, xr_16_2, xr_20_0, xr_21_0, xr_21_1, xr_22_0, xr_24_0, xr_26_0, xr_26_1, xr_26_2, xr_30_0, xr_30_1, xr_30_2, xr_30_3, xr_30_4, xr_30_5, xr_30_6, xr_30_7, xr_31_0, xr_39_0, xr_39_1, xr_39_2, xr_42_0, xr_42_2, xr_42_3, xr_42_4, xr_42_5, xr_42_6, xr_42_8, xr_42_10, xr_42_13, xr_42_14, xr_42_15, xr_42_16, xr_42_23, xr_42_24, xr_42_25]
    rw [xbr_t (by omega)]
    have e : (n : Int) = w 0 1 := by omega
    rw [e] at ht ⊢
    exact hQ v ht
  | succ k ih =>
    intro n v hn ht
    have e2 : M1 5 n = w 1 n := hR.1.2.2.2.2.1 n (by omega) (by omega)
    have hst := hw.2.2.2.1 n (by omega) (by omega)
    have ht2 := tIn_up hp (by omega) hw ht
    rw [w36_31]
    simp (disch := first | assumption | decide +kernel | exact hM _ _ | exact hL _ | exact xG_b | exact xG_bt _ _ | omega) only [w36_33, w36_34, w36_37, w36_40, w36_43, w36_44, w36_45, w36_47, w36_50, w36_53, w36_54, w36_55, w36_56, w36_57, w36_58, w36_60, w36_61, w36_62, w36_63, true_implies, false_implies, not_true_eq_false, not_false_eq_true, and_true, true_and, Int.reduceEq, Int.reduceLE, Int.reduceLT, Int.reduceNeg, xb_eq0, xb_eq1, xup_ne, xup_self, xup_k, xjl_i, xjl_r, xjl_j, xjl_l, Option.toList_some, Option.toList_none, List.cons_append, List.nil_append, xr_0_0, xr_0_1, xr_0_2, xr_0_3, xr_0_4, xr_0_5, xr_0_6, xr_0_7, xr_1_0, xr_1_1, xr_4_5, xr_4_6, xr_4_7, xr_4_8, xr_8_0, xr_10_5, xr_10_6, xr_10_7, xr_10_8, xr_14_0, xr_16_0, xr_16_1, xr_16_2, xr_20_0, xr_21_0, xr_21_1, xr_22_0, xr_24_0, xr_26_0, xr_26_1, xr_26_2, xr_30_0, xr_30_1, xr_30_2, xr_30_3, xr_30_4, xr_30_5, xr_30_6, xr_30_7, xr_31_0, xr_39_0, xr_39_1, xr_39_2, xr_42_0, xr_42_2, xr_42_3, xr_42_4, xr_42_5, xr_42_6, xr_42_8, xr_42_10, xr_42_13, xr_42_14, xr_42_15, xr_42_16, xr_42_23, xr_42_24, xr_42_25, q_isAt]
    rw [xbr_f (by omega), e1, e2]
    by_cases hc : zR w h s 0 p = w 1 n
    · rw [xbr_t' hc]
      rw [if_pos hc] at ht2
      simp (disch := first | assumption | decide +kernel | exact hM _ _ | exact hL _ | exact xG_b | exact xG_bt _ _ | omega) only [w36_64, w36_67, true_implies, false_implies, not_true_eq_false, not_false_eq_true, and_true, true_and, Int.reduceEq, Int.reduceLE, Int.reduceLT, Int.reduceNeg, xb_eq0, xb_eq1, xup_ne, xup_self, xup_k, xjl_i, xjl_r, xjl_j, xjl_l, Option.toList_some, Option.toList_none, List.cons_append, List.nil_append, xr_0_0, xr_0_1, xr_0_2, xr_0_3, xr_0_4, xr_0_5, xr_0_6, xr_0_7, xr_1_0, xr_1_1, xr_4_5, xr_4_6, xr_4_7, xr_4_8, xr_8_0, xr_10_5, xr_10_6, xr_10_7, xr_10_8, xr_14_0, xr_16_0, xr_16_1, xr_16_2, xr_20_0, xr_21_0, xr_21_1, xr_22_0, xr_24_0, xr_26_0, xr_26_1, xr_26_2, xr_30_0, xr_30_1, xr_30_2, xr_30_3, xr_30_4, xr_30_5, xr_30_6, xr_30_7, xr_31_0, xr_39_0, xr_39_1, xr_39_2, xr_42_0, xr_42_2, xr_42_3, xr_42_4, xr_42_5, xr_42_6, xr_42_8, xr_42_10, xr_42_13, xr_42_14, xr_42_15, xr_42_16, xr_42_23, xr_42_24, xr_42_25]
      rw [show p * 5 + (n : Int) = 5 * p + n by omega] at *
      exact ih (n + 1) _ (by omega) ht2
    · rw [xbr_f' hc]
      rw [if_neg hc] at ht2
      simp (disch := first | assumption | decide +kernel | exact hM _ _ | exact hL _ | exact xG_b | exact xG_bt _ _ | omega) only [w36_64, w36_67, true_implies, false_implies, not_true_eq_false, not_false_eq_true, and_true, true_and, Int.reduceEq, Int.reduceLE, Int.reduceLT, Int.reduceNeg, xb_eq0, xb_eq1, xup_ne, xup_self, xup_k, xjl_i, xjl_r, xjl_j, xjl_l, Option.toList_some, Option.toList_none, List.cons_append, List.nil_append, xr_0_0, xr_0_1, xr_0_2, xr_0_3, xr_0_4, xr_0_5, xr_0_6, xr_0_7, xr_1_0, xr_1_1, xr_4_5, xr_4_6, xr_4_7, xr_4_8, xr_8_0, xr_10_5, xr_10_6, xr_10_7, xr_10_8, xr_14_0, xr_16_0, xr_16_1, xr_16_2, xr_20_0, xr_21_0, xr_21_1, xr_22_0, xr_24_0, xr_26_0, xr_26_1, xr_26_2, xr_30_0, xr_30_1, xr_30_2, xr_30_3, xr_30_4, xr_30_5, xr_30_6, xr_30_7, xr_31_0, xr_39_0, xr_39_1, xr_39_2, xr_42_0, xr_42_2, xr_42_3, xr_42_4, xr_42_5, xr_42_6, xr_42_8, xr_42_10, xr_42_13, xr_42_14, xr_42_15, xr_42_16, xr_42_23, xr_42_24, xr_42_25]
      exact ih (n + 1) v (by omega) ht2
theorem lp_two2 (hw : zW w) {s : Nat} (hs : s ≤ 60) {M1 : xM} (hR : cR w (zR w h s) s M1) (hQ : ∀ (v : Int) (v4 : xV), tIn w h s (w 0 2) 0 v → Wp 36 76 [xr 30, xi v, xi s, xi (w 0 2), v4] [] M1 Q) : ∀ (k n : Nat) (v : Int) (v4 : xV), (n : Int) + k = w 0 2 → tIn w h s n 0 v → Wp 36 17 [xr 30, xi v, xi s, xi n, v4] [] M1 Q := by
  have hw2 := hw.2.1
  have hw3 := hw.2.2.1
  have l3 := hR.1.2.2.1
  intro k
  induction k with
  | zero =>
    intro n v v4 hn ht
    rw [w36_17]
    simp (disch := first | assumption | decide +kernel | exact hM _ _ | exact hL _ | exact xG_b | exact xG_bt _ _ | omega) only [w36_18, w36_19, w36_22, w36_25, true_implies, false_implies, not_true_eq_false, not_false_eq_true, and_true, true_and, Int.reduceEq, Int.reduceLE, Int.reduceLT, Int.reduceNeg, xb_eq0, xb_eq1, xup_ne, xup_self, xup_k, xjl_i, xjl_r, xjl_j, xjl_l, Option.toList_some, Option.toList_none, List.cons_append, List.nil_append, xr_0_0, xr_0_1, xr_0_2, xr_0_3, xr_0_4, xr_0_5, xr_0_6, xr_0_7, xr_1_0, xr_1_1, xr_4_5, xr_4_6, xr_4_7, xr_4_8, xr_8_0, xr_10_5, xr_10_6, xr_10_7, xr_10_8, xr_14_0, xr_16_0, xr_16_1, xr_16_2, xr_20_0, xr_21_0, xr_21_1, xr_22_0, xr_24_0, xr_26_0, xr_26_1, xr_26_2, xr_30_0, xr_30_1, xr_30_2, xr_30_3, xr_30_4, xr_30_5, xr_30_6, xr_30_7, xr_31_0, xr_39_0, xr_39_1, xr_39_2, xr_42_0, xr_42_2, xr_42_3, xr_42_4, xr_42_5, xr_42_6, xr_42_8, xr_42_10, xr_42_13, xr_42_14, xr_42_15, xr_42_16, xr_42_23, xr_42_24, xr_42_25]
    rw [xbr_t (by omega)]
    have e : (n : Int) = w 0 2 := by omega
    rw [e] at ht ⊢
    exact hQ v v4 ht
  | succ k ih =>
    intro n v v4 hn ht
    rw [w36_17]
    simp (disch := first | assumption | decide +kernel | exact hM _ _ | exact hL _ | exact xG_b | exact xG_bt _ _ | omega) only [w36_18, w36_19, w36_22, w36_25, w36_28, w36_29, true_implies, false_implies, not_true_eq_false, not_false_eq_true, and_true, true_and, Int.reduceEq, Int.reduceLE, Int.reduceLT, Int.reduceNeg, xb_eq0, xb_eq1, xup_ne, xup_self, xup_k, xjl_i, xjl_r, xjl_j, xjl_l, Option.toList_some, Option.toList_none, List.cons_append, List.nil_append, xr_0_0, xr_0_1, xr_0_2, xr_0_3, xr_0_4, xr_0_5, xr_0_6, xr_0_7, xr_1_0, xr_1_1, xr_4_5, xr_4_6, xr_4_7, xr_4_8, xr_8_0, xr_10_5, xr_10_6, xr_10_7, xr_10_8, xr_14_0, xr_16_0, xr_16_1, xr_16_2, xr_20_0, xr_21_0, xr_21_1, xr_22_0, xr_24_0, xr_26_0, xr_26_1, xr_26_2, xr_30_0, xr_30_1, xr_30_2, xr_30_3, xr_30_4, xr_30_5, xr_30_6, xr_30_7, xr_31_0, xr_39_0, xr_39_1, xr_39_2, xr_42_0, xr_42_2, xr_42_3, xr_42_4, xr_42_5, xr_42_6, xr_42_8, xr_42_10, xr_42_13, xr_42_14, xr_42_15, xr_42_16, xr_42_23, xr_42_24, xr_42_25]
    rw [xbr_f (by omega)]
    refine lp_two3 (h := h) hw hs (p := n) (by omega) hR (fun v' hv' => ?_) (w 0 1).toNat 0 v (by omega) ht
    simp (disch := first | assumption | decide +kernel | exact hM _ _ | exact hL _ | exact xG_b | exact xG_bt _ _ | omega) only [w36_70, w36_73, true_implies, false_implies, not_true_eq_false, not_false_eq_true, and_true, true_and, Int.reduceEq, Int.reduceLE, Int.reduceLT, Int.reduceNeg, xb_eq0, xb_eq1, xup_ne, xup_self, xup_k, xjl_i, xjl_r, xjl_j, xjl_l, Option.toList_some, Option.toList_none, List.cons_append, List.nil_append, xr_0_0, xr_0_1, xr_0_2, xr_0_3, xr_0_4, xr_0_5, xr_0_6, xr_0_7, xr_1_0, xr_1_1, xr_4_5, xr_4_6, xr_4_7, xr_4_8, xr_8_0, xr_10_5, xr_10_6, xr_10_7, xr_10_8, xr_14_0, xr_16_0, xr_16_1, xr_16_2, xr_20_0, xr_21_0, xr_21_1, xr_22_0, xr_24_0, xr_26_0, xr_26_1, xr_26_2, xr_30_0, xr_30_1, xr_30_2, xr_30_3, xr_30_4, xr_30_5, xr_30_6, xr_30_7, xr_31_0, xr_39_0, xr_39_1, xr_39_2, xr_42_0, xr_42_2, xr_42_3, xr_42_4, xr_42_5, xr_42_6, xr_42_8, xr_42_10, xr_42_13, xr_42_14, xr_42_15, xr_42_16, xr_42_23, xr_42_24, xr_42_25]
    exact ih (n + 1) v' _ (by omega) (tIn_row (by omega) hv')
theorem lp_two1 (hw : zW w) {M0 : xM} (hQ : ∀ (M' : xM) (v : Int), cG M0 M' → cR w (zR w h 60) 60 M' → tIn w h 61 0 0 v → Q (some (xi (xbc v))) M') : ∀ (k n : Nat) (v : Int) (v3 v4 : xV) (M1 : xM), n + k = 61 → tIn w h n 0 0 v → cR w (zR w h (n - 1)) ((n - 1 : Nat) : Int) M1 → cH w h 0 60 M1 → cG M0 M1 → Wp 36 4 [xr 30, xi v, xi n, v3, v4] [] M1 Q := by
  intro k
  induction k with
  | zero =>
    intro n v v3 v4 M1 hn ht hR hH hG
    have e : n = 61 := by omega
    subst e
    rw [w36_4]
    simp (disch := first | assumption | decide +kernel | exact hM _ _ | exact hL _ | exact xG_b | exact xG_bt _ _ | omega) only [w36_5, w36_7, w36_82, w36_83, w36_86, true_implies, false_implies, not_true_eq_false, not_false_eq_true, and_true, true_and, Int.reduceEq, Int.reduceLE, Int.reduceLT, Int.reduceNeg, xb_eq0, xb_eq1, xup_ne, xup_self, xup_k, xjl_i, xjl_r, xjl_j, xjl_l, Option.toList_some, Option.toList_none, List.cons_append, List.nil_append, xr_0_0, xr_0_1, xr_0_2, xr_0_3, xr_0_4, xr_0_5, xr_0_6, xr_0_7, xr_1_0, xr_1_1, xr_4_5, xr_4_6, xr_4_7, xr_4_8, xr_8_0, xr_10_5, xr_10_6, xr_10_7, xr_10_8, xr_14_0, xr_16_0, xr_16_1, xr_16_2, xr_20_0, xr_21_0, xr_21_1, xr_22_0, xr_24_0, xr_26_0, xr_26_1, xr_26_2, xr_30_0, xr_30_1, xr_30_2, xr_30_3, xr_30_4, xr_30_5, xr_30_6, xr_30_7, xr_31_0, xr_39_0, xr_39_1, xr_39_2, xr_42_0, xr_42_2, xr_42_3, xr_42_4, xr_42_5, xr_42_6, xr_42_8, xr_42_10, xr_42_13, xr_42_14, xr_42_15, xr_42_16, xr_42_23, xr_42_24, xr_42_25]
    rw [xbr_t (by omega)]
    exact hQ M1 v hG hR ht
  | succ k ih =>
    intro n v v3 v4 M1 hn ht hR hH hG
    rw [w36_4]
    simp (disch := first | assumption | decide +kernel | exact hM _ _ | exact hL _ | exact xG_b | exact xG_bt _ _ | omega) only [w36_5, w36_7, w36_10, w36_11, w36_12, true_implies, false_implies, not_true_eq_false, not_false_eq_true, and_true, true_and, Int.reduceEq, Int.reduceLE, Int.reduceLT, Int.reduceNeg, xb_eq0, xb_eq1, xup_ne, xup_self, xup_k, xjl_i, xjl_r, xjl_j, xjl_l, Option.toList_some, Option.toList_none, List.cons_append, List.nil_append, xr_0_0, xr_0_1, xr_0_2, xr_0_3, xr_0_4, xr_0_5, xr_0_6, xr_0_7, xr_1_0, xr_1_1, xr_4_5, xr_4_6, xr_4_7, xr_4_8, xr_8_0, xr_10_5, xr_10_6, xr_10_7, xr_10_8, xr_14_0, xr_16_0, xr_16_1, xr_16_2, xr_20_0, xr_21_0, xr_21_1, xr_22_0, xr_24_0, xr_26_0, xr_26_1, xr_26_2, xr_30_0, xr_30_1, xr_30_2, xr_30_3, xr_30_4, xr_30_5, xr_30_6, xr_30_7, xr_31_0, xr_39_0, xr_39_1, xr_39_2, xr_42_0, xr_42_2, xr_42_3, xr_42_4, xr_42_5, xr_42_6, xr_42_8, xr_42_10, xr_42_13, xr_42_14, xr_42_15, xr_42_16, xr_42_23, xr_42_24, xr_42_25]
    rw [xbr_f (by omega)]
    refine q_goTo (h := h) hw (n := n - 1) (m := n) (by omega) (by omega) hR (fun t h1 h2 => hH t (by omega) (by omega)) (fun M2 hR2 hF2 => ?_)
    simp (disch := first | assumption | decide +kernel | exact hM _ _ | exact hL _ | exact xG_b | exact xG_bt _ _ | omega) only [w36_15, w36_16, true_implies, false_implies, not_true_eq_false, not_false_eq_true, and_true, true_and, Int.reduceEq, Int.reduceLE, Int.reduceLT, Int.reduceNeg, xb_eq0, xb_eq1, xup_ne, xup_self, xup_k, xjl_i, xjl_r, xjl_j, xjl_l, Option.toList_some, Option.toList_none, List.cons_append, List.nil_append, xr_0_0, xr_0_1, xr_0_2, xr_0_3, xr_0_4, xr_0_5, xr_0_6, xr_0_7, xr_1_0, xr_1_1, xr_4_5, xr_4_6, xr_4_7, xr_4_8, xr_8_0, xr_10_5, xr_10_6, xr_10_7, xr_10_8, xr_14_0, xr_16_0, xr_16_1, xr_16_2, xr_20_0, xr_21_0, xr_21_1, xr_22_0, xr_24_0, xr_26_0, xr_26_1, xr_26_2, xr_30_0, xr_30_1, xr_30_2, xr_30_3, xr_30_4, xr_30_5, xr_30_6, xr_30_7, xr_31_0, xr_39_0, xr_39_1, xr_39_2, xr_42_0, xr_42_2, xr_42_3, xr_42_4, xr_42_5, xr_42_6, xr_42_8, xr_42_10, xr_42_13, xr_42_14, xr_42_15, xr_42_16, xr_42_23, xr_42_24, xr_42_25]
    refine lp_two2 (h := h) hw (by omega) hR2 (fun v' v4' hv' => ?_) (w 0 2).toNat 0 v v4 (by have := hw.2.2.1; omega) ht
    simp (disch := first | assumption | decide +kernel | exact hM _ _ | exact hL _ | exact xG_b | exact xG_bt _ _ | omega) only [w36_76, w36_79, true_implies, false_implies, not_true_eq_false, not_false_eq_true, and_true, true_and, Int.reduceEq, Int.reduceLE, Int.reduceLT, Int.reduceNeg, xb_eq0, xb_eq1, xup_ne, xup_self, xup_k, xjl_i, xjl_r, xjl_j, xjl_l, Option.toList_some, Option.toList_none, List.cons_append, List.nil_append, xr_0_0, xr_0_1, xr_0_2, xr_0_3, xr_0_4, xr_0_5, xr_0_6, xr_0_7, xr_1_0, xr_1_1, xr_4_5, xr_4_6, xr_4_7, xr_4_8, xr_8_0, xr_10_5, xr_10_6, xr_10_7, xr_10_8, xr_14_0, xr_16_0, xr_16_1, xr_16_2, xr_20_0, xr_21_0, xr_21_1, xr_22_0, xr_24_0, xr_26_0, xr_26_1, xr_26_2, xr_30_0, xr_30_1, xr_30_2, xr_30_3, xr_30_4, xr_30_5, xr_30_6, xr_30_7, xr_31_0, xr_39_0, xr_39_1, xr_39_2, xr_42_0, xr_42_2, xr_42_3, xr_42_4, xr_42_5, xr_42_6, xr_42_8, xr_42_10, xr_42_13, xr_42_14, xr_42_15, xr_42_16, xr_42_23, xr_42_24, xr_42_25]
    exact ih (n + 1) v' _ v4' M2 (by omega) (tIn_step hv') hR2 (cH_F hH hF2) (cG_tr hG (cG_F hF2))
theorem tIn_0 : tIn w h 0 0 0 0 := by
  refine ⟨fun k _ => xt_0 k, fun p t hp ht => ?_⟩
  rw [xt_0, zSaw_0]
  have : ¬ ((p : Int) < 0 ∨ ((p : Int) = 0 ∧ (t : Int) < 0)) := by omega
  rw [decide_eq_false this]
  simp
theorem q_twosAt (hw : zW w) (hR : cR w (zR w h 0) 0 M) (hH : cH w h 0 60 M) (hQ : ∀ (M' : xM) (v : Int), cG M M' → cR w (zR w h 60) 60 M' → tIn w h 61 0 0 v → Q (some (xi (xbc v))) M') : Wc 36 [xr 30] M Q := by
  simp (disch := first | assumption | decide +kernel | exact hM _ _ | exact hL _ | exact xG_b | exact xG_bt _ _ | omega) only [w36_0, w36_1, w36_2, w36_3, wc36, true_implies, false_implies, not_true_eq_false, not_false_eq_true, and_true, true_and, Int.reduceEq, Int.reduceLE, Int.reduceLT, Int.reduceNeg, xb_eq0, xb_eq1, xup_ne, xup_self, xup_k, xjl_i, xjl_r, xjl_j, xjl_l, Option.toList_some, Option.toList_none, List.cons_append, List.nil_append, xr_0_0, xr_0_1, xr_0_2, xr_0_3, xr_0_4, xr_0_5, xr_0_6, xr_0_7, xr_1_0, xr_1_1, xr_4_5, xr_4_6, xr_4_7, xr_4_8, xr_8_0, xr_10_5, xr_10_6, xr_10_7, xr_10_8, xr_14_0, xr_16_0, xr_16_1, xr_16_2, xr_20_0, xr_21_0, xr_21_1, xr_22_0, xr_24_0, xr_26_0, xr_26_1, xr_26_2, xr_30_0, xr_30_1, xr_30_2, xr_30_3, xr_30_4, xr_30_5, xr_30_6, xr_30_7, xr_31_0, xr_39_0, xr_39_1, xr_39_2, xr_42_0, xr_42_2, xr_42_3, xr_42_4, xr_42_5, xr_42_6, xr_42_8, xr_42_10, xr_42_13, xr_42_14, xr_42_15, xr_42_16, xr_42_23, xr_42_24, xr_42_25]
  exact lp_two1 (M0 := M) hw hQ 61 0 0 xj xj M (by omega) tIn_0 hR hH cG_rf
/-- starts by draws -/
def wDraw (w : xM) (z : Int) : xM := fun c k => if c = 3 ∧ 0 ≤ k ∧ k < w 0 2 then xdraw z k else w c k
theorem wDraw_ne {z : Int} {c : Nat} (hc : c ≠ 3) : wDraw w z c = w c := by
  funext k
  simp [wDraw, hc]
theorem xdraw_rng {z p : Int} : 0 ≤ xdraw z p ∧ xdraw z p ≤ 30 := by
  unfold xdraw
  omega
theorem zW_draw {z : Int} (hw : zW w) : zW (wDraw w z) := by
  obtain ⟨a1, a2, a3, a4, a5, a6, a7⟩ := hw
  refine ⟨?_, ?_, ?_, ?_, fun q h1 h2 => ?_, ?_, ?_⟩
  · rw [wDraw_ne (by decide)]; exact a1
  · rw [wDraw_ne (by decide)]; exact a2
  · rw [wDraw_ne (by decide)]; exact a3
  · rw [wDraw_ne (by decide), wDraw_ne (by decide)]; exact a4
  · rw [wDraw_ne (by decide)] at h2
    have := a5 q h1 h2
    rw [wDraw_ne (c := 2) (by decide), wDraw_ne (c := 4) (by decide), wDraw_ne (c := 5) (by decide), wDraw_ne (c := 0) (by decide)]
    refine ⟨this.1, ?_, this.2.2⟩
    simp only [wDraw, h1, h2, and_self, if_true]
    exact xdraw_rng
  · rw [wDraw_ne (by decide)]; exact a6
  · rw [wDraw_ne (by decide)]; exact a7
def aTwos (w : xM) (h : Int → Int → Int) (v : Int) : Prop := tIn w h 61 0 0 v
theorem cR_draw {z : Int} {M' : xM} (hR : cR w (zR w h 0) 0 M) (h32 : ∀ q, 0 ≤ q → q < w 0 2 → M' 32 q = xdraw z q) (ho : ∀ c, c ≠ 32 → M' c = M c) : cR (wDraw w z) (zR (wDraw w z) h 0) 0 M' := by
  obtain ⟨⟨l1, l2, l3, l4, l5, l6⟩, ⟨s1, s2⟩, z1, z2, z3, z4, z5⟩ := hR
  have e0 : zR (wDraw w z) h 0 = zR w h 0 := by
    funext c k
    simp [zR, z0, wDraw_ne]
  have w0 : wDraw w z 0 = w 0 := wDraw_ne (by decide)
  have w1 : wDraw w z 1 = w 1 := wDraw_ne (by decide)
  have w2 : wDraw w z 2 = w 2 := wDraw_ne (by decide)
  refine ⟨⟨?_, ?_, ?_, ?_, ?_, ?_⟩, ⟨?_, fun q h1 h2 => ?_⟩, ?_, ?_, ?_, fun q h1 h2 => ?_, fun x h1 h2 => ?_⟩
  · rw [ho 4 (by decide), w0]; exact l1
  · rw [ho 4 (by decide), w0]; exact l2
  · rw [ho 4 (by decide), w0]; exact l3
  · rw [ho 4 (by decide), w0]; exact l4
  · rw [ho 5 (by decide), w0, w1]; exact l5
  · rw [ho 6 (by decide), w0, w2]; exact l6
  · rw [ho 31 (by decide), w0]; exact s1
  · rw [w0] at h2
    rw [h32 q h1 h2]
    simp [wDraw, h1, h2]
  · rw [ho 30 (by decide)]; exact z1
  · rw [ho 30 (by decide), e0]; exact z2
  · rw [ho 30 (by decide), e0]; exact z3
  · rw [w0] at h2
    rw [ho 30 (by decide), ho 33 (by decide), ho 34 (by decide), ho 35 (by decide), ho 36 (by decide), ho 37 (by decide), e0]
    exact z4 q h1 h2
  · rw [ho 38 (by decide), e0, zAll, w0]
    exact z5 x h1 h2
theorem lp_day (hw : zW w) {z k : Int} (hz : 0 ≤ z ∧ z ≤ 9999) {M0 : xM} (l3 : M0 4 2 = w 0 2) (hQ : ∀ M', (∀ q, 0 ≤ q → q < w 0 2 → M' 32 q = xdraw z q) → (∀ c, c ≠ 32 → M' c = M0 c) → Wp 68 63 [xr 0, xi z, xi k, xi (w 0 2)] [] M' Q) : ∀ (j n : Nat) (M1 : xM), (n : Int) + j = w 0 2 → (∀ q : Int, 0 ≤ q → q < n → M1 32 q = xdraw z q) → (∀ c, c ≠ 32 → M1 c = M0 c) → Wp 68 29 [xr 0, xi z, xi k, xi n] [] M1 Q := by
  have hw3 := hw.2.2.1
  intro j
  induction j with
  | zero =>
    intro n M1 hn h1 h2
    have l3' : M1 4 2 = w 0 2 := by rw [h2 4 (by decide)]; exact l3
    rw [w68_29]
    simp (disch := first | assumption | decide +kernel | exact hM _ _ | exact hL _ | exact xG_b | exact xG_bt _ _ | omega) only [w68_30, w68_31, w68_34, w68_37, true_implies, false_implies, not_true_eq_false, not_false_eq_true, and_true, true_and, Int.reduceEq, Int.reduceLE, Int.reduceLT, Int.reduceNeg, xb_eq0, xb_eq1, xup_ne, xup_self, xup_k, xjl_i, xjl_r, xjl_j, xjl_l, Option.toList_some, Option.toList_none, List.cons_append, List.nil_append, xr_0_0, xr_0_1, xr_0_2, xr_0_3, xr_0_4, xr_0_5, xr_0_6, xr_0_7, xr_1_0, xr_1_1, xr_4_5, xr_4_6, xr_4_7, xr_4_8, xr_8_0, xr_10_5, xr_10_6, xr_10_7, xr_10_8, xr_14_0, xr_16_0, xr_16_1, xr_16_2, xr_20_0, xr_21_0, xr_21_1, xr_22_0, xr_24_0, xr_26_0, xr_26_1, xr_26_2, xr_30_0, xr_30_1, xr_30_2, xr_30_3, xr_30_4, xr_30_5, xr_30_6, xr_30_7, xr_31_0, xr_39_0, xr_39_1, xr_39_2, xr_42_0, xr_42_2, xr_42_3, xr_42_4, xr_42_5, xr_42_6, xr_42_8, xr_42_10, xr_42_13, xr_42_14, xr_42_15, xr_42_16, xr_42_23, xr_42_24, xr_42_25]
    rw [xbr_t (by omega)]
    have e : (n : Int) = w 0 2 := by omega
    rw [e]
    exact hQ M1 (fun q a b => h1 q a (by omega)) h2
  | succ j ih =>
    intro n M1 hn h1 h2
    have l3' : M1 4 2 = w 0 2 := by rw [h2 4 (by decide)]; exact l3
    rw [w68_29]
    simp (disch := first | assumption | decide +kernel | exact hM _ _ | exact hL _ | exact xG_b | exact xG_bt _ _ | omega) only [w68_30, w68_31, w68_34, w68_37, w68_40, w68_41, w68_44, w68_47, w68_50, w68_51, w68_52, w68_53, w68_56, w68_57, w68_60, true_implies, false_implies, not_true_eq_false, not_false_eq_true, and_true, true_and, Int.reduceEq, Int.reduceLE, Int.reduceLT, Int.reduceNeg, xb_eq0, xb_eq1, xup_ne, xup_self, xup_k, xjl_i, xjl_r, xjl_j, xjl_l, Option.toList_some, Option.toList_none, List.cons_append, List.nil_append, xr_0_0, xr_0_1, xr_0_2, xr_0_3, xr_0_4, xr_0_5, xr_0_6, xr_0_7, xr_1_0, xr_1_1, xr_4_5, xr_4_6, xr_4_7, xr_4_8, xr_8_0, xr_10_5, xr_10_6, xr_10_7, xr_10_8, xr_14_0, xr_16_0, xr_16_1, xr_16_2, xr_20_0, xr_21_0, xr_21_1, xr_22_0, xr_24_0, xr_26_0, xr_26_1, xr_26_2, xr_30_0, xr_30_1, xr_30_2, xr_30_3, xr_30_4, xr_30_5, xr_30_6, xr_30_7, xr_31_0, xr_39_0, xr_39_1, xr_39_2, xr_42_0, xr_42_2, xr_42_3, xr_42_4, xr_42_5, xr_42_6, xr_42_8, xr_42_10, xr_42_13, xr_42_14, xr_42_15, xr_42_16, xr_42_23, xr_42_24, xr_42_25, q_drawnStart]
    rw [xbr_f (by omega)]
    refine ih (n + 1) _ (by omega) (fun q a b => ?_) (fun c hc => by rw [xup_ne hc]; exact h2 c hc)
    rw [xup_app]
    by_cases e : q = n
    · rw [if_pos ⟨rfl, e⟩, e]
    · rw [if_neg (fun y => e y.2)]; exact h1 q a (by omega)
/-- the answer of day: the waits, or a count of bits -/
def aDay (w : xM) (h : Int → Int → Int) (z k v : Int) : Int := if (0 ≤ z ∧ z ≤ 9999) ∧ (k = 0 ∨ k = 1) then (if k = 0 then zR (wDraw w z) h 60 6 0 else xbc v) else -1
theorem q8_day {z k : Int} (hz : xG z) (hk : xG k) (hw : zW w) (hB : cB w M) (hQ : ∀ (M' : xM) (v : Int), tIn (wDraw w z) (hC M) 61 0 0 v → cG M M' → Q (some (xi (aDay w (hC M) z k v))) M') (hQ0 : ¬ ((0 ≤ z ∧ z ≤ 9999) ∧ (k = 0 ∨ k = 1)) → Q (some (xi (-1))) M) : Wc 68 [xr 0, xi z, xi k] M Q := by
  have l3 := hB.1.2.2.1
  have hw3 := hw.2.2.1
  have hgood : ((0 ≤ z ∧ z ≤ 9999) ∧ (k = 0 ∨ k = 1)) → Wp 68 20 [xr 0, xi z, xi k, xj] [] M Q := fun h => by
    simp only [aDay, if_pos h] at hQ
    simp (disch := first | assumption | decide +kernel | exact hM _ _ | exact hL _ | exact xG_b | exact xG_bt _ _ | omega) only [w68_20, w68_21, w68_24, true_implies, false_implies, not_true_eq_false, not_false_eq_true, and_true, true_and, Int.reduceEq, Int.reduceLE, Int.reduceLT, Int.reduceNeg, xb_eq0, xb_eq1, xup_ne, xup_self, xup_k, xjl_i, xjl_r, xjl_j, xjl_l, Option.toList_some, Option.toList_none, List.cons_append, List.nil_append, xr_0_0, xr_0_1, xr_0_2, xr_0_3, xr_0_4, xr_0_5, xr_0_6, xr_0_7, xr_1_0, xr_1_1, xr_4_5, xr_4_6, xr_4_7, xr_4_8, xr_8_0, xr_10_5, xr_10_6, xr_10_7, xr_10_8, xr_14_0, xr_16_0, xr_16_1, xr_16_2, xr_20_0, xr_21_0, xr_21_1, xr_22_0, xr_24_0, xr_26_0, xr_26_1, xr_26_2, xr_30_0, xr_30_1, xr_30_2, xr_30_3, xr_30_4, xr_30_5, xr_30_6, xr_30_7, xr_31_0, xr_39_0, xr_39_1, xr_39_2, xr_42_0, xr_42_2, xr_42_3, xr_42_4, xr_42_5, xr_42_6, xr_42_8, xr_42_10, xr_42_13, xr_42_14, xr_42_15, xr_42_16, xr_42_23, xr_42_24, xr_42_25]
    refine q_begin (h := hC M) hw hB (fun M1 hR1 e1 hG1 => ?_)
    simp (disch := first | assumption | decide +kernel | exact hM _ _ | exact hL _ | exact xG_b | exact xG_bt _ _ | omega) only [w68_27, w68_28, true_implies, false_implies, not_true_eq_false, not_false_eq_true, and_true, true_and, Int.reduceEq, Int.reduceLE, Int.reduceLT, Int.reduceNeg, xb_eq0, xb_eq1, xup_ne, xup_self, xup_k, xjl_i, xjl_r, xjl_j, xjl_l, Option.toList_some, Option.toList_none, List.cons_append, List.nil_append, xr_0_0, xr_0_1, xr_0_2, xr_0_3, xr_0_4, xr_0_5, xr_0_6, xr_0_7, xr_1_0, xr_1_1, xr_4_5, xr_4_6, xr_4_7, xr_4_8, xr_8_0, xr_10_5, xr_10_6, xr_10_7, xr_10_8, xr_14_0, xr_16_0, xr_16_1, xr_16_2, xr_20_0, xr_21_0, xr_21_1, xr_22_0, xr_24_0, xr_26_0, xr_26_1, xr_26_2, xr_30_0, xr_30_1, xr_30_2, xr_30_3, xr_30_4, xr_30_5, xr_30_6, xr_30_7, xr_31_0, xr_39_0, xr_39_1, xr_39_2, xr_42_0, xr_42_2, xr_42_3, xr_42_4, xr_42_5, xr_42_6, xr_42_8, xr_42_10, xr_42_13, xr_42_14, xr_42_15, xr_42_16, xr_42_23, xr_42_24, xr_42_25]
    refine lp_day hw h.1 (M0 := M1) (by rw [hG1 4 (by omega)]; exact l3) (fun M2 h2 h3 => ?_) (w 0 2).toNat 0 M1 (by omega) (fun q a b => by omega) (fun _ _ => rfl)
    simp (disch := first | assumption | decide +kernel | exact hM _ _ | exact hL _ | exact xG_b | exact xG_bt _ _ | omega) only [w68_63, w68_64, w68_67, true_implies, false_implies, not_true_eq_false, not_false_eq_true, and_true, true_and, Int.reduceEq, Int.reduceLE, Int.reduceLT, Int.reduceNeg, xb_eq0, xb_eq1, xup_ne, xup_self, xup_k, xjl_i, xjl_r, xjl_j, xjl_l, Option.toList_some, Option.toList_none, List.cons_append, List.nil_append, xr_0_0, xr_0_1, xr_0_2, xr_0_3, xr_0_4, xr_0_5, xr_0_6, xr_0_7, xr_1_0, xr_1_1, xr_4_5, xr_4_6, xr_4_7, xr_4_8, xr_8_0, xr_10_5, xr_10_6, xr_10_7, xr_10_8, xr_14_0, xr_16_0, xr_16_1, xr_16_2, xr_20_0, xr_21_0, xr_21_1, xr_22_0, xr_24_0, xr_26_0, xr_26_1, xr_26_2, xr_30_0, xr_30_1, xr_30_2, xr_30_3, xr_30_4, xr_30_5, xr_30_6, xr_30_7, xr_31_0, xr_39_0, xr_39_1, xr_39_2, xr_42_0, xr_42_2, xr_42_3, xr_42_4, xr_42_5, xr_42_6, xr_42_8, xr_42_10, xr_42_13, xr_42_14, xr_42_15, xr_42_16, xr_42_23, xr_42_24, xr_42_25]
    have hG2 : cG M M2 := fun c hc => by rw [h3 c (by omega)]; exact hG1 c hc
    have hW2 := zW_draw (z := z) hw
    refine q_twosAt (w := wDraw w z) (h := hC M) hW2 (cR_draw hR1 h2 h3) (fun t a b q c d => by rw [h3 31 (by decide), e1]) (fun M3 v hG3 hR3 hv => ?_)
    have hq := hQ M3 v hv (cG_tr hG2 hG3)
    have hv3 := (zR_V' (h := hC M) hW2 (n := 60) (by omega)).2
    simp (disch := first | assumption | decide +kernel | exact hM _ _ | exact hL _ | exact xG_b | exact xG_bt _ _ | omega) only [w68_70, w68_71, w68_72, w68_75, w68_76, w68_79, w68_82, w68_85, w68_86, true_implies, false_implies, not_true_eq_false, not_false_eq_true, and_true, true_and, Int.reduceEq, Int.reduceLE, Int.reduceLT, Int.reduceNeg, xb_eq0, xb_eq1, xup_ne, xup_self, xup_k, xjl_i, xjl_r, xjl_j, xjl_l, Option.toList_some, Option.toList_none, List.cons_append, List.nil_append, xr_0_0, xr_0_1, xr_0_2, xr_0_3, xr_0_4, xr_0_5, xr_0_6, xr_0_7, xr_1_0, xr_1_1, xr_4_5, xr_4_6, xr_4_7, xr_4_8, xr_8_0, xr_10_5, xr_10_6, xr_10_7, xr_10_8, xr_14_0, xr_16_0, xr_16_1, xr_16_2, xr_20_0, xr_21_0, xr_21_1, xr_22_0, xr_24_0, xr_26_0, xr_26_1, xr_26_2, xr_30_0, xr_30_1, xr_30_2, xr_30_3, xr_30_4, xr_30_5, xr_30_6, xr_30_7, xr_31_0, xr_39_0, xr_39_1, xr_39_2, xr_42_0, xr_42_2, xr_42_3, xr_42_4, xr_42_5, xr_42_6, xr_42_8, xr_42_10, xr_42_13, xr_42_14, xr_42_15, xr_42_16, xr_42_23, xr_42_24, xr_42_25]
    by_cases k0 : k = 0
    · rw [xbr_t' k0, hR3.2.2.2.1]; rw [if_pos k0] at hq; exact hq
    · rw [xbr_f' k0]; rw [if_neg k0] at hq; exact hq
  simp (disch := first | assumption | decide +kernel | exact hM _ _ | exact hL _ | exact xG_b | exact xG_bt _ _ | omega) only [w68_0, w68_1, w68_4, w68_5, w68_8, w68_11, w68_12, w68_15, w68_18, w68_19, wc68, true_implies, false_implies, not_true_eq_false, not_false_eq_true, and_true, true_and, Int.reduceEq, Int.reduceLE, Int.reduceLT, Int.reduceNeg, xb_eq0, xb_eq1, xup_ne, xup_self, xup_k, xjl_i, xjl_r, xjl_j, xjl_l, Option.toList_some, Option.toList_none, List.cons_append, List.nil_append, xr_0_0, xr_0_1, xr_0_2, xr_0_3, xr_0_4, xr_0_5, xr_0_6, xr_0_7, xr_1_0, xr_1_1, xr_4_5, xr_4_6, xr_4_7, xr_4_8, xr_8_0, xr_10_5, xr_10_6, xr_10_7, xr_10_8, xr_14_0, xr_16_0, xr_16_1, xr_16_2, xr_20_0, xr_21_0, xr_21_1, xr_22_0, xr_24_0, xr_26_0, xr_26_1, xr_26_2, xr_30_0, xr_30_1, xr_30_2, xr_30_3, xr_30_4, xr_30_5, xr_30_6, xr_30_7, xr_31_0, xr_39_0, xr_39_1, xr_39_2, xr_42_0, xr_42_2, xr_42_3, xr_42_4, xr_42_5, xr_42_6, xr_42_8, xr_42_10, xr_42_13, xr_42_14, xr_42_15, xr_42_16, xr_42_23, xr_42_24, xr_42_25, q_isEither]
  repeat' (first | apply And.intro | intro _)
  all_goals first | exact hgood (by omega) | exact hQ0 (by omega)
end DAY
