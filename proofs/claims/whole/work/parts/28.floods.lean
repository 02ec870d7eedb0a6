/-- Euclid, so many rounds -/
def xeu : Nat → Nat → Nat → Nat
  | 0, a, _ => a
  | f + 1, a, b => if b = 0 then a else xeu f b (a % b)
theorem xeu_gcd : ∀ (f a b : Nat), b ≤ a → a * b < 2 ^ f → ∀ g : Nat, f < g → xeu g a b = Nat.gcd a b
  | 0, a, b, h, hp, g, hg => by
    have hb : b = 0 := by
      cases b with
      | zero => rfl
      | succ b =>
        exfalso
        have : 1 * 1 ≤ a * (b + 1) := Nat.mul_le_mul (by omega) (by omega)
        simp at hp
        omega
    subst hb
    obtain ⟨g', rfl⟩ : ∃ g', g = g' + 1 := ⟨g - 1, by omega⟩
    simp [xeu]
  | f + 1, a, b, h, hp, g, hg => by
    obtain ⟨g', rfl⟩ : ∃ g', g = g' + 1 := ⟨g - 1, by omega⟩
    rw [xeu]
    by_cases hb : b = 0
    · rw [if_pos hb, hb]; simp
    · rw [if_neg hb]
      have hr : a % b < b := Nat.mod_lt _ (by omega)
      have h1 : b + a % b ≤ a := by
        have h2 := Nat.div_add_mod a b
        have h3 : 1 ≤ a / b := (Nat.le_div_iff_mul_le (by omega)).mpr (by omega)
        have h4 : b * 1 ≤ b * (a / b) := Nat.mul_le_mul_left _ h3
        omega
      have h2 : b * (a % b) < 2 ^ f := by
        have h3 : (a % b + a % b) * b ≤ a * b := Nat.mul_le_mul_right _ (by omega)
        have h4 : (a % b + a % b) * b = 2 * (b * (a % b)) := by rw [Nat.add_mul, Nat.mul_comm b]; omega
        have h5 : 2 ^ (f + 1) = 2 * 2 ^ f := by rw [Nat.pow_succ]; omega
        omega
      rw [xeu_gcd f b (a % b) (by omega) h2 g' (by omega)]
      rw [Nat.gcd_comm a b, Nat.gcd_rec b a, Nat.gcd_comm]
theorem xeu_100 {a b : Nat} (hb : 0 < b) (ha : a < 2 ^ 30) (hb2 : b < 2 ^ 30) : xeu 100 a b = Nat.gcd a b := by
  have hp : a * b < 2 ^ 60 := by
    have h1 : a * b ≤ 2 ^ 30 * b := Nat.mul_le_mul_right _ (by omega)
    have h2 : 2 ^ 30 * b < 2 ^ 30 * 2 ^ 30 := Nat.mul_lt_mul_of_pos_left hb2 (by decide)
    omega
  rcases Nat.lt_or_ge a b with h | h
  · rw [show (100 : Nat) = 99 + 1 from rfl, xeu, if_neg (by omega), Nat.mod_eq_of_lt h, xeu_gcd 60 b a (by omega) (by rw [Nat.mul_comm]; exact hp) 99 (by omega), Nat.gcd_comm]
  · exact xeu_gcd 60 a b h hp 100 (by omega)
section FLOODS
variable {w M : xM} {Q : Option xV → xM → Prop} {h : Int → Int → Int}
theorem lp_cd {a b : Int} : ∀ (k n more less : Nat) (v : xV), n + k = 100 → more < 2 ^ 31 → less < 2 ^ 31 → Wp 77 7 [xi a, xi b, xi more, xi less, xi n, v] [] M Q = Q (some (xi (xeu k more less))) M := by
  intro k
  induction k with
  | zero =>
    intro n more less v hn h1 h2
    rw [w77_7]
    simp (disch := first | assumption | decide +kernel | exact hM _ _ | exact hL _ | exact xG_b | exact xG_bt _ _ | omega) only [w77_9, w77_11, w77_34, w77_35, true_implies, false_implies, not_true_eq_false, not_false_eq_true, and_true, true_and, Int.reduceEq, Int.reduceLE, Int.reduceLT, Int.reduceNeg, xb_eq0, xb_eq1, xup_ne, xup_self, xup_k, xjl_i, xjl_r, xjl_j, xjl_l, Option.toList_some, Option.toList_none, List.cons_append, List.nil_append, xr_0_0, xr_0_1, xr_0_2, xr_0_3, xr_0_4, xr_0_5, xr_0_6, xr_0_7, xr_1_0, xr_1_1, xr_4_5, xr_4_6, xr_4_7, xr_4_8, xr_8_0, xr_10_5, xr_10_6, xr_10_7, xr_10_8, xr_14_0, xr_16_0, xr_16_1, xr_16_2, xr_20_0, xr_21_0, xr_21_1, xr_22_0, xr_24_0, xr_26_0, xr_26_1, xr_26_2, xr_30_0, xr_30_1, xr_30_2, xr_30_3, xr_30_4, xr_30_5, xr_30_6, xr_30_7, xr_31_0, xr_39_0, xr_39_1, xr_39_2, xr_42_0, xr_42_2, xr_42_3, xr_42_4, xr_42_5, xr_42_6, xr_42_8, xr_42_10, xr_42_13, xr_42_14, xr_42_15, xr_42_16, xr_42_23, xr_42_24, xr_42_25]
    rw [xbr_t (by omega)]
    rfl
  | succ k ih =>
    intro n more less v hn h1 h2
    rw [w77_7]
    simp (disch := first | assumption | decide +kernel | exact hM _ _ | exact hL _ | exact xG_b | exact xG_bt _ _ | omega) only [w77_9, w77_11, w77_14, w77_15, w77_18, w77_19, w77_20, w77_21, w77_23, w77_24, w77_25, w77_27, w77_28, w77_31, w77_34, w77_35, true_implies, false_implies, not_true_eq_false, not_false_eq_true, and_true, true_and, Int.reduceEq, Int.reduceLE, Int.reduceLT, Int.reduceNeg, xb_eq0, xb_eq1, xup_ne, xup_self, xup_k, xjl_i, xjl_r, xjl_j, xjl_l, Option.toList_some, Option.toList_none, List.cons_append, List.nil_append, xr_0_0, xr_0_1, xr_0_2, xr_0_3, xr_0_4, xr_0_5, xr_0_6, xr_0_7, xr_1_0, xr_1_1, xr_4_5, xr_4_6, xr_4_7, xr_4_8, xr_8_0, xr_10_5, xr_10_6, xr_10_7, xr_10_8, xr_14_0, xr_16_0, xr_16_1, xr_16_2, xr_20_0, xr_21_0, xr_21_1, xr_22_0, xr_24_0, xr_26_0, xr_26_1, xr_26_2, xr_30_0, xr_30_1, xr_30_2, xr_30_3, xr_30_4, xr_30_5, xr_30_6, xr_30_7, xr_31_0, xr_39_0, xr_39_1, xr_39_2, xr_42_0, xr_42_2, xr_42_3, xr_42_4, xr_42_5, xr_42_6, xr_42_8, xr_42_10, xr_42_13, xr_42_14, xr_42_15, xr_42_16, xr_42_23, xr_42_24, xr_42_25]
    rw [xbr_f (by omega), xeu]
    by_cases hl : less = 0
    · rw [xbr_t (by omega), if_pos hl]
    · rw [xbr_f (by omega), if_neg hl]
      rw [xn_of (x := (less : Int)) (by omega) (by omega), xn_of (x := (more : Int)) (by omega) (by omega), Int.tmod_eq_emod_of_nonneg (by omega)]
      rw [show ((more : Int) % (less : Int)) = ((more % less : Nat) : Int) from (Int.natCast_emod _ _).symm]
      have := ih (n + 1) less (more % less) (xi ((more % less : Nat) : Int)) (by omega) (by omega) (by have := Nat.mod_lt more (show 0 < less by omega); omega)
      rw [show ((n : Int) + 1) = ((n + 1 : Nat) : Int) by omega, this]
      simp
      omega
theorem q_cd {a b : Nat} (hb : 0 < b) (ha : a < 2 ^ 30) (hb2 : b < 2 ^ 30) : Wc 77 [xi a, xi b] M Q = Q (some (xi (Nat.gcd a b : Nat))) M := by
  simp (disch := first | assumption | decide +kernel | exact hM _ _ | exact hL _ | exact xG_b | exact xG_bt _ _ | omega) only [w77_0, w77_1, w77_2, w77_3, w77_4, w77_5, wc77, true_implies, false_implies, not_true_eq_false, not_false_eq_true, and_true, true_and, Int.reduceEq, Int.reduceLE, Int.reduceLT, Int.reduceNeg, xb_eq0, xb_eq1, xup_ne, xup_self, xup_k, xjl_i, xjl_r, xjl_j, xjl_l, Option.toList_some, Option.toList_none, List.cons_append, List.nil_append, xr_0_0, xr_0_1, xr_0_2, xr_0_3, xr_0_4, xr_0_5, xr_0_6, xr_0_7, xr_1_0, xr_1_1, xr_4_5, xr_4_6, xr_4_7, xr_4_8, xr_8_0, xr_10_5, xr_10_6, xr_10_7, xr_10_8, xr_14_0, xr_16_0, xr_16_1, xr_16_2, xr_20_0, xr_21_0, xr_21_1, xr_22_0, xr_24_0, xr_26_0, xr_26_1, xr_26_2, xr_30_0, xr_30_1, xr_30_2, xr_30_3, xr_30_4, xr_30_5, xr_30_6, xr_30_7, xr_31_0, xr_39_0, xr_39_1, xr_39_2, xr_42_0, xr_42_2, xr_42_3, xr_42_4, xr_42_5, xr_42_6, xr_42_8, xr_42_10, xr_42_13, xr_42_14, xr_42_15, xr_42_16, xr_42_23, xr_42_24, xr_42_25]
  have := lp_cd (M := M) (Q := Q) (a := a) (b := b) 100 0 a b xj (by omega) (by omega) (by omega)
  rw [xeu_100 hb ha hb2] at this
  exact this
/-- the weight of a way to be held -/
def fWt (x set : Int) : Nat → Int
  | 0 => 1
  | k + 1 => fWt x set k * (if xbt set k = 1 then x else 10 - x)
theorem fWt_rng {x set : Int} (hx : 0 ≤ x ∧ x ≤ 10) : ∀ n : Nat, 0 ≤ fWt x set n ∧ fWt x set n ≤ 10 ^ n
  | 0 => by simp [fWt]
  | n + 1 => by
    have h1 := fWt_rng (set := set) hx n
    rw [fWt, Int.pow_succ]
    have h2 : 0 ≤ (if xbt set n = 1 then x else 10 - x) ∧ (if xbt set n = 1 then x else 10 - x) ≤ 10 := by split <;> omega
    exact ⟨Int.mul_nonneg h1.1 h2.1, Int.mul_le_mul h1.2 h2.2 h2.1 (by omega)⟩
theorem fWt_6 {x set : Int} (hx : 0 ≤ x ∧ x ≤ 10) {n : Nat} (hn : n ≤ 6) : 0 ≤ fWt x set n ∧ fWt x set n ≤ 1000000 := by
  have h1 := fWt_rng (set := set) hx n
  have h2 : ∀ n : Nat, n ≤ 6 → (10 : Int) ^ n ≤ 1000000 := by decide
  have := h2 n hn
  omega
theorem lp_fw {x set : Int} (hx : 0 ≤ x ∧ x ≤ 10) {m : Nat} (hm : m ≤ 6) : ∀ (k n : Nat), n + k = m → Wp 76 5 [xi m, xi x, xi set, xi (fWt x set n), xi n] [] M Q = Q (some (xi (fWt x set m))) M := by
  intro k
  induction k with
  | zero =>
    intro n hn
    have e : n = m := by omega
    subst e
    rw [w76_5]
    simp (disch := first | assumption | decide +kernel | exact hM _ _ | exact hL _ | exact xG_b | exact xG_bt _ _ | omega) only [w76_7, w76_8, w76_38, w76_39, true_implies, false_implies, not_true_eq_false, not_false_eq_true, and_true, true_and, Int.reduceEq, Int.reduceLE, Int.reduceLT, Int.reduceNeg, xb_eq0, xb_eq1, xup_ne, xup_self, xup_k, xjl_i, xjl_r, xjl_j, xjl_l, Option.toList_some, Option.toList_none, List.cons_append, List.nil_append, xr_0_0, xr_0_1, xr_0_2, xr_0_3, xr_0_4, xr_0_5, xr_0_6, xr_0_7, xr_1_0, xr_1_1, xr_4_5, xr_4_6, xr_4_7, xr_4_8, xr_8_0, xr_10_5, xr_10_6, xr_10_7, xr_10_8, xr_14_0, xr_16_0, xr_16_1, xr_16_2, xr_20_0, xr_21_0, xr_21_1, xr_22_0, xr_24_0, xr_26_0, xr_26_1, xr_26_2, xr_30_0, xr_30_1, xr_30_2, xr_30_3, xr_30_4, xr_30_5, xr_30_6, xr_30_7, xr_31_0, xr_39_0, xr_39_1, xr_39_2, xr_42_0, xr_42_2, xr_42_3, xr_42_4, xr_42_5, xr_42_6, xr_42_8, xr_42_10, xr_42_13, xr_42_14, xr_42_15, xr_42_16, xr_42_23, xr_42_24, xr_42_25]
    rw [xbr_t (by omega)]
  | succ k ih =>
    intro n hn
    rw [w76_5]
    simp (disch := first | assumption | decide +kernel | exact hM _ _ | exact hL _ | exact xG_b | exact xG_bt _ _ | omega) only [w76_7, w76_8, w76_11, w76_12, w76_13, w76_15, w76_18, w76_19, w76_22, w76_23, w76_26, w76_28, w76_29, w76_30, w76_31, w76_32, w76_35, true_implies, false_implies, not_true_eq_false, not_false_eq_true, and_true, true_and, Int.reduceEq, Int.reduceLE, Int.reduceLT, Int.reduceNeg, xb_eq0, xb_eq1, xup_ne, xup_self, xup_k, xjl_i, xjl_r, xjl_j, xjl_l, Option.toList_some, Option.toList_none, List.cons_append, List.nil_append, xr_0_0, xr_0_1, xr_0_2, xr_0_3, xr_0_4, xr_0_5, xr_0_6, xr_0_7, xr_1_0, xr_1_1, xr_4_5, xr_4_6, xr_4_7, xr_4_8, xr_8_0, xr_10_5, xr_10_6, xr_10_7, xr_10_8, xr_14_0, xr_16_0, xr_16_1, xr_16_2, xr_20_0, xr_21_0, xr_21_1, xr_22_0, xr_24_0, xr_26_0, xr_26_1, xr_26_2, xr_30_0, xr_30_1, xr_30_2, xr_30_3, xr_30_4, xr_30_5, xr_30_6, xr_30_7, xr_31_0, xr_39_0, xr_39_1, xr_39_2, xr_42_0, xr_42_2, xr_42_3, xr_42_4, xr_42_5, xr_42_6, xr_42_8, xr_42_10, xr_42_13, xr_42_14, xr_42_15, xr_42_16, xr_42_23, xr_42_24, xr_42_25, q_bit]
    rw [xbr_f (by omega)]
    have := ih (n + 1) (by omega)
    rw [fWt] at this
    rw [show ((n : Int) + 1) = ((n + 1 : Nat) : Int) by omega]
    by_cases hb : xbt set n = 1
    · rw [xbr_t' hb]; rw [if_pos hb] at this; exact this
    · rw [xbr_f' hb]; rw [if_neg hb] at this; exact this
theorem q_fw {x set : Int} (hx : 0 ≤ x ∧ x ≤ 10) {m : Nat} (hm : m ≤ 6) : Wc 76 [xi m, xi x, xi set] M Q = Q (some (xi (fWt x set m))) M := by
  simp (disch := first | assumption | decide +kernel | exact hM _ _ | exact hL _ | exact xG_b | exact xG_bt _ _ | omega) only [w76_0, w76_1, w76_2, w76_3, wc76, true_implies, false_implies, not_true_eq_false, not_false_eq_true, and_true, true_and, Int.reduceEq, Int.reduceLE, Int.reduceLT, Int.reduceNeg, xb_eq0, xb_eq1, xup_ne, xup_self, xup_k, xjl_i, xjl_r, xjl_j, xjl_l, Option.toList_some, Option.toList_none, List.cons_append, List.nil_append, xr_0_0, xr_0_1, xr_0_2, xr_0_3, xr_0_4, xr_0_5, xr_0_6, xr_0_7, xr_1_0, xr_1_1, xr_4_5, xr_4_6, xr_4_7, xr_4_8, xr_8_0, xr_10_5, xr_10_6, xr_10_7, xr_10_8, xr_14_0, xr_16_0, xr_16_1, xr_16_2, xr_20_0, xr_21_0, xr_21_1, xr_22_0, xr_24_0, xr_26_0, xr_26_1, xr_26_2, xr_30_0, xr_30_1, xr_30_2, xr_30_3, xr_30_4, xr_30_5, xr_30_6, xr_30_7, xr_31_0, xr_39_0, xr_39_1, xr_39_2, xr_42_0, xr_42_2, xr_42_3, xr_42_4, xr_42_5, xr_42_6, xr_42_8, xr_42_10, xr_42_13, xr_42_14, xr_42_15, xr_42_16, xr_42_23, xr_42_24, xr_42_25]
  exact lp_fw hx hm m 0 (by omega)
/-- held by a set of steps -/
def hF (h : Int → Int → Int) (p set : Int) : Int → Int → Int := fun s q => if q = p then xbt set (s - 1) else h s q
def fAt (w : xM) (h : Int → Int → Int) (p t set : Int) (j : Nat) : Bool := decide (zR w (hF h p set) (j + 1) 0 p = w 1 t)
def fCo (w : xM) (h : Int → Int → Int) (p t set : Int) (n : Nat) : Bool := !(xal (fun j => !(fAt w h p t set j)) n)
theorem lp_cif (hw : zW w) {p t set : Int} (hp : 0 ≤ p ∧ p < w 0 2) (ht : 0 ≤ t ∧ t < w 0 1) {M0 : xM} (hh : ∀ s q, h s q = xbt (M0 8 1) q) {m : Nat} (hm : m ≤ 6) (hQ : ∀ M', cG M0 M' → Q (some (xi (if fCo w h p t set m then 1 else 0))) M') : ∀ (k n : Nat) (M1 : xM), n + k = m → (∀ j : Nat, j < n → fAt w h p t set j = false) → cR w (zR w (hF h p set) n) n M1 → (∀ q, 0 ≤ q → q < w 0 2 → q ≠ p → xbt (M1 31 1) q = h 0 q) → cG M0 M1 → Wp 35 7 [xr 30, xi p, xi t, xi m, xi set, xi (n + 1)] [] M1 Q := by
  have hw1 := hw.1
  have hw2 := hw.2.1
  have hw3 := hw.2.2.1
  intro k
  induction k with
  | zero =>
    intro n M1 hn hj hR hq hG
    have e : n = m := by omega
    subst e
    have := hQ M1 hG
    rw [fCo, xal_iff.mpr (fun i hi => by rw [hj i hi]; rfl)] at this
    rw [w35_7]
    simp (disch := first | assumption | decide +kernel | exact hM _ _ | exact hL _ | exact xG_b | exact xG_bt _ _ | omega) only [w35_9, w35_10, w35_76, w35_77, true_implies, false_implies, not_true_eq_false, not_false_eq_true, and_true, true_and, Int.reduceEq, Int.reduceLE, Int.reduceLT, Int.reduceNeg, xb_eq0, xb_eq1, xup_ne, xup_self, xup_k, xjl_i, xjl_r, xjl_j, xjl_l, Option.toList_some, Option.toList_none, List.cons_append, List.nil_append, xr_0_0, xr_0_1, xr_0_2, xr_0_3, xr_0_4, xr_0_5, xr_0_6, xr_0_7, xr_1_0, xr_1_1, xr_4_5, xr_4_6, xr_4_7, xr_4_8, xr_8_0, xr_10_5, xr_10_6, xr_10_7, xr_10_8, xr_14_0, xr_16_0, xr_16_1, xr_16_2, xr_20_0, xr_21_0, xr_21_1, xr_22_0, xr_24_0, xr_26_0, xr_26_1, xr_26_2, xr_30_0, xr_30_1, xr_30_2, xr_30_3, xr_30_4, xr_30_5, xr_30_6, xr_30_7, xr_31_0, xr_39_0, xr_39_1, xr_39_2, xr_42_0, xr_42_2, xr_42_3, xr_42_4, xr_42_5, xr_42_6, xr_42_8, xr_42_10, xr_42_13, xr_42_14, xr_42_15, xr_42_16, xr_42_23, xr_42_24, xr_42_25]
    rw [xbr_t (by omega)]
    exact this
  | succ k ih =>
    intro n M1 hn hj hR hq hG
    rw [w35_7]
    simp (disch := first | assumption | decide +kernel | exact hM _ _ | exact hL _ | exact xG_b | exact xG_bt _ _ | omega) only [w35_9, w35_10, w35_13, w35_14, w35_17, w35_18, w35_21, w35_22, w35_23, w35_24, w35_25, w35_26, w35_27, w35_30, w35_31, w35_34, w35_35, w35_38, w35_40, w35_42, w35_43, w35_44, w35_47, w35_48, w35_49, w35_50, w35_53, w35_54, w35_56, true_implies, false_implies, not_true_eq_false, not_false_eq_true, and_true, true_and, Int.reduceEq, Int.reduceLE, Int.reduceLT, Int.reduceNeg, xb_eq0, xb_eq1, xup_ne, xup_self, xup_k, xjl_i, xjl_r, xjl_j, xjl_l, Option.toList_some, Option.toList_none, List.cons_append, List.nil_append, xr_0_0, xr_0_1, xr_0_2, xr_0_3, xr_0_4, xr_0_5, xr_0_6, xr_0_7, xr_1_0, xr_1_1, xr_4_5, xr_4_6, xr_4_7, xr_4_8, xr_8_0, xr_10_5, xr_10_6, xr_10_7, xr_10_8, xr_14_0, xr_16_0, xr_16_1, xr_16_2, xr_20_0, xr_21_0, xr_21_1, xr_22_0, xr_24_0, xr_26_0, xr_26_1, xr_26_2, xr_30_0, xr_30_1, xr_30_2, xr_30_3, xr_30_4, xr_30_5, xr_30_6, xr_30_7, xr_31_0, xr_39_0, xr_39_1, xr_39_2, xr_42_0, xr_42_2, xr_42_3, xr_42_4, xr_42_5, xr_42_6, xr_42_8, xr_42_10, xr_42_13, xr_42_14, xr_42_15, xr_42_16, xr_42_23, xr_42_24, xr_42_25, q_bit]
    rw [xbr_f (by omega)]
    have hset : xbt set ((n : Int) + 1 - 1) = xbt set n := by rw [show (n : Int) + 1 - 1 = n by omega]
    rw [hset]
    have h01 : xbt set n = 0 ∨ xbt set n = 1 := xbt_01 (by omega)
    have hR' : cR w (zR w (hF h p set) n) n (xup (xup M1 31 1 (xand (M1 31 1) (xxor (xshl 1 p) (-1)))) 31 1 (xor_ (xand (M1 31 1) (xxor (xshl 1 p) (-1))) (xshl (xbt set n) p))) := by
      obtain ⟨⟨l1, l2, l3, l4, l5, l6⟩, ⟨s1, s2⟩, z1, z2, z3, z4, z5⟩ := hR
      exact ⟨⟨l1, l2, l3, l4, l5, l6⟩, ⟨by simpa [xup_app] using s1, s2⟩, z1, z2, z3, z4, z5⟩
    have hbits : ∀ q, 0 ≤ q → q < w 0 2 → xbt (xup (xup M1 31 1 (xand (M1 31 1) (xxor (xshl 1 p) (-1)))) 31 1 (xor_ (xand (M1 31 1) (xxor (xshl 1 p) (-1))) (xshl (xbt set n) p)) 31 1) q = if q = p then xbt set n else h 0 q := by
      intro q q1 q2
      rw [xup_self, xbt_put (by omega) (by omega) h01]
      by_cases e : q = p
      · rw [if_pos e, if_pos e]
      · rw [if_neg e, if_neg e]; exact hq q q1 q2 e
    generalize hMX : xup (xup M1 31 1 (xand (M1 31 1) (xxor (xshl 1 p) (-1)))) 31 1 (xor_ (xand (M1 31 1) (xxor (xshl 1 p) (-1))) (xshl (xbt set n) p)) = MX at hR' hbits ⊢
    have hGX : cG M1 MX := fun c hc => by rw [← hMX, xup_ne (by omega), xup_ne (by omega)]
    refine q_goTo (h := hF h p set) (n := n) (m := n + 1) hw (by omega) (by omega) hR' (fun s h1 h2 q h3 h4 => ?_) (fun M2 hR2 hF2 => ?_)
    · have e : s = n + 1 := by omega
      subst e
      rw [hbits q h3 h4, hF, show ((n + 1 : Nat) : Int) - 1 = n by omega, hh, hh]
    · have hv2 := (zR_V' (h := hF h p set) hw (n := n + 1) (by omega)).1 p hp.1 hp.2
      have e1 : M2 33 p = zR w (hF h p set) (n + 1) 0 p := (hR2.2.2.2.2.2.1 p hp.1 hp.2).1
      have e2 : M2 5 t = w 1 t := hR2.1.2.2.2.2.1 t ht.1 ht.2
      have hst := hw.2.2.2.1 t ht.1 ht.2
      have hG2 : cG M0 M2 := cG_tr (cG_tr hG hGX) (cG_F hF2)
      simp (disch := first | assumption | decide +kernel | exact hM _ _ | exact hL _ | exact xG_b | exact xG_bt _ _ | omega) only [w35_59, w35_60, w35_61, w35_62, w35_65, w35_68, w35_69, true_implies, false_implies, not_true_eq_false, not_false_eq_true, and_true, true_and, Int.reduceEq, Int.reduceLE, Int.reduceLT, Int.reduceNeg, xb_eq0, xb_eq1, xup_ne, xup_self, xup_k, xjl_i, xjl_r, xjl_j, xjl_l, Option.toList_some, Option.toList_none, List.cons_append, List.nil_append, xr_0_0, xr_0_1, xr_0_2, xr_0_3, xr_0_4, xr_0_5, xr_0_6, xr_0_7, xr_1_0, xr_1_1, xr_4_5, xr_4_6, xr_4_7, xr_4_8, xr_8_0, xr_10_5, xr_10_6, xr_10_7, xr_10_8, xr_14_0, xr_16_0, xr_16_1, xr_16_2, xr_20_0, xr_21_0, xr_21_1, xr_22_0, xr_24_0, xr_26_0, xr_26_1, xr_26_2, xr_30_0, xr_30_1, xr_30_2, xr_30_3, xr_30_4, xr_30_5, xr_30_6, xr_30_7, xr_31_0, xr_39_0, xr_39_1, xr_39_2, xr_42_0, xr_42_2, xr_42_3, xr_42_4, xr_42_5, xr_42_6, xr_42_8, xr_42_10, xr_42_13, xr_42_14, xr_42_15, xr_42_16, xr_42_23, xr_42_24, xr_42_25, q_isAt]
      rw [e1, e2]
      by_cases hc : zR w (hF h p set) (n + 1) 0 p = w 1 t
      · rw [xbr_t' hc]
        have := hQ M2 hG2
        rw [fCo, xal_no (i := n) (by omega) (by rw [show fAt w h p t set n = true by simp [fAt, hc]]; rfl)] at this
        exact this
      · rw [xbr_f' hc]
        simp (disch := first | assumption | decide +kernel | exact hM _ _ | exact hL _ | exact xG_b | exact xG_bt _ _ | omega) only [w35_70, w35_73, true_implies, false_implies, not_true_eq_false, not_false_eq_true, and_true, true_and, Int.reduceEq, Int.reduceLE, Int.reduceLT, Int.reduceNeg, xb_eq0, xb_eq1, xup_ne, xup_self, xup_k, xjl_i, xjl_r, xjl_j, xjl_l, Option.toList_some, Option.toList_none, List.cons_append, List.nil_append, xr_0_0, xr_0_1, xr_0_2, xr_0_3, xr_0_4, xr_0_5, xr_0_6, xr_0_7, xr_1_0, xr_1_1, xr_4_5, xr_4_6, xr_4_7, xr_4_8, xr_8_0, xr_10_5, xr_10_6, xr_10_7, xr_10_8, xr_14_0, xr_16_0, xr_16_1, xr_16_2, xr_20_0, xr_21_0, xr_21_1, xr_22_0, xr_24_0, xr_26_0, xr_26_1, xr_26_2, xr_30_0, xr_30_1, xr_30_2, xr_30_3, xr_30_4, xr_30_5, xr_30_6, xr_30_7, xr_31_0, xr_39_0, xr_39_1, xr_39_2, xr_42_0, xr_42_2, xr_42_3, xr_42_4, xr_42_5, xr_42_6, xr_42_8, xr_42_10, xr_42_13, xr_42_14, xr_42_15, xr_42_16, xr_42_23, xr_42_24, xr_42_25]
        refine ih (n + 1) M2 (by omega) (fun j h1 => ?_) hR2 (fun q h1 h2 h3 => ?_) hG2
        · by_cases e : j = n
          · rw [e]; simp [fAt, hc]
          · exact hj j (by omega)
        · rw [hF2 31 (by omega) (by omega), hbits q h1 h2, if_neg h3]
theorem q_cif (hw : zW w) (hB : cB w M) {p t set : Int} (hp : 0 ≤ p ∧ p < w 0 2) (ht : 0 ≤ t ∧ t < w 0 1) {m : Nat} (hm : m ≤ 6) (hQ : ∀ M', cG M M' → Q (some (xi (if fCo w (hC M) p t set m then 1 else 0))) M') : Wc 35 [xr 30, xi p, xi t, xi m, xi set] M Q := by
  simp (disch := first | assumption | decide +kernel | exact hM _ _ | exact hL _ | exact xG_b | exact xG_bt _ _ | omega) only [w35_0, w35_1, wc35, true_implies, false_implies, not_true_eq_false, not_false_eq_true, and_true, true_and, Int.reduceEq, Int.reduceLE, Int.reduceLT, Int.reduceNeg, xb_eq0, xb_eq1, xup_ne, xup_self, xup_k, xjl_i, xjl_r, xjl_j, xjl_l, Option.toList_some, Option.toList_none, List.cons_append, List.nil_append, xr_0_0, xr_0_1, xr_0_2, xr_0_3, xr_0_4, xr_0_5, xr_0_6, xr_0_7, xr_1_0, xr_1_1, xr_4_5, xr_4_6, xr_4_7, xr_4_8, xr_8_0, xr_10_5, xr_10_6, xr_10_7, xr_10_8, xr_14_0, xr_16_0, xr_16_1, xr_16_2, xr_20_0, xr_21_0, xr_21_1, xr_22_0, xr_24_0, xr_26_0, xr_26_1, xr_26_2, xr_30_0, xr_30_1, xr_30_2, xr_30_3, xr_30_4, xr_30_5, xr_30_6, xr_30_7, xr_31_0, xr_39_0, xr_39_1, xr_39_2, xr_42_0, xr_42_2, xr_42_3, xr_42_4, xr_42_5, xr_42_6, xr_42_8, xr_42_10, xr_42_13, xr_42_14, xr_42_15, xr_42_16, xr_42_23, xr_42_24, xr_42_25]
  refine q_begin (h := hF (hC M) p set) hw hB (fun M1 hR1 e1 hG1 => ?_)
  simp (disch := first | assumption | decide +kernel | exact hM _ _ | exact hL _ | exact xG_b | exact xG_bt _ _ | omega) only [w35_4, w35_5, true_implies, false_implies, not_true_eq_false, not_false_eq_true, and_true, true_and, Int.reduceEq, Int.reduceLE, Int.reduceLT, Int.reduceNeg, xb_eq0, xb_eq1, xup_ne, xup_self, xup_k, xjl_i, xjl_r, xjl_j, xjl_l, Option.toList_some, Option.toList_none, List.cons_append, List.nil_append, xr_0_0, xr_0_1, xr_0_2, xr_0_3, xr_0_4, xr_0_5, xr_0_6, xr_0_7, xr_1_0, xr_1_1, xr_4_5, xr_4_6, xr_4_7, xr_4_8, xr_8_0, xr_10_5, xr_10_6, xr_10_7, xr_10_8, xr_14_0, xr_16_0, xr_16_1, xr_16_2, xr_20_0, xr_21_0, xr_21_1, xr_22_0, xr_24_0, xr_26_0, xr_26_1, xr_26_2, xr_30_0, xr_30_1, xr_30_2, xr_30_3, xr_30_4, xr_30_5, xr_30_6, xr_30_7, xr_31_0, xr_39_0, xr_39_1, xr_39_2, xr_42_0, xr_42_2, xr_42_3, xr_42_4, xr_42_5, xr_42_6, xr_42_8, xr_42_10, xr_42_13, xr_42_14, xr_42_15, xr_42_16, xr_42_23, xr_42_24, xr_42_25]
  refine lp_cif (h := hC M) hw hp ht (M0 := M) (fun _ _ => rfl) hm hQ m 0 M1 (by omega) (fun j hj => by omega) hR1 (fun q h1 h2 h3 => by rw [e1]) hG1
/-- the sum over the ways -/
def fAb (w : xM) (h : Int → Int → Int) (p t x : Int) (m : Nat) : Nat → Int
  | 0 => 0
  | n + 1 => if fCo w h p t n m then fAb w h p t x m n + fWt x n m else fAb w h p t x m n
theorem fAb_rng {p t x : Int} (hx : 0 ≤ x ∧ x ≤ 10) {m : Nat} (hm : m ≤ 6) : ∀ n : Nat, 0 ≤ fAb w h p t x m n ∧ fAb w h p t x m n ≤ 1000000 * n
  | 0 => by simp [fAb]
  | n + 1 => by
    have h1 := fAb_rng (p := p) (t := t) hx hm n
    have h2 := fWt_6 (set := n) hx hm
    rw [fAb]
    split <;> omega
def aFloods (w : xM) (h : Int → Int → Int) (p t n x k : Int) : Int := if (0 ≤ p ∧ p < w 0 2) ∧ (0 ≤ t ∧ t < w 0 1) ∧ (0 ≤ n ∧ n ≤ 6) ∧ (0 ≤ x ∧ x ≤ 10) ∧ (k = 0 ∨ k = 1) then (if k = 0 then fAb w h p t x n.toNat (2 ^ n.toNat) else (10 : Int) ^ n.toNat) / (Nat.gcd (fAb w h p t x n.toNat (2 ^ n.toNat)).toNat (10 ^ n.toNat) : Nat) else -1
theorem lp_below {p t x k ab : Int} {m : Nat} (hm : m ≤ 6) (hQ : Wp 67 84 [xr 0, xi p, xi t, xi m, xi x, xi k, xi ab, xi ((10 : Int) ^ m), xi m] [] M Q) : ∀ (j n : Nat), n + j = m → Wp 67 65 [xr 0, xi p, xi t, xi m, xi x, xi k, xi ab, xi ((10 : Int) ^ n), xi n] [] M Q := by
  intro j
  induction j with
  | zero =>
    intro n hn
    have e : n = m := by omega
    subst e
    rw [w67_65]
    simp (disch := first | assumption | decide +kernel | exact hM _ _ | exact hL _ | exact xG_b | exact xG_bt _ _ | omega) only [w67_67, w67_68, true_implies, false_implies, not_true_eq_false, not_false_eq_true, and_true, true_and, Int.reduceEq, Int.reduceLE, Int.reduceLT, Int.reduceNeg, xb_eq0, xb_eq1, xup_ne, xup_self, xup_k, xjl_i, xjl_r, xjl_j, xjl_l, Option.toList_some, Option.toList_none, List.cons_append, List.nil_append, xr_0_0, xr_0_1, xr_0_2, xr_0_3, xr_0_4, xr_0_5, xr_0_6, xr_0_7, xr_1_0, xr_1_1, xr_4_5, xr_4_6, xr_4_7, xr_4_8, xr_8_0, xr_10_5, xr_10_6, xr_10_7, xr_10_8, xr_14_0, xr_16_0, xr_16_1, xr_16_2, xr_20_0, xr_21_0, xr_21_1, xr_22_0, xr_24_0, xr_26_0, xr_26_1, xr_26_2, xr_30_0, xr_30_1, xr_30_2, xr_30_3, xr_30_4, xr_30_5, xr_30_6, xr_30_7, xr_31_0, xr_39_0, xr_39_1, xr_39_2, xr_42_0, xr_42_2, xr_42_3, xr_42_4, xr_42_5, xr_42_6, xr_42_8, xr_42_10, xr_42_13, xr_42_14, xr_42_15, xr_42_16, xr_42_23, xr_42_24, xr_42_25]
    rw [xbr_t (by omega)]
    exact hQ
  | succ j ih =>
    intro n hn
    rw [w67_65]
    simp (disch := first | assumption | decide +kernel | exact hM _ _ | exact hL _ | exact xG_b | exact xG_bt _ _ | omega) only [w67_67, w67_68, w67_71, w67_73, w67_75, w67_76, w67_78, w67_81, true_implies, false_implies, not_true_eq_false, not_false_eq_true, and_true, true_and, Int.reduceEq, Int.reduceLE, Int.reduceLT, Int.reduceNeg, xb_eq0, xb_eq1, xup_ne, xup_self, xup_k, xjl_i, xjl_r, xjl_j, xjl_l, Option.toList_some, Option.toList_none, List.cons_append, List.nil_append, xr_0_0, xr_0_1, xr_0_2, xr_0_3, xr_0_4, xr_0_5, xr_0_6, xr_0_7, xr_1_0, xr_1_1, xr_4_5, xr_4_6, xr_4_7, xr_4_8, xr_8_0, xr_10_5, xr_10_6, xr_10_7, xr_10_8, xr_14_0, xr_16_0, xr_16_1, xr_16_2, xr_20_0, xr_21_0, xr_21_1, xr_22_0, xr_24_0, xr_26_0, xr_26_1, xr_26_2, xr_30_0, xr_30_1, xr_30_2, xr_30_3, xr_30_4, xr_30_5, xr_30_6, xr_30_7, xr_31_0, xr_39_0, xr_39_1, xr_39_2, xr_42_0, xr_42_2, xr_42_3, xr_42_4, xr_42_5, xr_42_6, xr_42_8, xr_42_10, xr_42_13, xr_42_14, xr_42_15, xr_42_16, xr_42_23, xr_42_24, xr_42_25]
    rw [xbr_f (by omega)]
    have := ih (n + 1) (by omega)
    rw [Int.pow_succ] at this
    exact this
theorem xshl1_nat {m : Nat} (hm : m < 31) : xshl 1 m = ((2 ^ m : Nat) : Int) := xshl1_val m hm
theorem lp_sets (hw : zW w) (hB : cB w M) {p t x k be : Int} (hp : 0 ≤ p ∧ p < w 0 2) (ht : 0 ≤ t ∧ t < w 0 1) (hx : 0 ≤ x ∧ x ≤ 10) {m : Nat} (hm : m ≤ 6) (hQ : ∀ M', cG M M' → Wp 67 129 [xr 0, xi p, xi t, xi m, xi x, xi k, xi (fAb w (hC M) p t x m (2 ^ m)), xi be, xi ((2 ^ m : Nat) : Int)] [] M' Q) : ∀ (j n : Nat) (M1 : xM), n + j = 2 ^ m → cG M M1 → Wp 67 87 [xr 0, xi p, xi t, xi m, xi x, xi k, xi (fAb w (hC M) p t x m n), xi be, xi n] [] M1 Q := by
  have h64 : ∀ m : Nat, m ≤ 6 → 2 ^ m ≤ 64 := by decide
  have hm64 := h64 m hm
  have hsh := xshl1_nat (m := m) (by omega)
  generalize 2 ^ m = S at hm64 hsh hQ ⊢
  intro j
  induction j with
  | zero =>
    intro n M1 hn hG
    have e : n = S := by omega
    subst e
    rw [w67_87]
    simp (disch := first | assumption | decide +kernel | exact hM _ _ | exact hL _ | exact xG_b | exact xG_bt _ _ | omega) only [w67_89, w67_90, w67_91, w67_92, true_implies, false_implies, not_true_eq_false, not_false_eq_true, and_true, true_and, Int.reduceEq, Int.reduceLE, Int.reduceLT, Int.reduceNeg, xb_eq0, xb_eq1, xup_ne, xup_self, xup_k, xjl_i, xjl_r, xjl_j, xjl_l, Option.toList_some, Option.toList_none, List.cons_append, List.nil_append, xr_0_0, xr_0_1, xr_0_2, xr_0_3, xr_0_4, xr_0_5, xr_0_6, xr_0_7, xr_1_0, xr_1_1, xr_4_5, xr_4_6, xr_4_7, xr_4_8, xr_8_0, xr_10_5, xr_10_6, xr_10_7, xr_10_8, xr_14_0, xr_16_0, xr_16_1, xr_16_2, xr_20_0, xr_21_0, xr_21_1, xr_22_0, xr_24_0, xr_26_0, xr_26_1, xr_26_2, xr_30_0, xr_30_1, xr_30_2, xr_30_3, xr_30_4, xr_30_5, xr_30_6, xr_30_7, xr_31_0, xr_39_0, xr_39_1, xr_39_2, xr_42_0, xr_42_2, xr_42_3, xr_42_4, xr_42_5, xr_42_6, xr_42_8, xr_42_10, xr_42_13, xr_42_14, xr_42_15, xr_42_16, xr_42_23, xr_42_24, xr_42_25, hsh]
    rw [xbr_t (by omega)]
    exact hQ M1 hG
  | succ j ih =>
    intro n M1 hn hG
    rw [w67_87]
    simp (disch := first | assumption | decide +kernel | exact hM _ _ | exact hL _ | exact xG_b | exact xG_bt _ _ | omega) only [w67_89, w67_90, w67_91, w67_92, w67_95, w67_96, w67_99, w67_100, w67_101, w67_102, w67_104, true_implies, false_implies, not_true_eq_false, not_false_eq_true, and_true, true_and, Int.reduceEq, Int.reduceLE, Int.reduceLT, Int.reduceNeg, xb_eq0, xb_eq1, xup_ne, xup_self, xup_k, xjl_i, xjl_r, xjl_j, xjl_l, Option.toList_some, Option.toList_none, List.cons_append, List.nil_append, xr_0_0, xr_0_1, xr_0_2, xr_0_3, xr_0_4, xr_0_5, xr_0_6, xr_0_7, xr_1_0, xr_1_1, xr_4_5, xr_4_6, xr_4_7, xr_4_8, xr_8_0, xr_10_5, xr_10_6, xr_10_7, xr_10_8, xr_14_0, xr_16_0, xr_16_1, xr_16_2, xr_20_0, xr_21_0, xr_21_1, xr_22_0, xr_24_0, xr_26_0, xr_26_1, xr_26_2, xr_30_0, xr_30_1, xr_30_2, xr_30_3, xr_30_4, xr_30_5, xr_30_6, xr_30_7, xr_31_0, xr_39_0, xr_39_1, xr_39_2, xr_42_0, xr_42_2, xr_42_3, xr_42_4, xr_42_5, xr_42_6, xr_42_8, xr_42_10, xr_42_13, xr_42_14, xr_42_15, xr_42_16, xr_42_23, xr_42_24, xr_42_25, hsh]
    rw [xbr_f (by omega)]
    have e81 : M1 8 = M 8 := hG 8 (by omega)
    have ehc : hC M1 = hC M := by funext a b; show xbt (M1 8 1) b = xbt (M 8 1) b; rw [e81]
    refine q_cif hw (cB_G hB hG) hp ht hm (fun M2 hG2 => ?_)
    rw [ehc]
    have ih' := ih (n + 1) M2 (by omega) (cG_tr hG hG2)
    rw [fAb] at ih'
    cases hc : fCo w (hC M) p t n m with
    | true =>
      rw [hc, if_pos rfl] at ih'
      rw [if_pos rfl]
      simp (disch := first | assumption | decide +kernel | exact hM _ _ | exact hL _ | exact xG_b | exact xG_bt _ _ | omega) only [w67_107, w67_110, w67_112, w67_113, w67_115, w67_117, w67_120, w67_121, w67_123, w67_126, true_implies, false_implies, not_true_eq_false, not_false_eq_true, and_true, true_and, Int.reduceEq, Int.reduceLE, Int.reduceLT, Int.reduceNeg, xb_eq0, xb_eq1, xup_ne, xup_self, xup_k, xjl_i, xjl_r, xjl_j, xjl_l, Option.toList_some, Option.toList_none, List.cons_append, List.nil_append, xr_0_0, xr_0_1, xr_0_2, xr_0_3, xr_0_4, xr_0_5, xr_0_6, xr_0_7, xr_1_0, xr_1_1, xr_4_5, xr_4_6, xr_4_7, xr_4_8, xr_8_0, xr_10_5, xr_10_6, xr_10_7, xr_10_8, xr_14_0, xr_16_0, xr_16_1, xr_16_2, xr_20_0, xr_21_0, xr_21_1, xr_22_0, xr_24_0, xr_26_0, xr_26_1, xr_26_2, xr_30_0, xr_30_1, xr_30_2, xr_30_3, xr_30_4, xr_30_5, xr_30_6, xr_30_7, xr_31_0, xr_39_0, xr_39_1, xr_39_2, xr_42_0, xr_42_2, xr_42_3, xr_42_4, xr_42_5, xr_42_6, xr_42_8, xr_42_10, xr_42_13, xr_42_14, xr_42_15, xr_42_16, xr_42_23, xr_42_24, xr_42_25, q_fw]
      exact ih'
    | false =>
      rw [hc, if_neg (by decide)] at ih'
      rw [if_neg (by decide)]
      simp (disch := first | assumption | decide +kernel | exact hM _ _ | exact hL _ | exact xG_b | exact xG_bt _ _ | omega) only [w67_107, w67_110, w67_112, w67_113, w67_115, w67_117, w67_120, w67_121, w67_123, w67_126, true_implies, false_implies, not_true_eq_false, not_false_eq_true, and_true, true_and, Int.reduceEq, Int.reduceLE, Int.reduceLT, Int.reduceNeg, xb_eq0, xb_eq1, xup_ne, xup_self, xup_k, xjl_i, xjl_r, xjl_j, xjl_l, Option.toList_some, Option.toList_none, List.cons_append, List.nil_append, xr_0_0, xr_0_1, xr_0_2, xr_0_3, xr_0_4, xr_0_5, xr_0_6, xr_0_7, xr_1_0, xr_1_1, xr_4_5, xr_4_6, xr_4_7, xr_4_8, xr_8_0, xr_10_5, xr_10_6, xr_10_7, xr_10_8, xr_14_0, xr_16_0, xr_16_1, xr_16_2, xr_20_0, xr_21_0, xr_21_1, xr_22_0, xr_24_0, xr_26_0, xr_26_1, xr_26_2, xr_30_0, xr_30_1, xr_30_2, xr_30_3, xr_30_4, xr_30_5, xr_30_6, xr_30_7, xr_31_0, xr_39_0, xr_39_1, xr_39_2, xr_42_0, xr_42_2, xr_42_3, xr_42_4, xr_42_5, xr_42_6, xr_42_8, xr_42_10, xr_42_13, xr_42_14, xr_42_15, xr_42_16, xr_42_23, xr_42_24, xr_42_25]
      exact ih'
theorem q8_floods {p t n x k : Int} (hp : xG p) (ht : xG t) (hn : xG n) (hx : xG x) (hk : xG k) (hw : zW w) (hB : cB w M) (hQ : ∀ M', cG M M' → Q (some (xi (aFloods w (hC M) p t n x k))) M') : Wc 67 [xr 0, xi p, xi t, xi n, xi x, xi k] M Q := by
  have l2 := hB.1.2.1
  have l3 := hB.1.2.2.1
  have hw2 := hw.2.1
  have hw3 := hw.2.2.1
  have hbad : ¬ ((0 ≤ p ∧ p < w 0 2) ∧ (0 ≤ t ∧ t < w 0 1) ∧ (0 ≤ n ∧ n ≤ 6) ∧ (0 ≤ x ∧ x ≤ 10) ∧ (k = 0 ∨ k = 1)) → Q (some (xi (-1))) M := fun h => by
    have := hQ M cG_rf
    rw [aFloods, if_neg h] at this
    exact this
  have hgood : ((0 ≤ p ∧ p < w 0 2) ∧ (0 ≤ t ∧ t < w 0 1) ∧ (0 ≤ n ∧ n ≤ 6) ∧ (0 ≤ x ∧ x ≤ 10) ∧ (k = 0 ∨ k = 1)) → Wp 67 56 [xr 0, xi p, xi t, xi n, xi x, xi k, xj, xj, xj] [] M Q := fun h => by
    obtain ⟨m, rfl⟩ : ∃ m : Nat, n = m := ⟨n.toNat, by omega⟩
    have hm : m ≤ 6 := by omega
    simp only [aFloods, if_pos h, Int.toNat_natCast] at hQ
    simp (disch := first | assumption | decide +kernel | exact hM _ _ | exact hL _ | exact xG_b | exact xG_bt _ _ | omega) only [w67_56, w67_57, w67_59, w67_60, w67_62, w67_63, true_implies, false_implies, not_true_eq_false, not_false_eq_true, and_true, true_and, Int.reduceEq, Int.reduceLE, Int.reduceLT, Int.reduceNeg, xb_eq0, xb_eq1, xup_ne, xup_self, xup_k, xjl_i, xjl_r, xjl_j, xjl_l, Option.toList_some, Option.toList_none, List.cons_append, List.nil_append, xr_0_0, xr_0_1, xr_0_2, xr_0_3, xr_0_4, xr_0_5, xr_0_6, xr_0_7, xr_1_0, xr_1_1, xr_4_5, xr_4_6, xr_4_7, xr_4_8, xr_8_0, xr_10_5, xr_10_6, xr_10_7, xr_10_8, xr_14_0, xr_16_0, xr_16_1, xr_16_2, xr_20_0, xr_21_0, xr_21_1, xr_22_0, xr_24_0, xr_26_0, xr_26_1, xr_26_2, xr_30_0, xr_30_1, xr_30_2, xr_30_3, xr_30_4, xr_30_5, xr_30_6, xr_30_7, xr_31_0, xr_39_0, xr_39_1, xr_39_2, xr_42_0, xr_42_2, xr_42_3, xr_42_4, xr_42_5, xr_42_6, xr_42_8, xr_42_10, xr_42_13, xr_42_14, xr_42_15, xr_42_16, xr_42_23, xr_42_24, xr_42_25]
    refine lp_below (M := M) hm ?_ m 0 (by omega)
    simp (disch := first | assumption | decide +kernel | exact hM _ _ | exact hL _ | exact xG_b | exact xG_bt _ _ | omega) only [w67_84, w67_85, true_implies, false_implies, not_true_eq_false, not_false_eq_true, and_true, true_and, Int.reduceEq, Int.reduceLE, Int.reduceLT, Int.reduceNeg, xb_eq0, xb_eq1, xup_ne, xup_self, xup_k, xjl_i, xjl_r, xjl_j, xjl_l, Option.toList_some, Option.toList_none, List.cons_append, List.nil_append, xr_0_0, xr_0_1, xr_0_2, xr_0_3, xr_0_4, xr_0_5, xr_0_6, xr_0_7, xr_1_0, xr_1_1, xr_4_5, xr_4_6, xr_4_7, xr_4_8, xr_8_0, xr_10_5, xr_10_6, xr_10_7, xr_10_8, xr_14_0, xr_16_0, xr_16_1, xr_16_2, xr_20_0, xr_21_0, xr_21_1, xr_22_0, xr_24_0, xr_26_0, xr_26_1, xr_26_2, xr_30_0, xr_30_1, xr_30_2, xr_30_3, xr_30_4, xr_30_5, xr_30_6, xr_30_7, xr_31_0, xr_39_0, xr_39_1, xr_39_2, xr_42_0, xr_42_2, xr_42_3, xr_42_4, xr_42_5, xr_42_6, xr_42_8, xr_42_10, xr_42_13, xr_42_14, xr_42_15, xr_42_16, xr_42_23, xr_42_24, xr_42_25]
    refine lp_sets (M := M) hw hB h.1 h.2.1 h.2.2.2.1 hm (fun M2 hG2 => ?_) (2 ^ m) 0 M (by omega) cG_rf
    have hq := hQ M2 hG2
    have h64 : ∀ m : Nat, m ≤ 6 → 2 ^ m ≤ 64 ∧ (10 : Int) ^ m ≤ 1000000 ∧ 1 ≤ (10 : Int) ^ m ∧ (10 : Int) ^ m = ((10 ^ m : Nat) : Int) := by decide
    have hm64 := h64 m hm
    have hr := fAb_rng (w := w) (h := hC M) (p := p) (t := t) h.2.2.2.1 hm (2 ^ m)
    obtain ⟨A, hA⟩ : ∃ A : Nat, fAb w (hC M) p t x m (2 ^ m) = A := ⟨(fAb w (hC M) p t x m (2 ^ m)).toNat, by omega⟩
    have hA2 : A < 2 ^ 30 := by omega
    rw [hA] at hq ⊢
    rw [hm64.2.2.2] at hq ⊢
    generalize hBe : (10 ^ m : Nat) = Be at hq hm64 ⊢
    have hb0 : 0 < Be := by omega
    have hb2 : Be < 2 ^ 30 := by omega
    have hg1 : 1 ≤ Nat.gcd A Be := Nat.gcd_pos_of_pos_right _ hb0
    have hg2 : Nat.gcd A Be ≤ Be := Nat.gcd_le_right _ hb0
    rw [Int.toNat_natCast] at hq
    simp (disch := first | assumption | decide +kernel | exact hM _ _ | exact hL _ | exact xG_b | exact xG_bt _ _ | omega) only [w67_129, w67_131, w67_133, true_implies, false_implies, not_true_eq_false, not_false_eq_true, and_true, true_and, Int.reduceEq, Int.reduceLE, Int.reduceLT, Int.reduceNeg, xb_eq0, xb_eq1, xup_ne, xup_self, xup_k, xjl_i, xjl_r, xjl_j, xjl_l, Option.toList_some, Option.toList_none, List.cons_append, List.nil_append, xr_0_0, xr_0_1, xr_0_2, xr_0_3, xr_0_4, xr_0_5, xr_0_6, xr_0_7, xr_1_0, xr_1_1, xr_4_5, xr_4_6, xr_4_7, xr_4_8, xr_8_0, xr_10_5, xr_10_6, xr_10_7, xr_10_8, xr_14_0, xr_16_0, xr_16_1, xr_16_2, xr_20_0, xr_21_0, xr_21_1, xr_22_0, xr_24_0, xr_26_0, xr_26_1, xr_26_2, xr_30_0, xr_30_1, xr_30_2, xr_30_3, xr_30_4, xr_30_5, xr_30_6, xr_30_7, xr_31_0, xr_39_0, xr_39_1, xr_39_2, xr_42_0, xr_42_2, xr_42_3, xr_42_4, xr_42_5, xr_42_6, xr_42_8, xr_42_10, xr_42_13, xr_42_14, xr_42_15, xr_42_16, xr_42_23, xr_42_24, xr_42_25]
    rw [q_cd hb0 hA2 hb2]
    simp (disch := first | assumption | decide +kernel | exact hM _ _ | exact hL _ | exact xG_b | exact xG_bt _ _ | omega) only [w67_136, w67_138, w67_140, w67_141, w67_144, w67_146, w67_147, w67_149, w67_152, w67_154, w67_157, w67_159, w67_161, w67_162, true_implies, false_implies, not_true_eq_false, not_false_eq_true, and_true, true_and, Int.reduceEq, Int.reduceLE, Int.reduceLT, Int.reduceNeg, xb_eq0, xb_eq1, xup_ne, xup_self, xup_k, xjl_i, xjl_r, xjl_j, xjl_l, Option.toList_some, Option.toList_none, List.cons_append, List.nil_append, xr_0_0, xr_0_1, xr_0_2, xr_0_3, xr_0_4, xr_0_5, xr_0_6, xr_0_7, xr_1_0, xr_1_1, xr_4_5, xr_4_6, xr_4_7, xr_4_8, xr_8_0, xr_10_5, xr_10_6, xr_10_7, xr_10_8, xr_14_0, xr_16_0, xr_16_1, xr_16_2, xr_20_0, xr_21_0, xr_21_1, xr_22_0, xr_24_0, xr_26_0, xr_26_1, xr_26_2, xr_30_0, xr_30_1, xr_30_2, xr_30_3, xr_30_4, xr_30_5, xr_30_6, xr_30_7, xr_31_0, xr_39_0, xr_39_1, xr_39_2, xr_42_0, xr_42_2, xr_42_3, xr_42_4, xr_42_5, xr_42_6, xr_42_8, xr_42_10, xr_42_13, xr_42_14, xr_42_15, xr_42_16, xr_42_23, xr_42_24, xr_42_25]
    rw [xbr_t (by omega)]
    have hgn : xn ((Nat.gcd A Be : Nat) : Int) = ((Nat.gcd A Be : Nat) : Int) := xn_of (by omega) (by omega)
    by_cases k0 : k = 0
    · rw [xbr_t' k0, hgn, xn_of (x := (A : Int)) (by omega) (by omega), Int.tdiv_eq_ediv_of_nonneg (by omega)]
      rw [if_pos k0] at hq
      exact ⟨by omega, hq⟩
    · rw [xbr_f' k0, hgn, xn_of (x := (Be : Int)) (by omega) (by omega), Int.tdiv_eq_ediv_of_nonneg (by omega)]
      rw [if_neg k0] at hq
      exact ⟨by omega, hq⟩
  simp (disch := first | assumption | decide +kernel | exact hM _ _ | exact hL _ | exact xG_b | exact xG_bt _ _ | omega) only [w67_0, w67_1, w67_4, w67_5, w67_8, w67_11, w67_12, w67_15, w67_16, w67_19, w67_22, w67_24, w67_27, w67_30, w67_31, w67_32, w67_33, w67_36, w67_37, w67_39, w67_42, w67_44, w67_47, w67_49, w67_51, w67_54, w67_55, wc67, true_implies, false_implies, not_true_eq_false, not_false_eq_true, and_true, true_and, Int.reduceEq, Int.reduceLE, Int.reduceLT, Int.reduceNeg, xb_eq0, xb_eq1, xup_ne, xup_self, xup_k, xjl_i, xjl_r, xjl_j, xjl_l, Option.toList_some, Option.toList_none, List.cons_append, List.nil_append, xr_0_0, xr_0_1, xr_0_2, xr_0_3, xr_0_4, xr_0_5, xr_0_6, xr_0_7, xr_1_0, xr_1_1, xr_4_5, xr_4_6, xr_4_7, xr_4_8, xr_8_0, xr_10_5, xr_10_6, xr_10_7, xr_10_8, xr_14_0, xr_16_0, xr_16_1, xr_16_2, xr_20_0, xr_21_0, xr_21_1, xr_22_0, xr_24_0, xr_26_0, xr_26_1, xr_26_2, xr_30_0, xr_30_1, xr_30_2, xr_30_3, xr_30_4, xr_30_5, xr_30_6, xr_30_7, xr_31_0, xr_39_0, xr_39_1, xr_39_2, xr_42_0, xr_42_2, xr_42_3, xr_42_4, xr_42_5, xr_42_6, xr_42_8, xr_42_10, xr_42_13, xr_42_14, xr_42_15, xr_42_16, xr_42_23, xr_42_24, xr_42_25, q_hasPlatform, q_hasTrain, q_isEither]
  repeat' (first | apply And.intro | intro _)
  all_goals first | exact hgood (by omega) | exact hbad (by omega)
end FLOODS
