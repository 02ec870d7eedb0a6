/-! the reference: places -/
section RPLACES
variable {w z M : xM} {Q : Option xV → xM → Prop}
def wQ (w : xM) (v : Int) : xM := xup w 0 3 v
theorem zW_Q {v : Int} (hw : zW w) (hv : xG v) : zW (wQ w v) := by
  obtain ⟨a1, a2, a3, a4, a5, a6, a7⟩ := hw
  have e0 : ∀ k : Int, k ≠ 3 → wQ w v 0 k = w 0 k := fun k hk => by rw [wQ, xup_k hk]
  have e1 : ∀ c : Nat, c ≠ 0 → wQ w v c = w c := fun c hc => by rw [wQ, xup_ne hc]
  refine ⟨?_, ?_, ?_, ?_, ?_, ?_, ?_⟩
  · rw [e0 0 (by decide)]; exact a1
  · rw [e0 1 (by decide)]; exact a2
  · rw [e0 2 (by decide)]; exact a3
  · rw [e0 1 (by decide), e0 0 (by decide), e1 1 (by decide)]; exact a4
  · rw [e0 2 (by decide), e0 0 (by decide), e1 2 (by decide), e1 3 (by decide), e1 4 (by decide), e1 5 (by decide)]; exact a5
  · rw [wQ, xup_self]; exact hv
  · rw [e0 4 (by decide)]; exact a7
theorem rK_Q {M' : xM} {v : Int} (hw : zW w) (hK : rK w M) (hf : sF M M') (e : ∀ k, M' 47 k = if k = 6 then v else M 47 k) : rK (wQ w v) M' := by
  have hw3 := hw.2.2.1
  have e0 : ∀ k : Int, k ≠ 3 → wQ w v 0 k = w 0 k := fun k hk => by rw [wQ, xup_k hk]
  have e1 : ∀ c : Nat, c ≠ 0 → wQ w v c = w c := fun c hc => by rw [wQ, xup_ne hc]
  have hT := rT_F hK.1 (hf.1 44 (by omega) (by omega) (by omega))
  refine ⟨?_, ⟨fun q a b => ?_, ?_⟩, by rw [hf.2 20 (by omega)]; exact hK.2.2.1, by rw [hf.2 22 (by omega)]; exact hK.2.2.2⟩
  · unfold rT at hT ⊢
    rw [e0 0 (by decide), e0 1 (by decide), e0 2 (by decide), e0 4 (by decide), e1 1 (by decide), e1 2 (by decide), e1 4 (by decide), e1 5 (by decide)]
    exact hT
  · rw [e0 2 (by decide)] at b
    rw [e q, if_neg (by omega), e1 3 (by decide)]
    exact hK.2.1.1 q a b
  · rw [e 6, if_pos rfl, wQ, xup_self]
theorem hD_Q {M' : xM} {v : Int} (e : ∀ k, M' 47 k = if k = 6 then v else M 47 k) : hD M' = hD M := by
  unfold hD
  rw [e 5, if_neg (by omega)]
theorem eqP_Q {v v' : Int} : eqP (wQ w v) (wQ w v') := ⟨fun c hc => by rw [wQ, wQ, xup_ne hc, xup_ne hc], fun k hk => by rw [wQ, wQ, xup_k hk, xup_k hk]⟩
theorem suP_Q {v v' : Int} (hw : zW w) (h : ∀ x, 0 ≤ x → x < 24 → xbt v x ≤ xbt v' x) : suP (wQ w v) (wQ w v') := fun x a b => by
  rw [wQ, xup_k (by omega)] at b
  rw [wQ, wQ, xup_self, xup_self]
  exact h x a (by have := hw.1; omega)
theorem wQ_w : wQ w (w 0 3) = w := xup_id rfl
def uP (v a : Int) : Int := xor_ v (xshl 1 a)
def wV (w : xM) (h : Int → Int → Int) (v : Int) : Int := zR (wQ w v) h 60 6 0
def fV (w : xM) (h : Int → Int → Int) (v : Int) : Int := zR (wQ w v) h 60 6 1
theorem uP_bt {v a x : Int} (ha : 0 ≤ a ∧ a < 24) (hx : 0 ≤ x ∧ x < 24) : xbt (uP v a) x = if x = a then 1 else xbt v x := xbt_orb (by omega) (by omega)
theorem xbt_le (v : Int) {x : Int} (hx : 0 ≤ x ∧ x < 24) : 0 ≤ xbt v x ∧ xbt v x ≤ 1 := by
  obtain ⟨k, rfl⟩ : ∃ k : Nat, x = k := ⟨x.toNat, by omega⟩
  rcases xbt_01 (b := v) (p := k) (by omega) with h | h <;> rw [h] <;> decide
theorem fV_rng {h : Int → Int → Int} {v : Int} (hw : zW w) (hv : xG v) : 0 ≤ fV w h v ∧ fV w h v < w 0 0 := by
  have := (zR_V' (h := h) (zW_Q hw hv) (n := 60) (by omega)).2.2
  rw [show wQ w v 0 0 = w 0 0 by rw [wQ, xup_k (by omega)]] at this
  exact this
theorem xG_uP {v a : Int} : xG (uP v a) := xG_or _ _
theorem forced' {h : Int → Int → Int} {v v' : Int} (hw : zW w) (hv : xG v) (hsu : ∀ x, 0 ≤ x → x < 24 → xbt v x ≤ xbt v' x) (h0 : ¬ wV w h v = 0) (h1 : wV w h v' = 0) : xbt v (fV w h v) = 0 ∧ xbt v' (fV w h v) = 1 := by
  have := forced (h := h) (zW_Q hw hv) (eqP_Q (v' := v')) (suP_Q hw hsu) h0 h1
  rw [show wQ w v 0 3 = v from xup_self _ _ _ _, show wQ w v' 0 3 = v' from xup_self _ _ _ _] at this
  exact this
/-- one more passing place: it can be but one -/
theorem one_more {h : Int → Int → Int} {v a : Int} (hw : zW w) (hv : xG v) (ha : 0 ≤ a ∧ a < w 0 0) (h0 : ¬ wV w h v = 0) (h1 : wV w h (uP v a) = 0) : a = fV w h v ∧ xbt v a = 0 := by
  have hw1 := hw.1
  have hf := fV_rng (h := h) hw hv
  obtain ⟨f1, f2⟩ := forced' hw hv (fun x c d => by
    rw [uP_bt (by omega) ⟨c, d⟩]
    have := xbt_le v ⟨c, d⟩
    split <;> omega) h0 h1
  rw [uP_bt (by omega) (by omega)] at f2
  by_cases e : fV w h v = a
  · rw [e] at f1
    exact ⟨e.symm, f1⟩
  · rw [if_neg e] at f2; omega
theorem two_more {h : Int → Int → Int} {v a b : Int} (hw : zW w) (hv : xG v) (ha : 0 ≤ a ∧ a < w 0 0) (hb : 0 ≤ b ∧ b < w 0 0) (h0 : ¬ wV w h v = 0) (h1 : ¬ wV w h (uP v (fV w h v)) = 0) (h2 : wV w h (uP (uP v a) b) = 0) :
    xbt v (fV w h v) = 0 ∧ xbt v (fV w h (uP v (fV w h v))) = 0 ∧ ¬ fV w h v = fV w h (uP v (fV w h v)) ∧ ((a = fV w h v ∧ b = fV w h (uP v (fV w h v))) ∨ (b = fV w h v ∧ a = fV w h (uP v (fV w h v)))) := by
  have hw1 := hw.1
  have hf := fV_rng (h := h) hw hv
  have hg := fV_rng (h := h) (v := uP v (fV w h v)) hw xG_uP
  obtain ⟨f1, f2⟩ := forced' hw hv (fun x c d => by
    rw [uP_bt (by omega) ⟨c, d⟩, uP_bt (by omega) ⟨c, d⟩]
    have := xbt_le v ⟨c, d⟩
    split
    · omega
    · split <;> omega) h0 h2
  rw [uP_bt (by omega) (by omega), uP_bt (by omega) (by omega)] at f2
  have hab : fV w h v = a ∨ fV w h v = b := by
    by_cases e1 : fV w h v = b
    · exact Or.inr e1
    · rw [if_neg e1] at f2
      by_cases e2 : fV w h v = a
      · exact Or.inl e2
      · rw [if_neg e2] at f2; omega
  obtain ⟨g1, g2⟩ := forced' (v := uP v (fV w h v)) hw xG_uP (fun x c d => by
    rw [uP_bt (by omega) ⟨c, d⟩, uP_bt (by omega) ⟨c, d⟩, uP_bt (by omega) ⟨c, d⟩]
    have := xbt_le v ⟨c, d⟩
    by_cases e1 : x = b
    · rw [if_pos e1]; split <;> omega
    · rw [if_neg e1]
      by_cases e2 : x = a
      · rw [if_pos e2]; split <;> omega
      · rw [if_neg e2, if_neg (by omega)]; omega) h1 h2
  rw [uP_bt (by omega) (by omega), uP_bt (by omega) (by omega)] at g2
  rw [uP_bt (by omega) (by omega)] at g1
  generalize fV w h (uP v (fV w h v)) = G at *
  generalize fV w h v = F at *
  by_cases e3 : G = F
  · rw [if_pos e3] at g1; omega
  · rw [if_neg e3] at g1
    refine ⟨f1, g1, fun x => e3 x.symm, ?_⟩
    by_cases e4 : G = b
    · rcases hab with x | x <;> omega
    · rw [if_neg e4] at g2
      by_cases e5 : G = a
      · rcases hab with x | x <;> omega
      · rw [if_neg e5] at g2; omega
theorem xon_uP {v a : Int} (ha : 0 ≤ a ∧ a < 24) : xon (uP v a) 24 = xon v 24 + (1 - xbt v a) := by
  rw [xon_cn _ 24 (by omega), xon_cn _ 24 (by omega)]
  obtain ⟨k, rfl⟩ : ∃ k : Nat, a = k := ⟨a.toNat, by omega⟩
  have h := xcn_u (f := fun j => xt v j.toNat) (g := fun j => xt (uP v k) j.toNat) (p := k) (n := 24) (by omega) (fun j hj hne => by
    simp only [Int.toNat_natCast]
    unfold uP
    rw [xt_or, xt_shl1 (by omega)]
    simp [hne])
  simp only [Int.toNat_natCast] at h
  have e1 : xt (uP v k) k = true := by
    unfold uP
    rw [xt_or, xt_shl1 (by omega)]
    simp
  simp only [e1, if_true] at h
  rw [xbt_t (by omega)]
  omega
theorem uP_ne {v a : Int} (ha : 0 ≤ a ∧ a < 24) (h : xbt v a = 0) : ¬ uP v a = v := fun e => by
  have := uP_bt (v := v) ha ha
  rw [if_pos rfl, e] at this
  omega
theorem uP_comm {v a b : Int} (ha : 0 ≤ a ∧ a < 24) (hb : 0 ≤ b ∧ b < 24) : uP (uP v a) b = uP (uP v b) a := by
  unfold uP
  refine xt_extG (xG_or _ _) (xG_or _ _) (fun k hk => ?_)
  rw [xt_or, xt_or, xt_or, xt_or]
  cases xt v k <;> cases xt (xshl 1 a) k <;> cases xt (xshl 1 b) k <;> rfl
theorem lq_pl1 {k f1 : Int} {W1 : Prop} [Decidable W1] {v : Int} (hw : zW w) (hK : rK w M) (hv : v = w 0 3) (hgv : xG v) (hf1 : 0 ≤ f1 ∧ f1 < w 0 0) (h1 : ∀ a, 0 ≤ a → a < w 0 0 → ((¬ uP v a = v ∧ wV w (hD M) (uP v a) = 0) ↔ (W1 ∧ a = f1)))
    (hQ : ∀ M' v6 v7 v8, sF M M' → (∀ i, i ≠ 6 → M' 47 i = M 47 i) → Wp 120 137 [xr 42, xi k, xi v, xi (if W1 then 1 else -4), xi (if W1 then f1 else -4), xi (-4), v6, v7, v8] [] M' Q) :
    ∀ (n : Nat) (v7 v8 : xV) (M1 : xM), (n : Int) ≤ w 0 0 → sF M M1 → (∀ i, i ≠ 6 → M1 47 i = M 47 i) → Wp 120 55 [xr 42, xi k, xi v, xi (if W1 ∧ (n : Int) ≤ f1 then 1 else -4), xi (if W1 ∧ (n : Int) ≤ f1 then f1 else -4), xi (-4), xi ((n : Int) - 1), v7, v8] [] M1 Q := by
  intro n
  have hw1 := hw.1
  have hw3 := hw.2.2.1
  induction n with
  | zero =>
    intro v7 v8 M1 hn hF h47
    have hA := hQ M1 (xi (((0 : Nat) : Int) - 1)) v7 v8 hF h47
    have e1 : (if W1 ∧ ((0 : Nat) : Int) ≤ f1 then (1 : Int) else -4) = if W1 then 1 else -4 := by
      by_cases h : W1
      · rw [if_pos h, if_pos ⟨h, by omega⟩]
      · rw [if_neg h, if_neg (fun x => h x.1)]
    have e2 : (if W1 ∧ ((0 : Nat) : Int) ≤ f1 then f1 else -4) = if W1 then f1 else -4 := by
      by_cases h : W1
      · rw [if_pos h, if_pos ⟨h, by omega⟩]
      · rw [if_neg h, if_neg (fun x => h x.1)]
    rw [e1, e2]
    simp (disch := first | assumption | decide +kernel | exact hM _ _ | exact hL _ | exact xG_b | exact xG_bt _ _ | omega) only [w120_55, w120_57, Int.reduceAdd, xup_twice, true_implies, false_implies, not_true_eq_false, not_false_eq_true, and_true, true_and, Int.reduceEq, Int.reduceLE, Int.reduceLT, Int.reduceNeg, xb_eq0, xb_eq1, xup_ne, xup_self, xup_k, xjl_i, xjl_r, xjl_j, xjl_l, Option.toList_some, Option.toList_none, List.cons_append, List.nil_append, xr_0_0, xr_0_1, xr_0_2, xr_0_3, xr_0_4, xr_0_5, xr_0_6, xr_0_7, xr_1_0, xr_1_1, xr_4_5, xr_4_6, xr_4_7, xr_4_8, xr_8_0, xr_10_5, xr_10_6, xr_10_7, xr_10_8, xr_14_0, xr_16_0, xr_16_1, xr_16_2, xr_20_0, xr_21_0, xr_21_1, xr_22_0, xr_24_0, xr_26_0, xr_26_1, xr_26_2, xr_30_0, xr_30_1, xr_30_2, xr_30_3, xr_30_4, xr_30_5, xr_30_6, xr_30_7, xr_31_0, xr_39_0, xr_39_1, xr_39_2, xr_42_0, xr_42_2, xr_42_3, xr_42_4, xr_42_5, xr_42_6, xr_42_8, xr_42_10, xr_42_13, xr_42_14, xr_42_15, xr_42_16, xr_42_23, xr_42_24, xr_42_25]
    exact ⟨fun _ => hA, fun h => absurd h (by omega)⟩
  | succ n ih =>
    intro v7 v8 M1 hn hF h47
    have e : ((n + 1 : Nat) : Int) - 1 = (n : Int) := by omega
    rw [e]
    have ih1 := fun v7 v8 M2 => ih v7 v8 M2 (by omega)
    have hfo : ∀ x : Prop, [Decidable x] → xG (if x then (1 : Int) else -4) ∧ ¬ (if x then (1 : Int) else -4) = 0 := fun x _ => by split <;> (refine ⟨?_, ?_⟩ <;> decide)
    obtain ⟨gf, nf⟩ := hfo (W1 ∧ ((n + 1 : Nat) : Int) ≤ f1)
    have en1 : (n : Int) + -1 = (n : Int) - 1 := by omega
    have eu : xor_ v (xshl 1 n) = uP v n := rfl
    have gu : xG (uP v n) := xG_uP
    have heq := h1 n (by omega) (by omega)
    have e47 : ∀ k, xup M1 47 6 (uP v n) 47 k = if k = 6 then uP v n else M 47 k := fun k => by
      rw [xup_at]
      split
      · rfl
      · exact h47 k ‹_›
    have hK2 := rK_Q hw hK (sF_47 hF) e47
    have yes : (W1 ∧ (n : Int) = f1) → ∀ M2, sF M M2 → (∀ i, i ≠ 6 → M2 47 i = M 47 i) → Wp 120 99 [xr 42, xi k, xi v, xi (if W1 ∧ ((n + 1 : Nat) : Int) ≤ f1 then 1 else -4), xi (if W1 ∧ ((n + 1 : Nat) : Int) ≤ f1 then f1 else -4), xi (-4), xi n, v7, v8] [] M2 Q := fun hy M2 hF2 h472 => by
      have := ih1 (xi 1) v8 M2 hF2 h472
      rw [if_pos ⟨hy.1, by omega⟩, if_pos ⟨hy.1, by omega⟩] at this
      simp (disch := first | assumption | decide +kernel | exact hM _ _ | exact hL _ | exact xG_b | exact xG_bt _ _ | omega) only [w120_99, w120_100, w120_104, w120_106, w120_108, w120_111, w120_112, w120_115, w120_116, w120_117, w120_119, w120_122, w120_124, w120_127, w120_129, w120_131, w120_134, Int.reduceAdd, xup_twice, true_implies, false_implies, not_true_eq_false, not_false_eq_true, and_true, true_and, Int.reduceEq, Int.reduceLE, Int.reduceLT, Int.reduceNeg, xb_eq0, xb_eq1, xup_ne, xup_self, xup_k, xjl_i, xjl_r, xjl_j, xjl_l, Option.toList_some, Option.toList_none, List.cons_append, List.nil_append, xr_0_0, xr_0_1, xr_0_2, xr_0_3, xr_0_4, xr_0_5, xr_0_6, xr_0_7, xr_1_0, xr_1_1, xr_4_5, xr_4_6, xr_4_7, xr_4_8, xr_8_0, xr_10_5, xr_10_6, xr_10_7, xr_10_8, xr_14_0, xr_16_0, xr_16_1, xr_16_2, xr_20_0, xr_21_0, xr_21_1, xr_22_0, xr_24_0, xr_26_0, xr_26_1, xr_26_2, xr_30_0, xr_30_1, xr_30_2, xr_30_3, xr_30_4, xr_30_5, xr_30_6, xr_30_7, xr_31_0, xr_39_0, xr_39_1, xr_39_2, xr_42_0, xr_42_2, xr_42_3, xr_42_4, xr_42_5, xr_42_6, xr_42_8, xr_42_10, xr_42_13, xr_42_14, xr_42_15, xr_42_16, xr_42_23, xr_42_24, xr_42_25, en1]
      rw [← hy.2] at this
      exact this
    have no : ¬ (W1 ∧ (n : Int) = f1) → ∀ M2, sF M M2 → (∀ i, i ≠ 6 → M2 47 i = M 47 i) → Wp 120 103 [xr 42, xi k, xi v, xi (if W1 ∧ ((n + 1 : Nat) : Int) ≤ f1 then 1 else -4), xi (if W1 ∧ ((n + 1 : Nat) : Int) ≤ f1 then f1 else -4), xi (-4), xi n, v7, v8] [] M2 Q := fun hy M2 hF2 h472 => by
      have := ih1 (xi 0) v8 M2 hF2 h472
      have ec : (W1 ∧ (n : Int) ≤ f1) = (W1 ∧ ((n + 1 : Nat) : Int) ≤ f1) := by
        apply propext
        constructor
        · rintro ⟨x, y⟩
          exact ⟨x, by have : ¬ (n : Int) = f1 := fun q => hy ⟨x, q⟩; omega⟩
        · rintro ⟨x, y⟩
          exact ⟨x, by omega⟩
      simp only [ec] at this
      simp (disch := first | assumption | decide +kernel | exact hM _ _ | exact hL _ | exact xG_b | exact xG_bt _ _ | omega) only [w120_103, w120_104, w120_106, w120_108, w120_111, w120_112, w120_115, w120_116, w120_117, w120_119, w120_122, w120_124, w120_127, w120_129, w120_131, w120_134, Int.reduceAdd, xup_twice, true_implies, false_implies, not_true_eq_false, not_false_eq_true, and_true, true_and, Int.reduceEq, Int.reduceLE, Int.reduceLT, Int.reduceNeg, xb_eq0, xb_eq1, xup_ne, xup_self, xup_k, xjl_i, xjl_r, xjl_j, xjl_l, Option.toList_some, Option.toList_none, List.cons_append, List.nil_append, xr_0_0, xr_0_1, xr_0_2, xr_0_3, xr_0_4, xr_0_5, xr_0_6, xr_0_7, xr_1_0, xr_1_1, xr_4_5, xr_4_6, xr_4_7, xr_4_8, xr_8_0, xr_10_5, xr_10_6, xr_10_7, xr_10_8, xr_14_0, xr_16_0, xr_16_1, xr_16_2, xr_20_0, xr_21_0, xr_21_1, xr_22_0, xr_24_0, xr_26_0, xr_26_1, xr_26_2, xr_30_0, xr_30_1, xr_30_2, xr_30_3, xr_30_4, xr_30_5, xr_30_6, xr_30_7, xr_31_0, xr_39_0, xr_39_1, xr_39_2, xr_42_0, xr_42_2, xr_42_3, xr_42_4, xr_42_5, xr_42_6, xr_42_8, xr_42_10, xr_42_13, xr_42_14, xr_42_15, xr_42_16, xr_42_23, xr_42_24, xr_42_25, en1]
      exact this
    simp (disch := first | assumption | decide +kernel | exact hM _ _ | exact hL _ | exact xG_b | exact xG_bt _ _ | omega) only [w120_55, w120_57, Int.reduceAdd, xup_twice, true_implies, false_implies, not_true_eq_false, not_false_eq_true, and_true, true_and, Int.reduceEq, Int.reduceLE, Int.reduceLT, Int.reduceNeg, xb_eq0, xb_eq1, xup_ne, xup_self, xup_k, xjl_i, xjl_r, xjl_j, xjl_l, Option.toList_some, Option.toList_none, List.cons_append, List.nil_append, xr_0_0, xr_0_1, xr_0_2, xr_0_3, xr_0_4, xr_0_5, xr_0_6, xr_0_7, xr_1_0, xr_1_1, xr_4_5, xr_4_6, xr_4_7, xr_4_8, xr_8_0, xr_10_5, xr_10_6, xr_10_7, xr_10_8, xr_14_0, xr_16_0, xr_16_1, xr_16_2, xr_20_0, xr_21_0, xr_21_1, xr_22_0, xr_24_0, xr_26_0, xr_26_1, xr_26_2, xr_30_0, xr_30_1, xr_30_2, xr_30_3, xr_30_4, xr_30_5, xr_30_6, xr_30_7, xr_31_0, xr_39_0, xr_39_1, xr_39_2, xr_42_0, xr_42_2, xr_42_3, xr_42_4, xr_42_5, xr_42_6, xr_42_8, xr_42_10, xr_42_13, xr_42_14, xr_42_15, xr_42_16, xr_42_23, xr_42_24, xr_42_25]
    refine ⟨fun h => absurd h (by omega), fun _ => ?_⟩
    simp (disch := first | assumption | decide +kernel | exact hM _ _ | exact hL _ | exact xG_b | exact xG_bt _ _ | omega) only [w120_60, w120_61, Int.reduceAdd, xup_twice, true_implies, false_implies, not_true_eq_false, not_false_eq_true, and_true, true_and, Int.reduceEq, Int.reduceLE, Int.reduceLT, Int.reduceNeg, xb_eq0, xb_eq1, xup_ne, xup_self, xup_k, xjl_i, xjl_r, xjl_j, xjl_l, Option.toList_some, Option.toList_none, List.cons_append, List.nil_append, xr_0_0, xr_0_1, xr_0_2, xr_0_3, xr_0_4, xr_0_5, xr_0_6, xr_0_7, xr_1_0, xr_1_1, xr_4_5, xr_4_6, xr_4_7, xr_4_8, xr_8_0, xr_10_5, xr_10_6, xr_10_7, xr_10_8, xr_14_0, xr_16_0, xr_16_1, xr_16_2, xr_20_0, xr_21_0, xr_21_1, xr_22_0, xr_24_0, xr_26_0, xr_26_1, xr_26_2, xr_30_0, xr_30_1, xr_30_2, xr_30_3, xr_30_4, xr_30_5, xr_30_6, xr_30_7, xr_31_0, xr_39_0, xr_39_1, xr_39_2, xr_42_0, xr_42_2, xr_42_3, xr_42_4, xr_42_5, xr_42_6, xr_42_8, xr_42_10, xr_42_13, xr_42_14, xr_42_15, xr_42_16, xr_42_23, xr_42_24, xr_42_25]
    refine ⟨fun h => absurd h nf, fun _ => ?_⟩
    simp (disch := first | assumption | decide +kernel | exact hM _ _ | exact hL _ | exact xG_b | exact xG_bt _ _ | omega) only [w120_64, w120_65, w120_68, w120_70, w120_71, w120_72, w120_74, w120_75, w120_76, w120_77, w120_78, Int.reduceAdd, xup_twice, true_implies, false_implies, not_true_eq_false, not_false_eq_true, and_true, true_and, Int.reduceEq, Int.reduceLE, Int.reduceLT, Int.reduceNeg, xb_eq0, xb_eq1, xup_ne, xup_self, xup_k, xjl_i, xjl_r, xjl_j, xjl_l, Option.toList_some, Option.toList_none, List.cons_append, List.nil_append, xr_0_0, xr_0_1, xr_0_2, xr_0_3, xr_0_4, xr_0_5, xr_0_6, xr_0_7, xr_1_0, xr_1_1, xr_4_5, xr_4_6, xr_4_7, xr_4_8, xr_8_0, xr_10_5, xr_10_6, xr_10_7, xr_10_8, xr_14_0, xr_16_0, xr_16_1, xr_16_2, xr_20_0, xr_21_0, xr_21_1, xr_22_0, xr_24_0, xr_26_0, xr_26_1, xr_26_2, xr_30_0, xr_30_1, xr_30_2, xr_30_3, xr_30_4, xr_30_5, xr_30_6, xr_30_7, xr_31_0, xr_39_0, xr_39_1, xr_39_2, xr_42_0, xr_42_2, xr_42_3, xr_42_4, xr_42_5, xr_42_6, xr_42_8, xr_42_10, xr_42_13, xr_42_14, xr_42_15, xr_42_16, xr_42_23, xr_42_24, xr_42_25, eu]
    refine q9_run (zW_Q hw gu) hK2 (fun M2 hR hf => ?_)
    rw [hD_Q e47] at hR
    have hF2 : sF M M2 := sF_y (sF_47 hF) hf
    have h47' : ∀ k, k ≠ 6 → M2 47 k = M 47 k := fun k hk => by rw [hf.1 47 (by omega) (by omega), e47 k, if_neg hk]
    have e6 : M2 47 6 = uP v n := by rw [hf.1 47 (by omega) (by omega), xup_self]
    have e19 : M2 42 19 = wV w (hD M) (uP v n) := hR.2.1
    have g19 : xG (wV w (hD M) (uP v n)) := by
      have := (zR_V' (h := hD M) (zW_Q hw gu) (n := 60) (by omega)).2.1
      unfold wV
      constructor <;> omega
    simp (disch := first | assumption | decide +kernel | exact hM _ _ | exact hL _ | exact xG_b | exact xG_bt _ _ | omega) only [w120_81, w120_82, w120_85, w120_87, w120_88, w120_89, Int.reduceAdd, xup_twice, true_implies, false_implies, not_true_eq_false, not_false_eq_true, and_true, true_and, Int.reduceEq, Int.reduceLE, Int.reduceLT, Int.reduceNeg, xb_eq0, xb_eq1, xup_ne, xup_self, xup_k, xjl_i, xjl_r, xjl_j, xjl_l, Option.toList_some, Option.toList_none, List.cons_append, List.nil_append, xr_0_0, xr_0_1, xr_0_2, xr_0_3, xr_0_4, xr_0_5, xr_0_6, xr_0_7, xr_1_0, xr_1_1, xr_4_5, xr_4_6, xr_4_7, xr_4_8, xr_8_0, xr_10_5, xr_10_6, xr_10_7, xr_10_8, xr_14_0, xr_16_0, xr_16_1, xr_16_2, xr_20_0, xr_21_0, xr_21_1, xr_22_0, xr_24_0, xr_26_0, xr_26_1, xr_26_2, xr_30_0, xr_30_1, xr_30_2, xr_30_3, xr_30_4, xr_30_5, xr_30_6, xr_30_7, xr_31_0, xr_39_0, xr_39_1, xr_39_2, xr_42_0, xr_42_2, xr_42_3, xr_42_4, xr_42_5, xr_42_6, xr_42_8, xr_42_10, xr_42_13, xr_42_14, xr_42_15, xr_42_16, xr_42_23, xr_42_24, xr_42_25, e6]
    refine ⟨fun h2 => no (fun x => (heq.mpr x).1 h2) M2 hF2 h47', fun h2 => ?_⟩
    simp (disch := first | assumption | decide +kernel | exact hM _ _ | exact hL _ | exact xG_b | exact xG_bt _ _ | omega) only [w120_92, w120_93, w120_96, Int.reduceAdd, xup_twice, true_implies, false_implies, not_true_eq_false, not_false_eq_true, and_true, true_and, Int.reduceEq, Int.reduceLE, Int.reduceLT, Int.reduceNeg, xb_eq0, xb_eq1, xup_ne, xup_self, xup_k, xjl_i, xjl_r, xjl_j, xjl_l, Option.toList_some, Option.toList_none, List.cons_append, List.nil_append, xr_0_0, xr_0_1, xr_0_2, xr_0_3, xr_0_4, xr_0_5, xr_0_6, xr_0_7, xr_1_0, xr_1_1, xr_4_5, xr_4_6, xr_4_7, xr_4_8, xr_8_0, xr_10_5, xr_10_6, xr_10_7, xr_10_8, xr_14_0, xr_16_0, xr_16_1, xr_16_2, xr_20_0, xr_21_0, xr_21_1, xr_22_0, xr_24_0, xr_26_0, xr_26_1, xr_26_2, xr_30_0, xr_30_1, xr_30_2, xr_30_3, xr_30_4, xr_30_5, xr_30_6, xr_30_7, xr_31_0, xr_39_0, xr_39_1, xr_39_2, xr_42_0, xr_42_2, xr_42_3, xr_42_4, xr_42_5, xr_42_6, xr_42_8, xr_42_10, xr_42_13, xr_42_14, xr_42_15, xr_42_16, xr_42_23, xr_42_24, xr_42_25, e19]
    exact ⟨fun h3 => no (fun x => h3 (heq.mpr x).2) M2 hF2 h47', fun h3 => yes (heq.mp ⟨h2, Classical.not_not.mp h3⟩) M2 hF2 h47'⟩
end RPLACES
