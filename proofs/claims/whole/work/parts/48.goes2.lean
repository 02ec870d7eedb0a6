/-! the reference: a platform's whole step -/
section GOES2
variable {w z M : xM} {Q : Option xV → xM → Prop}
theorem goes_fin {z' M2 : xM} {p s row f c g a b : Int} (hw : zW w) (hp : 0 ≤ p ∧ p < w 0 2) (hwent : rWent w z M) (hstop : rStop w z M s p) (hlast : rLast w z s p)
    (hz' : rZ w z' row M2) (hF : yF row M M2) (e17 : ∀ q, 0 ≤ q → q < 31 → xbt (M2 42 17) q = if q = p then 0 else xbt (M 42 17) q) (e18 : M2 42 18 = M 42 18)
    (n2 : ∀ q, q ≠ p → z' 2 q = z 2 q ∧ z' 3 q = z 3 q) (m : (¬ c = f ∧ z' 2 p = s) ∨ (c = f ∧ z' 2 p = z 2 p)) (l3 : z' 3 p ≤ s) (k2 : w 2 p = 2 → z' 3 p = if g = 1 ∧ 0 < zTr w c then s else z 3 p)
    (ha : ∀ q, 0 ≤ q → q < 31 → xbt a q = if q = p ∧ (w 2 p = 2 ∧ g = 1 ∧ 0 < zTr w c) then 1 else xbt (M2 42 17) q) (hb : ∀ q, 0 ≤ q → q < 31 → xbt b q = if q = p ∧ (30 < s ∧ ¬ c = f) then 1 else xbt (M2 42 18) q) :
    rZ w z' row (xup (xup M2 42 17 a) 42 18 b) ∧ rWent w z' (xup (xup M2 42 17 a) 42 18 b) ∧ rStop w z' (xup (xup M2 42 17 a) 42 18 b) s (p + 1) ∧ rLast w z' s (p + 1) ∧ yF row M (xup (xup M2 42 17 a) 42 18 b) := by
  have hw3 := hw.2.2.1
  refine ⟨⟨fun q i j => ?_, ?_⟩, fun q i j => ?_, fun q i j => ?_, fun q i j => ?_, yF_tr (yF_tr hF (yF_42 (by omega))) (yF_42 (by omega))⟩
  · obtain ⟨y1, y2, y3, y4⟩ := hz'.1 q i j
    rw [xup_ne (by omega), xup_ne (by omega), xup_ne (by omega), xup_ne (by omega), xup_ne (by omega), xup_ne (by omega), xup_ne (by omega), xup_ne (by omega)]
    exact ⟨y1, y2, y3, y4⟩
  · rw [xup_k (by omega), xup_k (by omega)]
    exact hz'.2
  · rw [xup_self, hb q i (by omega), e18, hwent q i j]
    by_cases e : q = p
    · subst e
      have := (hlast q i j).2
      rw [if_neg (by omega)] at this
      rcases m with ⟨m1, m2⟩ | ⟨m1, m2⟩
      · rw [m2]
        by_cases h30 : 30 < s
        · rw [if_pos ⟨rfl, h30, m1⟩, if_pos h30]
        · rw [if_neg (fun x => h30 x.2.1), if_neg (by omega), if_neg h30]
      · rw [if_neg (fun x => x.2.2 m1), m2]
    · rw [if_neg (fun x => e x.1), (n2 q e).1]
  · rw [xup_k (by omega), xup_self, ha q i (by omega), e17 q i (by omega)]
    by_cases e : q = p
    · subst e
      have := (hlast q i j).1
      rw [if_neg (by omega)] at this
      have hlt : (if q < q + 1 then s else s - 1) = s := if_pos (by omega)
      have hqq : q = q := rfl
      rw [hlt]
      by_cases hk : w 2 q = 2
      · have k3 := k2 hk
        by_cases hg : g = 1 ∧ 0 < zTr w c
        · rw [if_pos hg] at k3
          have c1 : q = q ∧ (w 2 q = 2 ∧ g = 1 ∧ 0 < zTr w c) := ⟨rfl, hk, hg⟩
          have c2 : w 2 q = 2 ∧ z' 3 q = s := ⟨hk, k3⟩
          rw [if_pos c1, if_pos c2]
        · rw [if_neg hg] at k3
          have c1 : ¬ (q = q ∧ (w 2 q = 2 ∧ g = 1 ∧ 0 < zTr w c)) := fun x => hg x.2.2
          have c2 : ¬ (w 2 q = 2 ∧ z' 3 q = s) := fun x => by omega
          rw [if_neg c1, if_neg c2, if_pos hqq]
      · have c1 : ¬ (q = q ∧ (w 2 q = 2 ∧ g = 1 ∧ 0 < zTr w c)) := fun x => hk x.2.1
        have c2 : ¬ (w 2 q = 2 ∧ z' 3 q = s) := fun x => hk x.1
        rw [if_neg c1, if_neg c2, if_pos hqq]
    · rw [if_neg (fun x => e x.1), if_neg e, hstop q i j, (n2 q e).2]
      by_cases hl : q < p
      · rw [if_pos hl, if_pos (show q < p + 1 by omega)]
      · rw [if_neg hl, if_neg (show ¬ q < p + 1 by omega)]
  · have := hlast q i j
    by_cases e : q = p
    · subst e
      rw [if_neg (by omega), ] at this
      rw [if_pos (by omega)]
      omega
    · rw [(n2 q e).1, (n2 q e).2]
      by_cases hl : q < p
      · rw [if_pos hl] at this
        rw [if_pos (show q < p + 1 by omega)]
        exact this
      · rw [if_neg hl] at this
        rw [if_neg (show ¬ q < p + 1 by omega)]
        exact this
theorem xnext_two {N x d : Int} (hN : 4 ≤ N) (hx : 0 ≤ x ∧ x < N) : xnext N (xnext N x d) d ≠ x := by
  unfold xnext
  by_cases hd : d = 0
  · simp only [if_pos hd]
    split <;> split <;> omega
  · simp only [if_neg hd]
    split <;> split <;> omega
theorem q9_goes {p s row b : Int} {h : Int → Int → Int} (hw : zW w) (hv : zV w z b) (hb : b ≤ 990) (hT : rT w M) (hS : rS w M) (hp : 0 ≤ p ∧ p < w 0 2) (hs : 1 ≤ s ∧ s ≤ 60) (hr : row = 5 * s)
    (hz : rZ w z row M) (hwent : rWent w z M) (hstop : rStop w z M s p) (hlast : rLast w z s p) (hh : rH M s p = h s p) (h20 : xG (M 42 20)) (h22 : xG (M 42 22))
    (hQ : ∀ M', rZ w (zOne w h s z p) row M' → rWent w (zOne w h s z p) M' → rStop w (zOne w h s z p) M' s (p + 1) → rLast w (zOne w h s z p) s (p + 1) → yF row M M' → Q none M') :
    Wc 110 [xr 42, xi p, xi s, xi row] M Q := by
  have hw1 := hw.1
  have hw3 := hw.2.2.1
  have hk6 := (hT.2.2.2.2.2 p hp.1 hp.2).1
  have hs3 := hS.1 p hp.1 hp.2
  have hwp := hw.2.2.2.2.1 p hp.1 hp.2
  have hv0 := hv.1 p hp.1 hp.2
  have hst0 := hstop p hp.1 hp.2
  rw [if_neg (show ¬ p < p by omega)] at hst0
  have hl0 := hlast p hp.1 hp.2
  rw [if_neg (show ¬ p < p by omega)] at hl0
  have e1 : xand (xshr (M 42 17) p) 1 = xbt (M 42 17) p := rfl
  have g1 : xG (xbt (M 42 17) p) := xG_bt _ _
  have hnx := zNx_rng hw hv hp
  obtain ⟨z1, z2, z3, z4⟩ := hz.1 p hp.1 hp.2
  have key : ∀ st, (st = 0 ∨ st = 1) → (st = 1 ↔ (w 2 p = 2 ∧ z 3 p = s - 1)) → Wp 110 30 [xr 42, xi p, xi s, xi row, xi (w 2 p), xi st, xj, xj, xj] [] M Q := fun st st01 hst => by
    have hF1 : yF row M (xup M 42 17 (xand (M 42 17) (xxor (xshl 1 p) (-1)))) := yF_42 (by omega)
    have e17 : ∀ q, 0 ≤ q → q < 31 → xbt (xup M 42 17 (xand (M 42 17) (xxor (xshl 1 p) (-1))) 42 17) q = if q = p then 0 else xbt (M 42 17) q := fun q i j => by
      rw [xup_self, xbt_clr (by omega) ⟨i, j⟩]
    have e18 : xup M 42 17 (xand (M 42 17) (xxor (xshl 1 p) (-1))) 42 18 = M 42 18 := xup_k (by omega)
    have hz1 : rZ w z row (xup M 42 17 (xand (M 42 17) (xxor (xshl 1 p) (-1)))) := ⟨fun q i j => by
      rw [xup_ne (by omega), xup_ne (by omega), xup_ne (by omega), xup_ne (by omega)]; exact hz.1 q i j, by rw [xup_k (by omega)]; exact hz.2⟩
    have hrH : rH (xup M 42 17 (xand (M 42 17) (xxor (xshl 1 p) (-1)))) s p = h s p := by
      rw [← hh]; unfold rH
      rw [xup_k (by omega), xup_k (by omega), xup_k (by omega), xup_ne (by omega)]
    have g20 : xG (xup M 42 17 (xand (M 42 17) (xxor (xshl 1 p) (-1))) 42 20) := by rw [xup_k (by omega)]; exact h20
    have g22 : xG (xup M 42 17 (xand (M 42 17) (xxor (xshl 1 p) (-1))) 42 22) := by rw [xup_k (by omega)]; exact h22
    simp (disch := first | assumption | decide +kernel | exact hM _ _ | exact hL _ | exact xG_b | exact xG_bt _ _ | omega) only [w110_30, w110_31, w110_32, w110_35, w110_36, w110_37, w110_38, w110_39, w110_40, w110_41, w110_44, w110_45, w110_46, w110_49, w110_50, w110_51, Int.reduceAdd, xup_twice, true_implies, false_implies, not_true_eq_false, not_false_eq_true, and_true, true_and, Int.reduceEq, Int.reduceLE, Int.reduceLT, Int.reduceNeg, xb_eq0, xb_eq1, xup_ne, xup_self, xup_k, xjl_i, xjl_r, xjl_j, xjl_l, Option.toList_some, Option.toList_none, List.cons_append, List.nil_append, xr_0_0, xr_0_1, xr_0_2, xr_0_3, xr_0_4, xr_0_5, xr_0_6, xr_0_7, xr_1_0, xr_1_1, xr_4_5, xr_4_6, xr_4_7, xr_4_8, xr_8_0, xr_10_5, xr_10_6, xr_10_7, xr_10_8, xr_14_0, xr_16_0, xr_16_1, xr_16_2, xr_20_0, xr_21_0, xr_21_1, xr_22_0, xr_24_0, xr_26_0, xr_26_1, xr_26_2, xr_30_0, xr_30_1, xr_30_2, xr_30_3, xr_30_4, xr_30_5, xr_30_6, xr_30_7, xr_31_0, xr_39_0, xr_39_1, xr_39_2, xr_42_0, xr_42_2, xr_42_3, xr_42_4, xr_42_5, xr_42_6, xr_42_8, xr_42_10, xr_42_13, xr_42_14, xr_42_15, xr_42_16, xr_42_23, xr_42_24, xr_42_25, hs3]
    generalize hM1 : xup M 42 17 (xand (M 42 17) (xxor (xshl 1 p) (-1))) = M1 at *
    have hT1 : rT w M1 := rT_f hT hF1
    have hS1 : rS w M1 := rS_f hS hF1
    have hret : zWa w h z s p = false → Wp 110 87 [xr 42, xi p, xi s, xi row, xi (w 2 p), xi st, xj, xj, xj] [] M1 Q := fun hz0 => by
      simp (disch := first | assumption | decide +kernel | exact hM _ _ | exact hL _ | exact xG_b | exact xG_bt _ _ | omega) only [w110_87, Int.reduceAdd, xup_twice, true_implies, false_implies, not_true_eq_false, not_false_eq_true, and_true, true_and, Int.reduceEq, Int.reduceLE, Int.reduceLT, Int.reduceNeg, xb_eq0, xb_eq1, xup_ne, xup_self, xup_k, xjl_i, xjl_r, xjl_j, xjl_l, Option.toList_some, Option.toList_none, List.cons_append, List.nil_append, xr_0_0, xr_0_1, xr_0_2, xr_0_3, xr_0_4, xr_0_5, xr_0_6, xr_0_7, xr_1_0, xr_1_1, xr_4_5, xr_4_6, xr_4_7, xr_4_8, xr_8_0, xr_10_5, xr_10_6, xr_10_7, xr_10_8, xr_14_0, xr_16_0, xr_16_1, xr_16_2, xr_20_0, xr_21_0, xr_21_1, xr_22_0, xr_24_0, xr_26_0, xr_26_1, xr_26_2, xr_30_0, xr_30_1, xr_30_2, xr_30_3, xr_30_4, xr_30_5, xr_30_6, xr_30_7, xr_31_0, xr_39_0, xr_39_1, xr_39_2, xr_42_0, xr_42_2, xr_42_3, xr_42_4, xr_42_5, xr_42_6, xr_42_8, xr_42_10, xr_42_13, xr_42_14, xr_42_15, xr_42_16, xr_42_23, xr_42_24, xr_42_25]
      have ez : zOne w h s z p = z := by unfold zOne; rw [hz0]; rfl
      rw [ez] at hQ
      refine hQ M1 hz1 (fun q i j => by rw [e18]; exact hwent q i j) (fun q i j => ?_) (fun q i j => ?_) hF1
      · rw [e17 q i (by omega)]
        by_cases e : q = p
        · subst e
          have hlt : (if q < q + 1 then s else s - 1) = s := if_pos (by omega)
          have hqq : q = q := rfl
          have c2 : ¬ (w 2 q = 2 ∧ z 3 q = s) := fun x => by omega
          rw [hlt, if_pos hqq, if_neg c2]
        · rw [if_neg e, hstop q i j]
          by_cases hl : q < p
          · rw [if_pos hl, if_pos (show q < p + 1 by omega)]
          · rw [if_neg hl, if_neg (show ¬ q < p + 1 by omega)]
      · have := hlast q i j
        by_cases hl : q < p
        · rw [if_pos hl] at this
          rw [if_pos (show q < p + 1 by omega)]; exact this
        · rw [if_neg hl] at this
          by_cases hl2 : q < p + 1
          · rw [if_pos hl2]; omega
          · rw [if_neg hl2]; exact this
    have hgo : zWa w h z s p = true → Wp 110 88 [xr 42, xi p, xi s, xi row, xi (w 2 p), xi st, xj, xj, xj] [] M1 Q := fun hwa => by
      have ez : zOne w h s z p = zMv w z s p := by unfold zOne; rw [hwa]; rfl
      rw [ez] at hQ
      have c0 : M1 51 (row + p) = z 0 p := (hz1.1 p hp.1 hp.2).1
      simp (disch := first | assumption | decide +kernel | exact hM _ _ | exact hL _ | exact xG_b | exact xG_bt _ _ | omega) only [w110_88, w110_89, w110_92, w110_93, w110_94, w110_95, w110_96, w110_98, w110_99, w110_100, w110_101, Int.reduceAdd, xup_twice, true_implies, false_implies, not_true_eq_false, not_false_eq_true, and_true, true_and, Int.reduceEq, Int.reduceLE, Int.reduceLT, Int.reduceNeg, xb_eq0, xb_eq1, xup_ne, xup_self, xup_k, xjl_i, xjl_r, xjl_j, xjl_l, Option.toList_some, Option.toList_none, List.cons_append, List.nil_append, xr_0_0, xr_0_1, xr_0_2, xr_0_3, xr_0_4, xr_0_5, xr_0_6, xr_0_7, xr_1_0, xr_1_1, xr_4_5, xr_4_6, xr_4_7, xr_4_8, xr_8_0, xr_10_5, xr_10_6, xr_10_7, xr_10_8, xr_14_0, xr_16_0, xr_16_1, xr_16_2, xr_20_0, xr_21_0, xr_21_1, xr_22_0, xr_24_0, xr_26_0, xr_26_1, xr_26_2, xr_30_0, xr_30_1, xr_30_2, xr_30_3, xr_30_4, xr_30_5, xr_30_6, xr_30_7, xr_31_0, xr_39_0, xr_39_1, xr_39_2, xr_42_0, xr_42_2, xr_42_3, xr_42_4, xr_42_5, xr_42_6, xr_42_8, xr_42_10, xr_42_13, xr_42_14, xr_42_15, xr_42_16, xr_42_23, xr_42_24, xr_42_25, c0]
      refine q9_moves (w := w) (z := z) hw hv hT1 hS1 hp (by omega) (fun q i j => (hz1.1 q i j).1) (hz1.1 p hp.1 hp.2).2.1 (fun hbl => ?_) (fun hbl => ?_)
      · have em : zMv w z s p = zWt w (zNo w z p) p := by unfold zMv; rw [if_pos hbl]
        rw [em] at hQ
        simp (disch := first | assumption | decide +kernel | exact hM _ _ | exact hL _ | exact xG_b | exact xG_bt _ _ | omega) only [w110_104, w110_106, w110_108, w110_130, w110_131, Int.reduceAdd, xup_twice, true_implies, false_implies, not_true_eq_false, not_false_eq_true, and_true, true_and, Int.reduceEq, Int.reduceLE, Int.reduceLT, Int.reduceNeg, xb_eq0, xb_eq1, xup_ne, xup_self, xup_k, xjl_i, xjl_r, xjl_j, xjl_l, Option.toList_some, Option.toList_none, List.cons_append, List.nil_append, xr_0_0, xr_0_1, xr_0_2, xr_0_3, xr_0_4, xr_0_5, xr_0_6, xr_0_7, xr_1_0, xr_1_1, xr_4_5, xr_4_6, xr_4_7, xr_4_8, xr_8_0, xr_10_5, xr_10_6, xr_10_7, xr_10_8, xr_14_0, xr_16_0, xr_16_1, xr_16_2, xr_20_0, xr_21_0, xr_21_1, xr_22_0, xr_24_0, xr_26_0, xr_26_1, xr_26_2, xr_30_0, xr_30_1, xr_30_2, xr_30_3, xr_30_4, xr_30_5, xr_30_6, xr_30_7, xr_31_0, xr_39_0, xr_39_1, xr_39_2, xr_42_0, xr_42_2, xr_42_3, xr_42_4, xr_42_5, xr_42_6, xr_42_8, xr_42_10, xr_42_13, xr_42_14, xr_42_15, xr_42_16, xr_42_23, xr_42_24, xr_42_25]
        have hzN : rZ w (zNo w z p) row M1 := ⟨hz1.1, hz1.2⟩
        refine w_goesWait hw hp (by omega) (by constructor <;> omega) rfl (zNo_V hw hv hp) (by omega) hzN rfl (fun M2 hz2 k17 k18 k51 kF => ?_)
        refine w_goesEnd (c := z 0 p) hw (rT_f hT1 kF) hp (by omega) (by omega) (by constructor <;> omega) (by omega) hv0.1 hv0.1 (by rw [k51]; exact c0) (fun a b ha hb => ?_)
        obtain ⟨r1, r2, r3, r4, r5⟩ := goes_fin (z := z) (f := z 0 p) (c := z 0 p) (g := 0) hw hp hwent hstop hlast hz2 (yF_tr hF1 kF) (fun q i j => by rw [k17]; exact e17 q i j) (by rw [k18, e18]) (fun q hq => by simp [zWt, zNo, xup_app]) (Or.inr ⟨rfl, by simp [zWt, zNo, xup_app]⟩) (by simp [zWt, zNo, xup_app]; omega) (fun _ => by simp [zWt, zNo, xup_app]) ha hb
        exact hQ _ r1 r2 r3 r4 r5
      · simp (disch := first | assumption | decide +kernel | exact hM _ _ | exact hL _ | exact xG_b | exact xG_bt _ _ | omega) only [w110_104, w110_106, w110_108, w110_111, w110_113, w110_114, Int.reduceAdd, xup_twice, true_implies, false_implies, not_true_eq_false, not_false_eq_true, and_true, true_and, Int.reduceEq, Int.reduceLE, Int.reduceLT, Int.reduceNeg, xb_eq0, xb_eq1, xup_ne, xup_self, xup_k, xjl_i, xjl_r, xjl_j, xjl_l, Option.toList_some, Option.toList_none, List.cons_append, List.nil_append, xr_0_0, xr_0_1, xr_0_2, xr_0_3, xr_0_4, xr_0_5, xr_0_6, xr_0_7, xr_1_0, xr_1_1, xr_4_5, xr_4_6, xr_4_7, xr_4_8, xr_8_0, xr_10_5, xr_10_6, xr_10_7, xr_10_8, xr_14_0, xr_16_0, xr_16_1, xr_16_2, xr_20_0, xr_21_0, xr_21_1, xr_22_0, xr_24_0, xr_26_0, xr_26_1, xr_26_2, xr_30_0, xr_30_1, xr_30_2, xr_30_3, xr_30_4, xr_30_5, xr_30_6, xr_30_7, xr_31_0, xr_39_0, xr_39_1, xr_39_2, xr_42_0, xr_42_2, xr_42_3, xr_42_4, xr_42_5, xr_42_6, xr_42_8, xr_42_10, xr_42_13, xr_42_14, xr_42_15, xr_42_16, xr_42_23, xr_42_24, xr_42_25]
        have hz2 : rZ w (zIn w z s p) row (xup M1 51 (row + p) (zNx w z p)) := ⟨fun q i j => by
          obtain ⟨y1, y2, y3, y4⟩ := hz1.1 q i j
          by_cases e : q = p
          · subst e
            simp [zIn, xup_app, y2, y3, y4]
          · have e' : ¬ row + q = row + p := by omega
            simp [zIn, xup_app, e, y1, y2, y3, y4], by simpa [zIn, xup_app] using hz1.2⟩
        have hv2 : zV w (zIn w z s p) b := zIn_V hw hv hp (by omega)
        have hF2 : yF row M (xup M1 51 (row + p) (zNx w z p)) := yF_tr hF1 (yF_c (by omega) (by omega))
        have e17' : ∀ q, 0 ≤ q → q < 31 → xbt (xup M1 51 (row + p) (zNx w z p) 42 17) q = if q = p then 0 else xbt (M 42 17) q := fun q i j => by rw [xup_ne (by omega)]; exact e17 q i j
        have e18' : xup M1 51 (row + p) (zNx w z p) 42 18 = M 42 18 := by rw [xup_ne (by omega)]; exact e18
        have c1 : xup M1 51 (row + p) (zNx w z p) 51 (row + p) = zNx w z p := xup_self _ _ _ _
        generalize hM2 : xup M1 51 (row + p) (zNx w z p) = M2 at *
        have i0 : zIn w z s p 0 p = zNx w z p := by simp [zIn, xup_app]
        have i1 : zIn w z s p 1 p = z 1 p := by simp [zIn, xup_app]
        have i2 : zIn w z s p 2 p = s := by simp [zIn, xup_app]
        have i3 : zIn w z s p 3 p = if 0 < zTr w (zNx w z p) then s else z 3 p := by simp [zIn, xup_app]
        have iq : ∀ q, q ≠ p → zIn w z s p 2 q = z 2 q ∧ zIn w z s p 3 q = z 3 q := fun q hq => by simp [zIn, xup_app, hq]
        have l3 : zIn w z s p 3 p ≤ s := by rw [i3]; split <;> omega
        refine ⟨fun h4 => ?_, fun h4 => ?_⟩
        · have em : zMv w z s p = zIn w z s p := by unfold zMv; rw [hbl, if_neg (by decide), if_neg h4]
          rw [em] at hQ
          simp (disch := first | assumption | decide +kernel | exact hM _ _ | exact hL _ | exact xG_b | exact xG_bt _ _ | omega) only [w110_126, w110_127, w110_131, w110_133, w110_135, Int.reduceAdd, xup_twice, true_implies, false_implies, not_true_eq_false, not_false_eq_true, and_true, true_and, Int.reduceEq, Int.reduceLE, Int.reduceLT, Int.reduceNeg, xb_eq0, xb_eq1, xup_ne, xup_self, xup_k, xjl_i, xjl_r, xjl_j, xjl_l, Option.toList_some, Option.toList_none, List.cons_append, List.nil_append, xr_0_0, xr_0_1, xr_0_2, xr_0_3, xr_0_4, xr_0_5, xr_0_6, xr_0_7, xr_1_0, xr_1_1, xr_4_5, xr_4_6, xr_4_7, xr_4_8, xr_8_0, xr_10_5, xr_10_6, xr_10_7, xr_10_8, xr_14_0, xr_16_0, xr_16_1, xr_16_2, xr_20_0, xr_21_0, xr_21_1, xr_22_0, xr_24_0, xr_26_0, xr_26_1, xr_26_2, xr_30_0, xr_30_1, xr_30_2, xr_30_3, xr_30_4, xr_30_5, xr_30_6, xr_30_7, xr_31_0, xr_39_0, xr_39_1, xr_39_2, xr_42_0, xr_42_2, xr_42_3, xr_42_4, xr_42_5, xr_42_6, xr_42_8, xr_42_10, xr_42_13, xr_42_14, xr_42_15, xr_42_16, xr_42_23, xr_42_24, xr_42_25]
          refine w_goesEnd (c := zNx w z p) hw (rT_f hT hF2) hp (by omega) (by omega) (by constructor <;> omega) (by omega) ⟨hnx.1, hnx.2.1⟩ hv0.1 c1 (fun a b ha hb => ?_)
          obtain ⟨r1, r2, r3, r4, r5⟩ := goes_fin (z := z) (f := z 0 p) (c := zNx w z p) (g := 1) hw hp hwent hstop hlast hz2 hF2 e17' e18' iq (Or.inl ⟨hnx.2.2, i2⟩) l3 (fun _ => by rw [i3]; simp) ha hb
          exact hQ _ r1 r2 r3 r4 r5
        · have h4' : w 2 p = 4 := Classical.not_not.mp h4
          simp (disch := first | assumption | decide +kernel | exact hM _ _ | exact hL _ | exact xG_b | exact xG_bt _ _ | omega) only [w110_117, w110_118, w110_119, w110_120, Int.reduceAdd, xup_twice, true_implies, false_implies, not_true_eq_false, not_false_eq_true, and_true, true_and, Int.reduceEq, Int.reduceLE, Int.reduceLT, Int.reduceNeg, xb_eq0, xb_eq1, xup_ne, xup_self, xup_k, xjl_i, xjl_r, xjl_j, xjl_l, Option.toList_some, Option.toList_none, List.cons_append, List.nil_append, xr_0_0, xr_0_1, xr_0_2, xr_0_3, xr_0_4, xr_0_5, xr_0_6, xr_0_7, xr_1_0, xr_1_1, xr_4_5, xr_4_6, xr_4_7, xr_4_8, xr_8_0, xr_10_5, xr_10_6, xr_10_7, xr_10_8, xr_14_0, xr_16_0, xr_16_1, xr_16_2, xr_20_0, xr_21_0, xr_21_1, xr_22_0, xr_24_0, xr_26_0, xr_26_1, xr_26_2, xr_30_0, xr_30_1, xr_30_2, xr_30_3, xr_30_4, xr_30_5, xr_30_6, xr_30_7, xr_31_0, xr_39_0, xr_39_1, xr_39_2, xr_42_0, xr_42_2, xr_42_3, xr_42_4, xr_42_5, xr_42_6, xr_42_8, xr_42_10, xr_42_13, xr_42_14, xr_42_15, xr_42_16, xr_42_23, xr_42_24, xr_42_25]
          refine q9_moves (w := w) (z := zIn w z s p) hw hv2 (rT_f hT hF2) (rS_f hS hF2) hp (by omega) (fun q i j => (hz2.1 q i j).1) (hz2.1 p hp.1 hp.2).2.1 (fun hbl2 => ?_) (fun hbl2 => ?_)
          · have em : zMv w z s p = zWt w (zNo w (zIn w z s p) p) p := by unfold zMv; rw [hbl, if_neg (by decide), if_pos h4', if_pos hbl2]
            rw [em] at hQ
            simp (disch := first | assumption | decide +kernel | exact hM _ _ | exact hL _ | exact xG_b | exact xG_bt _ _ | omega) only [w110_123, w110_130, w110_131, Int.reduceAdd, xup_twice, true_implies, false_implies, not_true_eq_false, not_false_eq_true, and_true, true_and, Int.reduceEq, Int.reduceLE, Int.reduceLT, Int.reduceNeg, xb_eq0, xb_eq1, xup_ne, xup_self, xup_k, xjl_i, xjl_r, xjl_j, xjl_l, Option.toList_some, Option.toList_none, List.cons_append, List.nil_append, xr_0_0, xr_0_1, xr_0_2, xr_0_3, xr_0_4, xr_0_5, xr_0_6, xr_0_7, xr_1_0, xr_1_1, xr_4_5, xr_4_6, xr_4_7, xr_4_8, xr_8_0, xr_10_5, xr_10_6, xr_10_7, xr_10_8, xr_14_0, xr_16_0, xr_16_1, xr_16_2, xr_20_0, xr_21_0, xr_21_1, xr_22_0, xr_24_0, xr_26_0, xr_26_1, xr_26_2, xr_30_0, xr_30_1, xr_30_2, xr_30_3, xr_30_4, xr_30_5, xr_30_6, xr_30_7, xr_31_0, xr_39_0, xr_39_1, xr_39_2, xr_42_0, xr_42_2, xr_42_3, xr_42_4, xr_42_5, xr_42_6, xr_42_8, xr_42_10, xr_42_13, xr_42_14, xr_42_15, xr_42_16, xr_42_23, xr_42_24, xr_42_25]
            have hzN : rZ w (zNo w (zIn w z s p) p) row M2 := ⟨hz2.1, hz2.2⟩
            refine w_goesWait hw hp (by omega) (by constructor <;> omega) rfl (zNo_V hw hv2 hp) (by omega) hzN rfl (fun M3 hz3 k17 k18 k51 kF => ?_)
            refine w_goesEnd (c := zNx w z p) hw (rT_f hT (yF_tr hF2 kF)) hp (by omega) (by omega) (by constructor <;> omega) (by omega) ⟨hnx.1, hnx.2.1⟩ hv0.1 (by rw [k51]; exact c1) (fun a b ha hb => ?_)
            obtain ⟨r1, r2, r3, r4, r5⟩ := goes_fin (z := z) (f := z 0 p) (c := zNx w z p) (g := 1) hw hp hwent hstop hlast hz3 (yF_tr hF2 kF) (fun q i j => by rw [k17]; exact e17' q i j) (by rw [k18, e18']) (fun q hq => by have := iq q hq; simpa [zWt, zNo, xup_app] using this) (Or.inl ⟨hnx.2.2, by simpa [zWt, zNo, xup_app] using i2⟩) (by simpa [zWt, zNo, xup_app] using l3) (fun hk => by omega) ha hb
            exact hQ _ r1 r2 r3 r4 r5
          · have em : zMv w z s p = zIn w (zIn w z s p) s p := by unfold zMv; rw [hbl, if_neg (by decide), if_pos h4', hbl2]; rfl
            rw [em] at hQ
            have hnx2 := zNx_rng hw hv2 hp
            have hne : zNx w (zIn w z s p) p ≠ z 0 p := by
              have := xnext_two (d := z 1 p) hw1.1 hv0.1
              unfold zNx
              rw [i0, i1]
              exact this
            have j0 : zIn w (zIn w z s p) s p 0 p = zNx w (zIn w z s p) p := by simp [zIn, xup_app]
            have hz3 : rZ w (zIn w (zIn w z s p) s p) row (xup M2 51 (row + p) (zNx w (zIn w z s p) p)) := ⟨fun q i j => by
              obtain ⟨y1, y2, y3, y4⟩ := hz2.1 q i j
              by_cases e : q = p
              · subst e
                rw [j0]
                refine ⟨xup_self _ _ _ _, ?_, ?_, ?_⟩
                · rw [xup_ne (by omega), y2]; simp [zIn, xup_app]
                · rw [xup_ne (by omega), y3]; simp [zIn, xup_app]
                · rw [xup_ne (by omega), y4]; simp [zIn, xup_app]
              · have e' : ¬ row + q = row + p := by omega
                refine ⟨?_, ?_, ?_, ?_⟩
                · rw [xup_k e', y1]; simp [zIn, xup_app, e]
                · rw [xup_ne (by omega), y2]; simp [zIn, xup_app]
                · rw [xup_ne (by omega), y3]; simp [zIn, xup_app]
                · rw [xup_ne (by omega), y4]; simp [zIn, xup_app], by rw [xup_ne (by omega), hz2.2]; simp [zIn, xup_app]⟩
            have hF3 : yF row M (xup M2 51 (row + p) (zNx w (zIn w z s p) p)) := yF_tr hF2 (yF_c (by omega) (by omega))
            have c2 : xup M2 51 (row + p) (zNx w (zIn w z s p) p) 51 (row + p) = zNx w (zIn w z s p) p := xup_self _ _ _ _
            have i2' : zIn w (zIn w z s p) s p 2 p = s := by unfold zIn; rw [xup_ne (by omega), xup_self]
            have l3' : zIn w (zIn w z s p) s p 3 p ≤ s := by
              have : zIn w (zIn w z s p) s p 3 p = if 0 < zTr w (zNx w (zIn w z s p) p) then s else zIn w z s p 3 p := by rw [zIn, xup_self]
              rw [this]; split <;> omega
            have iq' : ∀ q, q ≠ p → zIn w (zIn w z s p) s p 2 q = z 2 q ∧ zIn w (zIn w z s p) s p 3 q = z 3 q := fun q hq => by
              have := iq q hq
              rw [zIn, xup_ne (by omega), xup_k hq, xup_ne (by omega), xup_k hq, xup_ne (by omega), xup_ne (by omega)]
              exact this
            simp (disch := first | assumption | decide +kernel | exact hM _ _ | exact hL _ | exact xG_b | exact xG_bt _ _ | omega) only [w110_123, w110_126, w110_127, w110_131, w110_133, w110_135, Int.reduceAdd, xup_twice, true_implies, false_implies, not_true_eq_false, not_false_eq_true, and_true, true_and, Int.reduceEq, Int.reduceLE, Int.reduceLT, Int.reduceNeg, xb_eq0, xb_eq1, xup_ne, xup_self, xup_k, xjl_i, xjl_r, xjl_j, xjl_l, Option.toList_some, Option.toList_none, List.cons_append, List.nil_append, xr_0_0, xr_0_1, xr_0_2, xr_0_3, xr_0_4, xr_0_5, xr_0_6, xr_0_7, xr_1_0, xr_1_1, xr_4_5, xr_4_6, xr_4_7, xr_4_8, xr_8_0, xr_10_5, xr_10_6, xr_10_7, xr_10_8, xr_14_0, xr_16_0, xr_16_1, xr_16_2, xr_20_0, xr_21_0, xr_21_1, xr_22_0, xr_24_0, xr_26_0, xr_26_1, xr_26_2, xr_30_0, xr_30_1, xr_30_2, xr_30_3, xr_30_4, xr_30_5, xr_30_6, xr_30_7, xr_31_0, xr_39_0, xr_39_1, xr_39_2, xr_42_0, xr_42_2, xr_42_3, xr_42_4, xr_42_5, xr_42_6, xr_42_8, xr_42_10, xr_42_13, xr_42_14, xr_42_15, xr_42_16, xr_42_23, xr_42_24, xr_42_25]
            refine w_goesEnd (c := zNx w (zIn w z s p) p) hw (rT_f hT hF3) hp (by omega) (by omega) (by constructor <;> omega) (by omega) ⟨hnx2.1, hnx2.2.1⟩ hv0.1 c2 (fun a b ha hb => ?_)
            obtain ⟨r1, r2, r3, r4, r5⟩ := goes_fin (z := z) (f := z 0 p) (c := zNx w (zIn w z s p) p) (g := 1) hw hp hwent hstop hlast hz3 hF3 (fun q i j => by rw [xup_ne (by omega)]; exact e17' q i j) (by rw [xup_ne (by omega)]; exact e18') iq' (Or.inl ⟨hne, i2'⟩) l3' (fun hk => by omega) ha hb
            exact hQ _ r1 r2 r3 r4 r5
    have gs : xn s = s := xn_eq (by constructor <;> omega)
    have g2 : xn 2 = 2 := xn_eq (by decide)
    have et : s.tmod 2 = s % 2 := Int.tmod_eq_emod_of_nonneg (by omega)
    refine ⟨fun h1 => hret (decide_eq_false (fun q => by omega)), fun h1 => ?_⟩
    simp (disch := first | assumption | decide +kernel | exact hM _ _ | exact hL _ | exact xG_b | exact xG_bt _ _ | omega) only [w110_54, w110_55, w110_56, w110_57, Int.reduceAdd, xup_twice, true_implies, false_implies, not_true_eq_false, not_false_eq_true, and_true, true_and, Int.reduceEq, Int.reduceLE, Int.reduceLT, Int.reduceNeg, xb_eq0, xb_eq1, xup_ne, xup_self, xup_k, xjl_i, xjl_r, xjl_j, xjl_l, Option.toList_some, Option.toList_none, List.cons_append, List.nil_append, xr_0_0, xr_0_1, xr_0_2, xr_0_3, xr_0_4, xr_0_5, xr_0_6, xr_0_7, xr_1_0, xr_1_1, xr_4_5, xr_4_6, xr_4_7, xr_4_8, xr_8_0, xr_10_5, xr_10_6, xr_10_7, xr_10_8, xr_14_0, xr_16_0, xr_16_1, xr_16_2, xr_20_0, xr_21_0, xr_21_1, xr_22_0, xr_24_0, xr_26_0, xr_26_1, xr_26_2, xr_30_0, xr_30_1, xr_30_2, xr_30_3, xr_30_4, xr_30_5, xr_30_6, xr_30_7, xr_31_0, xr_39_0, xr_39_1, xr_39_2, xr_42_0, xr_42_2, xr_42_3, xr_42_4, xr_42_5, xr_42_6, xr_42_8, xr_42_10, xr_42_13, xr_42_14, xr_42_15, xr_42_16, xr_42_23, xr_42_24, xr_42_25]
    refine q9_isHeld (by constructor <;> omega) (by omega) g20 g22 ?_
    rw [hrH]
    by_cases hh1 : h s p = 1
    · rw [if_pos hh1]
      simp (disch := first | assumption | decide +kernel | exact hM _ _ | exact hL _ | exact xG_b | exact xG_bt _ _ | omega) only [w110_60, Int.reduceAdd, xup_twice, true_implies, false_implies, not_true_eq_false, not_false_eq_true, and_true, true_and, Int.reduceEq, Int.reduceLE, Int.reduceLT, Int.reduceNeg, xb_eq0, xb_eq1, xup_ne, xup_self, xup_k, xjl_i, xjl_r, xjl_j, xjl_l, Option.toList_some, Option.toList_none, List.cons_append, List.nil_append, xr_0_0, xr_0_1, xr_0_2, xr_0_3, xr_0_4, xr_0_5, xr_0_6, xr_0_7, xr_1_0, xr_1_1, xr_4_5, xr_4_6, xr_4_7, xr_4_8, xr_8_0, xr_10_5, xr_10_6, xr_10_7, xr_10_8, xr_14_0, xr_16_0, xr_16_1, xr_16_2, xr_20_0, xr_21_0, xr_21_1, xr_22_0, xr_24_0, xr_26_0, xr_26_1, xr_26_2, xr_30_0, xr_30_1, xr_30_2, xr_30_3, xr_30_4, xr_30_5, xr_30_6, xr_30_7, xr_31_0, xr_39_0, xr_39_1, xr_39_2, xr_42_0, xr_42_2, xr_42_3, xr_42_4, xr_42_5, xr_42_6, xr_42_8, xr_42_10, xr_42_13, xr_42_14, xr_42_15, xr_42_16, xr_42_23, xr_42_24, xr_42_25]
      exact hret (decide_eq_false (fun q => q.1 hh1))
    · rw [if_neg hh1]
      simp (disch := first | assumption | decide +kernel | exact hM _ _ | exact hL _ | exact xG_b | exact xG_bt _ _ | omega) only [w110_60, w110_63, w110_65, w110_66, Int.reduceAdd, xup_twice, true_implies, false_implies, not_true_eq_false, not_false_eq_true, and_true, true_and, Int.reduceEq, Int.reduceLE, Int.reduceLT, Int.reduceNeg, xb_eq0, xb_eq1, xup_ne, xup_self, xup_k, xjl_i, xjl_r, xjl_j, xjl_l, Option.toList_some, Option.toList_none, List.cons_append, List.nil_append, xr_0_0, xr_0_1, xr_0_2, xr_0_3, xr_0_4, xr_0_5, xr_0_6, xr_0_7, xr_1_0, xr_1_1, xr_4_5, xr_4_6, xr_4_7, xr_4_8, xr_8_0, xr_10_5, xr_10_6, xr_10_7, xr_10_8, xr_14_0, xr_16_0, xr_16_1, xr_16_2, xr_20_0, xr_21_0, xr_21_1, xr_22_0, xr_24_0, xr_26_0, xr_26_1, xr_26_2, xr_30_0, xr_30_1, xr_30_2, xr_30_3, xr_30_4, xr_30_5, xr_30_6, xr_30_7, xr_31_0, xr_39_0, xr_39_1, xr_39_2, xr_42_0, xr_42_2, xr_42_3, xr_42_4, xr_42_5, xr_42_6, xr_42_8, xr_42_10, xr_42_13, xr_42_14, xr_42_15, xr_42_16, xr_42_23, xr_42_24, xr_42_25]
      have h76 : (w 2 p = 1 → s % 2 = 0) → Wp 110 76 [xr 42, xi p, xi s, xi row, xi (w 2 p), xi st, xj, xj, xj] [] M1 Q := fun ho => by
        simp (disch := first | assumption | decide +kernel | exact hM _ _ | exact hL _ | exact xG_b | exact xG_bt _ _ | omega) only [w110_76, w110_78, w110_79, Int.reduceAdd, xup_twice, true_implies, false_implies, not_true_eq_false, not_false_eq_true, and_true, true_and, Int.reduceEq, Int.reduceLE, Int.reduceLT, Int.reduceNeg, xb_eq0, xb_eq1, xup_ne, xup_self, xup_k, xjl_i, xjl_r, xjl_j, xjl_l, Option.toList_some, Option.toList_none, List.cons_append, List.nil_append, xr_0_0, xr_0_1, xr_0_2, xr_0_3, xr_0_4, xr_0_5, xr_0_6, xr_0_7, xr_1_0, xr_1_1, xr_4_5, xr_4_6, xr_4_7, xr_4_8, xr_8_0, xr_10_5, xr_10_6, xr_10_7, xr_10_8, xr_14_0, xr_16_0, xr_16_1, xr_16_2, xr_20_0, xr_21_0, xr_21_1, xr_22_0, xr_24_0, xr_26_0, xr_26_1, xr_26_2, xr_30_0, xr_30_1, xr_30_2, xr_30_3, xr_30_4, xr_30_5, xr_30_6, xr_30_7, xr_31_0, xr_39_0, xr_39_1, xr_39_2, xr_42_0, xr_42_2, xr_42_3, xr_42_4, xr_42_5, xr_42_6, xr_42_8, xr_42_10, xr_42_13, xr_42_14, xr_42_15, xr_42_16, xr_42_23, xr_42_24, xr_42_25]
        refine ⟨fun h2 => hgo (decide_eq_true ⟨hh1, by omega, ho, fun k => absurd k h2⟩), fun h2 => ?_⟩
        have h2' : w 2 p = 2 := Classical.not_not.mp h2
        rcases st01 with rfl | rfl
        · simp (disch := first | assumption | decide +kernel | exact hM _ _ | exact hL _ | exact xG_b | exact xG_bt _ _ | omega) only [w110_82, w110_84, Int.reduceAdd, xup_twice, true_implies, false_implies, not_true_eq_false, not_false_eq_true, and_true, true_and, Int.reduceEq, Int.reduceLE, Int.reduceLT, Int.reduceNeg, xb_eq0, xb_eq1, xup_ne, xup_self, xup_k, xjl_i, xjl_r, xjl_j, xjl_l, Option.toList_some, Option.toList_none, List.cons_append, List.nil_append, xr_0_0, xr_0_1, xr_0_2, xr_0_3, xr_0_4, xr_0_5, xr_0_6, xr_0_7, xr_1_0, xr_1_1, xr_4_5, xr_4_6, xr_4_7, xr_4_8, xr_8_0, xr_10_5, xr_10_6, xr_10_7, xr_10_8, xr_14_0, xr_16_0, xr_16_1, xr_16_2, xr_20_0, xr_21_0, xr_21_1, xr_22_0, xr_24_0, xr_26_0, xr_26_1, xr_26_2, xr_30_0, xr_30_1, xr_30_2, xr_30_3, xr_30_4, xr_30_5, xr_30_6, xr_30_7, xr_31_0, xr_39_0, xr_39_1, xr_39_2, xr_42_0, xr_42_2, xr_42_3, xr_42_4, xr_42_5, xr_42_6, xr_42_8, xr_42_10, xr_42_13, xr_42_14, xr_42_15, xr_42_16, xr_42_23, xr_42_24, xr_42_25]
          exact hgo (decide_eq_true ⟨hh1, by omega, ho, fun k e => absurd (hst.mpr ⟨k, e⟩) (by decide)⟩)
        · simp (disch := first | assumption | decide +kernel | exact hM _ _ | exact hL _ | exact xG_b | exact xG_bt _ _ | omega) only [w110_82, w110_84, Int.reduceAdd, xup_twice, true_implies, false_implies, not_true_eq_false, not_false_eq_true, and_true, true_and, Int.reduceEq, Int.reduceLE, Int.reduceLT, Int.reduceNeg, xb_eq0, xb_eq1, xup_ne, xup_self, xup_k, xjl_i, xjl_r, xjl_j, xjl_l, Option.toList_some, Option.toList_none, List.cons_append, List.nil_append, xr_0_0, xr_0_1, xr_0_2, xr_0_3, xr_0_4, xr_0_5, xr_0_6, xr_0_7, xr_1_0, xr_1_1, xr_4_5, xr_4_6, xr_4_7, xr_4_8, xr_8_0, xr_10_5, xr_10_6, xr_10_7, xr_10_8, xr_14_0, xr_16_0, xr_16_1, xr_16_2, xr_20_0, xr_21_0, xr_21_1, xr_22_0, xr_24_0, xr_26_0, xr_26_1, xr_26_2, xr_30_0, xr_30_1, xr_30_2, xr_30_3, xr_30_4, xr_30_5, xr_30_6, xr_30_7, xr_31_0, xr_39_0, xr_39_1, xr_39_2, xr_42_0, xr_42_2, xr_42_3, xr_42_4, xr_42_5, xr_42_6, xr_42_8, xr_42_10, xr_42_13, xr_42_14, xr_42_15, xr_42_16, xr_42_23, xr_42_24, xr_42_25]
          have := hst.mp rfl
          exact hret (decide_eq_false (fun q => q.2.2.2 h2' this.2))
      refine ⟨fun h2 => h76 (fun k => absurd k h2), fun h2 => ?_⟩
      simp (disch := first | assumption | decide +kernel | exact hM _ _ | exact hL _ | exact xG_b | exact xG_bt _ _ | omega) only [w110_69, w110_70, w110_71, w110_72, w110_73, Int.reduceAdd, xup_twice, true_implies, false_implies, not_true_eq_false, not_false_eq_true, and_true, true_and, Int.reduceEq, Int.reduceLE, Int.reduceLT, Int.reduceNeg, xb_eq0, xb_eq1, xup_ne, xup_self, xup_k, xjl_i, xjl_r, xjl_j, xjl_l, Option.toList_some, Option.toList_none, List.cons_append, List.nil_append, xr_0_0, xr_0_1, xr_0_2, xr_0_3, xr_0_4, xr_0_5, xr_0_6, xr_0_7, xr_1_0, xr_1_1, xr_4_5, xr_4_6, xr_4_7, xr_4_8, xr_8_0, xr_10_5, xr_10_6, xr_10_7, xr_10_8, xr_14_0, xr_16_0, xr_16_1, xr_16_2, xr_20_0, xr_21_0, xr_21_1, xr_22_0, xr_24_0, xr_26_0, xr_26_1, xr_26_2, xr_30_0, xr_30_1, xr_30_2, xr_30_3, xr_30_4, xr_30_5, xr_30_6, xr_30_7, xr_31_0, xr_39_0, xr_39_1, xr_39_2, xr_42_0, xr_42_2, xr_42_3, xr_42_4, xr_42_5, xr_42_6, xr_42_8, xr_42_10, xr_42_13, xr_42_14, xr_42_15, xr_42_16, xr_42_23, xr_42_24, xr_42_25, gs, g2, et]
      have hm := Int.emod_two_eq s
      refine ⟨fun h3 => hret (decide_eq_false (fun q => by have := q.2.2.1 (Classical.not_not.mp h2); omega)), fun h3 => h76 (fun _ => by omega)⟩
  simp (disch := first | assumption | decide +kernel | exact hM _ _ | exact hL _ | exact xG_b | exact xG_bt _ _ | omega) only [w110_0, w110_1, w110_4, w110_6, w110_7, w110_8, w110_9, w110_11, w110_12, w110_15, w110_16, w110_17, w110_18, w110_19, w110_20, wc110, Int.reduceAdd, xup_twice, true_implies, false_implies, not_true_eq_false, not_false_eq_true, and_true, true_and, Int.reduceEq, Int.reduceLE, Int.reduceLT, Int.reduceNeg, xb_eq0, xb_eq1, xup_ne, xup_self, xup_k, xjl_i, xjl_r, xjl_j, xjl_l, Option.toList_some, Option.toList_none, List.cons_append, List.nil_append, xr_0_0, xr_0_1, xr_0_2, xr_0_3, xr_0_4, xr_0_5, xr_0_6, xr_0_7, xr_1_0, xr_1_1, xr_4_5, xr_4_6, xr_4_7, xr_4_8, xr_8_0, xr_10_5, xr_10_6, xr_10_7, xr_10_8, xr_14_0, xr_16_0, xr_16_1, xr_16_2, xr_20_0, xr_21_0, xr_21_1, xr_22_0, xr_24_0, xr_26_0, xr_26_1, xr_26_2, xr_30_0, xr_30_1, xr_30_2, xr_30_3, xr_30_4, xr_30_5, xr_30_6, xr_30_7, xr_31_0, xr_39_0, xr_39_1, xr_39_2, xr_42_0, xr_42_2, xr_42_3, xr_42_4, xr_42_5, xr_42_6, xr_42_8, xr_42_10, xr_42_13, xr_42_14, xr_42_15, xr_42_16, xr_42_23, xr_42_24, xr_42_25, hk6, e1]
  refine ⟨fun h1 => ?_, fun h1 => ?_⟩
  · simp (disch := first | assumption | decide +kernel | exact hM _ _ | exact hL _ | exact xG_b | exact xG_bt _ _ | omega) only [w110_27, w110_28, Int.reduceAdd, xup_twice, true_implies, false_implies, not_true_eq_false, not_false_eq_true, and_true, true_and, Int.reduceEq, Int.reduceLE, Int.reduceLT, Int.reduceNeg, xb_eq0, xb_eq1, xup_ne, xup_self, xup_k, xjl_i, xjl_r, xjl_j, xjl_l, Option.toList_some, Option.toList_none, List.cons_append, List.nil_append, xr_0_0, xr_0_1, xr_0_2, xr_0_3, xr_0_4, xr_0_5, xr_0_6, xr_0_7, xr_1_0, xr_1_1, xr_4_5, xr_4_6, xr_4_7, xr_4_8, xr_8_0, xr_10_5, xr_10_6, xr_10_7, xr_10_8, xr_14_0, xr_16_0, xr_16_1, xr_16_2, xr_20_0, xr_21_0, xr_21_1, xr_22_0, xr_24_0, xr_26_0, xr_26_1, xr_26_2, xr_30_0, xr_30_1, xr_30_2, xr_30_3, xr_30_4, xr_30_5, xr_30_6, xr_30_7, xr_31_0, xr_39_0, xr_39_1, xr_39_2, xr_42_0, xr_42_2, xr_42_3, xr_42_4, xr_42_5, xr_42_6, xr_42_8, xr_42_10, xr_42_13, xr_42_14, xr_42_15, xr_42_16, xr_42_23, xr_42_24, xr_42_25]
    refine key 0 (Or.inl rfl) ⟨fun q => absurd q (by decide), fun q => absurd ?_ h1⟩
    rw [hst0, if_pos q]
  · simp (disch := first | assumption | decide +kernel | exact hM _ _ | exact hL _ | exact xG_b | exact xG_bt _ _ | omega) only [w110_23, w110_24, w110_27, w110_28, Int.reduceAdd, xup_twice, true_implies, false_implies, not_true_eq_false, not_false_eq_true, and_true, true_and, Int.reduceEq, Int.reduceLE, Int.reduceLT, Int.reduceNeg, xb_eq0, xb_eq1, xup_ne, xup_self, xup_k, xjl_i, xjl_r, xjl_j, xjl_l, Option.toList_some, Option.toList_none, List.cons_append, List.nil_append, xr_0_0, xr_0_1, xr_0_2, xr_0_3, xr_0_4, xr_0_5, xr_0_6, xr_0_7, xr_1_0, xr_1_1, xr_4_5, xr_4_6, xr_4_7, xr_4_8, xr_8_0, xr_10_5, xr_10_6, xr_10_7, xr_10_8, xr_14_0, xr_16_0, xr_16_1, xr_16_2, xr_20_0, xr_21_0, xr_21_1, xr_22_0, xr_24_0, xr_26_0, xr_26_1, xr_26_2, xr_30_0, xr_30_1, xr_30_2, xr_30_3, xr_30_4, xr_30_5, xr_30_6, xr_30_7, xr_31_0, xr_39_0, xr_39_1, xr_39_2, xr_42_0, xr_42_2, xr_42_3, xr_42_4, xr_42_5, xr_42_6, xr_42_8, xr_42_10, xr_42_13, xr_42_14, xr_42_15, xr_42_16, xr_42_23, xr_42_24, xr_42_25]
    refine key 1 (Or.inr rfl) ⟨fun _ => ?_, fun _ => rfl⟩
    have h1' := Classical.not_not.mp h1
    rw [hst0] at h1'
    by_cases q : w 2 p = 2 ∧ z 3 p = s - 1
    · exact q
    · rw [if_neg q] at h1'; exact absurd h1' (by decide)
end GOES2
