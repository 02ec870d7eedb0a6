/-! the class's Run: its cells hold the steps -/
/-- what is told, in the line's cells -/
def cL (w M : xM) : Prop := M 4 0 = w 0 0 ∧ M 4 1 = w 0 1 ∧ M 4 2 = w 0 2 ∧ M 4 4 = w 0 4 ∧ (∀ t, 0 ≤ t → t < w 0 1 → M 5 t = w 1 t) ∧ (∀ p, 0 ≤ p → p < w 0 2 → M 6 p = w 2 p)
def cS (w M : xM) : Prop := M 31 2 = w 0 3 ∧ (∀ p, 0 ≤ p → p < w 0 2 → M 32 p = w 3 p)
def cZ (w z : xM) (s : Int) (M : xM) : Prop := M 30 9 = s ∧ M 30 10 = z 6 0 ∧ M 30 11 = z 6 1 ∧ (∀ p, 0 ≤ p → p < w 0 2 → M 33 p = z 0 p ∧ xbt (M 30 8) p = z 1 p ∧ M 36 p = z 2 p ∧ M 37 p = z 3 p ∧ M 34 p = z 4 p ∧ M 35 p = z 5 p) ∧ (∀ x, 0 ≤ x → x < 24 → M 38 x = zAll w z x)
def cR (w z : xM) (s : Int) (M : xM) : Prop := cL w M ∧ cS w M ∧ cZ w z s M
def cF (M M' : xM) : Prop := ∀ c : Nat, c ≠ 30 → (c < 33 ∨ 38 < c) → M' c = M c
theorem cF_rf {M : xM} : cF M M := fun _ _ _ => rfl
theorem cF_tr {M M' M'' : xM} (h : cF M M') (h' : cF M' M'') : cF M M'' := fun c h1 h2 => (h' c h1 h2).trans (h c h1 h2)
theorem cF_up {M M' : xM} {d : Nat} {k v : Int} (h : cF M M') (hd : d = 30 ∨ (33 ≤ d ∧ d ≤ 38)) : cF M (xup M' d k v) := fun c h1 h2 => by
  rw [xup_ne (by omega)]
  exact h c h1 h2
theorem cL_F {w M M' : xM} (h : cL w M) (hf : cF M M') : cL w M' := by
  obtain ⟨h1, h2, h3, h4, h5, h6⟩ := h
  have e4 := hf 4 (by omega) (by omega)
  have e5 := hf 5 (by omega) (by omega)
  have e6 := hf 6 (by omega) (by omega)
  exact ⟨by rw [e4]; exact h1, by rw [e4]; exact h2, by rw [e4]; exact h3, by rw [e4]; exact h4, by rw [e5]; exact h5, by rw [e6]; exact h6⟩
theorem cS_F {w M M' : xM} (h : cS w M) (hf : cF M M') : cS w M' := by
  have e1 := hf 31 (by omega) (by omega)
  have e2 := hf 32 (by omega) (by omega)
  exact ⟨by rw [e1]; exact h.1, by rw [e2]; exact h.2⟩
/-- bit p flipped -/
theorem xbt_flip {b p q : Int} (hp : 0 ≤ p ∧ p < 31) (hq : 0 ≤ q ∧ q < 31) : xbt (xxor b (xshl 1 p)) q = if q = p then 1 - xbt b q else xbt b q := by
  obtain ⟨p', rfl⟩ : ∃ k : Nat, p = k := ⟨p.toNat, by omega⟩
  obtain ⟨q', rfl⟩ : ∃ k : Nat, q = k := ⟨q.toNat, by omega⟩
  rw [xbt_t (by omega), xbt_t (by omega), xt_xor, xt_shl1 (by omega)]
  by_cases h : q' = p'
  · subst h
    cases xt b q' <;> simp
  · have : ¬ ((q' : Int) = (p' : Int)) := by omega
    simp [h, this]
section RUN
variable {w z M : xM} {Q : Option xV → xM → Prop} {s b p : Int} {h : Int → Int → Int}
theorem zBl_c (hw : zW w) (hv : zV w z b) (hp : 0 ≤ p ∧ p < w 0 2) (hR : cR w z s M) : zBl w z p = decide (xbt (M 31 2) (zNx w z p) < M 38 (zNx w z p)) := by
  have hn := zNx_rng hw hv hp
  rw [hR.2.2.2.2.2.2 _ hn.1 (by have := hw.1; omega), hR.2.1.1, zBl, zOth_all (fun e => hn.2.2 e.symm)]
theorem cZ_no (hR : cZ w z s M) : cZ w (zNo w z p) s (xup M 30 11 (if z 6 0 = 0 then zNx w z p else z 6 1)) := by
  obtain ⟨h1, h2, h3, h4, h5⟩ := hR
  refine ⟨by simpa [xup_app] using h1, by simpa [xup_app, zNo] using h2, by simp [xup_app, zNo], fun q hq1 hq2 => by simpa [xup_app, zNo] using h4 q hq1 hq2, fun x hx1 hx2 => by rw [zAll_no]; simpa [xup_app] using h5 x hx1 hx2⟩
theorem cZ_in {nx : Int} {M' : xM} (hw : zW w) (hv : zV w z b) (hp : 0 ≤ p ∧ p < w 0 2) (hR : cZ w z s M) (hnx : zNx w z p = nx) (e30 : M' 30 = M 30) (e33 : ∀ q, M' 33 q = if q = p then nx else M 33 q) (e34 : M' 34 = M 34) (e35 : M' 35 = M 35) (e36 : ∀ q, M' 36 q = if q = p then s else M 36 q) (e37 : ∀ q, M' 37 q = if q = p ∧ 0 < zTr w nx then s else M 37 q) (e38 : ∀ x, M' 38 x = if x = nx then M 38 nx + 1 else if x = z 0 p then M 38 (z 0 p) - 1 else M 38 x) : cZ w (zIn w z s p) s M' := by
  obtain ⟨h1, h2, h3, h4, h5⟩ := hR
  have hn := zNx_rng hw hv hp
  subst hnx
  refine ⟨by rw [e30]; exact h1, by rw [e30]; exact h2, by rw [e30]; exact h3, fun q hq1 hq2 => ?_, fun x hx1 hx2 => ?_⟩
  · have h6 := h4 q hq1 hq2
    rw [e30, e33, e34, e35, e36, e37]
    simp only [zIn, xup_app]
    by_cases hq : q = p
    · subst hq
      simp [h6]
    · simp [hq, h6]
  · have h6 := zAll_in (s := s) (x := x) (z := z) hp
    have h7 := h5 x hx1 hx2
    rw [e38]
    by_cases h8 : x = zNx w z p
    · subst h8
      rw [if_pos rfl]
      rw [if_neg (fun e => hn.2.2 e.symm), if_pos rfl] at h6
      omega
    · rw [if_neg h8]
      have e1 : ¬ zNx w z p = x := fun e => h8 e.symm
      rw [if_neg e1] at h6
      by_cases h9 : x = z 0 p
      · have e2 : z 0 p = x := h9.symm
        rw [if_pos h9, ← h9]
        rw [if_pos e2] at h6
        omega
      · have e2 : ¬ z 0 p = x := fun e => h9 e.symm
        rw [if_neg h9]
        rw [if_neg e2] at h6
        omega
theorem q_goesIn (hw : zW w) (hv : zV w z b) (hb : b ≤ 1000) (hp : 0 ≤ p ∧ p < w 0 2) (hs : 0 ≤ s ∧ s ≤ 60) (hR : cR w z s M) (hQ : ∀ M', cR w (zGo w z s p) s M' → cF M M' → Q (some (xi (if zBl w z p then 0 else 1))) M') : Wc 29 [xr 30, xi p] M Q := by
  obtain ⟨⟨l1, l2, l3, l4, l5, l6⟩, ⟨s1, s2⟩, z1, z2, z3, z4, z5⟩ := id hR
  have hv0 := hv.1 p hp.1 hp.2
  have hz0 := z4 p hp.1 hp.2
  have hn := zNx_rng hw hv hp
  have hw1 := hw.1
  have hw2 := hw.2.1
  have hw3 := hw.2.2.1
  have hbl := zBl_c hw hv hp hR
  have hv6 := hv.2
  have hnx : (if xbt (M 30 8) p = 1 then xnext (M 4 0) (M 33 p) 1 else xnext (M 4 0) (M 33 p) 0) = zNx w z p := by
    rw [zNx, l1, hz0.1, hz0.2.1]
    rcases hv0.2.1 with e | e <;> rw [e] <;> simp
  have hall := zAll_rng w z (zNx w z p)
  have hall0 := zAll_rng w z (z 0 p)
  have e38 := z5 _ hn.1 (by omega)
  have e380 := z5 _ hv0.1.1 (by omega)
  simp (disch := first | assumption | decide +kernel | exact hM _ _ | exact hL _ | exact xG_b | exact xG_bt _ _ | omega) only [wc29, w29_0, w29_1, w29_4, w29_5, w29_8, w29_9, w29_10, w29_11, w29_14, w29_15, w29_18, w29_19, w29_22, w29_23, w29_26, w29_30, w29_31, w29_32, w29_35, w29_36, w29_37, w29_38, w29_41, w29_44, w29_45, w29_48, w29_51, w29_52, w29_55, w29_58, w29_59, w29_60, w29_63, w29_64, w29_65, w29_66, w29_69, w29_70, w29_73, w29_74, w29_75, w29_76, w29_77, w29_78, w29_79, w29_80, w29_81, w29_84, w29_85, w29_86, w29_87, w29_88, w29_89, w29_90, w29_91, w29_94, w29_95, w29_96, w29_97, w29_98, w29_101, w29_102, w29_103, w29_106, w29_107, w29_108, w29_111, w29_112, w29_115, w29_118, w29_119, w29_122, w29_123, w29_124, w29_127, w29_128, w29_129, true_implies, false_implies, not_true_eq_false, not_false_eq_true, and_true, true_and, Int.reduceEq, Int.reduceLE, Int.reduceLT, Int.reduceNeg, xb_eq0, xb_eq1, xup_ne, xup_self, xup_k, xjl_i, xjl_r, xjl_j, xjl_l, Option.toList_some, Option.toList_none, List.cons_append, List.nil_append, xr_0_0, xr_0_1, xr_0_2, xr_0_3, xr_0_4, xr_0_5, xr_0_6, xr_0_7, xr_1_0, xr_1_1, xr_4_5, xr_4_6, xr_4_7, xr_4_8, xr_8_0, xr_10_5, xr_10_6, xr_10_7, xr_10_8, xr_14_0, xr_16_0, xr_16_1, xr_16_2, xr_20_0, xr_21_0, xr_21_1, xr_22_0, xr_24_0, xr_26_0, xr_26_1, xr_26_2, xr_30_0, xr_30_1, xr_30_2, xr_30_3, xr_30_4, xr_30_5, xr_30_6, xr_30_7, xr_31_0, xr_39_0, xr_39_1, xr_39_2, xr_42_0, xr_42_2, xr_42_3, xr_42_4, xr_42_5, xr_42_6, xr_42_8, xr_42_10, xr_42_13, xr_42_14, xr_42_15, xr_42_16, xr_42_23, xr_42_24, xr_42_25, q_bit]
  -- the way
  have key : Wp 29 30 [xr 30, xi p, xj] [xi (zNx w z p)] M Q → ((¬ xbt (M 30 8) p = 1 → Wp 29 27 [xr 30, xi p, xj] [xi 0, xi (M 33 p), xr 4] M Q) ∧ (¬ ¬ xbt (M 30 8) p = 1 → Wp 29 27 [xr 30, xi p, xj] [xi 1, xi (M 33 p), xr 4] M Q)) := by
    intro k
    constructor
    · intro h1
      rw [if_neg h1] at hnx
      simp (disch := first | assumption | decide +kernel | exact hM _ _ | exact hL _ | exact xG_b | exact xG_bt _ _ | omega) only [w29_27, true_implies, false_implies, not_true_eq_false, not_false_eq_true, and_true, true_and, Int.reduceEq, Int.reduceLE, Int.reduceLT, Int.reduceNeg, xb_eq0, xb_eq1, xup_ne, xup_self, xup_k, xjl_i, xjl_r, xjl_j, xjl_l, Option.toList_some, Option.toList_none, List.cons_append, List.nil_append, xr_0_0, xr_0_1, xr_0_2, xr_0_3, xr_0_4, xr_0_5, xr_0_6, xr_0_7, xr_1_0, xr_1_1, xr_4_5, xr_4_6, xr_4_7, xr_4_8, xr_8_0, xr_10_5, xr_10_6, xr_10_7, xr_10_8, xr_14_0, xr_16_0, xr_16_1, xr_16_2, xr_20_0, xr_21_0, xr_21_1, xr_22_0, xr_24_0, xr_26_0, xr_26_1, xr_26_2, xr_30_0, xr_30_1, xr_30_2, xr_30_3, xr_30_4, xr_30_5, xr_30_6, xr_30_7, xr_31_0, xr_39_0, xr_39_1, xr_39_2, xr_42_0, xr_42_2, xr_42_3, xr_42_4, xr_42_5, xr_42_6, xr_42_8, xr_42_10, xr_42_13, xr_42_14, xr_42_15, xr_42_16, xr_42_23, xr_42_24, xr_42_25, q_nextCell, hnx]
      exact k
    · intro h1
      have h1 := Classical.not_not.mp h1
      rw [if_pos h1] at hnx
      simp (disch := first | assumption | decide +kernel | exact hM _ _ | exact hL _ | exact xG_b | exact xG_bt _ _ | omega) only [w29_27, true_implies, false_implies, not_true_eq_false, not_false_eq_true, and_true, true_and, Int.reduceEq, Int.reduceLE, Int.reduceLT, Int.reduceNeg, xb_eq0, xb_eq1, xup_ne, xup_self, xup_k, xjl_i, xjl_r, xjl_j, xjl_l, Option.toList_some, Option.toList_none, List.cons_append, List.nil_append, xr_0_0, xr_0_1, xr_0_2, xr_0_3, xr_0_4, xr_0_5, xr_0_6, xr_0_7, xr_1_0, xr_1_1, xr_4_5, xr_4_6, xr_4_7, xr_4_8, xr_8_0, xr_10_5, xr_10_6, xr_10_7, xr_10_8, xr_14_0, xr_16_0, xr_16_1, xr_16_2, xr_20_0, xr_21_0, xr_21_1, xr_22_0, xr_24_0, xr_26_0, xr_26_1, xr_26_2, xr_30_0, xr_30_1, xr_30_2, xr_30_3, xr_30_4, xr_30_5, xr_30_6, xr_30_7, xr_31_0, xr_39_0, xr_39_1, xr_39_2, xr_42_0, xr_42_2, xr_42_3, xr_42_4, xr_42_5, xr_42_6, xr_42_8, xr_42_10, xr_42_13, xr_42_14, xr_42_15, xr_42_16, xr_42_23, xr_42_24, xr_42_25, q_nextCell, hnx]
      exact k
  refine key ?_
  have g38 : xG (M 38 (zNx w z p)) := by rw [e38]; constructor <;> omega
  simp (disch := first | assumption | decide +kernel | exact hM _ _ | exact hL _ | exact xG_b | exact xG_bt _ _ | omega) only [w29_30, w29_31, w29_32, w29_35, w29_36, w29_37, w29_38, w29_41, w29_44, w29_45, w29_48, w29_51, w29_52, w29_55, w29_58, w29_59, w29_60, true_implies, false_implies, not_true_eq_false, not_false_eq_true, and_true, true_and, Int.reduceEq, Int.reduceLE, Int.reduceLT, Int.reduceNeg, xb_eq0, xb_eq1, xup_ne, xup_self, xup_k, xjl_i, xjl_r, xjl_j, xjl_l, Option.toList_some, Option.toList_none, List.cons_append, List.nil_append, xr_0_0, xr_0_1, xr_0_2, xr_0_3, xr_0_4, xr_0_5, xr_0_6, xr_0_7, xr_1_0, xr_1_1, xr_4_5, xr_4_6, xr_4_7, xr_4_8, xr_8_0, xr_10_5, xr_10_6, xr_10_7, xr_10_8, xr_14_0, xr_16_0, xr_16_1, xr_16_2, xr_20_0, xr_21_0, xr_21_1, xr_22_0, xr_24_0, xr_26_0, xr_26_1, xr_26_2, xr_30_0, xr_30_1, xr_30_2, xr_30_3, xr_30_4, xr_30_5, xr_30_6, xr_30_7, xr_31_0, xr_39_0, xr_39_1, xr_39_2, xr_42_0, xr_42_2, xr_42_3, xr_42_4, xr_42_5, xr_42_6, xr_42_8, xr_42_10, xr_42_13, xr_42_14, xr_42_15, xr_42_16, xr_42_23, xr_42_24, xr_42_25, q_bit]
  by_cases hB : M 38 (zNx w z p) ≤ xbt (M 31 2) (zNx w z p)
  · rw [xbr_t hB]
    have hbl : zBl w z p = false := by rw [hbl, decide_eq_false_iff_not]; omega
    have hQ : ∀ M', cR w (zIn w z s p) s M' → cF M M' → Q (some (xi 1)) M' := fun M' a b => by
      have := hQ M'
      simp only [zGo, hbl] at this
      exact this a b
    have g38' : xG (M 38 (M 33 p)) := by rw [hz0.1, e380]; constructor <;> omega
    have hne : zNx w z p ≠ M 33 p := by rw [hz0.1]; exact hn.2.2
    have hr0 : 0 ≤ M 33 p ∧ M 33 p < 24 := by omega
    simp (disch := first | assumption | decide +kernel | exact hM _ _ | exact hL _ | exact xG_b | exact xG_bt _ _ | omega) only [w29_65, w29_66, w29_69, w29_70, w29_73, w29_74, w29_75, w29_76, w29_77, w29_78, w29_79, w29_80, w29_81, w29_84, w29_85, w29_86, w29_87, w29_88, w29_89, w29_90, w29_91, w29_94, w29_95, w29_96, w29_97, w29_98, w29_101, w29_102, w29_103, w29_106, w29_107, w29_108, w29_111, w29_112, true_implies, false_implies, not_true_eq_false, not_false_eq_true, and_true, true_and, Int.reduceEq, Int.reduceLE, Int.reduceLT, Int.reduceNeg, xb_eq0, xb_eq1, xup_ne, xup_self, xup_k, xjl_i, xjl_r, xjl_j, xjl_l, Option.toList_some, Option.toList_none, List.cons_append, List.nil_append, xr_0_0, xr_0_1, xr_0_2, xr_0_3, xr_0_4, xr_0_5, xr_0_6, xr_0_7, xr_1_0, xr_1_1, xr_4_5, xr_4_6, xr_4_7, xr_4_8, xr_8_0, xr_10_5, xr_10_6, xr_10_7, xr_10_8, xr_14_0, xr_16_0, xr_16_1, xr_16_2, xr_20_0, xr_21_0, xr_21_1, xr_22_0, xr_24_0, xr_26_0, xr_26_1, xr_26_2, xr_30_0, xr_30_1, xr_30_2, xr_30_3, xr_30_4, xr_30_5, xr_30_6, xr_30_7, xr_31_0, xr_39_0, xr_39_1, xr_39_2, xr_42_0, xr_42_2, xr_42_3, xr_42_4, xr_42_5, xr_42_6, xr_42_8, xr_42_10, xr_42_13, xr_42_14, xr_42_15, xr_42_16, xr_42_23, xr_42_24, xr_42_25]
    rw [q_standsIn4 (by constructor <;> omega) (by simp (disch := first | assumption | decide +kernel | exact hM _ _ | exact hL _ | exact xG_b | exact xG_bt _ _ | omega) only [xup_ne]; omega) (fun t h1 h2 => by
      simp (disch := first | assumption | decide +kernel | exact hM _ _ | exact hL _ | exact xG_b | exact xG_bt _ _ | omega) only [xup_ne] at h2 ⊢
      rw [l5 t h1 (by omega)]
      have := hw.2.2.2.1 t h1 (by omega)
      constructor <;> omega)]
    simp (disch := first | assumption | decide +kernel | exact hM _ _ | exact hL _ | exact xG_b | exact xG_bt _ _ | omega) only [xup_ne]
    have htr : xcn (fun t => decide (M 5 t = zNx w z p)) (M 4 1).toNat = zTr w (zNx w z p) := by
      rw [zTr, l2]
      exact xcn_c (fun k hk => by rw [l5 k (by omega) (by omega)])
    rw [htr]
    simp (disch := first | assumption | decide +kernel | exact hM _ _ | exact hL _ | exact xG_b | exact xG_bt _ _ | omega) only [w29_115, w29_118, w29_119, w29_122, w29_123, w29_124, w29_127, w29_128, w29_129, true_implies, false_implies, not_true_eq_false, not_false_eq_true, and_true, true_and, Int.reduceEq, Int.reduceLE, Int.reduceLT, Int.reduceNeg, xb_eq0, xb_eq1, xup_ne, xup_self, xup_k, xjl_i, xjl_r, xjl_j, xjl_l, Option.toList_some, Option.toList_none, List.cons_append, List.nil_append, xr_0_0, xr_0_1, xr_0_2, xr_0_3, xr_0_4, xr_0_5, xr_0_6, xr_0_7, xr_1_0, xr_1_1, xr_4_5, xr_4_6, xr_4_7, xr_4_8, xr_8_0, xr_10_5, xr_10_6, xr_10_7, xr_10_8, xr_14_0, xr_16_0, xr_16_1, xr_16_2, xr_20_0, xr_21_0, xr_21_1, xr_22_0, xr_24_0, xr_26_0, xr_26_1, xr_26_2, xr_30_0, xr_30_1, xr_30_2, xr_30_3, xr_30_4, xr_30_5, xr_30_6, xr_30_7, xr_31_0, xr_39_0, xr_39_1, xr_39_2, xr_42_0, xr_42_2, xr_42_3, xr_42_4, xr_42_5, xr_42_6, xr_42_8, xr_42_10, xr_42_13, xr_42_14, xr_42_15, xr_42_16, xr_42_23, xr_42_24, xr_42_25]
    have hx : ∀ M' : xM, cF M M' → cZ w (zIn w z s p) s M' → Q (some (xi 1)) M' := fun M' f1 f2 => hQ M' ⟨cL_F hR.1 f1, cS_F hR.2.1 f1, f2⟩ f1
    have e0 : M 38 (zNx w z p) = zAll w z (zNx w z p) := e38
    by_cases hT : 0 < zTr w (zNx w z p)
    · rw [xbr_t' hT]
      refine hx _ (by repeat (first | exact cF_rf | refine cF_up ?_ (by omega))) (cZ_in hw hv hp hR.2.2 rfl ?_ ?_ ?_ ?_ ?_ ?_ ?_)
      · simp (disch := first | assumption | decide +kernel | exact hM _ _ | exact hL _ | exact xG_b | exact xG_bt _ _ | omega) only [xup_ne]
      · intro q; simp [xup_app]
      · simp (disch := first | assumption | decide +kernel | exact hM _ _ | exact hL _ | exact xG_b | exact xG_bt _ _ | omega) only [xup_ne]
      · simp (disch := first | assumption | decide +kernel | exact hM _ _ | exact hL _ | exact xG_b | exact xG_bt _ _ | omega) only [xup_ne]
      · intro q; simp [xup_app, z1]
      · intro q; simp [xup_app, z1, hT]
      · intro x
        simp only [xup_app]
        simp [hz0.1]
    · rw [xbr_f' hT]
      refine hx _ (by repeat (first | exact cF_rf | refine cF_up ?_ (by omega))) (cZ_in hw hv hp hR.2.2 rfl ?_ ?_ ?_ ?_ ?_ ?_ ?_)
      · simp (disch := first | assumption | decide +kernel | exact hM _ _ | exact hL _ | exact xG_b | exact xG_bt _ _ | omega) only [xup_ne]
      · intro q; simp [xup_app]
      · simp (disch := first | assumption | decide +kernel | exact hM _ _ | exact hL _ | exact xG_b | exact xG_bt _ _ | omega) only [xup_ne]
      · simp (disch := first | assumption | decide +kernel | exact hM _ _ | exact hL _ | exact xG_b | exact xG_bt _ _ | omega) only [xup_ne]
      · intro q; simp [xup_app, z1]
      · intro q; simp [xup_app, z1, hT]
      · intro x
        simp only [xup_app]
        simp [hz0.1]
  · rw [xbr_f hB]
    have hbl : zBl w z p = true := by rw [hbl, decide_eq_true_eq]; omega
    have hQ : ∀ M', cR w (zNo w z p) s M' → cF M M' → Q (some (xi 0)) M' := fun M' a b => by
      have := hQ M'
      simp only [zGo, hbl] at this
      exact this a b
    have hno := cZ_no (p := p) hR.2.2
    simp (disch := first | assumption | decide +kernel | exact hM _ _ | exact hL _ | exact xG_b | exact xG_bt _ _ | omega) only [w29_63, w29_64, true_implies, false_implies, not_true_eq_false, not_false_eq_true, and_true, true_and, Int.reduceEq, Int.reduceLE, Int.reduceLT, Int.reduceNeg, xb_eq0, xb_eq1, xup_ne, xup_self, xup_k, xjl_i, xjl_r, xjl_j, xjl_l, Option.toList_some, Option.toList_none, List.cons_append, List.nil_append, xr_0_0, xr_0_1, xr_0_2, xr_0_3, xr_0_4, xr_0_5, xr_0_6, xr_0_7, xr_1_0, xr_1_1, xr_4_5, xr_4_6, xr_4_7, xr_4_8, xr_8_0, xr_10_5, xr_10_6, xr_10_7, xr_10_8, xr_14_0, xr_16_0, xr_16_1, xr_16_2, xr_20_0, xr_21_0, xr_21_1, xr_22_0, xr_24_0, xr_26_0, xr_26_1, xr_26_2, xr_30_0, xr_30_1, xr_30_2, xr_30_3, xr_30_4, xr_30_5, xr_30_6, xr_30_7, xr_31_0, xr_39_0, xr_39_1, xr_39_2, xr_42_0, xr_42_2, xr_42_3, xr_42_4, xr_42_5, xr_42_6, xr_42_8, xr_42_10, xr_42_13, xr_42_14, xr_42_15, xr_42_16, xr_42_23, xr_42_24, xr_42_25]
    rw [z2]
    by_cases h6 : z 6 0 = 0
    · rw [xbr_t' h6]
      rw [if_pos h6] at hno
      exact hQ _ ⟨cL_F hR.1 (cF_up cF_rf (Or.inl rfl)), cS_F hR.2.1 (cF_up cF_rf (Or.inl rfl)), hno⟩ (cF_up cF_rf (Or.inl rfl))
    · rw [xbr_f' h6]
      rw [if_neg h6, xup_id z3] at hno
      exact hQ _ ⟨hR.1, hR.2.1, hno⟩ cF_rf
theorem cZ_wt {M' : xM} (hp : 0 ≤ p ∧ p < w 0 2) (hR : cZ w z s M) (e9 : M' 30 9 = M 30 9) (e10 : M' 30 10 = M 30 10 + 1) (e11 : M' 30 11 = M 30 11) (e8 : ∀ q, 0 ≤ q → q < w 0 2 → xbt (M' 30 8) q = if q = p ∧ w 2 p = 3 then 1 - xbt (M 30 8) q else xbt (M 30 8) q) (e33 : M' 33 = M 33) (e34 : ∀ q, M' 34 q = if q = p then M 34 q + 1 else M 34 q) (e35 : M' 35 = M 35) (e36 : M' 36 = M 36) (e37 : M' 37 = M 37) (e38 : M' 38 = M 38) : cZ w (zWt w z p) s M' := by
  obtain ⟨h1, h2, h3, h4, h5⟩ := hR
  refine ⟨e9.trans h1, ?_, ?_, fun q hq1 hq2 => ?_, fun x hx1 hx2 => by rw [e38]; exact h5 x hx1 hx2⟩
  · rw [e10, h2]; simp [zWt, xup_app]
  · rw [e11, h3]; simp [zWt, xup_app]
  · have h6 := h4 q hq1 hq2
    rw [e8 q hq1 hq2, e33, e34, e35, e36, e37]
    simp only [zWt, xup_app]
    by_cases hq : q = p
    · subst hq
      by_cases h7 : w 2 q = 3 <;> simp [h6, h7]
    · simp [hq, h6]
theorem q_wait (hw : zW w) (hv : zV w z b) (hb : b ≤ 1000) (hp : 0 ≤ p ∧ p < w 0 2) (hs : 0 ≤ s ∧ s ≤ 60) (hR : cR w z s M) (hQ : ∀ M', cR w (zWt w z p) s M' → cF M M' → Q none M') {v2 : xV} : Wp 28 34 [xr 30, xi p, v2] [] M Q := by
  obtain ⟨⟨l1, l2, l3, l4, l5, l6⟩, ⟨s1, s2⟩, z1, z2, z3, z4, z5⟩ := id hR
  have hv0 := hv.1 p hp.1 hp.2
  have hz0 := z4 p hp.1 hp.2
  have hk := l6 p hp.1 hp.2
  have hw3 := hw.2.2.1
  have hw5 := hw.2.2.2.2.1 p hp.1 hp.2
  have hv6 := hv.2
  simp (disch := first | assumption | decide +kernel | exact hM _ _ | exact hL _ | exact xG_b | exact xG_bt _ _ | omega) only [w28_34, w28_35, w28_38, w28_39, w28_40, w28_41, w28_42, w28_43, w28_44, w28_45, w28_46, w28_49, w28_50, w28_51, w28_54, w28_55, w28_58, w28_61, w28_62, w28_63, w28_64, w28_67, w28_68, w28_69, w28_72, w28_73, w28_74, w28_75, w28_76, w28_79, true_implies, false_implies, not_true_eq_false, not_false_eq_true, and_true, true_and, Int.reduceEq, Int.reduceLE, Int.reduceLT, Int.reduceNeg, xb_eq0, xb_eq1, xup_ne, xup_self, xup_k, xjl_i, xjl_r, xjl_j, xjl_l, Option.toList_some, Option.toList_none, List.cons_append, List.nil_append, xr_0_0, xr_0_1, xr_0_2, xr_0_3, xr_0_4, xr_0_5, xr_0_6, xr_0_7, xr_1_0, xr_1_1, xr_4_5, xr_4_6, xr_4_7, xr_4_8, xr_8_0, xr_10_5, xr_10_6, xr_10_7, xr_10_8, xr_14_0, xr_16_0, xr_16_1, xr_16_2, xr_20_0, xr_21_0, xr_21_1, xr_22_0, xr_24_0, xr_26_0, xr_26_1, xr_26_2, xr_30_0, xr_30_1, xr_30_2, xr_30_3, xr_30_4, xr_30_5, xr_30_6, xr_30_7, xr_31_0, xr_39_0, xr_39_1, xr_39_2, xr_42_0, xr_42_2, xr_42_3, xr_42_4, xr_42_5, xr_42_6, xr_42_8, xr_42_10, xr_42_13, xr_42_14, xr_42_15, xr_42_16, xr_42_23, xr_42_24, xr_42_25]
  have hx : ∀ M' : xM, cF M M' → cZ w (zWt w z p) s M' → Q none M' := fun M' f1 f2 => hQ M' ⟨cL_F hR.1 f1, cS_F hR.2.1 f1, f2⟩ f1
  rw [hk]
  by_cases h3 : w 2 p = 3
  · rw [xbr_t' h3]
    refine hx _ (by repeat (first | exact cF_rf | refine cF_up ?_ (by omega))) (cZ_wt hp hR.2.2 ?_ ?_ ?_ ?_ ?_ ?_ ?_ ?_ ?_ ?_)
    · simp [xup_app]
    · simp [xup_app]
    · simp [xup_app]
    · intro q hq1 hq2
      simp only [xup_app]
      simp [xbt_flip (b := M 30 8) (p := p) (q := q) (by omega) (by omega), h3]
    · simp (disch := first | assumption | decide +kernel | exact hM _ _ | exact hL _ | exact xG_b | exact xG_bt _ _ | omega) only [xup_ne]
    · intro q; simp only [xup_app]; by_cases hq : q = p <;> simp [hq]
    · simp (disch := first | assumption | decide +kernel | exact hM _ _ | exact hL _ | exact xG_b | exact xG_bt _ _ | omega) only [xup_ne]
    · simp (disch := first | assumption | decide +kernel | exact hM _ _ | exact hL _ | exact xG_b | exact xG_bt _ _ | omega) only [xup_ne]
    · simp (disch := first | assumption | decide +kernel | exact hM _ _ | exact hL _ | exact xG_b | exact xG_bt _ _ | omega) only [xup_ne]
    · simp (disch := first | assumption | decide +kernel | exact hM _ _ | exact hL _ | exact xG_b | exact xG_bt _ _ | omega) only [xup_ne]
  · rw [xbr_f' h3]
    refine hx _ (by repeat (first | exact cF_rf | refine cF_up ?_ (by omega))) (cZ_wt hp hR.2.2 ?_ ?_ ?_ ?_ ?_ ?_ ?_ ?_ ?_ ?_)
    · simp [xup_app]
    · simp [xup_app]
    · simp [xup_app]
    · intro q hq1 hq2
      simp [xup_app, h3]
    · simp (disch := first | assumption | decide +kernel | exact hM _ _ | exact hL _ | exact xG_b | exact xG_bt _ _ | omega) only [xup_ne]
    · intro q; simp only [xup_app]; by_cases hq : q = p <;> simp [hq]
    · simp (disch := first | assumption | decide +kernel | exact hM _ _ | exact hL _ | exact xG_b | exact xG_bt _ _ | omega) only [xup_ne]
    · simp (disch := first | assumption | decide +kernel | exact hM _ _ | exact hL _ | exact xG_b | exact xG_bt _ _ | omega) only [xup_ne]
    · simp (disch := first | assumption | decide +kernel | exact hM _ _ | exact hL _ | exact xG_b | exact xG_bt _ _ | omega) only [xup_ne]
    · simp (disch := first | assumption | decide +kernel | exact hM _ _ | exact hL _ | exact xG_b | exact xG_bt _ _ | omega) only [xup_ne]
theorem q_move (hw : zW w) (hv : zV w z b) (hb : b ≤ 900) (hp : 0 ≤ p ∧ p < w 0 2) (hs : 0 ≤ s ∧ s ≤ 60) (hR : cR w z s M) (hQ : ∀ M', cR w (zMv w z s p) s M' → cF M M' → Q none M') : Wc 28 [xr 30, xi p] M Q := by
  have hw3 := hw.2.2.1
  have hw5 := hw.2.2.2.2.1 p hp.1 hp.2
  simp (disch := first | assumption | decide +kernel | exact hM _ _ | exact hL _ | exact xG_b | exact xG_bt _ _ | omega) only [w28_0, w28_1, w28_2, wc28, true_implies, false_implies, not_true_eq_false, not_false_eq_true, and_true, true_and, Int.reduceEq, Int.reduceLE, Int.reduceLT, Int.reduceNeg, xb_eq0, xb_eq1, xup_ne, xup_self, xup_k, xjl_i, xjl_r, xjl_j, xjl_l, Option.toList_some, Option.toList_none, List.cons_append, List.nil_append, xr_0_0, xr_0_1, xr_0_2, xr_0_3, xr_0_4, xr_0_5, xr_0_6, xr_0_7, xr_1_0, xr_1_1, xr_4_5, xr_4_6, xr_4_7, xr_4_8, xr_8_0, xr_10_5, xr_10_6, xr_10_7, xr_10_8, xr_14_0, xr_16_0, xr_16_1, xr_16_2, xr_20_0, xr_21_0, xr_21_1, xr_22_0, xr_24_0, xr_26_0, xr_26_1, xr_26_2, xr_30_0, xr_30_1, xr_30_2, xr_30_3, xr_30_4, xr_30_5, xr_30_6, xr_30_7, xr_31_0, xr_39_0, xr_39_1, xr_39_2, xr_42_0, xr_42_2, xr_42_3, xr_42_4, xr_42_5, xr_42_6, xr_42_8, xr_42_10, xr_42_13, xr_42_14, xr_42_15, xr_42_16, xr_42_23, xr_42_24, xr_42_25]
  refine q_goesIn hw hv (by omega) hp hs hR (fun M1 hR1 hF1 => ?_)
  unfold zMv at hQ
  unfold zGo at hR1
  have hk : M1 6 p = w 2 p := hR1.1.2.2.2.2.2 p hp.1 hp.2
  cases hB : zBl w z p with
  | true =>
    simp only [hB, if_true] at hR1 hQ
    rw [if_pos rfl]
    simp (disch := first | assumption | decide +kernel | exact hM _ _ | exact hL _ | exact xG_b | exact xG_bt _ _ | omega) only [w28_5, w28_6, w28_7, w28_29, w28_30, w28_33, true_implies, false_implies, not_true_eq_false, not_false_eq_true, and_true, true_and, Int.reduceEq, Int.reduceLE, Int.reduceLT, Int.reduceNeg, xb_eq0, xb_eq1, xup_ne, xup_self, xup_k, xjl_i, xjl_r, xjl_j, xjl_l, Option.toList_some, Option.toList_none, List.cons_append, List.nil_append, xr_0_0, xr_0_1, xr_0_2, xr_0_3, xr_0_4, xr_0_5, xr_0_6, xr_0_7, xr_1_0, xr_1_1, xr_4_5, xr_4_6, xr_4_7, xr_4_8, xr_8_0, xr_10_5, xr_10_6, xr_10_7, xr_10_8, xr_14_0, xr_16_0, xr_16_1, xr_16_2, xr_20_0, xr_21_0, xr_21_1, xr_22_0, xr_24_0, xr_26_0, xr_26_1, xr_26_2, xr_30_0, xr_30_1, xr_30_2, xr_30_3, xr_30_4, xr_30_5, xr_30_6, xr_30_7, xr_31_0, xr_39_0, xr_39_1, xr_39_2, xr_42_0, xr_42_2, xr_42_3, xr_42_4, xr_42_5, xr_42_6, xr_42_8, xr_42_10, xr_42_13, xr_42_14, xr_42_15, xr_42_16, xr_42_23, xr_42_24, xr_42_25]
    exact q_wait hw (zNo_V hw hv hp) (by omega) hp hs hR1 (fun M2 hR2 hF2 => hQ M2 hR2 (cF_tr hF1 hF2))
  | false =>
    simp only [hB, Bool.false_eq_true, if_false] at hR1 hQ
    rw [if_neg (by decide)]
    simp (disch := first | assumption | decide +kernel | exact hM _ _ | exact hL _ | exact xG_b | exact xG_bt _ _ | omega) only [w28_5, w28_6, w28_7, w28_10, w28_11, w28_14, w28_17, w28_18, w28_19, w28_20, w28_23, w28_24, w28_25, true_implies, false_implies, not_true_eq_false, not_false_eq_true, and_true, true_and, Int.reduceEq, Int.reduceLE, Int.reduceLT, Int.reduceNeg, xb_eq0, xb_eq1, xup_ne, xup_self, xup_k, xjl_i, xjl_r, xjl_j, xjl_l, Option.toList_some, Option.toList_none, List.cons_append, List.nil_append, xr_0_0, xr_0_1, xr_0_2, xr_0_3, xr_0_4, xr_0_5, xr_0_6, xr_0_7, xr_1_0, xr_1_1, xr_4_5, xr_4_6, xr_4_7, xr_4_8, xr_8_0, xr_10_5, xr_10_6, xr_10_7, xr_10_8, xr_14_0, xr_16_0, xr_16_1, xr_16_2, xr_20_0, xr_21_0, xr_21_1, xr_22_0, xr_24_0, xr_26_0, xr_26_1, xr_26_2, xr_30_0, xr_30_1, xr_30_2, xr_30_3, xr_30_4, xr_30_5, xr_30_6, xr_30_7, xr_31_0, xr_39_0, xr_39_1, xr_39_2, xr_42_0, xr_42_2, xr_42_3, xr_42_4, xr_42_5, xr_42_6, xr_42_8, xr_42_10, xr_42_13, xr_42_14, xr_42_15, xr_42_16, xr_42_23, xr_42_24, xr_42_25]
    rw [hk]
    by_cases h4 : w 2 p = 4
    · rw [xbr_t' h4]
      rw [if_pos h4] at hQ
      have hv1 := zIn_V (s := s) hw hv hp hs
      refine q_goesIn hw hv1 (by omega) hp hs hR1 (fun M2 hR2 hF2 => ?_)
      unfold zGo at hR2
      cases hB2 : zBl w (zIn w z s p) p with
      | true =>
        simp only [hB2, if_true] at hR2 hQ
        rw [if_pos rfl]
        simp (disch := first | assumption | decide +kernel | exact hM _ _ | exact hL _ | exact xG_b | exact xG_bt _ _ | omega) only [w28_28, w28_29, w28_30, w28_33, true_implies, false_implies, not_true_eq_false, not_false_eq_true, and_true, true_and, Int.reduceEq, Int.reduceLE, Int.reduceLT, Int.reduceNeg, xb_eq0, xb_eq1, xup_ne, xup_self, xup_k, xjl_i, xjl_r, xjl_j, xjl_l, Option.toList_some, Option.toList_none, List.cons_append, List.nil_append, xr_0_0, xr_0_1, xr_0_2, xr_0_3, xr_0_4, xr_0_5, xr_0_6, xr_0_7, xr_1_0, xr_1_1, xr_4_5, xr_4_6, xr_4_7, xr_4_8, xr_8_0, xr_10_5, xr_10_6, xr_10_7, xr_10_8, xr_14_0, xr_16_0, xr_16_1, xr_16_2, xr_20_0, xr_21_0, xr_21_1, xr_22_0, xr_24_0, xr_26_0, xr_26_1, xr_26_2, xr_30_0, xr_30_1, xr_30_2, xr_30_3, xr_30_4, xr_30_5, xr_30_6, xr_30_7, xr_31_0, xr_39_0, xr_39_1, xr_39_2, xr_42_0, xr_42_2, xr_42_3, xr_42_4, xr_42_5, xr_42_6, xr_42_8, xr_42_10, xr_42_13, xr_42_14, xr_42_15, xr_42_16, xr_42_23, xr_42_24, xr_42_25]
        exact q_wait hw (zNo_V hw hv1 hp) (by omega) hp hs hR2 (fun M3 hR3 hF3 => hQ M3 hR3 (cF_tr hF1 (cF_tr hF2 hF3)))
      | false =>
        simp only [hB2, Bool.false_eq_true, if_false] at hR2 hQ
        rw [if_neg (by decide)]
        simp (disch := first | assumption | decide +kernel | exact hM _ _ | exact hL _ | exact xG_b | exact xG_bt _ _ | omega) only [w28_28, w28_29, w28_30, w28_33, true_implies, false_implies, not_true_eq_false, not_false_eq_true, and_true, true_and, Int.reduceEq, Int.reduceLE, Int.reduceLT, Int.reduceNeg, xb_eq0, xb_eq1, xup_ne, xup_self, xup_k, xjl_i, xjl_r, xjl_j, xjl_l, Option.toList_some, Option.toList_none, List.cons_append, List.nil_append, xr_0_0, xr_0_1, xr_0_2, xr_0_3, xr_0_4, xr_0_5, xr_0_6, xr_0_7, xr_1_0, xr_1_1, xr_4_5, xr_4_6, xr_4_7, xr_4_8, xr_8_0, xr_10_5, xr_10_6, xr_10_7, xr_10_8, xr_14_0, xr_16_0, xr_16_1, xr_16_2, xr_20_0, xr_21_0, xr_21_1, xr_22_0, xr_24_0, xr_26_0, xr_26_1, xr_26_2, xr_30_0, xr_30_1, xr_30_2, xr_30_3, xr_30_4, xr_30_5, xr_30_6, xr_30_7, xr_31_0, xr_39_0, xr_39_1, xr_39_2, xr_42_0, xr_42_2, xr_42_3, xr_42_4, xr_42_5, xr_42_6, xr_42_8, xr_42_10, xr_42_13, xr_42_14, xr_42_15, xr_42_16, xr_42_23, xr_42_24, xr_42_25]
        exact hQ M2 hR2 (cF_tr hF1 hF2)
    · rw [xbr_f' h4]
      rw [if_neg h4] at hQ
      simp (disch := first | assumption | decide +kernel | exact hM _ _ | exact hL _ | exact xG_b | exact xG_bt _ _ | omega) only [w28_29, w28_30, w28_33, true_implies, false_implies, not_true_eq_false, not_false_eq_true, and_true, true_and, Int.reduceEq, Int.reduceLE, Int.reduceLT, Int.reduceNeg, xb_eq0, xb_eq1, xup_ne, xup_self, xup_k, xjl_i, xjl_r, xjl_j, xjl_l, Option.toList_some, Option.toList_none, List.cons_append, List.nil_append, xr_0_0, xr_0_1, xr_0_2, xr_0_3, xr_0_4, xr_0_5, xr_0_6, xr_0_7, xr_1_0, xr_1_1, xr_4_5, xr_4_6, xr_4_7, xr_4_8, xr_8_0, xr_10_5, xr_10_6, xr_10_7, xr_10_8, xr_14_0, xr_16_0, xr_16_1, xr_16_2, xr_20_0, xr_21_0, xr_21_1, xr_22_0, xr_24_0, xr_26_0, xr_26_1, xr_26_2, xr_30_0, xr_30_1, xr_30_2, xr_30_3, xr_30_4, xr_30_5, xr_30_6, xr_30_7, xr_31_0, xr_39_0, xr_39_1, xr_39_2, xr_42_0, xr_42_2, xr_42_3, xr_42_4, xr_42_5, xr_42_6, xr_42_8, xr_42_10, xr_42_13, xr_42_14, xr_42_15, xr_42_16, xr_42_23, xr_42_24, xr_42_25]
      exact hQ M1 hR1 hF1
theorem xand1 {s : Int} (hs : 0 ≤ s ∧ s ≤ 60) : xand s 1 = s % 2 := by
  have key : ∀ n : Nat, n < 61 → xand n 1 = n % 2 := by decide +kernel
  obtain ⟨n, rfl⟩ : ∃ n : Nat, s = n := ⟨s.toNat, by omega⟩
  exact key n (by omega)
theorem q_wantsOn (hw : zW w) (hv : zV w z b) (hp : 0 ≤ p ∧ p < w 0 2) (hs : 0 ≤ s ∧ s ≤ 60) (hR : cR w z s M) (hh : xbt (M 31 1) p = h s p) : Wc 27 [xr 30, xi p] M Q = Q (some (xi (if zWa w h z s p then 1 else 0))) M := by
  obtain ⟨⟨l1, l2, l3, l4, l5, l6⟩, ⟨s1, s2⟩, z1, z2, z3, z4, z5⟩ := id hR
  have hv0 := hv.1 p hp.1 hp.2
  have hz0 := z4 p hp.1 hp.2
  have hk := l6 p hp.1 hp.2
  have hst := s2 p hp.1 hp.2
  have hw3 := hw.2.2.1
  have hw5 := hw.2.2.2.2.1 p hp.1 hp.2
  simp (disch := first | assumption | decide +kernel | exact hM _ _ | exact hL _ | exact xG_b | exact xG_bt _ _ | omega) only [w27_0, w27_1, w27_4, w27_7, w27_8, w27_11, w27_12, w27_15, w27_16, w27_19, w27_20, w27_23, w27_26, w27_27, w27_28, w27_31, w27_32, w27_33, w27_34, w27_37, w27_40, w27_41, w27_42, wc27, true_implies, false_implies, not_true_eq_false, not_false_eq_true, and_true, true_and, Int.reduceEq, Int.reduceLE, Int.reduceLT, Int.reduceNeg, xb_eq0, xb_eq1, xup_ne, xup_self, xup_k, xjl_i, xjl_r, xjl_j, xjl_l, Option.toList_some, Option.toList_none, List.cons_append, List.nil_append, xr_0_0, xr_0_1, xr_0_2, xr_0_3, xr_0_4, xr_0_5, xr_0_6, xr_0_7, xr_1_0, xr_1_1, xr_4_5, xr_4_6, xr_4_7, xr_4_8, xr_8_0, xr_10_5, xr_10_6, xr_10_7, xr_10_8, xr_14_0, xr_16_0, xr_16_1, xr_16_2, xr_20_0, xr_21_0, xr_21_1, xr_22_0, xr_24_0, xr_26_0, xr_26_1, xr_26_2, xr_30_0, xr_30_1, xr_30_2, xr_30_3, xr_30_4, xr_30_5, xr_30_6, xr_30_7, xr_31_0, xr_39_0, xr_39_1, xr_39_2, xr_42_0, xr_42_2, xr_42_3, xr_42_4, xr_42_5, xr_42_6, xr_42_8, xr_42_10, xr_42_13, xr_42_14, xr_42_15, xr_42_16, xr_42_23, xr_42_24, xr_42_25, q_bit]
  rw [hh, z1, hst, hk]
  by_cases h1 : h s p = 1
  · rw [xbr_t h1]
    simp [zWa, h1]
  · rw [xbr_f h1]
    by_cases h2 : w 3 p ≤ s
    · rw [xbr_t h2]
      by_cases h3 : w 2 p = 1
      · simp (disch := first | assumption | decide +kernel | exact hM _ _ | exact hL _ | exact xG_b | exact xG_bt _ _ | omega) only [h3, xlk, if_true, w27_68, w27_69, w27_72, w27_73, w27_74, w27_77, w27_78, w27_81, w27_82, true_implies, false_implies, not_true_eq_false, not_false_eq_true, and_true, true_and, Int.reduceEq, Int.reduceLE, Int.reduceLT, Int.reduceNeg, xb_eq0, xb_eq1, xup_ne, xup_self, xup_k, xjl_i, xjl_r, xjl_j, xjl_l, Option.toList_some, Option.toList_none, List.cons_append, List.nil_append, xr_0_0, xr_0_1, xr_0_2, xr_0_3, xr_0_4, xr_0_5, xr_0_6, xr_0_7, xr_1_0, xr_1_1, xr_4_5, xr_4_6, xr_4_7, xr_4_8, xr_8_0, xr_10_5, xr_10_6, xr_10_7, xr_10_8, xr_14_0, xr_16_0, xr_16_1, xr_16_2, xr_20_0, xr_21_0, xr_21_1, xr_22_0, xr_24_0, xr_26_0, xr_26_1, xr_26_2, xr_30_0, xr_30_1, xr_30_2, xr_30_3, xr_30_4, xr_30_5, xr_30_6, xr_30_7, xr_31_0, xr_39_0, xr_39_1, xr_39_2, xr_42_0, xr_42_2, xr_42_3, xr_42_4, xr_42_5, xr_42_6, xr_42_8, xr_42_10, xr_42_13, xr_42_14, xr_42_15, xr_42_16, xr_42_23, xr_42_24, xr_42_25, z1, xand1]
        by_cases h4 : s % 2 = 0
        · rw [xbr_t' h4]; simp [zWa, h1, h2, h3, h4]
        · rw [xbr_f' h4]; simp [zWa, h3, h4]
      · by_cases h5 : w 2 p = 2
        · rw [h5]
          show Wp 27 83 [xr 30, xi p] [] M Q = _
          simp (disch := first | assumption | decide +kernel | exact hM _ _ | exact hL _ | exact xG_b | exact xG_bt _ _ | omega) only [w27_83, w27_84, w27_87, w27_88, w27_89, w27_90, w27_93, w27_94, w27_95, w27_98, w27_99, w27_102, w27_103, true_implies, false_implies, not_true_eq_false, not_false_eq_true, and_true, true_and, Int.reduceEq, Int.reduceLE, Int.reduceLT, Int.reduceNeg, xb_eq0, xb_eq1, xup_ne, xup_self, xup_k, xjl_i, xjl_r, xjl_j, xjl_l, Option.toList_some, Option.toList_none, List.cons_append, List.nil_append, xr_0_0, xr_0_1, xr_0_2, xr_0_3, xr_0_4, xr_0_5, xr_0_6, xr_0_7, xr_1_0, xr_1_1, xr_4_5, xr_4_6, xr_4_7, xr_4_8, xr_8_0, xr_10_5, xr_10_6, xr_10_7, xr_10_8, xr_14_0, xr_16_0, xr_16_1, xr_16_2, xr_20_0, xr_21_0, xr_21_1, xr_22_0, xr_24_0, xr_26_0, xr_26_1, xr_26_2, xr_30_0, xr_30_1, xr_30_2, xr_30_3, xr_30_4, xr_30_5, xr_30_6, xr_30_7, xr_31_0, xr_39_0, xr_39_1, xr_39_2, xr_42_0, xr_42_2, xr_42_3, xr_42_4, xr_42_5, xr_42_6, xr_42_8, xr_42_10, xr_42_13, xr_42_14, xr_42_15, xr_42_16, xr_42_23, xr_42_24, xr_42_25, z1, hz0.2.2.2.1]
          by_cases h6 : z 3 p = s - 1
          · rw [xbr_t h6]; simp [zWa, h5, h6]
          · rw [xbr_f h6]; simp [zWa, h1, h2, h5, h6]
        · simp only [xlk, if_neg h3, if_neg h5]
          simp (disch := first | assumption | decide +kernel | exact hM _ _ | exact hL _ | exact xG_b | exact xG_bt _ _ | omega) only [w27_104, w27_105, true_implies, false_implies, not_true_eq_false, not_false_eq_true, and_true, true_and, Int.reduceEq, Int.reduceLE, Int.reduceLT, Int.reduceNeg, xb_eq0, xb_eq1, xup_ne, xup_self, xup_k, xjl_i, xjl_r, xjl_j, xjl_l, Option.toList_some, Option.toList_none, List.cons_append, List.nil_append, xr_0_0, xr_0_1, xr_0_2, xr_0_3, xr_0_4, xr_0_5, xr_0_6, xr_0_7, xr_1_0, xr_1_1, xr_4_5, xr_4_6, xr_4_7, xr_4_8, xr_8_0, xr_10_5, xr_10_6, xr_10_7, xr_10_8, xr_14_0, xr_16_0, xr_16_1, xr_16_2, xr_20_0, xr_21_0, xr_21_1, xr_22_0, xr_24_0, xr_26_0, xr_26_1, xr_26_2, xr_30_0, xr_30_1, xr_30_2, xr_30_3, xr_30_4, xr_30_5, xr_30_6, xr_30_7, xr_31_0, xr_39_0, xr_39_1, xr_39_2, xr_42_0, xr_42_2, xr_42_3, xr_42_4, xr_42_5, xr_42_6, xr_42_8, xr_42_10, xr_42_13, xr_42_14, xr_42_15, xr_42_16, xr_42_23, xr_42_24, xr_42_25]
          simp [zWa, h1, h2, h3, h5]
    · rw [xbr_f h2]
      simp [zWa, h2]
theorem cR_step (hR : cR w z s M) : cR w z (s + 1) (xup M 30 9 (M 30 9 + 1)) := by
  obtain ⟨hl, hs, z1, z2, z3, z4, z5⟩ := hR
  refine ⟨cL_F hl (cF_up cF_rf (Or.inl rfl)), cS_F hs (cF_up cF_rf (Or.inl rfl)), ?_, ?_, ?_, fun p h1 h2 => ?_, fun x h1 h2 => ?_⟩
  · simp [xup_app, z1]
  · simp [xup_app, z2]
  · simp [xup_app, z3]
  · simpa [xup_app] using z4 p h1 h2
  · simpa [xup_app] using z5 x h1 h2
theorem lp_goOn1 (hw : zW w) (hv : zV w z b) (hb : b ≤ 800) (hs : 0 ≤ s ∧ s ≤ 60) (hh : ∀ p, 0 ≤ p → p < w 0 2 → xbt (M 31 1) p = h s p) (hQ : ∀ M', cR w (zPl w h s z (w 0 2).toNat) s M' → cF M M' → Wp 26 42 [xr 30, xi (w 0 2)] [] M' Q) : ∀ (k n : Nat) (M1 : xM), (n : Int) + k = w 0 2 → cR w (zPl w h s z n) s M1 → cF M M1 → Wp 26 12 [xr 30, xi n] [] M1 Q := by
  have hw3 := hw.2.2.1
  intro k
  induction k with
  | zero =>
    intro n M1 hn hR1 hF1
    have l3 : M1 4 2 = w 0 2 := hR1.1.2.2.1
    rw [w26_12]
    simp (disch := first | assumption | decide +kernel | exact hM _ _ | exact hL _ | exact xG_b | exact xG_bt _ _ | omega) only [w26_13, w26_14, w26_17, w26_20, true_implies, false_implies, not_true_eq_false, not_false_eq_true, and_true, true_and, Int.reduceEq, Int.reduceLE, Int.reduceLT, Int.reduceNeg, xb_eq0, xb_eq1, xup_ne, xup_self, xup_k, xjl_i, xjl_r, xjl_j, xjl_l, Option.toList_some, Option.toList_none, List.cons_append, List.nil_append, xr_0_0, xr_0_1, xr_0_2, xr_0_3, xr_0_4, xr_0_5, xr_0_6, xr_0_7, xr_1_0, xr_1_1, xr_4_5, xr_4_6, xr_4_7, xr_4_8, xr_8_0, xr_10_5, xr_10_6, xr_10_7, xr_10_8, xr_14_0, xr_16_0, xr_16_1, xr_16_2, xr_20_0, xr_21_0, xr_21_1, xr_22_0, xr_24_0, xr_26_0, xr_26_1, xr_26_2, xr_30_0, xr_30_1, xr_30_2, xr_30_3, xr_30_4, xr_30_5, xr_30_6, xr_30_7, xr_31_0, xr_39_0, xr_39_1, xr_39_2, xr_42_0, xr_42_2, xr_42_3, xr_42_4, xr_42_5, xr_42_6, xr_42_8, xr_42_10, xr_42_13, xr_42_14, xr_42_15, xr_42_16, xr_42_23, xr_42_24, xr_42_25]
    rw [xbr_t (by omega)]
    have e : (n : Int) = w 0 2 := by omega
    have e2 : n = (w 0 2).toNat := by omega
    rw [e]
    rw [e2] at hR1
    exact hQ M1 hR1 hF1
  | succ k ih =>
    intro n M1 hn hR1 hF1
    have l3 : M1 4 2 = w 0 2 := hR1.1.2.2.1
    have hv1 := zPl_V (h := h) hw hv hs n (by omega)
    have hnext : Wp 26 36 [xr 30, xi n] [] = Wp 26 36 [xr 30, xi n] [] := rfl
    rw [w26_12]
    simp (disch := first | assumption | decide +kernel | exact hM _ _ | exact hL _ | exact xG_b | exact xG_bt _ _ | omega) only [w26_13, w26_14, w26_17, w26_20, w26_23, w26_24, w26_25, true_implies, false_implies, not_true_eq_false, not_false_eq_true, and_true, true_and, Int.reduceEq, Int.reduceLE, Int.reduceLT, Int.reduceNeg, xb_eq0, xb_eq1, xup_ne, xup_self, xup_k, xjl_i, xjl_r, xjl_j, xjl_l, Option.toList_some, Option.toList_none, List.cons_append, List.nil_append, xr_0_0, xr_0_1, xr_0_2, xr_0_3, xr_0_4, xr_0_5, xr_0_6, xr_0_7, xr_1_0, xr_1_1, xr_4_5, xr_4_6, xr_4_7, xr_4_8, xr_8_0, xr_10_5, xr_10_6, xr_10_7, xr_10_8, xr_14_0, xr_16_0, xr_16_1, xr_16_2, xr_20_0, xr_21_0, xr_21_1, xr_22_0, xr_24_0, xr_26_0, xr_26_1, xr_26_2, xr_30_0, xr_30_1, xr_30_2, xr_30_3, xr_30_4, xr_30_5, xr_30_6, xr_30_7, xr_31_0, xr_39_0, xr_39_1, xr_39_2, xr_42_0, xr_42_2, xr_42_3, xr_42_4, xr_42_5, xr_42_6, xr_42_8, xr_42_10, xr_42_13, xr_42_14, xr_42_15, xr_42_16, xr_42_23, xr_42_24, xr_42_25]
    rw [xbr_f (by omega)]
    rw [q_wantsOn (h := h) hw hv1 (by omega) hs hR1 (by rw [hF1 31 (by omega) (by omega)]; exact hh n (by omega) (by omega))]
    cases hwa : zWa w h (zPl w h s z n) s n with
    | true =>
      rw [if_pos rfl]
      simp (disch := first | assumption | decide +kernel | exact hM _ _ | exact hL _ | exact xG_b | exact xG_bt _ _ | omega) only [w26_28, w26_31, w26_32, w26_33, true_implies, false_implies, not_true_eq_false, not_false_eq_true, and_true, true_and, Int.reduceEq, Int.reduceLE, Int.reduceLT, Int.reduceNeg, xb_eq0, xb_eq1, xup_ne, xup_self, xup_k, xjl_i, xjl_r, xjl_j, xjl_l, Option.toList_some, Option.toList_none, List.cons_append, List.nil_append, xr_0_0, xr_0_1, xr_0_2, xr_0_3, xr_0_4, xr_0_5, xr_0_6, xr_0_7, xr_1_0, xr_1_1, xr_4_5, xr_4_6, xr_4_7, xr_4_8, xr_8_0, xr_10_5, xr_10_6, xr_10_7, xr_10_8, xr_14_0, xr_16_0, xr_16_1, xr_16_2, xr_20_0, xr_21_0, xr_21_1, xr_22_0, xr_24_0, xr_26_0, xr_26_1, xr_26_2, xr_30_0, xr_30_1, xr_30_2, xr_30_3, xr_30_4, xr_30_5, xr_30_6, xr_30_7, xr_31_0, xr_39_0, xr_39_1, xr_39_2, xr_42_0, xr_42_2, xr_42_3, xr_42_4, xr_42_5, xr_42_6, xr_42_8, xr_42_10, xr_42_13, xr_42_14, xr_42_15, xr_42_16, xr_42_23, xr_42_24, xr_42_25]
      refine q_move hw hv1 (by omega) (by omega) hs hR1 (fun M2 hR2 hF2 => ?_)
      simp (disch := first | assumption | decide +kernel | exact hM _ _ | exact hL _ | exact xG_b | exact xG_bt _ _ | omega) only [w26_36, w26_39, true_implies, false_implies, not_true_eq_false, not_false_eq_true, and_true, true_and, Int.reduceEq, Int.reduceLE, Int.reduceLT, Int.reduceNeg, xb_eq0, xb_eq1, xup_ne, xup_self, xup_k, xjl_i, xjl_r, xjl_j, xjl_l, Option.toList_some, Option.toList_none, List.cons_append, List.nil_append, xr_0_0, xr_0_1, xr_0_2, xr_0_3, xr_0_4, xr_0_5, xr_0_6, xr_0_7, xr_1_0, xr_1_1, xr_4_5, xr_4_6, xr_4_7, xr_4_8, xr_8_0, xr_10_5, xr_10_6, xr_10_7, xr_10_8, xr_14_0, xr_16_0, xr_16_1, xr_16_2, xr_20_0, xr_21_0, xr_21_1, xr_22_0, xr_24_0, xr_26_0, xr_26_1, xr_26_2, xr_30_0, xr_30_1, xr_30_2, xr_30_3, xr_30_4, xr_30_5, xr_30_6, xr_30_7, xr_31_0, xr_39_0, xr_39_1, xr_39_2, xr_42_0, xr_42_2, xr_42_3, xr_42_4, xr_42_5, xr_42_6, xr_42_8, xr_42_10, xr_42_13, xr_42_14, xr_42_15, xr_42_16, xr_42_23, xr_42_24, xr_42_25]
      exact ih (n + 1) M2 (by omega) (by rw [zPl, zOne, hwa, if_pos rfl]; exact hR2) (cF_tr hF1 hF2)
    | false =>
      rw [if_neg (by decide)]
      simp (disch := first | assumption | decide +kernel | exact hM _ _ | exact hL _ | exact xG_b | exact xG_bt _ _ | omega) only [w26_28, w26_36, w26_39, true_implies, false_implies, not_true_eq_false, not_false_eq_true, and_true, true_and, Int.reduceEq, Int.reduceLE, Int.reduceLT, Int.reduceNeg, xb_eq0, xb_eq1, xup_ne, xup_self, xup_k, xjl_i, xjl_r, xjl_j, xjl_l, Option.toList_some, Option.toList_none, List.cons_append, List.nil_append, xr_0_0, xr_0_1, xr_0_2, xr_0_3, xr_0_4, xr_0_5, xr_0_6, xr_0_7, xr_1_0, xr_1_1, xr_4_5, xr_4_6, xr_4_7, xr_4_8, xr_8_0, xr_10_5, xr_10_6, xr_10_7, xr_10_8, xr_14_0, xr_16_0, xr_16_1, xr_16_2, xr_20_0, xr_21_0, xr_21_1, xr_22_0, xr_24_0, xr_26_0, xr_26_1, xr_26_2, xr_30_0, xr_30_1, xr_30_2, xr_30_3, xr_30_4, xr_30_5, xr_30_6, xr_30_7, xr_31_0, xr_39_0, xr_39_1, xr_39_2, xr_42_0, xr_42_2, xr_42_3, xr_42_4, xr_42_5, xr_42_6, xr_42_8, xr_42_10, xr_42_13, xr_42_14, xr_42_15, xr_42_16, xr_42_23, xr_42_24, xr_42_25]
      exact ih (n + 1) M1 (by omega) (by rw [zPl, zOne, hwa, if_neg (by decide)]; exact hR1) hF1
theorem zAll_we {n : Nat} {x : Int} : zAll w (zWe w z n) x = zAll w z x := xcn_c (fun k _ => by rw [zWe_at n 0 _ (by omega)])
theorem lp_goOn2 (hw : zW w) (hv : zV w z b) (hb : b ≤ 900) (hs : 0 ≤ s ∧ s ≤ 60) (hQ : ∀ M', cR w (zWe w z (w 0 2).toNat) s M' → cF M M' → Q none M') : ∀ (k n : Nat) (M1 : xM), (n : Int) + k = w 0 2 → cR w (zWe w z n) s M1 → cF M M1 → Wp 26 44 [xr 30, xi n] [] M1 Q := by
  have hw1 := hw.1
  have hw3 := hw.2.2.1
  intro k
  induction k with
  | zero =>
    intro n M1 hn hR1 hF1
    have l3 : M1 4 2 = w 0 2 := hR1.1.2.2.1
    rw [w26_44]
    simp (disch := first | assumption | decide +kernel | exact hM _ _ | exact hL _ | exact xG_b | exact xG_bt _ _ | omega) only [w26_45, w26_46, w26_49, w26_52, w26_106, true_implies, false_implies, not_true_eq_false, not_false_eq_true, and_true, true_and, Int.reduceEq, Int.reduceLE, Int.reduceLT, Int.reduceNeg, xb_eq0, xb_eq1, xup_ne, xup_self, xup_k, xjl_i, xjl_r, xjl_j, xjl_l, Option.toList_some, Option.toList_none, List.cons_append, List.nil_append, xr_0_0, xr_0_1, xr_0_2, xr_0_3, xr_0_4, xr_0_5, xr_0_6, xr_0_7, xr_1_0, xr_1_1, xr_4_5, xr_4_6, xr_4_7, xr_4_8, xr_8_0, xr_10_5, xr_10_6, xr_10_7, xr_10_8, xr_14_0, xr_16_0, xr_16_1, xr_16_2, xr_20_0, xr_21_0, xr_21_1, xr_22_0, xr_24_0, xr_26_0, xr_26_1, xr_26_2, xr_30_0, xr_30_1, xr_30_2, xr_30_3, xr_30_4, xr_30_5, xr_30_6, xr_30_7, xr_31_0, xr_39_0, xr_39_1, xr_39_2, xr_42_0, xr_42_2, xr_42_3, xr_42_4, xr_42_5, xr_42_6, xr_42_8, xr_42_10, xr_42_13, xr_42_14, xr_42_15, xr_42_16, xr_42_23, xr_42_24, xr_42_25]
    rw [xbr_t (by omega)]
    have e2 : n = (w 0 2).toNat := by omega
    rw [e2] at hR1
    exact hQ M1 hR1 hF1
  | succ k ih =>
    intro n M1 hn hR1 hF1
    obtain ⟨⟨l1, l2, l3, l4, l5, l6⟩, ⟨s1, s2⟩, z1, z2, z3, z4, z5⟩ := id hR1
    have hz0 := z4 n (by omega) (by omega)
    have hv0 := hv.1 n (by omega) (by omega)
    have e0 : M1 33 n = z 0 n := by rw [hz0.1, zWe_at n 0 _ (by omega)]
    have e5 : M1 35 n = z 5 n := by rw [hz0.2.2.2.2.2, zWe_5 n _ (by omega), if_neg (by omega)]
    have e38 : M1 38 (M1 33 n) = zAll w z (z 0 n) := by rw [e0, z5 _ hv0.1.1 (by omega), zAll_we]
    have hall := zAll_rng w z (z 0 n)
    have hr : 0 ≤ M1 33 n ∧ M1 33 n < 24 := by omega
    have hg : xG (M1 38 (M1 33 n)) := by rw [e38]; constructor <;> omega
    rw [w26_44]
    simp (disch := first | assumption | decide +kernel | exact hM _ _ | exact hL _ | exact xG_b | exact xG_bt _ _ | omega) only [w26_45, w26_46, w26_49, w26_52, w26_55, w26_56, w26_59, w26_62, w26_63, w26_66, w26_67, w26_68, w26_71, w26_72, w26_75, w26_76, w26_79, w26_80, w26_83, w26_84, w26_85, w26_86, w26_87, w26_90, w26_91, w26_94, w26_95, w26_96, w26_97, w26_98, w26_99, true_implies, false_implies, not_true_eq_false, not_false_eq_true, and_true, true_and, Int.reduceEq, Int.reduceLE, Int.reduceLT, Int.reduceNeg, xb_eq0, xb_eq1, xup_ne, xup_self, xup_k, xjl_i, xjl_r, xjl_j, xjl_l, Option.toList_some, Option.toList_none, List.cons_append, List.nil_append, xr_0_0, xr_0_1, xr_0_2, xr_0_3, xr_0_4, xr_0_5, xr_0_6, xr_0_7, xr_1_0, xr_1_1, xr_4_5, xr_4_6, xr_4_7, xr_4_8, xr_8_0, xr_10_5, xr_10_6, xr_10_7, xr_10_8, xr_14_0, xr_16_0, xr_16_1, xr_16_2, xr_20_0, xr_21_0, xr_21_1, xr_22_0, xr_24_0, xr_26_0, xr_26_1, xr_26_2, xr_30_0, xr_30_1, xr_30_2, xr_30_3, xr_30_4, xr_30_5, xr_30_6, xr_30_7, xr_31_0, xr_39_0, xr_39_1, xr_39_2, xr_42_0, xr_42_2, xr_42_3, xr_42_4, xr_42_5, xr_42_6, xr_42_8, xr_42_10, xr_42_13, xr_42_14, xr_42_15, xr_42_16, xr_42_23, xr_42_24, xr_42_25, q_bit]
    rw [xbr_f (by omega), l4, e38, e0]
    have hno : zWet w z n = false → Wp 26 100 [xr 30, xi n] [] M1 Q := by
      intro hz
      simp (disch := first | assumption | decide +kernel | exact hM _ _ | exact hL _ | exact xG_b | exact xG_bt _ _ | omega) only [w26_100, w26_103, true_implies, false_implies, not_true_eq_false, not_false_eq_true, and_true, true_and, Int.reduceEq, Int.reduceLE, Int.reduceLT, Int.reduceNeg, xb_eq0, xb_eq1, xup_ne, xup_self, xup_k, xjl_i, xjl_r, xjl_j, xjl_l, Option.toList_some, Option.toList_none, List.cons_append, List.nil_append, xr_0_0, xr_0_1, xr_0_2, xr_0_3, xr_0_4, xr_0_5, xr_0_6, xr_0_7, xr_1_0, xr_1_1, xr_4_5, xr_4_6, xr_4_7, xr_4_8, xr_8_0, xr_10_5, xr_10_6, xr_10_7, xr_10_8, xr_14_0, xr_16_0, xr_16_1, xr_16_2, xr_20_0, xr_21_0, xr_21_1, xr_22_0, xr_24_0, xr_26_0, xr_26_1, xr_26_2, xr_30_0, xr_30_1, xr_30_2, xr_30_3, xr_30_4, xr_30_5, xr_30_6, xr_30_7, xr_31_0, xr_39_0, xr_39_1, xr_39_2, xr_42_0, xr_42_2, xr_42_3, xr_42_4, xr_42_5, xr_42_6, xr_42_8, xr_42_10, xr_42_13, xr_42_14, xr_42_15, xr_42_16, xr_42_23, xr_42_24, xr_42_25]
      exact ih (n + 1) M1 (by omega) (by rw [zWe, hz, if_neg (by decide), xup_id (by rw [zWe_5 n _ (by omega), if_neg (by omega)])]; exact hR1) hF1
    by_cases h1 : xbt (w 0 4) (z 0 n) = 1
    · rw [xbr_t' h1]
      by_cases h2 : zAll w z (z 0 n) = 1
      · rw [xbr_t' h2]
        have hz : zWet w z n = true := by simp [zWet, h1, h2]
        simp (disch := first | assumption | decide +kernel | exact hM _ _ | exact hL _ | exact xG_b | exact xG_bt _ _ | omega) only [w26_100, w26_103, true_implies, false_implies, not_true_eq_false, not_false_eq_true, and_true, true_and, Int.reduceEq, Int.reduceLE, Int.reduceLT, Int.reduceNeg, xb_eq0, xb_eq1, xup_ne, xup_self, xup_k, xjl_i, xjl_r, xjl_j, xjl_l, Option.toList_some, Option.toList_none, List.cons_append, List.nil_append, xr_0_0, xr_0_1, xr_0_2, xr_0_3, xr_0_4, xr_0_5, xr_0_6, xr_0_7, xr_1_0, xr_1_1, xr_4_5, xr_4_6, xr_4_7, xr_4_8, xr_8_0, xr_10_5, xr_10_6, xr_10_7, xr_10_8, xr_14_0, xr_16_0, xr_16_1, xr_16_2, xr_20_0, xr_21_0, xr_21_1, xr_22_0, xr_24_0, xr_26_0, xr_26_1, xr_26_2, xr_30_0, xr_30_1, xr_30_2, xr_30_3, xr_30_4, xr_30_5, xr_30_6, xr_30_7, xr_31_0, xr_39_0, xr_39_1, xr_39_2, xr_42_0, xr_42_2, xr_42_3, xr_42_4, xr_42_5, xr_42_6, xr_42_8, xr_42_10, xr_42_13, xr_42_14, xr_42_15, xr_42_16, xr_42_23, xr_42_24, xr_42_25]
        refine ih (n + 1) _ (by omega) ?_ (cF_up hF1 (by omega))
        rw [zWe, hz, if_pos rfl]
        refine ⟨cL_F hR1.1 (cF_up cF_rf (by omega)), cS_F hR1.2.1 (cF_up cF_rf (by omega)), ?_, ?_, ?_, fun q hq1 hq2 => ?_, fun x hx1 hx2 => ?_⟩
        · simpa [xup_app] using z1
        · simpa [xup_app] using z2
        · simpa [xup_app] using z3
        · have := z4 q hq1 hq2
          simp only [xup_app]
          by_cases hq : q = n
          · subst hq
            simp [this, e5]
            rw [← this.2.2.2.2.2, e5]
          · simp [hq, this]
        · rw [show zAll w (xup (zWe w z n) 5 n (z 5 n + 1)) x = zAll w (zWe w z n) x from rfl]
          simpa [xup_app] using z5 x hx1 hx2
      · rw [xbr_f' h2]
        exact hno (by simp [zWet, h2])
    · rw [xbr_f' h1]
      exact hno (by simp [zWet, h1])
theorem q_goOn (hw : zW w) (hv : zV w z b) (hb : b ≤ 800) (hs : 0 ≤ s ∧ s < 60) (hR : cR w z s M) (hh : ∀ p, 0 ≤ p → p < w 0 2 → xbt (M 31 1) p = h (s + 1) p) (hQ : ∀ M', cR w (zSt w h (s + 1) z) (s + 1) M' → cF M M' → Q none M') : Wc 26 [xr 30] M Q := by
  have hw3 := hw.2.2.1
  simp (disch := first | assumption | decide +kernel | exact hM _ _ | exact hL _ | exact xG_b | exact xG_bt _ _ | omega) only [w26_0, w26_1, w26_2, w26_5, w26_6, w26_7, w26_10, w26_11, wc26, true_implies, false_implies, not_true_eq_false, not_false_eq_true, and_true, true_and, Int.reduceEq, Int.reduceLE, Int.reduceLT, Int.reduceNeg, xb_eq0, xb_eq1, xup_ne, xup_self, xup_k, xjl_i, xjl_r, xjl_j, xjl_l, Option.toList_some, Option.toList_none, List.cons_append, List.nil_append, xr_0_0, xr_0_1, xr_0_2, xr_0_3, xr_0_4, xr_0_5, xr_0_6, xr_0_7, xr_1_0, xr_1_1, xr_4_5, xr_4_6, xr_4_7, xr_4_8, xr_8_0, xr_10_5, xr_10_6, xr_10_7, xr_10_8, xr_14_0, xr_16_0, xr_16_1, xr_16_2, xr_20_0, xr_21_0, xr_21_1, xr_22_0, xr_24_0, xr_26_0, xr_26_1, xr_26_2, xr_30_0, xr_30_1, xr_30_2, xr_30_3, xr_30_4, xr_30_5, xr_30_6, xr_30_7, xr_31_0, xr_39_0, xr_39_1, xr_39_2, xr_42_0, xr_42_2, xr_42_3, xr_42_4, xr_42_5, xr_42_6, xr_42_8, xr_42_10, xr_42_13, xr_42_14, xr_42_15, xr_42_16, xr_42_23, xr_42_24, xr_42_25]
  have hf0 : cF M (xup M 30 9 (M 30 9 + 1)) := cF_up cF_rf (Or.inl rfl)
  refine lp_goOn1 (M := M) (h := h) hw hv hb (s := s + 1) (by omega) hh (fun M1 hR1 hF1 => ?_) (w 0 2).toNat 0 _ (by omega) (cR_step hR) hf0
  simp (disch := first | assumption | decide +kernel | exact hM _ _ | exact hL _ | exact xG_b | exact xG_bt _ _ | omega) only [w26_42, w26_43, true_implies, false_implies, not_true_eq_false, not_false_eq_true, and_true, true_and, Int.reduceEq, Int.reduceLE, Int.reduceLT, Int.reduceNeg, xb_eq0, xb_eq1, xup_ne, xup_self, xup_k, xjl_i, xjl_r, xjl_j, xjl_l, Option.toList_some, Option.toList_none, List.cons_append, List.nil_append, xr_0_0, xr_0_1, xr_0_2, xr_0_3, xr_0_4, xr_0_5, xr_0_6, xr_0_7, xr_1_0, xr_1_1, xr_4_5, xr_4_6, xr_4_7, xr_4_8, xr_8_0, xr_10_5, xr_10_6, xr_10_7, xr_10_8, xr_14_0, xr_16_0, xr_16_1, xr_16_2, xr_20_0, xr_21_0, xr_21_1, xr_22_0, xr_24_0, xr_26_0, xr_26_1, xr_26_2, xr_30_0, xr_30_1, xr_30_2, xr_30_3, xr_30_4, xr_30_5, xr_30_6, xr_30_7, xr_31_0, xr_39_0, xr_39_1, xr_39_2, xr_42_0, xr_42_2, xr_42_3, xr_42_4, xr_42_5, xr_42_6, xr_42_8, xr_42_10, xr_42_13, xr_42_14, xr_42_15, xr_42_16, xr_42_23, xr_42_24, xr_42_25]
  have hv1 := zPl_V (h := h) hw hv (s := s + 1) (by omega) (w 0 2).toNat (by omega)
  exact lp_goOn2 (M := M) hw hv1 (by omega) (s := s + 1) (by omega) hQ (w 0 2).toNat 0 M1 (by omega) hR1 hF1
end RUN
