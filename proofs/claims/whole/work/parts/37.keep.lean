/-! changes, what is kept, what came -/
section KEEP
variable {w M : xM} {Q : Option xV → xM → Prop}
/-- what one change more leaves: the rows move by one where eight are there already -/
def kD (k : Int) : Int := if k < 8 then 0 else 1
def kE (k : Int) : Int := if k < 8 then k else 7
def kRow (m m' : Int → Int) (k v : Int) : Prop := (∀ i, 0 ≤ i → i < kE k → m' i = m (i + kD k)) ∧ m' (kE k) = v
theorem lp_drop (hQ : ∀ M', (∀ c, c = 17 ∨ c = 18 ∨ c = 19 → ∀ i, 0 ≤ i → i < 7 → M' c i = M c (i + 1)) → M' 16 3 = 7 → (∀ c, (c < 16 ∨ 19 < c) → M' c = M c) → Q none M') :
    ∀ (f : Nat) (j : Int) (M1 : xM), j + f = 8 → 1 ≤ j → (∀ c, c = 17 ∨ c = 18 ∨ c = 19 → (∀ i, 0 ≤ i → i < j - 1 → M1 c i = M c (i + 1)) ∧ (∀ i, j - 1 < i → M1 c i = M c i)) → (∀ c, (c < 17 ∨ 19 < c) → M1 c = M c) →
      Wp 1 2 [xr 16, xi j] [] M1 Q := by
  intro f
  induction f with
  | zero =>
    intro j M1 hj h1 hr hf
    simp (disch := first | assumption | decide +kernel | exact hM _ _ | exact hL _ | exact xG_b | exact xG_bt _ _ | omega) only [w1_2, w1_3, w1_5, Int.reduceAdd, xup_twice, true_implies, false_implies, not_true_eq_false, not_false_eq_true, and_true, true_and, Int.reduceEq, Int.reduceLE, Int.reduceLT, Int.reduceNeg, xb_eq0, xb_eq1, xup_ne, xup_self, xup_k, xjl_i, xjl_r, xjl_j, xjl_l, Option.toList_some, Option.toList_none, List.cons_append, List.nil_append, xr_0_0, xr_0_1, xr_0_2, xr_0_3, xr_0_4, xr_0_5, xr_0_6, xr_0_7, xr_1_0, xr_1_1, xr_4_5, xr_4_6, xr_4_7, xr_4_8, xr_8_0, xr_10_5, xr_10_6, xr_10_7, xr_10_8, xr_14_0, xr_16_0, xr_16_1, xr_16_2, xr_20_0, xr_21_0, xr_21_1, xr_22_0, xr_24_0, xr_26_0, xr_26_1, xr_26_2, xr_30_0, xr_30_1, xr_30_2, xr_30_3, xr_30_4, xr_30_5, xr_30_6, xr_30_7, xr_31_0, xr_39_0, xr_39_1, xr_39_2, xr_42_0, xr_42_2, xr_42_3, xr_42_4, xr_42_5, xr_42_6, xr_42_8, xr_42_10, xr_42_13, xr_42_14, xr_42_15, xr_42_16, xr_42_23, xr_42_24, xr_42_25]
    refine ⟨fun _ => ?_, fun h => absurd h (by omega)⟩
    simp (disch := first | assumption | decide +kernel | exact hM _ _ | exact hL _ | exact xG_b | exact xG_bt _ _ | omega) only [w1_56, w1_57, w1_59, w1_62, Int.reduceAdd, xup_twice, true_implies, false_implies, not_true_eq_false, not_false_eq_true, and_true, true_and, Int.reduceEq, Int.reduceLE, Int.reduceLT, Int.reduceNeg, xb_eq0, xb_eq1, xup_ne, xup_self, xup_k, xjl_i, xjl_r, xjl_j, xjl_l, Option.toList_some, Option.toList_none, List.cons_append, List.nil_append, xr_0_0, xr_0_1, xr_0_2, xr_0_3, xr_0_4, xr_0_5, xr_0_6, xr_0_7, xr_1_0, xr_1_1, xr_4_5, xr_4_6, xr_4_7, xr_4_8, xr_8_0, xr_10_5, xr_10_6, xr_10_7, xr_10_8, xr_14_0, xr_16_0, xr_16_1, xr_16_2, xr_20_0, xr_21_0, xr_21_1, xr_22_0, xr_24_0, xr_26_0, xr_26_1, xr_26_2, xr_30_0, xr_30_1, xr_30_2, xr_30_3, xr_30_4, xr_30_5, xr_30_6, xr_30_7, xr_31_0, xr_39_0, xr_39_1, xr_39_2, xr_42_0, xr_42_2, xr_42_3, xr_42_4, xr_42_5, xr_42_6, xr_42_8, xr_42_10, xr_42_13, xr_42_14, xr_42_15, xr_42_16, xr_42_23, xr_42_24, xr_42_25]
    refine hQ _ (fun c hc i i0 i7 => ?_) (by simp [xup_app]) (fun c hc => ?_)
    · rw [xup_ne (by omega)]
      exact (hr c hc).1 i i0 (by omega)
    · rw [xup_ne (by omega)]
      exact hf c (by omega)
  | succ f ih =>
    intro j M1 hj h1 hr hf
    simp (disch := first | assumption | decide +kernel | exact hM _ _ | exact hL _ | exact xG_b | exact xG_bt _ _ | omega) only [w1_2, w1_3, w1_5, Int.reduceAdd, xup_twice, true_implies, false_implies, not_true_eq_false, not_false_eq_true, and_true, true_and, Int.reduceEq, Int.reduceLE, Int.reduceLT, Int.reduceNeg, xb_eq0, xb_eq1, xup_ne, xup_self, xup_k, xjl_i, xjl_r, xjl_j, xjl_l, Option.toList_some, Option.toList_none, List.cons_append, List.nil_append, xr_0_0, xr_0_1, xr_0_2, xr_0_3, xr_0_4, xr_0_5, xr_0_6, xr_0_7, xr_1_0, xr_1_1, xr_4_5, xr_4_6, xr_4_7, xr_4_8, xr_8_0, xr_10_5, xr_10_6, xr_10_7, xr_10_8, xr_14_0, xr_16_0, xr_16_1, xr_16_2, xr_20_0, xr_21_0, xr_21_1, xr_22_0, xr_24_0, xr_26_0, xr_26_1, xr_26_2, xr_30_0, xr_30_1, xr_30_2, xr_30_3, xr_30_4, xr_30_5, xr_30_6, xr_30_7, xr_31_0, xr_39_0, xr_39_1, xr_39_2, xr_42_0, xr_42_2, xr_42_3, xr_42_4, xr_42_5, xr_42_6, xr_42_8, xr_42_10, xr_42_13, xr_42_14, xr_42_15, xr_42_16, xr_42_23, xr_42_24, xr_42_25]
    refine ⟨fun h => absurd h (by omega), fun _ => ?_⟩
    simp (disch := first | assumption | decide +kernel | exact hM _ _ | exact hL _ | exact xG_b | exact xG_bt _ _ | omega) only [w1_8, w1_9, w1_12, w1_13, w1_14, w1_15, w1_16, w1_19, w1_20, w1_21, w1_22, w1_23, w1_26, w1_27, w1_28, w1_29, w1_30, w1_33, w1_34, w1_35, w1_36, w1_37, w1_40, w1_41, w1_42, w1_43, w1_44, w1_47, w1_48, w1_49, w1_50, w1_53, Int.reduceAdd, xup_twice, true_implies, false_implies, not_true_eq_false, not_false_eq_true, and_true, true_and, Int.reduceEq, Int.reduceLE, Int.reduceLT, Int.reduceNeg, xb_eq0, xb_eq1, xup_ne, xup_self, xup_k, xjl_i, xjl_r, xjl_j, xjl_l, Option.toList_some, Option.toList_none, List.cons_append, List.nil_append, xr_0_0, xr_0_1, xr_0_2, xr_0_3, xr_0_4, xr_0_5, xr_0_6, xr_0_7, xr_1_0, xr_1_1, xr_4_5, xr_4_6, xr_4_7, xr_4_8, xr_8_0, xr_10_5, xr_10_6, xr_10_7, xr_10_8, xr_14_0, xr_16_0, xr_16_1, xr_16_2, xr_20_0, xr_21_0, xr_21_1, xr_22_0, xr_24_0, xr_26_0, xr_26_1, xr_26_2, xr_30_0, xr_30_1, xr_30_2, xr_30_3, xr_30_4, xr_30_5, xr_30_6, xr_30_7, xr_31_0, xr_39_0, xr_39_1, xr_39_2, xr_42_0, xr_42_2, xr_42_3, xr_42_4, xr_42_5, xr_42_6, xr_42_8, xr_42_10, xr_42_13, xr_42_14, xr_42_15, xr_42_16, xr_42_23, xr_42_24, xr_42_25]
    refine ih (j + 1) _ (by omega) (by omega) (fun c hc => ?_) (fun c hc => ?_)
    · have r1 := hr c hc
      have r2 : M1 c j = M c j := r1.2 j (by omega)
      constructor
      · intro i i0 i1
        by_cases hi : i = j - 1
        · subst hi
          rcases hc with rfl | rfl | rfl <;> simp [xup_app] <;> exact r2
        · have := r1.1 i i0 (by omega)
          rcases hc with rfl | rfl | rfl <;> simp [xup_app, hi] <;> exact this
      · intro i i1
        have := r1.2 i (by omega)
        have hi : ¬ i = j - 1 := by omega
        rcases hc with rfl | rfl | rfl <;> simp [xup_app, hi] <;> exact this
    · rw [xup_ne (by omega), xup_ne (by omega), xup_ne (by omega)]
      exact hf c hc
theorem q_chAdd {a b c : Int} (hk : 0 ≤ M 16 3 ∧ M 16 3 ≤ 8) (hQ : ∀ M', kRow (M 17) (M' 17) (M 16 3) a → kRow (M 18) (M' 18) (M 16 3) b → kRow (M 19) (M' 19) (M 16 3) c → M' 16 3 = kE (M 16 3) + 1 → (∀ d, (d < 16 ∨ 19 < d) → M' d = M d) → Q none M') :
    Wc 0 [xr 16, xi a, xi b, xi c] M Q := by
  simp (disch := first | assumption | decide +kernel | exact hM _ _ | exact hL _ | exact xG_b | exact xG_bt _ _ | omega) only [w0_0, w0_1, w0_4, w0_6, wc0, Int.reduceAdd, xup_twice, true_implies, false_implies, not_true_eq_false, not_false_eq_true, and_true, true_and, Int.reduceEq, Int.reduceLE, Int.reduceLT, Int.reduceNeg, xb_eq0, xb_eq1, xup_ne, xup_self, xup_k, xjl_i, xjl_r, xjl_j, xjl_l, Option.toList_some, Option.toList_none, List.cons_append, List.nil_append, xr_0_0, xr_0_1, xr_0_2, xr_0_3, xr_0_4, xr_0_5, xr_0_6, xr_0_7, xr_1_0, xr_1_1, xr_4_5, xr_4_6, xr_4_7, xr_4_8, xr_8_0, xr_10_5, xr_10_6, xr_10_7, xr_10_8, xr_14_0, xr_16_0, xr_16_1, xr_16_2, xr_20_0, xr_21_0, xr_21_1, xr_22_0, xr_24_0, xr_26_0, xr_26_1, xr_26_2, xr_30_0, xr_30_1, xr_30_2, xr_30_3, xr_30_4, xr_30_5, xr_30_6, xr_30_7, xr_31_0, xr_39_0, xr_39_1, xr_39_2, xr_42_0, xr_42_2, xr_42_3, xr_42_4, xr_42_5, xr_42_6, xr_42_8, xr_42_10, xr_42_13, xr_42_14, xr_42_15, xr_42_16, xr_42_23, xr_42_24, xr_42_25]
  refine ⟨fun h => ?_, fun h => ?_⟩
  · simp (disch := first | assumption | decide +kernel | exact hM _ _ | exact hL _ | exact xG_b | exact xG_bt _ _ | omega) only [w0_13, w0_14, w0_17, w0_18, w0_21, w0_22, w0_23, w0_24, w0_27, w0_28, w0_31, w0_32, w0_33, w0_34, w0_37, w0_38, w0_41, w0_42, w0_43, w0_44, w0_45, w0_48, w0_49, w0_50, w0_53, Int.reduceAdd, xup_twice, true_implies, false_implies, not_true_eq_false, not_false_eq_true, and_true, true_and, Int.reduceEq, Int.reduceLE, Int.reduceLT, Int.reduceNeg, xb_eq0, xb_eq1, xup_ne, xup_self, xup_k, xjl_i, xjl_r, xjl_j, xjl_l, Option.toList_some, Option.toList_none, List.cons_append, List.nil_append, xr_0_0, xr_0_1, xr_0_2, xr_0_3, xr_0_4, xr_0_5, xr_0_6, xr_0_7, xr_1_0, xr_1_1, xr_4_5, xr_4_6, xr_4_7, xr_4_8, xr_8_0, xr_10_5, xr_10_6, xr_10_7, xr_10_8, xr_14_0, xr_16_0, xr_16_1, xr_16_2, xr_20_0, xr_21_0, xr_21_1, xr_22_0, xr_24_0, xr_26_0, xr_26_1, xr_26_2, xr_30_0, xr_30_1, xr_30_2, xr_30_3, xr_30_4, xr_30_5, xr_30_6, xr_30_7, xr_31_0, xr_39_0, xr_39_1, xr_39_2, xr_42_0, xr_42_2, xr_42_3, xr_42_4, xr_42_5, xr_42_6, xr_42_8, xr_42_10, xr_42_13, xr_42_14, xr_42_15, xr_42_16, xr_42_23, xr_42_24, xr_42_25]
    have e1 : kE (M 16 3) = M 16 3 := if_pos h
    have e2 : kD (M 16 3) = 0 := if_pos h
    refine hQ _ ⟨fun i i0 i1 => ?_, ?_⟩ ⟨fun i i0 i1 => ?_, ?_⟩ ⟨fun i i0 i1 => ?_, ?_⟩ ?_ (fun d hd => ?_)
    · rw [e1] at i1
      rw [e2, Int.add_zero]
      have : ¬ i = M 16 3 := by omega
      simp [xup_app, this]
    · rw [e1]; simp [xup_app]
    · rw [e1] at i1
      rw [e2, Int.add_zero]
      have : ¬ i = M 16 3 := by omega
      simp [xup_app, this]
    · rw [e1]; simp [xup_app]
    · rw [e1] at i1
      rw [e2, Int.add_zero]
      have : ¬ i = M 16 3 := by omega
      simp [xup_app, this]
    · rw [e1]; simp [xup_app]
    · rw [e1]; simp [xup_app]
    · rw [xup_ne (by omega), xup_ne (by omega), xup_ne (by omega), xup_ne (by omega)]
  · have e1 : kE (M 16 3) = 7 := if_neg h
    have e2 : kD (M 16 3) = 1 := if_neg h
    simp (disch := first | assumption | decide +kernel | exact hM _ _ | exact hL _ | exact xG_b | exact xG_bt _ _ | omega) only [w0_9, w0_10, wc1, w1_0, w1_1, Int.reduceAdd, xup_twice, true_implies, false_implies, not_true_eq_false, not_false_eq_true, and_true, true_and, Int.reduceEq, Int.reduceLE, Int.reduceLT, Int.reduceNeg, xb_eq0, xb_eq1, xup_ne, xup_self, xup_k, xjl_i, xjl_r, xjl_j, xjl_l, Option.toList_some, Option.toList_none, List.cons_append, List.nil_append, xr_0_0, xr_0_1, xr_0_2, xr_0_3, xr_0_4, xr_0_5, xr_0_6, xr_0_7, xr_1_0, xr_1_1, xr_4_5, xr_4_6, xr_4_7, xr_4_8, xr_8_0, xr_10_5, xr_10_6, xr_10_7, xr_10_8, xr_14_0, xr_16_0, xr_16_1, xr_16_2, xr_20_0, xr_21_0, xr_21_1, xr_22_0, xr_24_0, xr_26_0, xr_26_1, xr_26_2, xr_30_0, xr_30_1, xr_30_2, xr_30_3, xr_30_4, xr_30_5, xr_30_6, xr_30_7, xr_31_0, xr_39_0, xr_39_1, xr_39_2, xr_42_0, xr_42_2, xr_42_3, xr_42_4, xr_42_5, xr_42_6, xr_42_8, xr_42_10, xr_42_13, xr_42_14, xr_42_15, xr_42_16, xr_42_23, xr_42_24, xr_42_25]
    refine lp_drop (M := M) (fun M1 hr h7 hf => ?_) 7 1 M (by omega) (by omega) (fun c _ => ⟨fun i i0 i1 => by omega, fun _ _ => rfl⟩) (fun _ _ => rfl)
    simp (disch := first | assumption | decide +kernel | exact hM _ _ | exact hL _ | exact xG_b | exact xG_bt _ _ | omega) only [w0_13, w0_14, w0_17, w0_18, w0_21, w0_22, w0_23, w0_24, w0_27, w0_28, w0_31, w0_32, w0_33, w0_34, w0_37, w0_38, w0_41, w0_42, w0_43, w0_44, w0_45, w0_48, w0_49, w0_50, w0_53, Int.reduceAdd, xup_twice, true_implies, false_implies, not_true_eq_false, not_false_eq_true, and_true, true_and, Int.reduceEq, Int.reduceLE, Int.reduceLT, Int.reduceNeg, xb_eq0, xb_eq1, xup_ne, xup_self, xup_k, xjl_i, xjl_r, xjl_j, xjl_l, Option.toList_some, Option.toList_none, List.cons_append, List.nil_append, xr_0_0, xr_0_1, xr_0_2, xr_0_3, xr_0_4, xr_0_5, xr_0_6, xr_0_7, xr_1_0, xr_1_1, xr_4_5, xr_4_6, xr_4_7, xr_4_8, xr_8_0, xr_10_5, xr_10_6, xr_10_7, xr_10_8, xr_14_0, xr_16_0, xr_16_1, xr_16_2, xr_20_0, xr_21_0, xr_21_1, xr_22_0, xr_24_0, xr_26_0, xr_26_1, xr_26_2, xr_30_0, xr_30_1, xr_30_2, xr_30_3, xr_30_4, xr_30_5, xr_30_6, xr_30_7, xr_31_0, xr_39_0, xr_39_1, xr_39_2, xr_42_0, xr_42_2, xr_42_3, xr_42_4, xr_42_5, xr_42_6, xr_42_8, xr_42_10, xr_42_13, xr_42_14, xr_42_15, xr_42_16, xr_42_23, xr_42_24, xr_42_25, h7]
    refine hQ _ ⟨fun i i0 i1 => ?_, ?_⟩ ⟨fun i i0 i1 => ?_, ?_⟩ ⟨fun i i0 i1 => ?_, ?_⟩ ?_ (fun d hd => ?_)
    · rw [e1] at i1
      rw [e2, ← hr 17 (by omega) i i0 i1]
      have : ¬ i = 7 := by omega
      simp [xup_app, this]
    · rw [e1]; simp [xup_app]
    · rw [e1] at i1
      rw [e2, ← hr 18 (by omega) i i0 i1]
      have : ¬ i = 7 := by omega
      simp [xup_app, this]
    · rw [e1]; simp [xup_app]
    · rw [e1] at i1
      rw [e2, ← hr 19 (by omega) i i0 i1]
      have : ¬ i = 7 := by omega
      simp [xup_app, this]
    · rw [e1]; simp [xup_app]
    · rw [e1]; simp [xup_app]
    · rw [xup_ne (by omega), xup_ne (by omega), xup_ne (by omega), xup_ne (by omega)]
      exact hf d hd
end KEEP
