/-! pairs as bits -/
section TWOS
variable {w z M : xM} {Q : Option xV → xM → Prop}
theorem xcn_add {f : Int → Bool} {n : Nat} : ∀ m : Nat, xcn f (n + m) = xcn f n + xcn (fun t => f (n + t)) m
  | 0 => by simp [xcn]
  | m + 1 => by
    rw [show n + (m + 1) = (n + m) + 1 by omega, xcn_s, xcn_add m, xcn_s]
    rw [show ((n + m : Nat) : Int) = (n : Int) + (m : Int) by omega]
    omega
theorem dAll_bits {h : Int → Int → Int} {v : Int} (hw : zW w) (hv : tIn w h 61 0 0 v) : xbc v = dAll w h (w 0 2).toNat := by
  have hw2 := hw.2.1
  have hw3 := hw.2.2.1
  obtain ⟨hi, hb⟩ := hv
  rw [xbc_cn]
  have e1 : xcn (fun k => xt v k.toNat) 32 = xcn (fun k => xt v k.toNat) 25 := xcn_cut (n := 25) 7 (fun k a b => by simpa using hi k a)
  rw [e1]
  have hrow : ∀ p : Nat, p < 5 → xcn (fun t => xt v ((((5 * p : Nat) : Int) + t).toNat)) 5 = if (p : Int) < w 0 2 then xcn (dPair w h p) (w 0 1).toNat else 0 := fun p hp => by
    have hf : ∀ t : Nat, t < 5 → xt v ((((5 * p : Nat) : Int) + (t : Int)).toNat) = (decide ((p : Int) < w 0 2 ∧ (t : Int) < w 0 1) && dPair w h p t) := fun t ht => by
      rw [show (((5 * p : Nat) : Int) + (t : Int)).toNat = 5 * p + t by omega, hb p t hp ht]
      have : ¬ ((p : Int) < 0 ∨ ((p : Int) = 0 ∧ (t : Int) < 0)) := by omega
      rw [decide_eq_false this]
      simp only [Bool.false_and, Bool.or_false]
      rfl
    by_cases hp2 : (p : Int) < w 0 2
    · rw [if_pos hp2]
      obtain ⟨T, hT⟩ : ∃ T : Nat, w 0 1 = T := ⟨(w 0 1).toNat, by omega⟩
      have hT5 : T ≤ 5 := by omega
      rw [hT, Int.toNat_natCast]
      obtain ⟨j, hj⟩ : ∃ j, 5 = T + j := ⟨5 - T, by omega⟩
      have := xcn_cut (f := fun t => xt v ((((5 * p : Nat) : Int) + t).toNat)) (n := T) j (fun k a b => by
        show xt v ((((5 * p : Nat) : Int) + (k : Int)).toNat) = false
        rw [hf k (by omega), decide_eq_false (by omega)]; rfl)
      rw [← hj] at this
      rw [this]
      refine xcn_c (fun k hk => ?_)
      show xt v ((((5 * p : Nat) : Int) + (k : Int)).toNat) = _
      rw [hf k (by omega), decide_eq_true (by omega), Bool.true_and]
    · rw [if_neg hp2]
      refine xcn_0 (fun k hk => ?_)
      show xt v ((((5 * p : Nat) : Int) + (k : Int)).toNat) = _
      rw [hf k hk, decide_eq_false (by omega)]; rfl
  obtain ⟨P, hP⟩ : ∃ P : Nat, w 0 2 = P := ⟨(w 0 2).toNat, by omega⟩
  rw [hP, Int.toNat_natCast]
  have hsum : ∀ n : Nat, n ≤ 5 → xcn (fun k => xt v k.toNat) (5 * n) = dAll w h (if n ≤ P then n else P) := by
    intro n
    induction n with
    | zero => intro _; rw [if_pos (by omega)]; rfl
    | succ n ih =>
      intro hn
      rw [show 5 * (n + 1) = 5 * n + 5 by omega, xcn_add, ih (by omega), hrow n (by omega)]
      by_cases h1 : n + 1 ≤ P
      · rw [if_pos (by omega), if_pos (by omega), if_pos h1, dAll]
      · rw [if_neg (show ¬ (n : Int) < w 0 2 by omega), if_neg h1]
        by_cases h2 : n ≤ P
        · rw [if_pos h2, show n = P by omega]; omega
        · rw [if_neg h2]; omega
  have := hsum 5 (by omega)
  rw [this]
  by_cases h5 : 5 ≤ P
  · rw [if_pos h5, show P = 5 by omega]
  · rw [if_neg h5]
theorem bDay_is {h : Int → Int → Int} {za k v : Int} (hw : zW w) (hv : tIn (wDraw w za) h 61 0 0 v) : aDay w h za k v = bDay w h za k := by
  unfold aDay bDay
  have := dAll_bits (zW_draw (z := za) hw) hv
  rw [wDraw_ne (c := 0) (by decide)] at this
  rw [this]
end TWOS
