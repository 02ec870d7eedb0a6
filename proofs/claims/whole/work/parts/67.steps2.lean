/-! a call on both: changes -/
section STEPS2
variable {w M M' : xM} {P a b c : Int}
theorem vI_c {f g : Int → Int} (hP : P ≤ 5) (h : ∀ j, 0 ≤ j → j < 7 → f j = g j) (hv : vI P f) : vI P g := by
  obtain ⟨h1, h2, h3⟩ := hv
  refine ⟨fun p x y => ?_, ?_, ?_⟩
  · rw [← h p x (by omega)]; exact h1 p x y
  · rw [← h 5 (by omega) (by omega)]; exact h2
  · rw [← h 6 (by omega) (by omega)]; exact h3
theorem dI_c {f f' g g' : Int → Int} (hP : P ≤ 5) (h1 : ∀ j, 0 ≤ j → j < 7 → f j = f' j) (h2 : ∀ j, 0 ≤ j → j < 7 → g j = g' j) (hd : dI P a b c f g) : dI P a b c f' g' := by
  have hj : ∀ j, jX P j → 0 ≤ j ∧ j < 7 := fun j h => by
    unfold jX at h
    omega
  rcases hd with ⟨x, y, z⟩ | ⟨x, z⟩ | ⟨x, z⟩
  · exact Or.inl ⟨x, y, fun j h => by
      have := hj j h
      rw [← h1 j this.1 this.2, ← h2 j this.1 this.2]
      exact z j h⟩
  · exact Or.inr (Or.inl ⟨x, fun j h => by
      have := hj j h
      rw [← h1 j this.1 this.2, ← h2 j this.1 this.2, ← h2 5 (by omega) (by omega)]
      exact z j h⟩)
  · exact Or.inr (Or.inr ⟨x, fun j h => by
      have := hj j h
      rw [← h1 j this.1 this.2, ← h2 j this.1 this.2, ← h2 6 (by omega) (by omega)]
      exact z j h⟩)
theorem kC_add (hC : kC P M) (hv : vI P (M 47)) (hP : P ≤ 5) (r17 : kRow (M 17) (M' 17) (M 16 3) a) (r18 : kRow (M 18) (M' 18) (M 16 3) b) (r19 : kRow (M 19) (M' 19) (M 16 3) c) (e16 : M' 16 3 = kE (M 16 3) + 1) (p48 : kPast (M 48) (M' 48) (M 47) (M 42 7)) (e42 : M' 42 7 = kE (M 42 7) + 1) (hd : dI P a b c (M 47) (M' 47)) : kC P M' := by
  obtain ⟨hk, h7, hdl, hvl⟩ := hC
  rw [h7] at p48 e42
  obtain ⟨p1, p2⟩ := p48
  have hED : 0 ≤ kE (M 16 3) ∧ kE (M 16 3) ≤ 7 ∧ kE (M 16 3) + kD (M 16 3) = M 16 3 ∧ 0 ≤ kD (M 16 3) := by
    unfold kE kD
    split <;> omega
  obtain ⟨r17a, r17b⟩ := r17
  obtain ⟨r18a, r18b⟩ := r18
  obtain ⟨r19a, r19b⟩ := r19
  generalize kE (M 16 3) = e at *
  generalize kD (M 16 3) = d at *
  have hJ : ∀ i, 0 ≤ i → i ≤ e → ∀ j, 0 ≤ j → j < 7 → kJ M (i + d) j = kJ M' i j := fun i i0 i1 j j0 j1 => by
    unfold kJ
    rw [if_pos (show i < M' 16 3 by omega)]
    by_cases hie : i < e
    · rw [if_pos (show i + d < M 16 3 by omega)]
      exact (p1 i j i0 hie j0 j1).symm
    · rw [if_neg (show ¬ i + d < M 16 3 by omega), show i = e by omega]
      exact (p2 j j0 j1).symm
  have hJe : ∀ j, kJ M' (e + 1) j = M' 47 j := fun j => if_neg (by omega)
  refine ⟨by omega, by omega, fun i i0 i1 => ?_, fun i i0 i1 => ?_⟩
  · by_cases hie : i < e
    · rw [r17a i i0 hie, r18a i i0 hie, r19a i i0 hie]
      refine dI_c hP (hJ i i0 (by omega)) (fun j j0 j1 => ?_) (hdl (i + d) (by omega) (by omega))
      rw [show i + d + 1 = (i + 1) + d by omega]
      exact hJ (i + 1) (by omega) (by omega) j j0 j1
    · have hi : i = e := by omega
      rw [hi, r17b, r18b, r19b]
      refine dI_c hP (fun j j0 j1 => ?_) (fun j j0 j1 => ?_) hd
      · rw [← hJ e (by omega) (by omega) j j0 j1, hED.2.2.1]
        exact (if_neg (by omega)).symm
      · exact (hJe j).symm
  · refine vI_c hP (hJ i i0 (by omega)) ?_
    by_cases hie : i + d < M 16 3
    · exact hvl (i + d) (by omega) hie
    · refine vI_c hP (fun j _ _ => ?_) hv
      exact (if_neg hie).symm
theorem st_start {p s : Int} (hp : xG p) (hs : xG s) (hR : RR M) : St 52 102 [xi p, xi s] M := by
  obtain ⟨w, h⟩ := hR
  obtain ⟨⟨hw, hT, hS, hL, hC, hK, hQ, h20, h22⟩, hB, hR⟩ := id h
  have hw3 := hw.2.2.1
  refine q8_start hp hs hw hB hC.1 (fun hno => ⟨_, rfl, ?_⟩) (fun hy M1 r17 r18 r19 e16 e9 hf => ⟨_, rfl, ?_⟩)
  · exact q9_start hp hs hw hT.2.1 (by rw [hC.2.1]; exact hC.1) (fun _ => ⟨rfl, w, h⟩) (fun hy => absurd hy hno)
  · have f := fun (d : Nat) (hd : d < 9 ∨ (9 < d ∧ d < 16) ∨ 19 < d) => hf d hd
    refine q9_start hp hs hw (rT_F hT.2.1 (f 44 (by omega))) (by rw [f 42 (by omega), hC.2.1]; exact hC.1) (fun hno => absurd hy hno) (fun _ M2 p48 e7 e47 g1 g2 => ⟨?_, ?_⟩)
    · rw [f 47 (by omega), hS.1 p hy.1.1 hy.1.2]
    · rw [f 47 (by omega), f 48 (by omega), f 42 (by omega)] at p48
      rw [f 42 (by omega)] at e7
      have g := fun (d : Nat) (hd : d ≠ 42) (hd1 : d ≠ 47) (hd2 : d ≠ 48) => g1 d hd hd1 hd2
      have k1 : ∀ k, k ≠ 7 → M2 42 k = M 42 k := fun k hk => by rw [g2 k hk, f 42 (by omega)]
      have e47' : ∀ j, M2 47 j = if j = p then s else M 47 j := fun j => by rw [e47, xup_at, f 47 (by omega)]
      have c2 : ∀ d : Nat, d ≠ 42 → d ≠ 47 → d ≠ 48 → (d < 9 ∨ (9 < d ∧ d < 16) ∨ 19 < d) → M2 d = M d := fun d a b c e => (g d a b c).trans (f d e)
      have hv2 : vI (w 0 2) (M2 47) := by
        refine ⟨fun q a b => ?_, ?_, ?_⟩
        · rw [e47']
          split
          · exact hy.2
          · exact hS.2.2.2.1 q a b
        · rw [e47', if_neg (by omega)]; exact hS.2.2.2.2.1
        · rw [e47', if_neg (by omega)]; exact hS.2.2.2.2.2
      refine RR_mk (w := w) ⟨hw, kT_x hT (c2 4 (by omega) (by omega) (by omega) (by omega)) (c2 5 (by omega) (by omega) (by omega) (by omega)) (c2 6 (by omega) (by omega) (by omega) (by omega)) (c2 7 (by omega) (by omega) (by omega) (by omega)) (c2 44 (by omega) (by omega) (by omega) (by omega)), ⟨fun q a b => ?_, ?_, ?_, hv2⟩, kL_x hL (by rw [c2 1 (by omega) (by omega) (by omega) (by omega)]) (c2 2 (by omega) (by omega) (by omega) (by omega)) (k1 1 (by omega)) (c2 43 (by omega) (by omega) (by omega) (by omega)), ?_, kK_x hK (by rw [c2 20 (by omega) (by omega) (by omega) (by omega)]) (c2 22 (by omega) (by omega) (by omega) (by omega)) (c2 23 (by omega) (by omega) (by omega) (by omega)) (c2 24 (by omega) (by omega) (by omega) (by omega)) (c2 25 (by omega) (by omega) (by omega) (by omega)) (k1 9 (by omega)) (c2 49 (by omega) (by omega) (by omega) (by omega)), kQ_x hQ (by rw [c2 26 (by omega) (by omega) (by omega) (by omega)]) (c2 27 (by omega) (by omega) (by omega) (by omega)) (c2 28 (by omega) (by omega) (by omega) (by omega)) (c2 29 (by omega) (by omega) (by omega) (by omega)) (k1 11 (by omega)) (c2 50 (by omega) (by omega) (by omega) (by omega)), by rw [k1 20 (by omega)]; exact h20, by rw [k1 22 (by omega)]; exact h22⟩
      · rw [g 9 (by omega) (by omega) (by omega), e9, xup_at, e47']
        split
        · rfl
        · exact hS.1 q a b
      · rw [c2 8 (by omega) (by omega) (by omega) (by omega), e47', if_neg (by omega)]; exact hS.2.1
      · rw [c2 8 (by omega) (by omega) (by omega) (by omega), e47', if_neg (by omega)]; exact hS.2.2.1
      · refine kC_add (M := M) (a := 0) (b := p) (c := M 9 p) hC hS.2.2.2 hw3.2 (by rw [g 17 (by omega) (by omega) (by omega)]; exact r17) (by rw [g 18 (by omega) (by omega) (by omega)]; exact r18) (by rw [g 19 (by omega) (by omega) (by omega)]; exact r19) (by rw [g 16 (by omega) (by omega) (by omega)]; exact e16) p48 e7 (Or.inl ⟨rfl, hy.1, fun j hj => ?_⟩)
        rw [e47']
        by_cases hjp : j = p
        · rw [if_pos hjp, hjp]; exact (hS.1 p hy.1.1 hy.1.2).symm
        · rw [if_neg hjp, if_neg hjp]
theorem st_hold {p : Int} (hp : xG p) (hR : RR M) : St 53 103 [xi p] M := by
  obtain ⟨w, h⟩ := hR
  obtain ⟨⟨hw, hT, hS, hL, hC, hK, hQ, h20, h22⟩, hB, hR⟩ := id h
  have hw3 := hw.2.2.1
  refine q8_hold hp hw hB hC.1 (fun hno => ⟨_, rfl, ?_⟩) (fun hy M1 r17 r18 r19 e16 e8 hf => ⟨_, rfl, ?_⟩)
  · exact q9_hold hp hw hT.2.1 (by rw [hC.2.1]; exact hC.1) (fun _ => ⟨rfl, w, h⟩) (fun hy => absurd hy hno)
  · have f := fun (d : Nat) (hd : d < 8 ∨ (8 < d ∧ d < 16) ∨ 19 < d) => hf d hd
    refine q9_hold hp hw (rT_F hT.2.1 (f 44 (by omega))) (by rw [f 42 (by omega), hC.2.1]; exact hC.1) (fun hno => absurd hy hno) (fun _ M2 p48 e7 e47 g1 g2 => ⟨?_, ?_⟩)
    · rw [f 47 (by omega), hS.2.1]
    · rw [f 47 (by omega), f 48 (by omega), f 42 (by omega)] at p48
      rw [f 42 (by omega)] at e7
      have g := fun (d : Nat) (hd : d ≠ 42) (hd1 : d ≠ 47) (hd2 : d ≠ 48) => g1 d hd hd1 hd2
      have k1 : ∀ k, k ≠ 7 → M2 42 k = M 42 k := fun k hk => by rw [g2 k hk, f 42 (by omega)]
      have e47' : ∀ j, M2 47 j = if j = 5 then xxor (M 47 5) (xshl 1 p) else M 47 j := fun j => by rw [e47, xup_at, f 47 (by omega)]
      have c2 : ∀ d : Nat, d ≠ 42 → d ≠ 47 → d ≠ 48 → (d < 8 ∨ (8 < d ∧ d < 16) ∨ 19 < d) → M2 d = M d := fun d a b c e => (g d a b c).trans (f d e)
      have hv2 : vI (w 0 2) (M2 47) := by
        refine ⟨fun q a b => ?_, ?_, ?_⟩
        · rw [e47', if_neg (by omega)]; exact hS.2.2.2.1 q a b
        · rw [e47', if_pos rfl]; exact ⟨xG_xor _ _, sB_xor hS.2.2.2.2.1.2 (by omega)⟩
        · rw [e47', if_neg (by omega)]; exact hS.2.2.2.2.2
      refine RR_mk (w := w) ⟨hw, kT_x hT (c2 4 (by omega) (by omega) (by omega) (by omega)) (c2 5 (by omega) (by omega) (by omega) (by omega)) (c2 6 (by omega) (by omega) (by omega) (by omega)) (c2 7 (by omega) (by omega) (by omega) (by omega)) (c2 44 (by omega) (by omega) (by omega) (by omega)), ⟨fun q a b => ?_, ?_, ?_, hv2⟩, kL_x hL (by rw [c2 1 (by omega) (by omega) (by omega) (by omega)]) (c2 2 (by omega) (by omega) (by omega) (by omega)) (k1 1 (by omega)) (c2 43 (by omega) (by omega) (by omega) (by omega)), ?_, kK_x hK (by rw [c2 20 (by omega) (by omega) (by omega) (by omega)]) (c2 22 (by omega) (by omega) (by omega) (by omega)) (c2 23 (by omega) (by omega) (by omega) (by omega)) (c2 24 (by omega) (by omega) (by omega) (by omega)) (c2 25 (by omega) (by omega) (by omega) (by omega)) (k1 9 (by omega)) (c2 49 (by omega) (by omega) (by omega) (by omega)), kQ_x hQ (by rw [c2 26 (by omega) (by omega) (by omega) (by omega)]) (c2 27 (by omega) (by omega) (by omega) (by omega)) (c2 28 (by omega) (by omega) (by omega) (by omega)) (c2 29 (by omega) (by omega) (by omega) (by omega)) (k1 11 (by omega)) (c2 50 (by omega) (by omega) (by omega) (by omega)), by rw [k1 20 (by omega)]; exact h20, by rw [k1 22 (by omega)]; exact h22⟩
      · rw [c2 9 (by omega) (by omega) (by omega) (by omega), e47', if_neg (by omega)]
        exact hS.1 q a b
      · rw [g 8 (by omega) (by omega) (by omega), e8, xup_self, e47', if_pos rfl, hS.2.1]
      · rw [g 8 (by omega) (by omega) (by omega), e8, xup_k (by omega), e47', if_neg (by omega)]; exact hS.2.2.1
      · refine kC_add (M := M) (a := 1) (b := p) (c := 0) hC hS.2.2.2 hw3.2 (by rw [g 17 (by omega) (by omega) (by omega)]; exact r17) (by rw [g 18 (by omega) (by omega) (by omega)]; exact r18) (by rw [g 19 (by omega) (by omega) (by omega)]; exact r19) (by rw [g 16 (by omega) (by omega) (by omega)]; exact e16) p48 e7 (Or.inr (Or.inl ⟨rfl, fun j hj => ?_⟩))
        rw [e47', e47', if_pos rfl]
        by_cases hjp : j = 5
        · rw [if_pos hjp, hjp]; exact (xxor_2 hS.2.2.2.2.1.1).symm
        · rw [if_neg hjp, if_neg hjp]
theorem st_pass {x : Int} (hx : xG x) (hR : RR M) : St 54 104 [xi x] M := by
  obtain ⟨w, h⟩ := hR
  obtain ⟨⟨hw, hT, hS, hL, hC, hK, hQ, h20, h22⟩, hB, hR⟩ := id h
  have hw3 := hw.2.2.1
  have hw1 := hw.1
  refine q8_pass hx hw hB hC.1 (fun hno => ⟨_, rfl, ?_⟩) (fun hy h1 => ⟨_, rfl, ?_⟩) (fun hy hle M1 r17 r18 r19 e16 e8 hf => ⟨_, rfl, ?_⟩)
  · exact q9_pass hx hw hT.2.1 (by rw [hC.2.1]; exact hC.1) (fun _ => ⟨rfl, w, h⟩) (fun hy => absurd hy hno) (fun hy => absurd hy hno)
  · exact q9_pass hx hw hT.2.1 (by rw [hC.2.1]; exact hC.1) (fun hno => absurd hy hno) (fun _ _ => ⟨rfl, w, h⟩) (fun _ h2 => absurd h1 (by omega))
  · have f := fun (d : Nat) (hd : d < 8 ∨ (8 < d ∧ d < 16) ∨ 19 < d) => hf d hd
    refine q9_pass hx hw (rT_F hT.2.1 (f 44 (by omega))) (by rw [f 42 (by omega), hC.2.1]; exact hC.1) (fun hno => absurd hy hno) (fun _ h2 => absurd h2 (by omega)) (fun _ _ M2 p48 e7 e47 g1 g2 => ⟨?_, ?_⟩)
    · rw [f 47 (by omega), hS.2.2.1]
    · rw [f 47 (by omega), f 48 (by omega), f 42 (by omega)] at p48
      rw [f 42 (by omega)] at e7
      have g := fun (d : Nat) (hd : d ≠ 42) (hd1 : d ≠ 47) (hd2 : d ≠ 48) => g1 d hd hd1 hd2
      have k1 : ∀ k, k ≠ 7 → M2 42 k = M 42 k := fun k hk => by rw [g2 k hk, f 42 (by omega)]
      have e47' : ∀ j, M2 47 j = if j = 6 then xxor (M 47 6) (xshl 1 x) else M 47 j := fun j => by rw [e47, xup_at, f 47 (by omega)]
      have c2 : ∀ d : Nat, d ≠ 42 → d ≠ 47 → d ≠ 48 → (d < 8 ∨ (8 < d ∧ d < 16) ∨ 19 < d) → M2 d = M d := fun d a b c e => (g d a b c).trans (f d e)
      have hv2 : vI (w 0 2) (M2 47) := by
        refine ⟨fun q a b => ?_, ?_, ?_⟩
        · rw [e47', if_neg (by omega)]; exact hS.2.2.2.1 q a b
        · rw [e47', if_neg (by omega)]; exact hS.2.2.2.2.1
        · rw [e47', if_pos rfl]; exact ⟨xG_xor _ _, sB_xor hS.2.2.2.2.2.2 (by omega)⟩
      refine RR_mk (w := w) ⟨hw, kT_x hT (c2 4 (by omega) (by omega) (by omega) (by omega)) (c2 5 (by omega) (by omega) (by omega) (by omega)) (c2 6 (by omega) (by omega) (by omega) (by omega)) (c2 7 (by omega) (by omega) (by omega) (by omega)) (c2 44 (by omega) (by omega) (by omega) (by omega)), ⟨fun q a b => ?_, ?_, ?_, hv2⟩, kL_x hL (by rw [c2 1 (by omega) (by omega) (by omega) (by omega)]) (c2 2 (by omega) (by omega) (by omega) (by omega)) (k1 1 (by omega)) (c2 43 (by omega) (by omega) (by omega) (by omega)), ?_, kK_x hK (by rw [c2 20 (by omega) (by omega) (by omega) (by omega)]) (c2 22 (by omega) (by omega) (by omega) (by omega)) (c2 23 (by omega) (by omega) (by omega) (by omega)) (c2 24 (by omega) (by omega) (by omega) (by omega)) (c2 25 (by omega) (by omega) (by omega) (by omega)) (k1 9 (by omega)) (c2 49 (by omega) (by omega) (by omega) (by omega)), kQ_x hQ (by rw [c2 26 (by omega) (by omega) (by omega) (by omega)]) (c2 27 (by omega) (by omega) (by omega) (by omega)) (c2 28 (by omega) (by omega) (by omega) (by omega)) (c2 29 (by omega) (by omega) (by omega) (by omega)) (k1 11 (by omega)) (c2 50 (by omega) (by omega) (by omega) (by omega)), by rw [k1 20 (by omega)]; exact h20, by rw [k1 22 (by omega)]; exact h22⟩
      · rw [c2 9 (by omega) (by omega) (by omega) (by omega), e47', if_neg (by omega)]
        exact hS.1 q a b
      · rw [g 8 (by omega) (by omega) (by omega), e8, xup_k (by omega), e47', if_neg (by omega)]; exact hS.2.1
      · rw [g 8 (by omega) (by omega) (by omega), e8, xup_self, e47', if_pos rfl, hS.2.2.1]
      · refine kC_add (M := M) (a := 2) (b := x) (c := 0) hC hS.2.2.2 hw3.2 (by rw [g 17 (by omega) (by omega) (by omega)]; exact r17) (by rw [g 18 (by omega) (by omega) (by omega)]; exact r18) (by rw [g 19 (by omega) (by omega) (by omega)]; exact r19) (by rw [g 16 (by omega) (by omega) (by omega)]; exact e16) p48 e7 (Or.inr (Or.inr ⟨rfl, fun j hj => ?_⟩))
        rw [e47', e47', if_pos rfl]
        by_cases hjp : j = 6
        · rw [if_pos hjp, hjp]; exact (xxor_2 hS.2.2.2.2.2.1).symm
        · rw [if_neg hjp, if_neg hjp]
end STEPS2
