/-! a call on both: undoing, keeping, what came -/
section STEPS3
variable {w M M' : xM} {P a b c : Int}
theorem st_undo (hR : RR M) : St 55 105 [] M := by
  obtain ⟨w, h⟩ := hR
  obtain ⟨⟨hw, hT, hS, hL, hC, hK, hQ, h20, h22⟩, hB, hR⟩ := id h
  have hw3 := hw.2.2.1
  obtain ⟨hk, h7, hdl, hvl⟩ := id hC
  have hlast : 0 < M 16 3 → dI (w 0 2) (M 17 (M 16 3 - 1)) (M 18 (M 16 3 - 1)) (M 19 (M 16 3 - 1)) (kJ M (M 16 3 - 1)) (M 47) := fun h0 => by
    refine dI_c hw3.2 (fun _ _ _ => rfl) (fun j _ _ => ?_) (hdl (M 16 3 - 1) (by omega) (by omega))
    rw [show M 16 3 - 1 + 1 = M 16 3 by omega]
    exact if_neg (by omega)
  /- what the reference does behind any of the three -/
  have key : ∀ M1 : xM, 0 < M 16 3 → (∀ d : Nat, d ≠ 16 → d ≠ 8 → d ≠ 9 → M1 d = M d) → M1 16 3 = M 16 3 - 1 → ((∀ p, 0 ≤ p → p < w 0 2 → M1 9 p = kJ M (M 16 3 - 1) p) ∧ M1 8 1 = kJ M (M 16 3 - 1) 5 ∧ M1 8 2 = kJ M (M 16 3 - 1) 6) → (fun (r : Option xV) M1 => ∃ a : Int, r = some (xi a) ∧ Wc 105 [xr 42] M1 (fun r' M2 => r' = some (xi a) ∧ RR M2)) (some (xi (M 16 3 - 1))) M1 := fun M1 h0 f e16 hset => by
    refine ⟨_, rfl, ?_⟩
    have f42 : M1 42 = M 42 := f 42 (by omega) (by omega) (by omega)
    refine q9_undo (by rw [f42, h7]; exact hk) (fun h1 => ?_) (fun _ M2 e47 e7 g1 g2 => ⟨?_, ?_⟩)
    · rw [f42, h7] at h1; omega
    · rw [f42, h7]
    · rw [f42, h7] at e7
      rw [f42, h7, f 48 (by omega) (by omega) (by omega)] at e47
      have k1 : ∀ k, k ≠ 7 → M2 42 k = M 42 k := fun k hk => by rw [g2 k hk, f42]
      have c2 : ∀ d : Nat, d ≠ 42 → d ≠ 47 → d ≠ 16 → d ≠ 8 → d ≠ 9 → M2 d = M d := fun d a b c e e' => (g1 d a b).trans (f d c e e')
      have c16 : ∀ k, M2 16 k = M1 16 k := fun k => by rw [g1 16 (by omega) (by omega)]
      have eJ : ∀ j, 0 ≤ j → j < 7 → kJ M (M 16 3 - 1) j = M2 47 j := fun j j0 j1 => by
        rw [e47 j j0 j1]
        exact if_pos (by omega)
      have e162 : M2 16 3 = M 16 3 - 1 := by rw [c16]; exact e16
      have hJ : ∀ i, 0 ≤ i → i ≤ M 16 3 - 1 → ∀ j, 0 ≤ j → j < 7 → kJ M i j = kJ M2 i j := fun i i0 i1 j j0 j1 => by
        by_cases hi : i = M 16 3 - 1
        · rw [hi, eJ j j0 j1]
          exact (if_neg (by omega)).symm
        · unfold kJ
          rw [if_pos (by omega), if_pos (by omega), c2 48 (by omega) (by omega) (by omega) (by omega) (by omega)]
      have hv2 : vI (w 0 2) (M2 47) := vI_c hw3.2 eJ (hvl (M 16 3 - 1) (by omega) (by omega))
      refine RR_mk (w := w) ⟨hw, kT_x hT (c2 4 (by omega) (by omega) (by omega) (by omega) (by omega)) (c2 5 (by omega) (by omega) (by omega) (by omega) (by omega)) (c2 6 (by omega) (by omega) (by omega) (by omega) (by omega)) (c2 7 (by omega) (by omega) (by omega) (by omega) (by omega)) (c2 44 (by omega) (by omega) (by omega) (by omega) (by omega)), ⟨fun q a b => ?_, ?_, ?_, hv2⟩, kL_x hL (by rw [c2 1 (by omega) (by omega) (by omega) (by omega) (by omega)]) (c2 2 (by omega) (by omega) (by omega) (by omega) (by omega)) (k1 1 (by omega)) (c2 43 (by omega) (by omega) (by omega) (by omega) (by omega)), ⟨by omega, by omega, fun i i0 i1 => ?_, fun i i0 i1 => ?_⟩, kK_x hK (by rw [c2 20 (by omega) (by omega) (by omega) (by omega) (by omega)]) (c2 22 (by omega) (by omega) (by omega) (by omega) (by omega)) (c2 23 (by omega) (by omega) (by omega) (by omega) (by omega)) (c2 24 (by omega) (by omega) (by omega) (by omega) (by omega)) (c2 25 (by omega) (by omega) (by omega) (by omega) (by omega)) (k1 9 (by omega)) (c2 49 (by omega) (by omega) (by omega) (by omega) (by omega)), kQ_x hQ (by rw [c2 26 (by omega) (by omega) (by omega) (by omega) (by omega)]) (c2 27 (by omega) (by omega) (by omega) (by omega) (by omega)) (c2 28 (by omega) (by omega) (by omega) (by omega) (by omega)) (c2 29 (by omega) (by omega) (by omega) (by omega) (by omega)) (k1 11 (by omega)) (c2 50 (by omega) (by omega) (by omega) (by omega) (by omega)), by rw [k1 20 (by omega)]; exact h20, by rw [k1 22 (by omega)]; exact h22⟩
      · rw [g1 9 (by omega) (by omega), hset.1 q a b]; exact eJ q a (by omega)
      · rw [g1 8 (by omega) (by omega), hset.2.1]; exact eJ 5 (by omega) (by omega)
      · rw [g1 8 (by omega) (by omega), hset.2.2]; exact eJ 6 (by omega) (by omega)
      · rw [c2 17 (by omega) (by omega) (by omega) (by omega) (by omega), c2 18 (by omega) (by omega) (by omega) (by omega) (by omega), c2 19 (by omega) (by omega) (by omega) (by omega) (by omega)]
        exact dI_c hw3.2 (hJ i i0 (by omega)) (hJ (i + 1) (by omega) (by omega)) (hdl i i0 (by omega))
      · exact vI_c hw3.2 (hJ i i0 (by omega)) (hvl i i0 (by omega))
  refine q8_undo hk (fun h0 => ⟨_, rfl, q9_undo (by rw [h7]; exact hk) (fun _ => ⟨rfl, w, h⟩) (fun h1 => ?_)⟩) (fun h0 => ?_) (fun h0 h17 => ?_) (fun h0 h17 => ?_) (fun h0 h17 => ?_)
  · rw [h7] at h1; omega
  · rcases hlast h0 with ⟨x, y, z⟩ | ⟨x, z⟩ | ⟨x, z⟩ <;> constructor <;> omega
  · refine key _ h0 (fun d a b c => by rw [xup_ne c, xup_ne a]) (by rw [xup_ne (by omega), xup_self]) ?_
    rcases hlast h0 with ⟨x, y, z⟩ | ⟨x, z⟩ | ⟨x, z⟩
    · refine ⟨fun p p0 p1 => ?_, ?_, ?_⟩
      · rw [xup_at, xup_ne (by omega), z p (Or.inl ⟨p0, p1⟩)]
        split
        · rfl
        · exact hS.1 p p0 p1
      · rw [xup_ne (by omega), xup_ne (by omega), z 5 (Or.inr (Or.inl rfl)), if_neg (by omega)]; exact hS.2.1
      · rw [xup_ne (by omega), xup_ne (by omega), z 6 (Or.inr (Or.inr rfl)), if_neg (by omega)]; exact hS.2.2.1
    · omega
    · omega
  · refine key _ h0 (fun d a b c => by rw [xup_ne b, xup_ne a]) (by rw [xup_ne (by omega), xup_self]) ?_
    rcases hlast h0 with ⟨x, y, z⟩ | ⟨x, z⟩ | ⟨x, z⟩
    · omega
    · refine ⟨fun p p0 p1 => ?_, ?_, ?_⟩
      · rw [xup_ne (by omega), xup_ne (by omega), z p (Or.inl ⟨p0, p1⟩), if_neg (by omega)]; exact hS.1 p p0 p1
      · rw [xup_self, z 5 (Or.inr (Or.inl rfl)), if_pos rfl, hS.2.1]
      · rw [xup_k (by omega), xup_ne (by omega), z 6 (Or.inr (Or.inr rfl)), if_neg (by omega)]; exact hS.2.2.1
    · omega
  · refine key _ h0 (fun d a b c => by rw [xup_ne b, xup_ne a]) (by rw [xup_ne (by omega), xup_self]) ?_
    rcases hlast h0 with ⟨x, y, z⟩ | ⟨x, z⟩ | ⟨x, z⟩
    · omega
    · omega
    · refine ⟨fun p p0 p1 => ?_, ?_, ?_⟩
      · rw [xup_ne (by omega), xup_ne (by omega), z p (Or.inl ⟨p0, p1⟩), if_neg (by omega)]; exact hS.1 p p0 p1
      · rw [xup_k (by omega), xup_ne (by omega), z 5 (Or.inr (Or.inl rfl)), if_neg (by omega)]; exact hS.2.1
      · rw [xup_self, z 6 (Or.inr (Or.inr rfl)), if_pos rfl, hS.2.2.1]
theorem kB_c {d e : Nat} {o : Int} (hP : P ≤ 5) (h : kB P M d e o) (ed : M' d = M d) (ee : M' e = M e) (e49 : ∀ j, 0 ≤ j → j < 7 → M' 49 (o + j) = M 49 (o + j)) : kB P M' d e o := by
  obtain ⟨h1, h2, h3, h4⟩ := h
  refine ⟨fun p a b => ?_, ?_, ?_, vI_c hP (fun j a b => (e49 j a b).symm) h4⟩
  · rw [ee, e49 p a (by omega)]; exact h1 p a b
  · rw [ed, e49 5 (by omega) (by omega)]; exact h2
  · rw [ed, e49 6 (by omega) (by omega)]; exact h3
theorem st_keep (hR : RR M) : St 69 129 [] M := by
  obtain ⟨w, h⟩ := hR
  obtain ⟨⟨hw, hT, hS, hL, hC, hK, hQ, h20, h22⟩, hB, hR⟩ := id h
  have hw3 := hw.2.2.1
  obtain ⟨hk, h9, hA, hE⟩ := id hK
  refine q8_keep hk (fun h0 => ⟨_, rfl, q9_keep (by rw [h9]; exact hk) (fun _ => ⟨rfl, w, h⟩) (fun h1 => ?_)⟩) (fun h0 M1 d e hde e9 ed1 ed2 e20 hf => ⟨_, rfl, ?_⟩)
  · rw [h9] at h1; omega
  · have hd : 22 ≤ d ∧ d ≤ 25 ∧ 22 ≤ e ∧ e ≤ 25 := by omega
    have f : ∀ c : Nat, c < 20 ∨ c = 21 ∨ 25 < c → M1 c = M c := fun c hc => hf c (by omega) (by omega) (by omega)
    have f42 : M1 42 = M 42 := f 42 (by omega)
    refine q9_keep (by rw [f42, h9]; exact hk) (fun h1 => ?_) (fun _ M2 p1 p2 e42 g1 g2 => ⟨?_, ?_⟩)
    · rw [f42, h9] at h1; omega
    · rw [f42, h9]
    · rw [f42, h9] at p1 p2 e42
      rw [f 49 (by omega)] at p2
      rw [f 47 (by omega)] at p1
      have k1 : ∀ k, k ≠ 9 → M2 42 k = M 42 k := fun k hk => by rw [g2 k hk, f42]
      have c2 : ∀ c : Nat, (c < 20 ∨ 25 < c) → c ≠ 42 → c ≠ 49 → M2 c = M c := fun c a b b' => (g1 c b b').trans (f c (by omega))
      have g : ∀ c : Nat, c < 42 → M2 c = M1 c := fun c hc => g1 c (by omega) (by omega)
      have e202 : M2 20 1 = M 20 1 + 1 := by rw [g 20 (by omega)]; exact e20
      have hnew : kB (w 0 2) M2 d e (7 * M 20 1) := by
        refine ⟨fun p a b => ?_, ?_, ?_, vI_c hw3.2 (fun j a b => (p1 j a b).symm) hS.2.2.2⟩
        · rw [g e (by omega), e9 p a (by omega), p1 p a (by omega)]; exact hS.1 p a b
        · rw [g d (by omega), ed1, p1 5 (by omega) (by omega)]; exact hS.2.1
        · rw [g d (by omega), ed2, p1 6 (by omega) (by omega)]; exact hS.2.2.1
      refine RR_mk (w := w) ⟨hw, kT_x hT (c2 4 (by omega) (by omega) (by omega)) (c2 5 (by omega) (by omega) (by omega)) (c2 6 (by omega) (by omega) (by omega)) (c2 7 (by omega) (by omega) (by omega)) (c2 44 (by omega) (by omega) (by omega)), kS_x hS (c2 8 (by omega) (by omega) (by omega)) (c2 9 (by omega) (by omega) (by omega)) (c2 47 (by omega) (by omega) (by omega)), kL_x hL (by rw [c2 1 (by omega) (by omega) (by omega)]) (c2 2 (by omega) (by omega) (by omega)) (k1 1 (by omega)) (c2 43 (by omega) (by omega) (by omega)), kC_x hC (by rw [c2 16 (by omega) (by omega) (by omega)]) (c2 17 (by omega) (by omega) (by omega)) (c2 18 (by omega) (by omega) (by omega)) (c2 19 (by omega) (by omega) (by omega)) (k1 7 (by omega)) (c2 47 (by omega) (by omega) (by omega)) (c2 48 (by omega) (by omega) (by omega)), ⟨by omega, by omega, fun _ => ?_, fun h2 => ?_⟩, kQ_x hQ (by rw [c2 26 (by omega) (by omega) (by omega)]) (c2 27 (by omega) (by omega) (by omega)) (c2 28 (by omega) (by omega) (by omega)) (c2 29 (by omega) (by omega) (by omega)) (k1 11 (by omega)) (c2 50 (by omega) (by omega) (by omega)), by rw [k1 20 (by omega)]; exact h20, by rw [k1 22 (by omega)]; exact h22⟩
      · rcases hde with ⟨rfl, rfl, hz⟩ | ⟨rfl, rfl, hz⟩
        · rw [hz] at hnew; exact hnew
        · refine kB_c hw3.2 (hA (by omega)) ?_ ?_ (fun j j0 j1 => p2 (0 + j) (by omega))
          · rw [g 22 (by omega)]; exact hf 22 (by omega) (by omega) (by omega)
          · rw [g 23 (by omega)]; exact hf 23 (by omega) (by omega) (by omega)
      · rcases hde with ⟨rfl, rfl, hz⟩ | ⟨rfl, rfl, hz⟩
        · omega
        · rw [hz] at hnew; exact hnew
theorem st_back (hR : RR M) : St 70 130 [] M := by
  obtain ⟨w, h⟩ := hR
  obtain ⟨⟨hw, hT, hS, hL, hC, hK, hQ, h20, h22⟩, hB, hR⟩ := id h
  have hw3 := hw.2.2.1
  obtain ⟨hk, h9, hA, hE⟩ := id hK
  refine q8_back hk (fun h0 => ⟨_, rfl, q9_back (by rw [h9]; exact hk) (fun _ => ⟨rfl, w, h⟩) (fun h1 => ?_)⟩) (fun h0 M1 d e hde e9 ed1 ed2 e20 e16 hf => ⟨_, rfl, ?_⟩)
  · rw [h9] at h1; omega
  · have hb : kB (w 0 2) M d e (7 * (M 20 1 - 1)) := by
      rcases hde with ⟨rfl, rfl, hz⟩ | ⟨rfl, rfl, hz⟩
      · rw [hz]; exact hA h0
      · rw [hz]; exact hE (by omega)
    have f : ∀ c : Nat, c ≠ 8 → c ≠ 9 → c ≠ 20 → c ≠ 16 → M1 c = M c := fun c a b a' b' => hf c a b a' b'
    have f42 : M1 42 = M 42 := f 42 (by omega) (by omega) (by omega) (by omega)
    refine q9_back (by rw [f42, h9]; exact hk) (fun h1 => ?_) (fun _ M2 e47 e42 e7 g1 g2 => ⟨?_, ?_⟩)
    · rw [f42, h9] at h1; omega
    · rw [f42, h9]
    · rw [f42, h9] at e47 e42
      rw [f 49 (by omega) (by omega) (by omega) (by omega)] at e47
      have k1 : ∀ k, k ≠ 7 → k ≠ 9 → M2 42 k = M 42 k := fun k a b => by rw [g2 k a b, f42]
      have c2 : ∀ c : Nat, (c ≠ 8 ∧ c ≠ 9 ∧ c ≠ 20) → c ≠ 16 → (c ≠ 42 ∧ c ≠ 47) → M2 c = M c := fun c a b b' => (g1 c b'.1 b'.2).trans (f c a.1 a.2.1 a.2.2 b)
      have g : ∀ c : Nat, c < 42 → M2 c = M1 c := fun c hc => g1 c (by omega) (by omega)
      have e202 : M2 20 1 = M 20 1 - 1 := by rw [g 20 (by omega)]; exact e20
      have e162 : M2 16 3 = 0 := by rw [g 16 (by omega)]; exact e16
      have hv2 : vI (w 0 2) (M2 47) := vI_c hw3.2 (fun j a b => (e47 j a b).symm) hb.2.2.2
      refine RR_mk (w := w) ⟨hw, kT_x hT (c2 4 (by omega) (by omega) (by omega)) (c2 5 (by omega) (by omega) (by omega)) (c2 6 (by omega) (by omega) (by omega)) (c2 7 (by omega) (by omega) (by omega)) (c2 44 (by omega) (by omega) (by omega)), ⟨fun p a b => ?_, ?_, ?_, hv2⟩, kL_x hL (by rw [c2 1 (by omega) (by omega) (by omega)]) (c2 2 (by omega) (by omega) (by omega)) (k1 1 (by omega) (by omega)) (c2 43 (by omega) (by omega) (by omega)), ⟨by omega, by omega, fun i i0 i1 => by omega, fun i i0 i1 => by omega⟩, ⟨by omega, by omega, fun h1 => ?_, fun h2 => by omega⟩, kQ_x hQ (by rw [c2 26 (by omega) (by omega) (by omega)]) (c2 27 (by omega) (by omega) (by omega)) (c2 28 (by omega) (by omega) (by omega)) (c2 29 (by omega) (by omega) (by omega)) (k1 11 (by omega) (by omega)) (c2 50 (by omega) (by omega) (by omega)), by rw [k1 20 (by omega) (by omega)]; exact h20, by rw [k1 22 (by omega) (by omega)]; exact h22⟩
      · rw [g 9 (by omega), e9 p a (by omega), e47 p a (by omega)]; exact hb.1 p a b
      · rw [g 8 (by omega), ed1, e47 5 (by omega) (by omega)]; exact hb.2.1
      · rw [g 8 (by omega), ed2, e47 6 (by omega) (by omega)]; exact hb.2.2.1
      · exact kB_x (hA (by omega)) (c2 22 (by omega) (by omega) (by omega)) (c2 23 (by omega) (by omega) (by omega)) (c2 49 (by omega) (by omega) (by omega))
theorem st_came {t s d : Int} (ht : xG t) (hs : xG s) (hd : d = 0 ∨ d = 1) (hR : RR M) : St 62 121 [xi t, xi s, xi d] M := by
  obtain ⟨w, h⟩ := hR
  obtain ⟨⟨hw, hT, hS, hL, hC, hK, hQ, h20, h22⟩, hB, hR⟩ := id h
  obtain ⟨⟨hk, hq⟩, h11, h50⟩ := id hQ
  refine q8_came ht hs hd hw hB hk (fun hno => ⟨_, rfl, ?_⟩) (fun hy h6 => ⟨_, rfl, ?_⟩) (fun hy h6 => ⟨_, rfl, ?_⟩)
  · exact q9_came ht hs hd hw hT.2.1 (by rw [h11]; exact hk) (fun _ => ⟨rfl, w, h⟩) (fun hy => absurd hy hno) (fun hy => absurd hy hno)
  · exact q9_came ht hs hd hw hT.2.1 (by rw [h11]; exact hk) (fun hno => absurd hy hno) (fun _ _ => ⟨rfl, w, h⟩) (fun _ h7 => by rw [h11] at h7; omega)
  · generalize hM1 : xup (xup (xup (xup M 27 (M 26 3) t) 28 (M 26 3) s) 29 (M 26 3) d) 26 3 (M 26 3 + 1) = M1
    have f : ∀ c : Nat, (c < 26 ∨ 29 < c) → M1 c = M c := fun c hc => by
      rw [← hM1, xup_ne (by omega), xup_ne (by omega), xup_ne (by omega), xup_ne (by omega)]
    have f42 : M1 42 = M 42 := f 42 (by omega)
    have f26 : M1 26 3 = M 26 3 + 1 := by rw [← hM1, xup_self]
    have f27 : ∀ i, M1 27 i = if i = M 26 3 then t else M 27 i := fun i => by rw [← hM1, xup_ne (by omega), xup_ne (by omega), xup_ne (by omega), xup_at]
    have f28 : ∀ i, M1 28 i = if i = M 26 3 then s else M 28 i := fun i => by rw [← hM1, xup_ne (by omega), xup_ne (by omega), xup_at, xup_ne (by omega)]
    have f29 : ∀ i, M1 29 i = if i = M 26 3 then d else M 29 i := fun i => by rw [← hM1, xup_ne (by omega), xup_at, xup_ne (by omega), xup_ne (by omega)]
    refine q9_came ht hs hd hw (rT_F hT.2.1 (f 44 (by omega))) (by rw [f42, h11]; exact hk) (fun hno => absurd hy hno) (fun _ h7 => by rw [f42, h11] at h7; omega) (fun _ _ => ⟨?_, ?_⟩)
    · rw [f42, h11]
    · rw [f42, h11]
      generalize hM2 : xup (xup M1 50 (M 26 3) (1000 * t + 10 * s + d)) 42 11 (M 26 3 + 1) = M2
      have g : ∀ c : Nat, c ≠ 42 → c ≠ 50 → M2 c = M1 c := fun c a b => by rw [← hM2, xup_ne a, xup_ne b]
      have k1 : ∀ k, k ≠ 11 → M2 42 k = M 42 k := fun k a => by rw [← hM2, xup_k a, xup_ne (by omega), f42]
      have c2 : ∀ c : Nat, (c < 26 ∨ 29 < c) → c ≠ 42 → c ≠ 50 → M2 c = M c := fun c a b b' => (g c b b').trans (f c a)
      refine RR_mk (w := w) ⟨hw, kT_x hT (c2 4 (by omega) (by omega) (by omega)) (c2 5 (by omega) (by omega) (by omega)) (c2 6 (by omega) (by omega) (by omega)) (c2 7 (by omega) (by omega) (by omega)) (c2 44 (by omega) (by omega) (by omega)), kS_x hS (c2 8 (by omega) (by omega) (by omega)) (c2 9 (by omega) (by omega) (by omega)) (c2 47 (by omega) (by omega) (by omega)), kL_x hL (by rw [c2 1 (by omega) (by omega) (by omega)]) (c2 2 (by omega) (by omega) (by omega)) (k1 1 (by omega)) (c2 43 (by omega) (by omega) (by omega)), kC_x hC (by rw [c2 16 (by omega) (by omega) (by omega)]) (c2 17 (by omega) (by omega) (by omega)) (c2 18 (by omega) (by omega) (by omega)) (c2 19 (by omega) (by omega) (by omega)) (k1 7 (by omega)) (c2 47 (by omega) (by omega) (by omega)) (c2 48 (by omega) (by omega) (by omega)), kK_x hK (by rw [c2 20 (by omega) (by omega) (by omega)]) (c2 22 (by omega) (by omega) (by omega)) (c2 23 (by omega) (by omega) (by omega)) (c2 24 (by omega) (by omega) (by omega)) (c2 25 (by omega) (by omega) (by omega)) (k1 9 (by omega)) (c2 49 (by omega) (by omega) (by omega)), ?_, by rw [k1 20 (by omega)]; exact h20, by rw [k1 22 (by omega)]; exact h22⟩
      have e26 : M2 26 3 = M 26 3 + 1 := by rw [g 26 (by omega) (by omega)]; exact f26
      have e11 : M2 42 11 = M 26 3 + 1 := by rw [← hM2, xup_self]
      have e50 : ∀ i, M2 50 i = if i = M 26 3 then 1000 * t + 10 * s + d else M 50 i := fun i => by rw [← hM2, xup_ne (by omega), xup_at, f 50 (by omega)]
      refine ⟨⟨by omega, fun i i0 i1 => ?_⟩, by omega, fun i i0 i1 => ?_⟩
      · rw [g 27 (by omega) (by omega), g 28 (by omega) (by omega), g 29 (by omega) (by omega), f27, f28, f29]
        by_cases hi : i = M 26 3
        · rw [if_pos hi, if_pos hi, if_pos hi]
          exact ⟨hy.1, hy.2, hd⟩
        · rw [if_neg hi, if_neg hi, if_neg hi]
          exact hq i i0 (by omega)
      · rw [g 27 (by omega) (by omega), g 28 (by omega) (by omega), g 29 (by omega) (by omega), f27, f28, f29, e50]
        by_cases hi : i = M 26 3
        · rw [if_pos hi, if_pos hi, if_pos hi, if_pos hi]
        · rw [if_neg hi, if_neg hi, if_neg hi, if_neg hi]
          exact h50 i i0 (by omega)
theorem st_forget (hR : RR M) : St 63 122 [] M := by
  obtain ⟨w, h⟩ := hR
  obtain ⟨⟨hw, hT, hS, hL, hC, hK, hQ, h20, h22⟩, hB, hR⟩ := id h
  refine q8_forget ⟨_, rfl, q9_forget ⟨?_, ?_⟩⟩
  · rw [xup_ne (by omega), hQ.2.1]
  · generalize hM2 : xup (xup M 26 3 0) 42 11 0 = M2
    have c2 : ∀ c : Nat, c ≠ 26 → c ≠ 42 → M2 c = M c := fun c a b => by rw [← hM2, xup_ne b, xup_ne a]
    have k1 : ∀ k, k ≠ 11 → M2 42 k = M 42 k := fun k a => by rw [← hM2, xup_k a, xup_ne (by omega)]
    have e26 : M2 26 3 = 0 := by rw [← hM2, xup_ne (by omega), xup_self]
    have e11 : M2 42 11 = 0 := by rw [← hM2, xup_self]
    exact RR_mk (w := w) ⟨hw, kT_x hT (c2 4 (by omega) (by omega)) (c2 5 (by omega) (by omega)) (c2 6 (by omega) (by omega)) (c2 7 (by omega) (by omega)) (c2 44 (by omega) (by omega)), kS_x hS (c2 8 (by omega) (by omega)) (c2 9 (by omega) (by omega)) (c2 47 (by omega) (by omega)), kL_x hL (by rw [c2 1 (by omega) (by omega)]) (c2 2 (by omega) (by omega)) (k1 1 (by omega)) (c2 43 (by omega) (by omega)), kC_x hC (by rw [c2 16 (by omega) (by omega)]) (c2 17 (by omega) (by omega)) (c2 18 (by omega) (by omega)) (c2 19 (by omega) (by omega)) (k1 7 (by omega)) (c2 47 (by omega) (by omega)) (c2 48 (by omega) (by omega)), kK_x hK (by rw [c2 20 (by omega) (by omega)]) (c2 22 (by omega) (by omega)) (c2 23 (by omega) (by omega)) (c2 24 (by omega) (by omega)) (c2 25 (by omega) (by omega)) (k1 9 (by omega)) (c2 49 (by omega) (by omega)), ⟨⟨by omega, fun i i0 i1 => by omega⟩, by omega, fun i i0 i1 => by omega⟩, by rw [k1 20 (by omega)]; exact h20, by rw [k1 22 (by omega)]; exact h22⟩
end STEPS3
