/-! a call on both: letters, texts -/
section STEPS4
variable {w M M' : xM} {P a b c : Int}
theorem st_write {x : Int} (hx : xG x) (hR : RR M) : St 45 84 [xi x] M := by
  obtain ⟨w, h⟩ := hR
  obtain ⟨⟨hw, hT, hS, hL, hC, hK, hQ, h20, h22⟩, hB, hR⟩ := id h
  obtain ⟨⟨hn, hl, hg⟩, h1, h43⟩ := id hL
  refine q8_write hx hL.1 (fun hno => ⟨_, rfl, ?_⟩) (fun hy h2 => ⟨_, rfl, ?_⟩) (fun hy h2 => ⟨_, rfl, ?_⟩)
  · exact q9_write hx (by rw [h1]; exact hn) (fun _ => ⟨rfl, w, h⟩) (fun hy => absurd hy hno) (fun hy => absurd hy hno)
  · exact q9_write hx (by rw [h1]; exact hn) (fun hno => absurd hy hno) (fun _ _ => ⟨rfl, w, h⟩) (fun _ h3 => by rw [h1] at h3; omega)
  · generalize hM1 : xup (xup M 2 (M 1 2) x) 1 2 (M 1 2 + 1) = M1
    have f : ∀ c : Nat, c ≠ 1 → c ≠ 2 → M1 c = M c := fun c a b => by rw [← hM1, xup_ne a, xup_ne b]
    have f42 : M1 42 = M 42 := f 42 (by omega) (by omega)
    have f1 : M1 1 2 = M 1 2 + 1 := by rw [← hM1, xup_self]
    have f2 : ∀ i, M1 2 i = if i = M 1 2 then x else M 2 i := fun i => by rw [← hM1, xup_ne (by omega), xup_at]
    refine q9_write hx (by rw [f42, h1]; exact hn) (fun hno => absurd hy hno) (fun _ h3 => by rw [f42, h1] at h3; omega) (fun _ _ => ⟨?_, ?_⟩)
    · rw [f42, h1]
    · rw [f42, h1]
      generalize hM2 : xup (xup M1 43 (M 1 2) x) 42 1 (M 1 2 + 1) = M2
      have g : ∀ c : Nat, c ≠ 42 → c ≠ 43 → M2 c = M1 c := fun c a b => by rw [← hM2, xup_ne a, xup_ne b]
      have k1 : ∀ k, k ≠ 1 → M2 42 k = M 42 k := fun k a => by rw [← hM2, xup_k a, xup_ne (by omega), f42]
      have c2 : ∀ c : Nat, (c ≠ 1 ∧ c ≠ 2) → c ≠ 42 → c ≠ 43 → M2 c = M c := fun c a b b' => (g c b b').trans (f c a.1 a.2)
      have e1 : M2 1 2 = M 1 2 + 1 := by rw [g 1 (by omega) (by omega)]; exact f1
      have e42 : M2 42 1 = M 1 2 + 1 := by rw [← hM2, xup_self]
      have e2 : ∀ i, M2 2 i = if i = M 1 2 then x else M 2 i := fun i => by rw [g 2 (by omega) (by omega)]; exact f2 i
      have e43 : ∀ i, M2 43 i = if i = M 1 2 then x else M 43 i := fun i => by rw [← hM2, xup_ne (by omega), xup_at, f 43 (by omega) (by omega)]
      refine RR_mk (w := w) ⟨hw, kT_x hT (c2 4 (by omega) (by omega) (by omega)) (c2 5 (by omega) (by omega) (by omega)) (c2 6 (by omega) (by omega) (by omega)) (c2 7 (by omega) (by omega) (by omega)) (c2 44 (by omega) (by omega) (by omega)), kS_x hS (c2 8 (by omega) (by omega) (by omega)) (c2 9 (by omega) (by omega) (by omega)) (c2 47 (by omega) (by omega) (by omega)), ⟨⟨by omega, fun i i0 i1 => ?_, fun i => ?_⟩, by omega, fun i i0 i1 => ?_⟩, kC_x hC (by rw [c2 16 (by omega) (by omega) (by omega)]) (c2 17 (by omega) (by omega) (by omega)) (c2 18 (by omega) (by omega) (by omega)) (c2 19 (by omega) (by omega) (by omega)) (k1 7 (by omega)) (c2 47 (by omega) (by omega) (by omega)) (c2 48 (by omega) (by omega) (by omega)), kK_x hK (by rw [c2 20 (by omega) (by omega) (by omega)]) (c2 22 (by omega) (by omega) (by omega)) (c2 23 (by omega) (by omega) (by omega)) (c2 24 (by omega) (by omega) (by omega)) (c2 25 (by omega) (by omega) (by omega)) (k1 9 (by omega)) (c2 49 (by omega) (by omega) (by omega)), kQ_x hQ (by rw [c2 26 (by omega) (by omega) (by omega)]) (c2 27 (by omega) (by omega) (by omega)) (c2 28 (by omega) (by omega) (by omega)) (c2 29 (by omega) (by omega) (by omega)) (k1 11 (by omega)) (c2 50 (by omega) (by omega) (by omega)), by rw [k1 20 (by omega)]; exact h20, by rw [k1 22 (by omega)]; exact h22⟩
      · rw [e2]
        by_cases hi : i = M 1 2
        · rw [if_pos hi]; exact hy
        · rw [if_neg hi]; exact hl i i0 (by omega)
      · rw [e2]
        split
        · exact hx
        · exact hg i
      · rw [e2, e43]
        by_cases hi : i = M 1 2
        · rw [if_pos hi, if_pos hi]
        · rw [if_neg hi, if_neg hi]; exact h43 i i0 (by omega)
theorem st_wipe (hR : RR M) : St 46 85 [] M := by
  obtain ⟨w, h⟩ := hR
  obtain ⟨⟨hw, hT, hS, hL, hC, hK, hQ, h20, h22⟩, hB, hR⟩ := id h
  refine q8_wipe hL.1 ⟨_, rfl, q9_wipe ⟨?_, ?_⟩⟩
  · rw [xup_ne (by omega), hL.2.1]
  · generalize hM2 : xup (xup M 1 2 0) 42 1 0 = M2
    have c2 : ∀ c : Nat, c ≠ 1 → c ≠ 42 → M2 c = M c := fun c a b => by rw [← hM2, xup_ne b, xup_ne a]
    have k1 : ∀ k, k ≠ 1 → M2 42 k = M 42 k := fun k a => by rw [← hM2, xup_k a, xup_ne (by omega)]
    have e1 : M2 1 2 = 0 := by rw [← hM2, xup_ne (by omega), xup_self]
    have e42 : M2 42 1 = 0 := by rw [← hM2, xup_self]
    refine RR_mk (w := w) ⟨hw, kT_x hT (c2 4 (by omega) (by omega)) (c2 5 (by omega) (by omega)) (c2 6 (by omega) (by omega)) (c2 7 (by omega) (by omega)) (c2 44 (by omega) (by omega)), kS_x hS (c2 8 (by omega) (by omega)) (c2 9 (by omega) (by omega)) (c2 47 (by omega) (by omega)), ⟨⟨by omega, fun i i0 i1 => by omega, ?_⟩, by omega, fun i i0 i1 => by omega⟩, kC_x hC (by rw [c2 16 (by omega) (by omega)]) (c2 17 (by omega) (by omega)) (c2 18 (by omega) (by omega)) (c2 19 (by omega) (by omega)) (k1 7 (by omega)) (c2 47 (by omega) (by omega)) (c2 48 (by omega) (by omega)), kK_x hK (by rw [c2 20 (by omega) (by omega)]) (c2 22 (by omega) (by omega)) (c2 23 (by omega) (by omega)) (c2 24 (by omega) (by omega)) (c2 25 (by omega) (by omega)) (k1 9 (by omega)) (c2 49 (by omega) (by omega)), kQ_x hQ (by rw [c2 26 (by omega) (by omega)]) (c2 27 (by omega) (by omega)) (c2 28 (by omega) (by omega)) (c2 29 (by omega) (by omega)) (k1 11 (by omega)) (c2 50 (by omega) (by omega)), by rw [k1 20 (by omega)]; exact h20, by rw [k1 22 (by omega)]; exact h22⟩
    rw [c2 2 (by omega) (by omega)]
    exact hL.1.2.2
theorem rW_L (hL : kL M) : rW M := by
  obtain ⟨⟨hn, hl, hg⟩, h1, h43⟩ := hL
  refine ⟨by rw [h1]; exact hn, fun i i0 i1 => ?_⟩
  rw [h1] at i1
  rw [h43 i i0 i1]
  exact hl i i0 i1
theorem qRes_p (hL : kL M) : qRes M = pRes M := by
  unfold qRes pRes
  rw [hL.2.1]
  exact pAll_c hL.2.2 200 0 1 pW0 (by omega)
/-- reading alone: the text's place and the drafts move -/
theorem RR_read {M1 M2 : xM} (h : RRw w M) (f : tX10 M M1) (g : rB M1 M2) : RR M2 := by
  obtain ⟨hw, hT, hS, hL, hC, hK, hQ, h20, h22⟩ := h
  have c2 : ∀ c : Nat, c ≠ 1 → c ≠ 3 → (c < 10 ∨ 15 < c) → (c ≠ 42 ∧ c ≠ 45 ∧ c ≠ 46) → M2 c = M c := fun c a b d e => (g.1 c e.1 e.2.1 e.2.2).trans (f.1 c a b d)
  have k1 : ∀ k, k ≠ 12 → M2 42 k = M 42 k := fun k a => by rw [g.2 k a, f.1 42 (by omega) (by omega) (by omega)]
  have e1 : M2 1 2 = M 1 2 := by rw [g.1 1 (by omega) (by omega) (by omega)]; exact f.2
  exact RR_mk (w := w) ⟨hw, kT_x hT (c2 4 (by omega) (by omega) (by omega) (by omega)) (c2 5 (by omega) (by omega) (by omega) (by omega)) (c2 6 (by omega) (by omega) (by omega) (by omega)) (c2 7 (by omega) (by omega) (by omega) (by omega)) (c2 44 (by omega) (by omega) (by omega) (by omega)), kS_x hS (c2 8 (by omega) (by omega) (by omega) (by omega)) (c2 9 (by omega) (by omega) (by omega) (by omega)) (c2 47 (by omega) (by omega) (by omega) (by omega)), kL_x hL e1 (c2 2 (by omega) (by omega) (by omega) (by omega)) (k1 1 (by omega)) (c2 43 (by omega) (by omega) (by omega) (by omega)), kC_x hC (by rw [c2 16 (by omega) (by omega) (by omega) (by omega)]) (c2 17 (by omega) (by omega) (by omega) (by omega)) (c2 18 (by omega) (by omega) (by omega) (by omega)) (c2 19 (by omega) (by omega) (by omega) (by omega)) (k1 7 (by omega)) (c2 47 (by omega) (by omega) (by omega) (by omega)) (c2 48 (by omega) (by omega) (by omega) (by omega)), kK_x hK (by rw [c2 20 (by omega) (by omega) (by omega) (by omega)]) (c2 22 (by omega) (by omega) (by omega) (by omega)) (c2 23 (by omega) (by omega) (by omega) (by omega)) (c2 24 (by omega) (by omega) (by omega) (by omega)) (c2 25 (by omega) (by omega) (by omega) (by omega)) (k1 9 (by omega)) (c2 49 (by omega) (by omega) (by omega) (by omega)), kQ_x hQ (by rw [c2 26 (by omega) (by omega) (by omega) (by omega)]) (c2 27 (by omega) (by omega) (by omega) (by omega)) (c2 28 (by omega) (by omega) (by omega) (by omega)) (c2 29 (by omega) (by omega) (by omega) (by omega)) (k1 11 (by omega)) (c2 50 (by omega) (by omega) (by omega) (by omega)), by rw [k1 20 (by omega)]; exact h20, by rw [k1 22 (by omega)]; exact h22⟩
theorem kL_t {M1 : xM} (hL : kL M) (f : tX10 M M1) : kL M1 := kL_x hL f.2 (f.1 2 (by omega) (by omega) (by omega)) (by rw [f.1 42 (by omega) (by omega) (by omega)]) (f.1 43 (by omega) (by omega) (by omega))
theorem pRes_x {M1 : xM} (e2 : M1 2 = M 2) (e1 : M1 1 2 = M 1 2) : pRes M1 = pRes M := by
  unfold pRes
  rw [e1, e2]
theorem st_fault (hR : RR M) : St 47 95 [] M := by
  obtain ⟨w, h⟩ := hR
  have hL := h.1.2.2.2.1
  refine q8_fault hL.1 (fun M1 f => ⟨_, rfl, ?_⟩)
  have hL1 := kL_t hL f
  refine q9_fault (rW_L hL1) (fun M2 g => ⟨?_, RR_read h.1 f g⟩)
  rw [qRes_p hL1, pRes_x (f.1 2 (by omega) (by omega) (by omega)) f.2]
theorem st_lay (hR : RR M) : St 48 97 [] M := by
  obtain ⟨w, h⟩ := hR
  have hL := h.1.2.2.2.1
  refine q8_lay hL.1 (fun M1 hno f => ⟨_, rfl, ?_⟩) (fun M1 hy hC4 e16 e20 e26 f => ⟨_, rfl, ?_⟩)
  · have hL1 := kL_t hL f
    have eq : qRes M1 = pRes M := by rw [qRes_p hL1, pRes_x (f.1 2 (by omega) (by omega) (by omega)) f.2]
    refine q9_lay (rW_L hL1) (fun M2 _ g => ⟨rfl, RR_read h.1 f g⟩) (fun M2 hy => ?_)
    rw [eq] at hy
    exact absurd hy hno
  · obtain ⟨f1, f2⟩ := f
    have f42 : M1 42 = M 42 := f1 42 (by omega)
    have hL1 : kL M1 := kL_x hL f2 (f1 2 (by omega)) (by rw [f42]) (f1 43 (by omega))
    have eq : qRes M1 = pRes M := by rw [qRes_p hL1, pRes_x (f1 2 (by omega)) f2]
    have hzW : zW (pRes M).2 := pAll_V (L := M 2) (n := M 1 2) 200 0 1 pW0 pV_0
    have hsB : sB ((pRes M).2 0 3) := pAll_sB (L := M 2) (n := M 1 2) 200 0 1 pW0 pV_0 (by
      show sB (if (0 : Nat) = 0 ∧ (3 : Int) = 0 then 12 else 0)
      rw [if_neg (by omega)]
      exact sB_0)
    refine q9_lay (rW_L hL1) (fun M2 hno => ?_) (fun M2 _ hT2 hS2 e475 e427 e429 e4211 g => ⟨?_, ?_⟩)
    · rw [eq] at hno
      exact absurd hy hno
    · rw [eq]
    · rw [eq] at hT2 hS2
      obtain ⟨g1, g2⟩ := g
      generalize (pRes M).2 = v at *
      obtain ⟨t0, t1, t2, t3, t4, t5, t6, t7, t8⟩ := hC4
      have g : ∀ c : Nat, c < 42 → M2 c = M1 c := fun c hc => g1 c (by omega)
      have k1 : ∀ k, k ≠ 7 → k ≠ 9 → k ≠ 11 → k ≠ 12 → M2 42 k = M 42 k := fun k a b c d => by rw [g2 k a b c d, f42]
      have z16 : M2 16 3 = 0 := by rw [g 16 (by omega)]; exact e16
      have z20 : M2 20 1 = 0 := by rw [g 20 (by omega)]; exact e20
      have z26 : M2 26 3 = 0 := by rw [g 26 (by omega)]; exact e26
      obtain ⟨⟨hw, hT, hS, hL, hC, hK, hQ, h20, h22⟩, hB, hR⟩ := id h
      refine RR_mk (w := v) ⟨hzW, ⟨?_, hT2, fun p a b => ?_⟩, ⟨fun p a b => ?_, ?_, ?_, fun p a b => ?_, ?_, ?_⟩, kL_x hL1 (by rw [g 1 (by omega)]) (g 2 (by omega)) (g2 1 (by omega) (by omega) (by omega) (by omega)) (g1 43 (by omega)), ⟨by omega, by omega, fun i i0 i1 => by omega, fun i i0 i1 => by omega⟩, ⟨by omega, by omega, fun x => by omega, fun x => by omega⟩, ⟨⟨by omega, fun i i0 i1 => by omega⟩, by omega, fun i i0 i1 => by omega⟩, by rw [k1 20 (by omega) (by omega) (by omega) (by omega)]; exact h20, by rw [k1 22 (by omega) (by omega) (by omega) (by omega)]; exact h22⟩
      · unfold cL
        rw [g 4 (by omega), g 5 (by omega), g 6 (by omega)]
        exact ⟨t0, t1, t2, t3, t6, fun p a b => (t7 p a b).1⟩
      · rw [g 7 (by omega), g 4 (by omega)]
        exact (t7 p a b).2.2
      · rw [g 9 (by omega), hS2.1 p a b]
        exact (t7 p a b).2.1
      · rw [g 8 (by omega), e475]; exact t4
      · rw [g 8 (by omega), hS2.2]; exact t5
      · rw [hS2.1 p a b]
        exact (hzW.2.2.2.2.1 p a b).2.1
      · rw [e475]; exact ⟨by decide, sB_0⟩
      · rw [hS2.2]; exact ⟨hzW.2.2.2.2.2.1, hsB⟩
end STEPS4
