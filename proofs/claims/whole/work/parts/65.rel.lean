/-! class and reference side by side: what holds between calls -/
theorem bindC {α β : Type} {o : Option α} {f g : α → Option β} (h : ∀ q, o = some q → f q = g q) : o.bind f = o.bind g := by
  cases o with
  | none => rfl
  | some q => exact h q rfl
theorem pN_c {L L' : Int → Int} {n a e : Int} (h : ∀ i, 0 ≤ i → i < n → L i = L' i) (ha : 0 ≤ a) : pN L n a e = pN L' n a e := by
  unfold pN
  by_cases h0 : a < n
  · rw [h a ha h0]
    by_cases h1 : a + 1 < n
    · rw [h (a + 1) (by omega) h1]
      by_cases h2 : a + 2 < n
      · rw [h (a + 2) (by omega) h2]
      · simp only [h2, false_and, if_false]
    · have h2 : ¬ a + 2 < n := by omega
      simp only [h1, false_and, if_false]
  · simp only [h0, false_and, if_false]
theorem pI_c {L L' : Int → Int} {n a o : Int} {w : xM} (h : ∀ i, 0 ≤ i → i < n → L i = L' i) (ha : 0 ≤ a) (hn : a < n) : pI L n a o w = pI L' n a o w := by
  have e44 : pN L n (a + 1) 44 = pN L' n (a + 1) 44 := pN_c h (by omega)
  have e59 : pN L n (a + 1) 59 = pN L' n (a + 1) 59 := pN_c h (by omega)
  have ea := h a ha hn
  unfold pI
  rw [ea, e44, e59]
  by_cases hp : L' a = 112
  · rw [if_pos hp, if_pos hp]
    refine bindC (fun q1 e1 => ?_)
    have r1 := pN_rng e1
    rw [pN_c (a := q1.2) (e := 44) h (by omega)]
    refine bindC (fun q2 e2 => ?_)
    have r2 := pN_rng e2
    rw [pN_c (a := q2.2) (e := 44) h (by omega)]
    refine bindC (fun q3 e3 => ?_)
    have r3 := pN_rng e3
    rw [pN_c (a := q3.2) (e := 59) h (by omega)]
  · rw [if_neg hp, if_neg hp]
    refine bindC (fun q1 e1 => ?_)
    unfold pI1
    rw [ea]
theorem pAll_c {L L' : Int → Int} {n : Int} (h : ∀ i, 0 ≤ i → i < n → L i = L' i) : ∀ (f : Nat) (a o : Int) (w : xM), 0 ≤ a → pAll L n f a o w = pAll L' n f a o w
  | 0, _, _, _, _ => rfl
  | f + 1, a, o, w, ha => by
    rw [pAll, pAll]
    by_cases hlt : a < n
    · rw [if_pos hlt, if_pos hlt, pI_c h ha hlt]
      cases hq : pI L' n a o w with
      | none => rfl
      | some q => exact pAll_c h f q.1 q.2.1 q.2.2 (by have := pI_next hq; omega)
    · rw [if_neg hlt, if_neg hlt]
theorem sB_or {v x : Int} (h : sB v) (hx : 0 ≤ x ∧ x < 24) : sB (xor_ v (xshl 1 x)) := fun k hk => by
  obtain ⟨p, rfl⟩ : ∃ p : Nat, x = p := ⟨x.toNat, by omega⟩
  rw [xt_or, h k hk, xt_shl1 (by omega), decide_eq_false (by omega)]; rfl
theorem sB_xor {v x : Int} (h : sB v) (hx : 0 ≤ x ∧ x < 24) : sB (xxor v (xshl 1 x)) := fun k hk => by
  obtain ⟨p, rfl⟩ : ∃ p : Nat, x = p := ⟨x.toNat, by omega⟩
  rw [xt_xor, h k hk, xt_shl1 (by omega), decide_eq_false (by omega)]; rfl
theorem xxor_2 {v b : Int} (hv : xG v) : xxor (xxor v b) b = v := xt_extG (xG_xor _ _) hv (fun k _ => by
  rw [xt_xor, xt_xor]
  cases xt v k <;> cases xt b k <;> rfl)
theorem sB_0 : sB 0 := fun k _ => xt_0 k
theorem pI_sB {L : Int → Int} {n a o : Int} {w : xM} {q : Int × Int × xM} (hw : zW w) (hb : sB (w 0 3)) (h : pI L n a o w = some q) : sB (q.2.2 0 3) := by
  have hw1 := hw.1
  unfold pI at h
  split at h
  · obtain ⟨q1, e1, h⟩ := Option.bind_eq_some_iff.mp h
    obtain ⟨q2, e2, h⟩ := Option.bind_eq_some_iff.mp h
    obtain ⟨q3, e3, h⟩ := Option.bind_eq_some_iff.mp h
    obtain ⟨q4, e4, h⟩ := Option.bind_eq_some_iff.mp h
    unfold pI4 at h
    split at h
    · cases h
      exact hb
    · cases h
  · obtain ⟨q1, e1, h⟩ := Option.bind_eq_some_iff.mp h
    unfold pI1 at h
    split at h
    · split at h
      · cases h; exact hb
      · cases h
    · split at h
      · split at h
        · cases h; exact hb
        · cases h
      · split at h
        · split at h
          · rename_i hx
            cases h
            show sB (xup w 0 3 (xor_ (w 0 3) (xshl 1 q1.1)) 0 3)
            rw [xup_self]
            exact sB_or hb (by omega)
          · cases h
        · split at h
          · split at h
            · cases h; exact hb
            · cases h
          · cases h
theorem pAll_sB {L : Int → Int} {n : Int} : ∀ (f : Nat) (a o : Int) (w : xM), pV o w → sB (w 0 3) → sB ((pAll L n f a o w).2 0 3)
  | 0, _, _, _, _, hb => hb
  | f + 1, a, o, w, hv, hb => by
    rw [pAll]
    by_cases hlt : a < n
    · rw [if_pos hlt]
      cases hq : pI L n a o w with
      | none => exact hb
      | some q => exact pAll_sB f q.1 q.2.1 q.2.2 (pI_V hv hq) (pI_sB hv.1 hb hq)
    · rw [if_neg hlt]; exact hb
section REL
variable {w M M' : xM} {P : Int}
/-- what is told, but for starts and passing places -/
def kT (w M : xM) : Prop := cL w M ∧ rT w M ∧ (∀ p, 0 ≤ p → p < w 0 2 → M 7 p = w 4 p ∧ xbt (M 4 3) p = w 5 p)
/-- an image: starts, who is held, passing places -/
def vI (P : Int) (f : Int → Int) : Prop := (∀ p, 0 ≤ p → p < P → 0 ≤ f p ∧ f p ≤ 30) ∧ (xG (f 5) ∧ sB (f 5)) ∧ (xG (f 6) ∧ sB (f 6))
def jX (P j : Int) : Prop := (0 ≤ j ∧ j < P) ∨ j = 5 ∨ j = 6
def kS (P : Int) (M : xM) : Prop := (∀ p, 0 ≤ p → p < P → M 9 p = M 47 p) ∧ M 8 1 = M 47 5 ∧ M 8 2 = M 47 6 ∧ vI P (M 47)
/-- the letters -/
def kL (M : xM) : Prop := tW M ∧ M 42 1 = M 1 2 ∧ ∀ i, 0 ≤ i → i < M 1 2 → M 43 i = M 2 i
/-- the images; behind the last what is now -/
def kJ (M : xM) (i j : Int) : Int := if i < M 16 3 then M 48 (7 * i + j) else M 47 j
/-- g undone is f -/
def dI (P a b c : Int) (f g : Int → Int) : Prop := (a = 0 ∧ (0 ≤ b ∧ b < P) ∧ ∀ j, jX P j → f j = if j = b then c else g j) ∨ (a = 1 ∧ ∀ j, jX P j → f j = if j = 5 then xxor (g 5) (xshl 1 b) else g j) ∨ (a = 2 ∧ ∀ j, jX P j → f j = if j = 6 then xxor (g 6) (xshl 1 b) else g j)
def kC (P : Int) (M : xM) : Prop := (0 ≤ M 16 3 ∧ M 16 3 ≤ 8) ∧ M 42 7 = M 16 3 ∧ (∀ i, 0 ≤ i → i < M 16 3 → dI P (M 17 i) (M 18 i) (M 19 i) (kJ M i) (kJ M (i + 1))) ∧ (∀ i, 0 ≤ i → i < M 16 3 → vI P (kJ M i))
/-- what is kept, in both -/
def kB (P : Int) (M : xM) (d e : Nat) (o : Int) : Prop := (∀ p, 0 ≤ p → p < P → M e p = M 49 (o + p)) ∧ M d 1 = M 49 (o + 5) ∧ M d 2 = M 49 (o + 6) ∧ vI P (fun j => M 49 (o + j))
def kK (P : Int) (M : xM) : Prop := (0 ≤ M 20 1 ∧ M 20 1 ≤ 2) ∧ M 42 9 = M 20 1 ∧ (0 < M 20 1 → kB P M 22 23 0) ∧ (1 < M 20 1 → kB P M 24 25 7)
def RRw (w M : xM) : Prop := zW w ∧ kT w M ∧ kS (w 0 2) M ∧ kL M ∧ kC (w 0 2) M ∧ kK (w 0 2) M ∧ kQ w M ∧ M 42 20 = -1 ∧ (0 ≤ M 42 22 ∧ M 42 22 ≤ 6)
def RR (M : xM) : Prop := ∃ w, RRw w M ∧ cB w M ∧ rK w M
def wS (w M : xM) : xM := fun c k => if c = 3 then M 47 k else if c = 0 ∧ k = 3 then M 47 6 else w c k
theorem RR_mk (h : RRw w M) : RR M := by
  obtain ⟨hw, hT, hS, hL, hC, hK, hQ, h20, h22⟩ := h
  have e0 : ∀ k : Int, k ≠ 3 → wS w M 0 k = w 0 k := fun k hk => by
    show (if (0 : Nat) = 3 then _ else if (0 : Nat) = 0 ∧ k = 3 then _ else _) = _
    rw [if_neg (by decide), if_neg (fun x => hk x.2)]
  have e1 : ∀ c : Nat, c ≠ 0 → c ≠ 3 → wS w M c = w c := fun c a b => by
    funext k
    show (if c = 3 then _ else if c = 0 ∧ k = 3 then _ else _) = _
    rw [if_neg b, if_neg (fun x => a x.1)]
  have e3 : ∀ k : Int, wS w M 3 k = M 47 k := fun k => if_pos rfl
  have e03 : wS w M 0 3 = M 47 6 := by
    show (if (0 : Nat) = 3 then _ else if (0 : Nat) = 0 ∧ (3 : Int) = 3 then _ else _) = _
    rw [if_neg (by decide), if_pos ⟨rfl, rfl⟩]
  have hw' : zW (wS w M) := by
    obtain ⟨a1, a2, a3, a4, a5, a6, a7⟩ := hw
    refine ⟨?_, ?_, ?_, ?_, ?_, ?_, ?_⟩
    · rw [e0 0 (by decide)]; exact a1
    · rw [e0 1 (by decide)]; exact a2
    · rw [e0 2 (by decide)]; exact a3
    · rw [e0 1 (by decide), e0 0 (by decide), e1 1 (by decide) (by decide)]; exact a4
    · rw [e0 2 (by decide), e0 0 (by decide), e1 2 (by decide) (by decide), e1 4 (by decide) (by decide), e1 5 (by decide) (by decide)]
      intro p h1 h2
      have h3 := a5 p h1 h2
      refine ⟨h3.1, ?_, h3.2.2⟩
      rw [e3]
      exact hS.2.2.2.1 p h1 h2
    · rw [e03]; exact hS.2.2.2.2.2.1
    · rw [e0 4 (by decide)]; exact a7
  have hT' : kT (wS w M) M := by
    unfold kT cL rT at hT ⊢
    rw [e0 0 (by decide), e0 1 (by decide), e0 2 (by decide), e0 4 (by decide), e1 1 (by decide) (by decide), e1 2 (by decide) (by decide), e1 4 (by decide) (by decide), e1 5 (by decide) (by decide)]
    exact hT
  have hQ' : kQ (wS w M) M := by
    unfold kQ cQ at hQ ⊢
    rw [e0 1 (by decide)]
    exact hQ
  refine ⟨wS w M, ⟨hw', hT', by rw [e0 2 (by decide)]; exact hS, hL, by rw [e0 2 (by decide)]; exact hC, by rw [e0 2 (by decide)]; exact hK, hQ', h20, h22⟩, ⟨hT'.1, by rw [e03]; exact hS.2.2.1, fun p a b => ?_⟩, hT'.2.1, ⟨fun p a b => (e3 p).symm, e03.symm⟩, h20, h22⟩
  refine ⟨?_, hT'.2.2 p a b⟩
  rw [e0 2 (by decide)] at b
  rw [e3]
  exact hS.1 p a b
theorem kT_x (h : kT w M) (e4 : M' 4 = M 4) (e5 : M' 5 = M 5) (e6 : M' 6 = M 6) (e7 : M' 7 = M 7) (e44 : M' 44 = M 44) : kT w M' := by
  unfold kT cL rT at h ⊢
  rw [e4, e5, e6, e7, e44]
  exact h
theorem kS_x (h : kS P M) (e8 : M' 8 = M 8) (e9 : M' 9 = M 9) (e47 : M' 47 = M 47) : kS P M' := by
  unfold kS at h ⊢
  rw [e8, e9, e47]
  exact h
theorem kL_x (h : kL M) (e1 : M' 1 2 = M 1 2) (e2 : M' 2 = M 2) (e42 : M' 42 1 = M 42 1) (e43 : M' 43 = M 43) : kL M' := by
  unfold kL tW at h ⊢
  rw [e1, e2, e42, e43]
  exact h
theorem kJ_x (e16 : M' 16 3 = M 16 3) (e47 : M' 47 = M 47) (e48 : M' 48 = M 48) : kJ M' = kJ M := by
  funext i j
  unfold kJ
  rw [e16, e47, e48]
theorem kC_x (h : kC P M) (e16 : M' 16 3 = M 16 3) (e17 : M' 17 = M 17) (e18 : M' 18 = M 18) (e19 : M' 19 = M 19) (e42 : M' 42 7 = M 42 7) (e47 : M' 47 = M 47) (e48 : M' 48 = M 48) : kC P M' := by
  unfold kC at h ⊢
  rw [kJ_x e16 e47 e48, e16, e17, e18, e19, e42]
  exact h
theorem kB_x {d e : Nat} {o : Int} (h : kB P M d e o) (ed : M' d = M d) (ee : M' e = M e) (e49 : M' 49 = M 49) : kB P M' d e o := by
  unfold kB at h ⊢
  rw [ed, ee, e49]
  exact h
theorem kK_x (h : kK P M) (e20 : M' 20 1 = M 20 1) (e22 : M' 22 = M 22) (e23 : M' 23 = M 23) (e24 : M' 24 = M 24) (e25 : M' 25 = M 25) (e42 : M' 42 9 = M 42 9) (e49 : M' 49 = M 49) : kK P M' := by
  obtain ⟨h1, h2, h3, h4⟩ := h
  refine ⟨by rw [e20]; exact h1, by rw [e20, e42]; exact h2, fun x => kB_x (h3 ?_) e22 e23 e49, fun x => kB_x (h4 ?_) e24 e25 e49⟩
  · rw [← e20]; exact x
  · rw [← e20]; exact x
theorem kQ_x (h : kQ w M) (e26 : M' 26 3 = M 26 3) (e27 : M' 27 = M 27) (e28 : M' 28 = M 28) (e29 : M' 29 = M 29) (e42 : M' 42 11 = M 42 11) (e50 : M' 50 = M 50) : kQ w M' := by
  unfold kQ cQ at h ⊢
  rw [e26, e27, e28, e29, e42, e50]
  exact h
theorem RR_c {M1 : xM} (h : RRw w M ∧ cB w M ∧ rK w M) (hf : rG M M1) : RRw w M1 ∧ cB w M1 ∧ rK w M1 := by
  obtain ⟨⟨hw, hT, hS, hL, hC, hK, hQ, h20, h22⟩, hB, hR⟩ := h
  have e42 : M1 42 = M 42 := hf 42 (by omega)
  refine ⟨⟨hw, kT_x hT (hf 4 (by omega)) (hf 5 (by omega)) (hf 6 (by omega)) (hf 7 (by omega)) (hf 44 (by omega)), kS_x hS (hf 8 (by omega)) (hf 9 (by omega)) (hf 47 (by omega)), kL_x hL (by rw [hf 1 (by omega)]) (hf 2 (by omega)) (by rw [e42]) (hf 43 (by omega)), kC_x hC (by rw [hf 16 (by omega)]) (hf 17 (by omega)) (hf 18 (by omega)) (hf 19 (by omega)) (by rw [e42]) (hf 47 (by omega)) (hf 48 (by omega)), kK_x hK (by rw [hf 20 (by omega)]) (hf 22 (by omega)) (hf 23 (by omega)) (hf 24 (by omega)) (hf 25 (by omega)) (by rw [e42]) (hf 49 (by omega)), kQ_x hQ (by rw [hf 26 (by omega)]) (hf 27 (by omega)) (hf 28 (by omega)) (hf 29 (by omega)) (by rw [e42]) (hf 50 (by omega)), by rw [e42]; exact h20, by rw [e42]; exact h22⟩, ?_, rT_F hR.1 (hf 44 (by omega)), rS_F hR.2.1 (hf 47 (by omega)), by rw [e42]; exact h20, by rw [e42]; exact h22⟩
  unfold cB cL at hB ⊢
  rw [hf 4 (by omega), hf 5 (by omega), hf 6 (by omega), hf 7 (by omega), hf 8 (by omega), hf 9 (by omega)]
  exact hB
theorem RR_r {M1 : xM} (h : RRw w M) (hg : gF M M1) : RR M1 := by
  obtain ⟨hw, hT, hS, hL, hC, hK, hQ, h20, h22⟩ := h
  obtain ⟨g1, g2, g3⟩ := hg
  have c : ∀ c : Nat, c < 42 ∨ (42 < c ∧ c < 51) → M1 c = M c := fun c hc => g1 c (by omega) (by omega)
  refine RR_mk (w := w) ⟨hw, kT_x hT (c 4 (by omega)) (c 5 (by omega)) (c 6 (by omega)) (c 7 (by omega)) (c 44 (by omega)), kS_x hS (c 8 (by omega)) (c 9 (by omega)) (c 47 (by omega)), kL_x hL (by rw [c 1 (by omega)]) (c 2 (by omega)) (g2 1 (by omega)) (c 43 (by omega)), kC_x hC (by rw [c 16 (by omega)]) (c 17 (by omega)) (c 18 (by omega)) (c 19 (by omega)) (g2 7 (by omega)) (c 47 (by omega)) (c 48 (by omega)), kK_x hK (by rw [c 20 (by omega)]) (c 22 (by omega)) (c 23 (by omega)) (c 24 (by omega)) (c 25 (by omega)) (g2 9 (by omega)) (c 49 (by omega)), kQ_x hQ (by rw [c 26 (by omega)]) (c 27 (by omega)) (c 28 (by omega)) (c 29 (by omega)) (g2 11 (by omega)) (c 50 (by omega)), by rw [g2 20 (by omega)]; exact h20, ?_⟩
  rcases g3 with g | g
  · rw [g]; exact h22
  · exact g
end REL
