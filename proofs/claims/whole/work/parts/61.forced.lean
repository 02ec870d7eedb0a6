/-! more passing places: the first full cell must be among them -/
section FORCED
variable {w w' z z' : xM} {h : Int → Int → Int}
/-- told alike, but for the passing places -/
def eqP (w w' : xM) : Prop := (∀ c : Nat, c ≠ 0 → w c = w' c) ∧ (∀ k, k ≠ 3 → w 0 k = w' 0 k)
def suP (w w' : xM) : Prop := ∀ x, 0 ≤ x → x < w 0 0 → xbt (w 0 3) x ≤ xbt (w' 0 3) x
theorem eP_nx {p : Int} (e : eqP w w') : zNx w z p = zNx w' z p := by unfold zNx; rw [e.2 0 (by decide)]
theorem eP_oth {p x : Int} (e : eqP w w') : zOth w z p x = zOth w' z p x := by unfold zOth; rw [e.2 2 (by decide)]
theorem eP_all {x : Int} (e : eqP w w') : zAll w z x = zAll w' z x := by unfold zAll; rw [e.2 2 (by decide)]
theorem eP_tr {x : Int} (e : eqP w w') : zTr w x = zTr w' x := by unfold zTr; rw [e.2 1 (by decide), e.1 1 (by decide)]
theorem eP_in {s p : Int} (e : eqP w w') : zIn w z s p = zIn w' z s p := by unfold zIn; rw [eP_nx e, eP_tr e]
theorem eP_wa {s p : Int} (e : eqP w w') : zWa w h z s p = zWa w' h z s p := by unfold zWa; rw [e.1 3 (by decide), e.1 2 (by decide)]
theorem eP_wet {p : Int} (e : eqP w w') : zWet w z p = zWet w' z p := by unfold zWet; rw [e.2 4 (by decide), eP_all e]
theorem eP_we (e : eqP w w') : ∀ n : Nat, zWe w z n = zWe w' z n
  | 0 => rfl
  | n + 1 => by rw [zWe, zWe, eP_we e n, eP_wet e]
/-- waits only grow; the first full cell stays -/
def gr6 (z z1 : xM) : Prop := z 6 0 ≤ z1 6 0 ∧ (0 < z 6 0 → z1 6 1 = z 6 1)
theorem gr6_rf : gr6 z z := ⟨Int.le_refl _, fun _ => rfl⟩
theorem gr6_tr {z1 z2 : xM} (h1 : gr6 z z1) (h2 : gr6 z1 z2) : gr6 z z2 := ⟨Int.le_trans h1.1 h2.1, fun h => (h2.2 (by have := h1.1; omega)).trans (h1.2 h)⟩
theorem gr6_in {s p : Int} : gr6 z (zIn w z s p) := by
  have e : zIn w z s p 6 = z 6 := by unfold zIn; rw [xup_ne (by omega), xup_ne (by omega), xup_ne (by omega)]
  unfold gr6
  rw [e]
  exact ⟨Int.le_refl _, fun _ => rfl⟩
theorem gr6_wt {p : Int} : gr6 z (zWt w (zNo w z p) p) ∧ (zWt w (zNo w z p) p) 6 0 = z 6 0 + 1 ∧ (z 6 0 = 0 → (zWt w (zNo w z p) p) 6 1 = zNx w z p) := by
  have e0 : (zWt w (zNo w z p) p) 6 0 = z 6 0 + 1 := by simp [zWt, zNo, xup_app]
  have e1 : (zWt w (zNo w z p) p) 6 1 = if z 6 0 = 0 then zNx w z p else z 6 1 := by simp [zWt, zNo, xup_app]
  refine ⟨⟨by omega, fun hp => by rw [e1, if_neg (by omega)]⟩, e0, fun hp => by rw [e1, if_pos hp]⟩
theorem gr6_mv {s p : Int} : gr6 z (zMv w z s p) := by
  unfold zMv
  split
  · exact gr6_wt.1
  · split
    · split
      · exact gr6_tr gr6_in gr6_wt.1
      · exact gr6_tr gr6_in gr6_in
    · exact gr6_in
theorem gr6_one {s p : Int} : gr6 z (zOne w h s z p) := by
  unfold zOne
  split
  · exact gr6_mv
  · exact gr6_rf
/-- both runs: alike as long as none waits; then the cell is free in the second, or that one waits too -/
def inP (w w' z z' : xM) : Prop := (z = z' ∧ z 6 0 = 0) ∨ (0 < z 6 0 ∧ ((xbt (w 0 3) (z 6 1) = 0 ∧ xbt (w' 0 3) (z 6 1) = 1) ∨ 0 < z' 6 0))
theorem inP_gr {z1 z1' : xM} (hI : 0 < z 6 0 ∧ ((xbt (w 0 3) (z 6 1) = 0 ∧ xbt (w' 0 3) (z 6 1) = 1) ∨ 0 < z' 6 0)) (h1 : gr6 z z1) (h2 : gr6 z' z1') : inP w w' z1 z1' := by
  refine Or.inr ⟨by have := h1.1; omega, ?_⟩
  rcases hI.2 with a | a
  · rw [h1.2 hI.1]; exact Or.inl a
  · exact Or.inr (by have := h2.1; omega)
theorem inP_bl {p : Int} (e : eqP w w') (hsu : suP w w') (hn : 0 ≤ zNx w z p ∧ zNx w z p < w 0 0) (h0 : z 6 0 = 0) (hb : zBl w z p = true) {z1' : xM} (hz : z1' = (if zBl w' z p then zWt w' (zNo w' z p) p else z1')) : inP w w' (zWt w (zNo w z p) p) z1' := by
  obtain ⟨g1, g2, g3⟩ := gr6_wt (w := w) (z := z) (p := p)
  refine Or.inr ⟨by omega, ?_⟩
  rw [g3 h0]
  by_cases hb' : zBl w' z p = true
  · rw [if_pos hb'] at hz
    obtain ⟨k1, k2, k3⟩ := gr6_wt (w := w') (z := z) (p := p)
    exact Or.inr (by rw [hz]; omega)
  · refine Or.inl ?_
    have b1 := of_decide_eq_true hb
    have b2 : ¬ xbt (w' 0 3) (zNx w' z p) < zOth w' z p (zNx w' z p) := fun y => hb' (decide_eq_true y)
    rw [← eP_nx e, ← eP_oth e] at b2
    obtain ⟨x, hx⟩ : ∃ x : Nat, zNx w z p = x := ⟨(zNx w z p).toNat, by omega⟩
    by_cases hx32 : x < 32
    · have c1 := xbt_01 (b := w 0 3) hx32
      have c2 := xbt_01 (b := w' 0 3) hx32
      rw [hx] at b1 b2 ⊢
      omega
    · have := hsu (zNx w z p) hn.1 hn.2
      have c1 : ∀ b k, xbt b k = 0 ∨ xbt b k = 1 := fun b k => by
        have h1 : ∀ y : Int32, (y &&& 1).toInt = 0 ∨ (y &&& 1).toInt = 1 := fun y => by
          have := (xbt_01 (b := y.toInt) (p := 0) (by omega))
          have e0 : xbt y.toInt ((0 : Nat) : Int) = (y &&& 1).toInt := by
            unfold xbt xand xshr
            simp
          rw [e0] at this
          exact this
        exact h1 _
      have c2 := c1 (w 0 3) (zNx w z p)
      have c3 := c1 (w' 0 3) (zNx w z p)
      omega
theorem nbl_su {p : Int} (e : eqP w w') (hsu : suP w w') (hn : 0 ≤ zNx w z p ∧ zNx w z p < w 0 0) (hb : ¬ zBl w z p = true) : ¬ zBl w' z p = true := by
  intro hb'
  have b1 := of_decide_eq_true hb'
  rw [← eP_nx e, ← eP_oth e] at b1
  have := hsu _ hn.1 hn.2
  exact hb (decide_eq_true (by omega))
theorem inP_mv {s p b : Int} (hw : zW w) (hv : zV w z b) (hp : 0 ≤ p ∧ p < w 0 2) (hs : 0 ≤ s ∧ s ≤ 60) (e : eqP w w') (hsu : suP w w') (h0 : z 6 0 = 0) : inP w w' (zMv w z s p) (zMv w' z s p) := by
  have hn := zNx_rng hw hv hp
  by_cases hb : zBl w z p = true
  · have em : zMv w z s p = zWt w (zNo w z p) p := by unfold zMv; rw [if_pos hb]
    rw [em]
    refine inP_bl e hsu ⟨hn.1, hn.2.1⟩ h0 hb ?_
    by_cases hb' : zBl w' z p = true
    · rw [if_pos hb']; unfold zMv; rw [if_pos hb']
    · rw [if_neg hb']
  · have hb' := nbl_su e hsu ⟨hn.1, hn.2.1⟩ hb
    by_cases hk : w 2 p = 4
    · have hk' : w' 2 p = 4 := by rw [← e.1 2 (by decide)]; exact hk
      have hv2 : zV w (zIn w z s p) b := zIn_V hw hv hp hs
      have hn2 := zNx_rng hw hv2 hp
      have h02 : zIn w z s p 6 0 = 0 := by
        have : zIn w z s p 6 = z 6 := by unfold zIn; rw [xup_ne (by omega), xup_ne (by omega), xup_ne (by omega)]
        rw [this]; exact h0
      have em : zMv w z s p = if zBl w (zIn w z s p) p then zWt w (zNo w (zIn w z s p) p) p else zIn w (zIn w z s p) s p := by
        conv => lhs; unfold zMv
        rw [if_neg hb, if_pos hk]
      have em' : zMv w' z s p = if zBl w' (zIn w z s p) p then zWt w' (zNo w' (zIn w z s p) p) p else zIn w' (zIn w z s p) s p := by
        conv => lhs; unfold zMv
        rw [if_neg hb', if_pos hk', ← eP_in e]
      rw [em, em']
      by_cases hb2 : zBl w (zIn w z s p) p = true
      · rw [if_pos hb2]
        refine inP_bl e hsu ⟨hn2.1, hn2.2.1⟩ h02 hb2 ?_
        by_cases hb3 : zBl w' (zIn w z s p) p = true
        · rw [if_pos hb3, if_pos hb3]
        · rw [if_neg hb3, if_neg hb3]
      · have hb3 := nbl_su e hsu ⟨hn2.1, hn2.2.1⟩ hb2
        rw [if_neg hb2, if_neg hb3, eP_in e]
        refine Or.inl ⟨rfl, ?_⟩
        rw [← eP_in e]
        have : zIn w (zIn w z s p) s p 6 = zIn w z s p 6 := by rw [zIn, xup_ne (by omega), xup_ne (by omega), xup_ne (by omega)]
        rw [this]; exact h02
    · have hk' : ¬ w' 2 p = 4 := by rw [← e.1 2 (by decide)]; exact hk
      have em : zMv w z s p = zIn w z s p := by unfold zMv; rw [if_neg hb, if_neg hk]
      have em' : zMv w' z s p = zIn w z s p := by unfold zMv; rw [if_neg hb', if_neg hk', ← eP_in e]
      rw [em, em']
      refine Or.inl ⟨rfl, ?_⟩
      have : zIn w z s p 6 = z 6 := by unfold zIn; rw [xup_ne (by omega), xup_ne (by omega), xup_ne (by omega)]
      rw [this]; exact h0
theorem inP_one {s p b : Int} (hw : zW w) (hv : zV w z b) (hp : 0 ≤ p ∧ p < w 0 2) (hs : 0 ≤ s ∧ s ≤ 60) (e : eqP w w') (hsu : suP w w') (hI : inP w w' z z') : inP w w' (zOne w h s z p) (zOne w' h s z' p) := by
  rcases hI with ⟨rfl, h0⟩ | hI
  · unfold zOne
    rw [← eP_wa e]
    split
    · exact inP_mv hw hv hp hs e hsu h0
    · exact Or.inl ⟨rfl, h0⟩
  · exact inP_gr hI gr6_one gr6_one
theorem inP_pl {s b : Int} (hw : zW w) (hv : zV w z b) (hs : 0 ≤ s ∧ s ≤ 60) (e : eqP w w') (hsu : suP w w') (hI : inP w w' z z') : ∀ n : Nat, (n : Int) ≤ w 0 2 → inP w w' (zPl w h s z n) (zPl w' h s z' n)
  | 0, _ => hI
  | n + 1, hn => inP_one (b := b + n) hw (zPl_V hw hv hs n (by omega)) (by omega) hs e hsu (inP_pl hw hv hs e hsu hI n (by omega))
theorem inP_st {s b : Int} (hw : zW w) (hv : zV w z b) (hs : 0 ≤ s ∧ s ≤ 60) (e : eqP w w') (hsu : suP w w') (hI : inP w w' z z') : inP w w' (zSt w h s z) (zSt w' h s z') := by
  have hw3 := hw.2.2.1
  have hi := inP_pl (h := h) hw hv hs e hsu hI (w 0 2).toNat (by omega)
  unfold zSt
  rw [← e.2 2 (by decide)]
  have e6 : ∀ (w z : xM) (n : Nat), zWe w z n 6 = z 6 := fun w z n => by funext k; exact zWe_at n 6 k (by omega)
  rcases hi with ⟨h1, h2⟩ | hi
  · rw [← h1, eP_we e]
    exact Or.inl ⟨rfl, by rw [e6]; exact h2⟩
  · exact inP_gr hi ⟨by rw [e6]; exact Int.le_refl _, fun _ => by rw [e6]⟩ ⟨by rw [e6]; exact Int.le_refl _, fun _ => by rw [e6]⟩
theorem inP_R (hw : zW w) (e : eqP w w') (hsu : suP w w') : ∀ n : Nat, n ≤ 60 → inP w w' (zR w h n) (zR w' h n)
  | 0, _ => Or.inl ⟨by
      funext c k
      show z0 w c k = z0 w' c k
      unfold z0
      rw [e.1 4 (by decide), e.1 5 (by decide)], rfl⟩
  | n + 1, hn => inP_st hw (zR_V hw n (by omega)) (by omega) e hsu (inP_R hw e hsu n (by omega))
/-- one that waits for nothing with more passing places: they hold the first full cell -/
theorem forced (hw : zW w) (e : eqP w w') (hsu : suP w w') (h0 : ¬ zR w h 60 6 0 = 0) (h0' : zR w' h 60 6 0 = 0) : xbt (w 0 3) (zR w h 60 6 1) = 0 ∧ xbt (w' 0 3) (zR w h 60 6 1) = 1 := by
  rcases inP_R (h := h) hw e hsu 60 (by omega) with ⟨h1, h2⟩ | ⟨h1, h2⟩
  · exact absurd h2 h0
  · rcases h2 with h2 | h2
    · exact h2
    · omega
end FORCED
