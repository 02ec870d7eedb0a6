/-! the reference: trips -/
section RTRIP
variable {w z y M : xM} {Q : Option xV → xM → Prop}
/-! what the class's three passes come to -/
theorem off1_41 {p : Int} : ∀ n : Nat, rOff1 w z p y n 41 = y 41
  | 0 => rfl
  | n + 1 => by
    rw [rOff1]
    split
    · rw [xup_ne (by omega)]; exact off1_41 n
    · exact off1_41 n
theorem off1_40 {p : Int} : ∀ (n : Nat) (t : Int), rOff1 w z p y n 40 t = if (0 ≤ t ∧ t < n) ∧ z 0 p = w 1 t then (if y 41 p < y 40 t then y 41 p else y 40 t) else y 40 t
  | 0, t => by rw [if_neg (by omega)]; rfl
  | n + 1, t => by
    have ih := off1_40 (p := p) n
    have e41 := off1_41 (w := w) (z := z) (y := y) (p := p) n
    rw [rOff1]
    by_cases hz : z 0 p = w 1 n
    · rw [if_pos hz, xup_app, e41, ih n, if_neg (show ¬ ((0 ≤ (n : Int) ∧ (n : Int) < n) ∧ z 0 p = w 1 n) by omega)]
      by_cases e : t = n
      · subst e
        have c : (0 ≤ (n : Int) ∧ (n : Int) < ((n + 1 : Nat) : Int)) ∧ z 0 p = w 1 n := ⟨by omega, hz⟩
        rw [if_pos ⟨rfl, rfl⟩, if_pos c]
      · rw [if_neg (fun x => e x.2), ih t]
        by_cases h : (0 ≤ t ∧ t < n) ∧ z 0 p = w 1 t
        · have c : (0 ≤ t ∧ t < ((n + 1 : Nat) : Int)) ∧ z 0 p = w 1 t := ⟨by omega, h.2⟩
          rw [if_pos h, if_pos c]
        · rw [if_neg h, if_neg (fun x => h ⟨by omega, x.2⟩)]
    · rw [if_neg hz, ih t]
      by_cases h : (0 ≤ t ∧ t < n) ∧ z 0 p = w 1 t
      · have c : (0 ≤ t ∧ t < ((n + 1 : Nat) : Int)) ∧ z 0 p = w 1 t := ⟨by omega, h.2⟩
        rw [if_pos h, if_pos c]
      · rw [if_neg h, if_neg]
        rintro ⟨x1, x2⟩
        by_cases e : t = n
        · rw [e] at x2; exact hz x2
        · exact h ⟨by omega, x2⟩
/-- the rows behind getting off: the 41st as it was, the 40th least over the edges -/
def oF (w z : xM) (y y' : xM) (n : Int) : Prop := y' 41 = y 41 ∧ ∀ t, 0 ≤ t → t < w 0 1 → y' 40 t ≤ y 40 t ∧ (∀ p, 0 ≤ p → p < n → z 0 p = w 1 t → y' 40 t ≤ y 41 p) ∧ (y' 40 t = y 40 t ∨ ∃ p, (0 ≤ p ∧ p < n) ∧ z 0 p = w 1 t ∧ y' 40 t = y 41 p)
theorem off_oF (hw : zW w) : ∀ n : Nat, oF w z y (rOff w z y n) n
  | 0 => ⟨rfl, fun t a b => ⟨Int.le_refl _, fun p a b => by omega, Or.inl rfl⟩⟩
  | n + 1 => by
    obtain ⟨i1, i2⟩ := off_oF hw n
    have hw2 := hw.2.1
    rw [rOff]
    refine ⟨by rw [off1_41]; exact i1, fun t a b => ?_⟩
    obtain ⟨j1, j2, j3⟩ := i2 t a b
    rw [off1_40]
    by_cases h : (0 ≤ t ∧ t < (w 0 1).toNat) ∧ z 0 n = w 1 t
    · rw [if_pos h, i1]
      by_cases hl : y 41 n < rOff w z y n 40 t
      · rw [if_pos hl]
        refine ⟨by omega, fun p c d e => ?_, Or.inr ⟨n, by omega, h.2, rfl⟩⟩
        by_cases ep : p = n
        · rw [ep]; exact Int.le_refl _
        · have := j2 p c (by omega) e; omega
      · rw [if_neg hl]
        refine ⟨j1, fun p c d e => ?_, ?_⟩
        · by_cases ep : p = n
          · rw [ep]; omega
          · exact j2 p c (by omega) e
        · rcases j3 with j | ⟨p, x1, x2, x3⟩
          · exact Or.inl j
          · exact Or.inr ⟨p, by omega, x2, x3⟩
    · rw [if_neg h]
      refine ⟨j1, fun p c d e => ?_, ?_⟩
      · by_cases ep : p = n
        · rw [ep] at e; exact absurd ⟨by omega, e⟩ h
        · exact j2 p c (by omega) e
      · rcases j3 with j | ⟨p, x1, x2, x3⟩
        · exact Or.inl j
        · exact Or.inr ⟨p, by omega, x2, x3⟩
theorem on1_40 {p : Int} : ∀ n : Nat, rOn1 w z p y n 40 = y 40
  | 0 => rfl
  | n + 1 => by
    rw [rOn1]
    split
    · rw [xup_ne (by omega)]; exact on1_40 n
    · exact on1_40 n
/-- one platform boarded: the least of what it had, and one more than each train there -/
theorem on1_41 {p : Int} : ∀ n : Nat, (∀ q, q ≠ p → rOn1 w z p y n 41 q = y 41 q) ∧ rOn1 w z p y n 41 p ≤ y 41 p ∧ (∀ t : Int, 0 ≤ t → t < (n : Int) → z 0 p = w 1 t → rOn1 w z p y n 41 p ≤ y 40 t + 1) ∧ (rOn1 w z p y n 41 p = y 41 p ∨ ∃ t : Int, (0 ≤ t ∧ t < (n : Int)) ∧ z 0 p = w 1 t ∧ rOn1 w z p y n 41 p = y 40 t + 1 ∧ y 40 t + 1 < y 41 p)
  | 0 => ⟨fun _ _ => rfl, Int.le_refl _, fun t a b => by omega, Or.inl rfl⟩
  | n + 1 => by
    obtain ⟨i1, i2, i3, i4⟩ := on1_41 (p := p) n
    have e40 := on1_40 (w := w) (z := z) (y := y) (p := p) n
    rw [rOn1]
    by_cases hz : z 0 p = w 1 n
    · rw [if_pos hz, e40]
      by_cases hl : y 40 n + 1 < rOn1 w z p y n 41 p
      · rw [if_pos hl]
        refine ⟨fun q hq => by rw [xup_k hq]; exact i1 q hq, by rw [xup_self]; omega, fun t a b e => ?_, ?_⟩
        · rw [xup_self]
          by_cases et : t = n
          · rw [et]; exact Int.le_refl _
          · have := i3 t a (by omega) e; omega
        · rw [xup_self]
          exact Or.inr ⟨n, by omega, hz, rfl, by omega⟩
      · rw [if_neg hl]
        refine ⟨fun q hq => by rw [xup_k hq]; exact i1 q hq, by rw [xup_self]; exact i2, fun t a b e => ?_, ?_⟩
        · rw [xup_self]
          by_cases et : t = n
          · rw [et]; omega
          · exact i3 t a (by omega) e
        · rw [xup_self]
          rcases i4 with j | ⟨t, x1, x2, x3⟩
          · exact Or.inl j
          · exact Or.inr ⟨t, by omega, x2, x3⟩
    · rw [if_neg hz]
      refine ⟨i1, i2, fun t a b e => ?_, ?_⟩
      · by_cases et : t = n
        · rw [et] at e; exact absurd e hz
        · exact i3 t a (by omega) e
      · rcases i4 with j | ⟨t, x1, x2, x3⟩
        · exact Or.inl j
        · exact Or.inr ⟨t, by omega, x2, x3⟩
def oN (w z : xM) (y y' : xM) (n : Int) : Prop := y' 40 = y 40 ∧ (∀ p, ¬ (0 ≤ p ∧ p < n) → y' 41 p = y 41 p) ∧ ∀ p, 0 ≤ p → p < n → y' 41 p ≤ y 41 p ∧ (∀ t, 0 ≤ t → t < w 0 1 → z 0 p = w 1 t → y' 41 p ≤ y 40 t + 1) ∧ (y' 41 p = y 41 p ∨ ∃ t, (0 ≤ t ∧ t < w 0 1) ∧ z 0 p = w 1 t ∧ y' 41 p = y 40 t + 1 ∧ y 40 t + 1 < y 41 p)
theorem on_oN (hw : zW w) : ∀ n : Nat, oN w z y (rOn w z y n) n
  | 0 => ⟨rfl, fun _ _ => rfl, fun p a b => by omega⟩
  | n + 1 => by
    obtain ⟨i1, i2, i3⟩ := on_oN hw n
    have hw2 := hw.2.1
    obtain ⟨k1, k2, k3, k4⟩ := on1_41 (w := w) (z := z) (y := rOn w z y n) (p := n) (w 0 1).toNat
    rw [rOn]
    refine ⟨by rw [on1_40]; exact i1, fun p hp => by rw [k1 p (by omega)]; exact i2 p (by omega), fun p a b => ?_⟩
    by_cases e : p = n
    · subst e
      rw [i2 n (by omega), i1] at k4
      rw [i2 n (by omega)] at k2
      refine ⟨k2, fun t c d f => by have := k3 t c (by omega) f; rw [i1] at this; exact this, ?_⟩
      rcases k4 with j | ⟨t, x1, x2, x3⟩
      · exact Or.inl j
      · exact Or.inr ⟨t, by omega, x2, x3⟩
    · rw [k1 p e]
      exact i3 p a (by omega)
/-- how the reference writes a number: 99 for what is not -/
def rPh (v : Int) : Int := if v = 1000000 then 99 else v
/-- the class's rows: small, or not reached -/
def rSm (w y : xM) (n : Int) : Prop := (∀ t, 0 ≤ t → t < w 0 1 → (0 ≤ y 40 t ∧ y 40 t ≤ n) ∨ y 40 t = 1000000) ∧ (∀ p, 0 ≤ p → p < w 0 2 → (0 ≤ y 41 p ∧ y 41 p ≤ n) ∨ y 41 p = 1000000)
theorem ch_all (hw : zW w) {n : Int} (hn : n ≤ 100) (hs : rSm w y n) : ∃ y1 y2 : xM, oF w z y y1 (w 0 2) ∧ oN w z y1 y2 (w 0 2) ∧ oF w z y2 (rCh w z y) (w 0 2) ∧ rSm w (rCh w z y) (n + 1) := by
  have hw3 := hw.2.2.1
  have e : ((w 0 2).toNat : Int) = w 0 2 := Int.toNat_of_nonneg hw3.1
  have h1 := off_oF (z := z) (y := y) hw (w 0 2).toNat
  rw [e] at h1
  have h2 := on_oN (z := z) (y := rOff w z y (w 0 2).toNat) hw (w 0 2).toNat
  rw [e] at h2
  have h3 := off_oF (z := z) (y := rOn w z (rOff w z y (w 0 2).toNat) (w 0 2).toNat) hw (w 0 2).toNat
  rw [e] at h3
  refine ⟨_, _, h1, h2, h3, ?_⟩
  have hr : rOff w z (rOn w z (rOff w z y (w 0 2).toNat) (w 0 2).toNat) (w 0 2).toNat = rCh w z y := rfl
  rw [hr] at h3
  generalize rOff w z y (w 0 2).toNat = y1 at *
  generalize rOn w z y1 (w 0 2).toNat = y2 at *
  have s1 : rSm w y1 n := ⟨fun t a b => by
    rcases (h1.2 t a b).2.2 with j | ⟨p, x1, x2, x3⟩
    · rw [j]; exact hs.1 t a b
    · rw [x3]; exact hs.2 p x1.1 x1.2, fun p a b => by rw [h1.1]; exact hs.2 p a b⟩
  have s2 : rSm w y2 (n + 1) := ⟨fun t a b => by
    rw [h2.1]
    rcases s1.1 t a b with j | j
    · exact Or.inl (by omega)
    · exact Or.inr j, fun p a b => by
    rcases (h2.2.2 p a b).2.2 with j | ⟨t, x1, x2, x3, x4⟩
    · rw [j]
      rcases s1.2 p a b with j | j
      · exact Or.inl (by omega)
      · exact Or.inr j
    · have := s1.1 t x1.1 x1.2
      have := s1.2 p a b
      rw [x3]
      omega⟩
  refine ⟨fun t a b => ?_, fun p a b => by rw [h3.1]; exact s2.2 p a b⟩
  rcases (h3.2 t a b).2.2 with j | ⟨p, x1, x2, x3⟩
  · rw [j]; exact s2.1 t a b
  · rw [x3]; exact s2.2 p x1.1 x1.2
/-- the end of the passes changes no more -/
theorem ch_fix (hw : zW w) {n : Int} (hn : n ≤ 90) (hs : rSm w y n) : (∀ t p, 0 ≤ t → t < w 0 1 → 0 ≤ p → p < w 0 2 → z 0 p = w 1 t → rPh (rCh w z y 40 t) ≤ rPh (rCh w z y 41 p) ∧ (rPh (rCh w z y 40 t) < 99 → rPh (rCh w z y 41 p) ≤ rPh (rCh w z y 40 t) + 1)) := by
  obtain ⟨y1, y2, h1, h2, h3, h4⟩ := ch_all (z := z) hw (by omega) hs
  intro t p a b c d e
  have f1 := (h3.2 t a b).2.1 p c d e
  have f2 : y2 41 p ≤ rCh w z y 40 t + 1 := by
    rcases (h3.2 t a b).2.2 with j | ⟨p', x1, x2, x3⟩
    · rw [j, h2.1]; exact (h2.2.2 p c d).2.1 t a b e
    · rw [x3]
      rcases (h2.2.2 p' x1.1 x1.2).2.2 with j | ⟨t', v1, v2, v3, v4⟩
      · have g1 := (h2.2.2 p c d).2.1 t a b e
        have g2 := (h1.2 t a b).2.1 p' x1.1 x1.2 x2
        rw [j, h1.1]
        omega
      · have g1 := (h2.2.2 p c d).2.1 t' v1.1 v1.2 (by rw [← v2, x2, ← e])
        omega
  have s4 := h4.1 t a b
  have s5 := h4.2 p c d
  rw [h3.1] at s5 ⊢
  unfold rPh
  constructor
  · split <;> split <;> omega
  · split <;> split <;> omega
end RTRIP
