/-! the steps, as numbers: w tells what is told (0: cells, trains, platforms, passing, rain; 1 where trains stand; 2 kinds; 3 starts; 4 first cells; 5 first ways), h who is held in a step, z how it is (0 at, 1 way, 2 went last, 3 called last, 4 waited, 5 wet, 6: waits, first full) -/
def zAll (w z : xM) (x : Int) : Int := xcn (fun q => decide (z 0 q = x)) (w 0 2).toNat
def zOth (w z : xM) (p x : Int) : Int := xcn (fun q => decide (¬ q = p ∧ z 0 q = x)) (w 0 2).toNat
def zTr (w : xM) (x : Int) : Int := xcn (fun t => decide (w 1 t = x)) (w 0 1).toNat
def zNx (w z : xM) (p : Int) : Int := xnext (w 0 0) (z 0 p) (z 1 p)
def zBl (w z : xM) (p : Int) : Bool := decide (xbt (w 0 3) (zNx w z p) < zOth w z p (zNx w z p))
def zIn (w z : xM) (s p : Int) : xM := xup (xup (xup z 0 p (zNx w z p)) 2 p s) 3 p (if 0 < zTr w (zNx w z p) then s else z 3 p)
def zNo (w z : xM) (p : Int) : xM := xup z 6 1 (if z 6 0 = 0 then zNx w z p else z 6 1)
def zGo (w z : xM) (s p : Int) : xM := if zBl w z p then zNo w z p else zIn w z s p
def zWt (w z : xM) (p : Int) : xM := xup (xup (xup z 4 p (z 4 p + 1)) 6 0 (z 6 0 + 1)) 1 p (if w 2 p = 3 then 1 - z 1 p else z 1 p)
def zMv (w z : xM) (s p : Int) : xM :=
  if zBl w z p then zWt w (zNo w z p) p
  else if w 2 p = 4 then (if zBl w (zIn w z s p) p then zWt w (zNo w (zIn w z s p) p) p else zIn w (zIn w z s p) s p)
  else zIn w z s p
def zWa (w : xM) (h : Int → Int → Int) (z : xM) (s p : Int) : Bool := decide (¬ h s p = 1 ∧ w 3 p ≤ s ∧ (w 2 p = 1 → s % 2 = 0) ∧ (w 2 p = 2 → ¬ z 3 p = s - 1))
def zOne (w : xM) (h : Int → Int → Int) (s : Int) (z : xM) (p : Int) : xM := if zWa w h z s p then zMv w z s p else z
def zPl (w : xM) (h : Int → Int → Int) (s : Int) (z : xM) : Nat → xM
  | 0 => z
  | n + 1 => zOne w h s (zPl w h s z n) n
def zWet (w z : xM) (p : Int) : Bool := decide (xbt (w 0 4) (z 0 p) = 1 ∧ zAll w z (z 0 p) = 1)
def zWe (w z : xM) : Nat → xM
  | 0 => z
  | n + 1 => xup (zWe w z n) 5 n (if zWet w z n then z 5 n + 1 else z 5 n)
def zSt (w : xM) (h : Int → Int → Int) (s : Int) (z : xM) : xM := zWe w (zPl w h s z (w 0 2).toNat) (w 0 2).toNat
def z0 (w : xM) : xM := fun c k => if c = 0 then w 4 k else if c = 1 then w 5 k else if c = 2 ∨ c = 3 then -4 else 0
def zR (w : xM) (h : Int → Int → Int) : Nat → xM
  | 0 => z0 w
  | n + 1 => zSt w h (n + 1 : Nat) (zR w h n)
/-- what is told is of the right size -/
def zW (w : xM) : Prop := (4 ≤ w 0 0 ∧ w 0 0 ≤ 24) ∧ (0 ≤ w 0 1 ∧ w 0 1 ≤ 5) ∧ (0 ≤ w 0 2 ∧ w 0 2 ≤ 5) ∧ (∀ t, 0 ≤ t → t < w 0 1 → 0 ≤ w 1 t ∧ w 1 t < w 0 0) ∧ (∀ p, 0 ≤ p → p < w 0 2 → (0 ≤ w 2 p ∧ w 2 p ≤ 4) ∧ (0 ≤ w 3 p ∧ w 3 p ≤ 30) ∧ (0 ≤ w 4 p ∧ w 4 p < w 0 0) ∧ (w 5 p = 0 ∨ w 5 p = 1)) ∧ xG (w 0 3) ∧ xG (w 0 4)
def zV (w z : xM) (b : Int) : Prop := (∀ p, 0 ≤ p → p < w 0 2 → (0 ≤ z 0 p ∧ z 0 p < w 0 0) ∧ (z 1 p = 0 ∨ z 1 p = 1) ∧ (-4 ≤ z 2 p ∧ z 2 p ≤ 60) ∧ (-4 ≤ z 3 p ∧ z 3 p ≤ 60) ∧ (0 ≤ z 4 p ∧ z 4 p ≤ b) ∧ (0 ≤ z 5 p ∧ z 5 p ≤ b)) ∧ (0 ≤ z 6 0 ∧ z 6 0 ≤ b) ∧ (0 ≤ z 6 1 ∧ z 6 1 < w 0 0)
theorem xnext_rng {N x d : Int} (hN : 4 ≤ N) (hx : 0 ≤ x ∧ x < N) : 0 ≤ xnext N x d ∧ xnext N x d < N ∧ xnext N x d ≠ x := by
  unfold xnext
  split <;> split <;> omega
theorem zNx_rng {w z : xM} {b p : Int} (hw : zW w) (hv : zV w z b) (hp : 0 ≤ p ∧ p < w 0 2) : 0 ≤ zNx w z p ∧ zNx w z p < w 0 0 ∧ zNx w z p ≠ z 0 p := xnext_rng hw.1.1 (hv.1 p hp.1 hp.2).1
theorem zOth_all {w z : xM} {p x : Int} (h : z 0 p ≠ x) : zOth w z p x = zAll w z x := by
  apply xcn_c
  intro k _
  by_cases hk : (k : Int) = p
  · simp [hk, h]
  · simp [hk]
theorem zIn_V {w z : xM} {b p s : Int} (hw : zW w) (hv : zV w z b) (hp : 0 ≤ p ∧ p < w 0 2) (hs : 0 ≤ s ∧ s ≤ 60) : zV w (zIn w z s p) b := by
  have hn := zNx_rng hw hv hp
  refine ⟨fun q h1 h2 => ?_, hv.2⟩
  have := hv.1 q h1 h2
  simp only [zIn, xup_app]
  by_cases hq : q = p
  · subst hq
    simp
    split <;> omega
  · simp [hq]
    omega
theorem zNo_V {w z : xM} {b p : Int} (hw : zW w) (hv : zV w z b) (hp : 0 ≤ p ∧ p < w 0 2) : zV w (zNo w z p) b := by
  have hn := zNx_rng hw hv hp
  refine ⟨fun q h1 h2 => ?_, ?_⟩
  · have := hv.1 q h1 h2
    simpa [zNo, xup_app] using this
  · have := hv.2
    simp only [zNo, xup_app]
    simp
    split <;> omega
theorem zWt_V {w z : xM} {b p : Int} (hv : zV w z b) (hp : 0 ≤ p ∧ p < w 0 2) : zV w (zWt w z p) (b + 1) := by
  refine ⟨fun q h1 h2 => ?_, ?_⟩
  · have := hv.1 q h1 h2
    simp only [zWt, xup_app]
    by_cases hq : q = p
    · subst hq
      simp
      split <;> omega
    · simp [hq]
      omega
  · have := hv.2
    simp only [zWt, xup_app]
    simp
    omega
theorem zV_up {w z : xM} {b b' : Int} (hv : zV w z b) (h : b ≤ b') : zV w z b' := ⟨fun p h1 h2 => by have := hv.1 p h1 h2; omega, by have := hv.2; omega⟩
theorem zGo_V {w z : xM} {b p s : Int} (hw : zW w) (hv : zV w z b) (hp : 0 ≤ p ∧ p < w 0 2) (hs : 0 ≤ s ∧ s ≤ 60) : zV w (zGo w z s p) b := by
  unfold zGo
  split
  · exact zNo_V hw hv hp
  · exact zIn_V hw hv hp hs
theorem zMv_V {w z : xM} {b p s : Int} (hw : zW w) (hv : zV w z b) (hp : 0 ≤ p ∧ p < w 0 2) (hs : 0 ≤ s ∧ s ≤ 60) : zV w (zMv w z s p) (b + 1) := by
  unfold zMv
  split
  · exact zWt_V (zNo_V hw hv hp) hp
  · split
    · split
      · exact zWt_V (zNo_V hw (zIn_V hw hv hp hs) hp) hp
      · exact zV_up (zIn_V hw (zIn_V hw hv hp hs) hp hs) (by omega)
    · exact zV_up (zIn_V hw hv hp hs) (by omega)
theorem zOne_V {w z : xM} {h : Int → Int → Int} {b p s : Int} (hw : zW w) (hv : zV w z b) (hp : 0 ≤ p ∧ p < w 0 2) (hs : 0 ≤ s ∧ s ≤ 60) : zV w (zOne w h s z p) (b + 1) := by
  unfold zOne
  split
  · exact zMv_V hw hv hp hs
  · exact zV_up hv (by omega)
theorem zPl_V {w z : xM} {h : Int → Int → Int} {b s : Int} (hw : zW w) (hv : zV w z b) (hs : 0 ≤ s ∧ s ≤ 60) : ∀ n : Nat, (n : Int) ≤ w 0 2 → zV w (zPl w h s z n) (b + n)
  | 0, _ => by simpa [zPl] using hv
  | n + 1, hn => by
    have := zOne_V (h := h) hw (zPl_V (h := h) hw hv hs n (by omega)) (p := n) (by omega) hs
    exact zV_up this (by omega)
theorem zWe_at {w z : xM} : ∀ (n : Nat) (c : Nat) (k : Int), c ≠ 5 → zWe w z n c k = z c k
  | 0, _, _, _ => rfl
  | n + 1, c, k, h => by
    rw [zWe, xup_app, if_neg (fun q => h q.1)]
    exact zWe_at n c k h
theorem zWe_5 {w z : xM} : ∀ (n : Nat) (k : Int), 0 ≤ k → zWe w z n 5 k = if k < n ∧ zWet w z k = true then z 5 k + 1 else z 5 k
  | 0, k, h => by rw [if_neg (by omega)]; rfl
  | n + 1, k, h => by
    rw [zWe, xup_app]
    by_cases hk : k = n
    · subst hk
      rw [if_pos ⟨rfl, rfl⟩]
      by_cases hz : zWet w z n = true
      · rw [if_pos hz, if_pos ⟨by omega, hz⟩]
      · rw [if_neg hz, if_neg (fun q => hz q.2)]
    · rw [if_neg (fun q => hk q.2), zWe_5 n k h]
      by_cases hz : zWet w z k = true
      · simp only [hz, and_true]
        by_cases hl : k < n
        · rw [if_pos hl, if_pos (by omega)]
        · rw [if_neg hl, if_neg (by omega)]
      · simp [hz]
theorem zWe_V {w z : xM} {b : Int} (hv : zV w z b) (n : Nat) : zV w (zWe w z n) (b + 1) := by
  refine ⟨fun p h1 h2 => ?_, ?_⟩
  · have := hv.1 p h1 h2
    rw [zWe_at n 0 p (by omega), zWe_at n 1 p (by omega), zWe_at n 2 p (by omega), zWe_at n 3 p (by omega), zWe_at n 4 p (by omega), zWe_5 n p h1]
    split <;> omega
  · have := hv.2
    rw [zWe_at n 6 0 (by omega), zWe_at n 6 1 (by omega)]
    omega
theorem zSt_V {w z : xM} {h : Int → Int → Int} {b s : Int} (hw : zW w) (hv : zV w z b) (hs : 0 ≤ s ∧ s ≤ 60) : zV w (zSt w h s z) (b + 6) := by
  have h1 := zPl_V (h := h) hw hv hs (w 0 2).toNat (by have := hw.2.2.1; omega)
  exact zV_up (zWe_V h1 _) (by have := hw.2.2.1; omega)
theorem z0_V {w : xM} (hw : zW w) : zV w (z0 w) 0 := by
  refine ⟨fun p h1 h2 => ?_, ?_⟩
  · have := hw.2.2.2.2.1 p h1 h2
    simp [z0]
    omega
  · have := hw.1
    simp [z0]
    omega
theorem zR_V {w : xM} {h : Int → Int → Int} (hw : zW w) : ∀ n : Nat, n ≤ 60 → zV w (zR w h n) (6 * n)
  | 0, _ => by simpa [zR] using z0_V hw
  | n + 1, hn => zV_up (zSt_V hw (zR_V hw n (by omega)) (by omega)) (by omega)
theorem zR_V' {w : xM} {h : Int → Int → Int} (hw : zW w) {n : Nat} (hn : n ≤ 60) : zV w (zR w h n) 1000 := zV_up (zR_V hw n hn) (by omega)
theorem zAll_in {w z : xM} {s p x : Int} (hp : 0 ≤ p ∧ p < w 0 2) : zAll w (zIn w z s p) x + (if z 0 p = x then 1 else 0) = zAll w z x + (if zNx w z p = x then 1 else 0) := by
  have h := xcn_u (f := fun q => decide (z 0 q = x)) (g := fun q => decide (zIn w z s p 0 q = x)) (p := p.toNat) (n := (w 0 2).toNat) (by omega) (fun k hk hne => by
    have : ¬ (k : Int) = p := by omega
    simp [zIn, xup_app, this])
  rw [Int.toNat_of_nonneg hp.1] at h
  have h2 : zIn w z s p 0 p = zNx w z p := by simp [zIn, xup_app]
  simp only [h2, decide_eq_true_eq] at h
  exact h
theorem zAll_no {w z : xM} {p x : Int} : zAll w (zNo w z p) x = zAll w z x := rfl
theorem zAll_wt {w z : xM} {p x : Int} : zAll w (zWt w z p) x = zAll w z x := rfl
theorem zAll_rng (w z : xM) (x : Int) : 0 ≤ zAll w z x ∧ zAll w z x ≤ (w 0 2).toNat := xcn_b _ _
