/-! what a frame's run comes to -/
theorem xrun_up : ∀ (f y : Nat) (fr : xF) (w : Option xV × xM), xrun f y fr = some w → xrun (f + 1) y fr = some w
  | 0, y, fr, w, h => by cases h
  | f + 1, y, fr, w, h => by
    unfold xrun at h ⊢
    cases hI : xcode y fr.1 fr.2.1 fr.2.2.1 fr.2.2.2 with
    | none => rw [hI] at h; cases h
    | some res =>
      rw [hI] at h
      rcases res with g | q | v
      · exact xrun_up f y g w h
      · dsimp only at h ⊢
        cases hw : xrun f q.1 (0, q.2.1, [], q.2.2.2.2.2) with
        | none => rw [hw] at h; cases h
        | some w0 =>
          rw [hw] at h
          rw [xrun_up f _ _ w0 hw]
          exact xrun_up f y _ w h
      · exact h
theorem xrun_le {f g y : Nat} {fr : xF} {w : Option xV × xM} (hfg : f ≤ g) (h : xrun f y fr = some w) : xrun g y fr = some w := by
  induction hfg with
  | refl => exact h
  | step _ ih => exact xrun_up _ _ _ _ ih
def Wp (y pc : Nat) (ls st : List xV) (M : xM) (Q : Option xV → xM → Prop) : Prop := ∃ (f : Nat) (r : Option xV) (M' : xM), xrun f y (pc, ls, st, M) = some (r, M') ∧ Q r M'
def Wc (z : Nat) (as : List xV) (M : xM) (Q : Option xV → xM → Prop) : Prop := Wp z 0 (as ++ List.replicate (xmx z - as.length) xj) [] M Q
theorem wp_next {y pc pc' : Nat} {ls st ls' st' : List xV} {M M' : xM} {Q : Option xV → xM → Prop} (h : xcode y pc ls st M = some (.inl (pc', ls', st', M'))) : Wp y pc ls st M Q = Wp y pc' ls' st' M' Q := by
  apply propext
  constructor
  · rintro ⟨f, r, M2, hr, hq⟩
    cases f with
    | zero => cases hr
    | succ f =>
      unfold xrun at hr
      rw [h] at hr
      exact ⟨f, r, M2, hr, hq⟩
  · rintro ⟨f, r, M2, hr, hq⟩
    refine ⟨f + 1, r, M2, ?_, hq⟩
    unfold xrun
    rw [h]
    exact hr
theorem wp_call {y pc pc' z : Nat} {ls st as ls' st' : List xV} {M M' : xM} {Q : Option xV → xM → Prop} (h : xcode y pc ls st M = some (.inr (.inl (z, as, pc', ls', st', M')))) : Wp y pc ls st M Q = Wp z 0 as [] M' (fun r M2 => Wp y pc' ls' (r.toList ++ st') M2 Q) := by
  apply propext
  constructor
  · rintro ⟨f, r, M2, hr, hq⟩
    cases f with
    | zero => cases hr
    | succ f =>
      unfold xrun at hr
      rw [h] at hr
      dsimp only at hr
      cases hw : xrun f z (0, as, [], M') with
      | none => rw [hw] at hr; cases hr
      | some w0 =>
        rw [hw] at hr
        exact ⟨f, w0.1, w0.2, hw, f, r, M2, hr, hq⟩
  · rintro ⟨f, r, M2, hr, g, r', M3, hr', hq⟩
    refine ⟨max f g + 1, r', M3, ?_, hq⟩
    unfold xrun
    rw [h]
    dsimp only
    rw [xrun_le (Nat.le_max_left f g) hr]
    exact xrun_le (Nat.le_max_right f g) hr'
theorem wp_ret {y pc : Nat} {ls st : List xV} {r : Option xV} {M M' : xM} {Q : Option xV → xM → Prop} (h : xcode y pc ls st M = some (.inr (.inr (r, M')))) : Wp y pc ls st M Q = Q r M' := by
  apply propext
  constructor
  · rintro ⟨f, r, M2, hr, hq⟩
    cases f with
    | zero => cases hr
    | succ f =>
      unfold xrun at hr
      rw [h] at hr
      cases hr
      exact hq
  · intro hq
    refine ⟨1, r, M', ?_, hq⟩
    unfold xrun
    rw [h]
theorem wp_none {y pc : Nat} {ls st : List xV} {M : xM} {Q : Option xV → xM → Prop} (h : xcode y pc ls st M = none) : Wp y pc ls st M Q = False := by
  apply propext
  constructor
  · rintro ⟨f, r, M2, hr, hq⟩
    cases f with
    | zero => cases hr
    | succ f =>
      unfold xrun at hr
      rw [h] at hr
      cases hr
  · exact False.elim
theorem Wp.mono {y pc : Nat} {ls st : List xV} {M : xM} {Q Q' : Option xV → xM → Prop} (h : Wp y pc ls st M Q) (hq : ∀ r M', Q r M' → Q' r M') : Wp y pc ls st M Q' := by
  obtain ⟨f, r, M2, hr, hq2⟩ := h
  exact ⟨f, r, M2, hr, hq _ _ hq2⟩
theorem Wc.mono {z : Nat} {as : List xV} {M : xM} {Q Q' : Option xV → xM → Prop} (h : Wc z as M Q) (hq : ∀ r M', Q r M' → Q' r M') : Wc z as M Q' := Wp.mono h hq
/-- in 32 bits -/
abbrev xG (x : Int) : Prop := -2147483648 ≤ x ∧ x < 2147483648
theorem xn_eq {x : Int} (h : xG x) : xn x = x := xn_of h.1 h.2
section WPI
variable {y pc n t ci k kd mx z : Nat} {ls st : List xV} {M : xM} {Q : Option xV → xM → Prop} {a b c : Int} {d : Nat} {v : xV}
theorem wp_cond {A : Prop} {X : Prop} {I : xI} (hI : xcode y pc = I) (h1 : A → Wp y pc ls st M Q = X) (h2 : ¬ A → I ls st M = none) : Wp y pc ls st M Q = (A ∧ X) := by
  by_cases hA : A
  · rw [h1 hA]; simp [hA]
  · rw [wp_none (by rw [hI]; exact h2 hA)]; simp [hA]
theorem wp_bin {f : Int → Int → Int} (h : xcode y pc = i_bin f n) : Wp y pc ls (xi b :: xi a :: st) M Q = Wp y n ls (xi (f a b) :: st) M Q := wp_next (by rw [h]; rfl)
theorem wp_lbin {f : Int → Int → Int} (h : xcode y pc = i_lbin f n) : Wp y pc ls (xl b :: xl a :: st) M Q = Wp y n ls (xl (f a b) :: st) M Q := wp_next (by rw [h]; rfl)
theorem wp_const {k : Int} (h : xcode y pc = i_const k n) : Wp y pc ls st M Q = Wp y n ls (xi k :: st) M Q := wp_next (by rw [h]; rfl)
theorem wp_lconst {k : Int} (h : xcode y pc = i_lconst k n) : Wp y pc ls st M Q = Wp y n ls (xl k :: st) M Q := wp_next (by rw [h]; rfl)
theorem wp_iload {i : Nat} (h : xcode y pc = i_iload i n) (hl : ls[i]? = some (xi a)) : Wp y pc ls st M Q = Wp y n ls (xi a :: st) M Q := wp_next (by rw [h]; simp [i_iload, hl])
theorem wp_lload {i : Nat} (h : xcode y pc = i_lload i n) (hl : ls[i]? = some (xl a)) : Wp y pc ls st M Q = Wp y n ls (xl a :: st) M Q := wp_next (by rw [h]; simp [i_lload, hl])
theorem wp_aload {i : Nat} (h : xcode y pc = i_aload i n) (hl : ls[i]? = some (xr d)) : Wp y pc ls st M Q = Wp y n ls (xr d :: st) M Q := wp_next (by rw [h]; simp [i_aload, hl])
theorem wp_istore {i : Nat} {ls' : List xV} (h : xcode y pc = i_istore i n) (hl : xst ls i (xi a) = some ls') : Wp y pc ls (xi a :: st) M Q = Wp y n ls' st M Q := wp_next (by rw [h]; simp [i_istore, hl])
theorem wp_lstore {i : Nat} {ls' : List xV} (h : xcode y pc = i_lstore i n) (hl : (xst ls i (xl a)).bind (fun l => xju l (i + 1)) = some ls') : Wp y pc ls (xl a :: st) M Q = Wp y n ls' st M Q := wp_next (by rw [h]; simp only [i_lstore, hl])
theorem wp_iinc {i : Nat} {k : Int} {ls' : List xV} (h : xcode y pc = i_iinc i k n) (h1 : ls[i]? = some (xi a)) (hl : xst ls i (xi (a + k)) = some ls') : Wp y pc ls st M Q = Wp y n ls' st M Q := wp_next (by rw [h]; simp only [i_iinc, h1, hl])
theorem wp_neg (h : xcode y pc = i_neg n) : Wp y pc ls (xi a :: st) M Q = Wp y n ls (xi (-a) :: st) M Q := wp_next (by rw [h]; rfl)
theorem wp_i2l (h : xcode y pc = i_i2l n) : Wp y pc ls (xi a :: st) M Q = (xG a ∧ Wp y n ls (xl (xn a) :: st) M Q) → Wp y pc ls (xi a :: st) M Q = (xG a ∧ Wp y n ls (xl (xn a) :: st) M Q) := id
theorem wp_i2l' (h : xcode y pc = i_i2l n) : Wp y pc ls (xi a :: st) M Q = Wp y n ls (xl (xn a) :: st) M Q := wp_next (by rw [h]; rfl)
theorem wp_l2i (h : xcode y pc = i_l2i n) : Wp y pc ls (xl a :: st) M Q = Wp y n ls (xi a :: st) M Q := wp_next (by rw [h]; rfl)
theorem wp_i2c (h : xcode y pc = i_i2c n) : Wp y pc ls (xi a :: st) M Q = ((0 ≤ a ∧ a < 65536) ∧ Wp y n ls (xi a :: st) M Q) := wp_cond h (fun q => wp_next (by rw [h]; exact if_pos q)) (fun q => if_neg q)
theorem wp_div (h : xcode y pc = i_div n) : Wp y pc ls (xi b :: xi a :: st) M Q = (¬ xn b = 0 ∧ Wp y n ls (xi ((xn a).tdiv (xn b)) :: st) M Q) := wp_cond h (fun q => wp_next (by rw [h]; exact if_neg q)) (fun q => if_pos (Classical.not_not.mp q))
theorem wp_rem (h : xcode y pc = i_rem n) : Wp y pc ls (xi b :: xi a :: st) M Q = (¬ xn b = 0 ∧ Wp y n ls (xi ((xn a).tmod (xn b)) :: st) M Q) := wp_cond h (fun q => wp_next (by rw [h]; exact if_neg q)) (fun q => if_pos (Classical.not_not.mp q))
theorem wp_ldiv (h : xcode y pc = i_ldiv n) : Wp y pc ls (xl b :: xl a :: st) M Q = (¬ xnl64 b = 0 ∧ Wp y n ls (xl ((xnl64 a).tdiv (xnl64 b)) :: st) M Q) := wp_cond h (fun q => wp_next (by rw [h]; exact if_neg q)) (fun q => if_pos (Classical.not_not.mp q))
theorem wp_lrem (h : xcode y pc = i_lrem n) : Wp y pc ls (xl b :: xl a :: st) M Q = (¬ xnl64 b = 0 ∧ Wp y n ls (xl ((xnl64 a).tmod (xnl64 b)) :: st) M Q) := wp_cond h (fun q => wp_next (by rw [h]; exact if_neg q)) (fun q => if_pos (Classical.not_not.mp q))
theorem wp_dupI (h : xcode y pc = i_dup n) : Wp y pc ls (xi a :: st) M Q = Wp y n ls (xi a :: xi a :: st) M Q := wp_next (by rw [h]; rfl)
theorem wp_dupA (h : xcode y pc = i_dup n) : Wp y pc ls (xr d :: st) M Q = Wp y n ls (xr d :: xr d :: st) M Q := wp_next (by rw [h]; rfl)
theorem wp_dup2 (h : xcode y pc = i_dup2 n) : Wp y pc ls (xi a :: xr d :: st) M Q = Wp y n ls (xi a :: xr d :: xi a :: xr d :: st) M Q := wp_next (by rw [h]; rfl)
theorem wp_pop (h : xcode y pc = i_pop n) : Wp y pc ls (xi a :: st) M Q = Wp y n ls st M Q := wp_next (by rw [h]; rfl)
theorem wp_goto (h : xcode y pc = i_goto t) : Wp y pc ls st M Q = Wp y t ls st M Q := wp_next (by rw [h]; rfl)
theorem wp_if {f : Int → Bool} {P : Prop} (h : xcode y pc = i_if f t n) (hf : f (xn a) = true ↔ P) : Wp y pc ls (xi a :: st) M Q = ((P → Wp y t ls st M Q) ∧ (¬ P → Wp y n ls st M Q)) := by
  rw [wp_next (pc' := if f (xn a) then t else n) (ls' := ls) (st' := st) (M' := M) (by rw [h]; rfl)]
  by_cases hP : P
  · rw [if_pos (hf.mpr hP)]; simp [hP]
  · rw [if_neg (fun z => hP (hf.mp z))]; simp [hP]
theorem wp_cmp {f : Int → Int → Bool} {P : Prop} (h : xcode y pc = i_cmp f t n) (hf : f (xn a) (xn b) = true ↔ P) : Wp y pc ls (xi b :: xi a :: st) M Q = ((P → Wp y t ls st M Q) ∧ (¬ P → Wp y n ls st M Q)) := by
  rw [wp_next (pc' := if f (xn a) (xn b) then t else n) (ls' := ls) (st' := st) (M' := M) (by rw [h]; rfl)]
  by_cases hP : P
  · rw [if_pos (hf.mpr hP)]; simp [hP]
  · rw [if_neg (fun z => hP (hf.mp z))]; simp [hP]
theorem wp_if_eq (h : xcode y pc = i_if c_eq t n) (ha : xG a) : Wp y pc ls (xi a :: st) M Q = ((a = 0 → Wp y t ls st M Q) ∧ (¬ (a = 0) → Wp y n ls st M Q)) := wp_if h (by rw [xn_eq ha, c_eq, decide_eq_true_eq])
theorem wp_if_ne (h : xcode y pc = i_if c_ne t n) (ha : xG a) : Wp y pc ls (xi a :: st) M Q = ((¬ a = 0 → Wp y t ls st M Q) ∧ (¬ (¬ a = 0) → Wp y n ls st M Q)) := wp_if h (by rw [xn_eq ha, c_ne, decide_eq_true_eq])
theorem wp_if_lt (h : xcode y pc = i_if c_lt t n) (ha : xG a) : Wp y pc ls (xi a :: st) M Q = ((a < 0 → Wp y t ls st M Q) ∧ (¬ (a < 0) → Wp y n ls st M Q)) := wp_if h (by rw [xn_eq ha, c_lt, decide_eq_true_eq])
theorem wp_if_ge (h : xcode y pc = i_if c_ge t n) (ha : xG a) : Wp y pc ls (xi a :: st) M Q = ((0 ≤ a → Wp y t ls st M Q) ∧ (¬ (0 ≤ a) → Wp y n ls st M Q)) := wp_if h (by rw [xn_eq ha, c_ge, decide_eq_true_eq])
theorem wp_if_gt (h : xcode y pc = i_if c_gt t n) (ha : xG a) : Wp y pc ls (xi a :: st) M Q = ((0 < a → Wp y t ls st M Q) ∧ (¬ (0 < a) → Wp y n ls st M Q)) := wp_if h (by rw [xn_eq ha, c_gt, decide_eq_true_eq])
theorem wp_if_le (h : xcode y pc = i_if c_le t n) (ha : xG a) : Wp y pc ls (xi a :: st) M Q = ((a ≤ 0 → Wp y t ls st M Q) ∧ (¬ (a ≤ 0) → Wp y n ls st M Q)) := wp_if h (by rw [xn_eq ha, c_le, decide_eq_true_eq])
theorem wp_cmp_eq (h : xcode y pc = i_cmp d_eq t n) (ha : xG a) (hb : xG b) : Wp y pc ls (xi b :: xi a :: st) M Q = ((a = b → Wp y t ls st M Q) ∧ (¬ (a = b) → Wp y n ls st M Q)) := wp_cmp h (by rw [xn_eq ha, xn_eq hb, d_eq, decide_eq_true_eq])
theorem wp_cmp_ne (h : xcode y pc = i_cmp d_ne t n) (ha : xG a) (hb : xG b) : Wp y pc ls (xi b :: xi a :: st) M Q = ((¬ a = b → Wp y t ls st M Q) ∧ (¬ (¬ a = b) → Wp y n ls st M Q)) := wp_cmp h (by rw [xn_eq ha, xn_eq hb, d_ne, decide_eq_true_eq])
theorem wp_cmp_lt (h : xcode y pc = i_cmp d_lt t n) (ha : xG a) (hb : xG b) : Wp y pc ls (xi b :: xi a :: st) M Q = ((a < b → Wp y t ls st M Q) ∧ (¬ (a < b) → Wp y n ls st M Q)) := wp_cmp h (by rw [xn_eq ha, xn_eq hb, d_lt, decide_eq_true_eq])
theorem wp_cmp_ge (h : xcode y pc = i_cmp d_ge t n) (ha : xG a) (hb : xG b) : Wp y pc ls (xi b :: xi a :: st) M Q = ((b ≤ a → Wp y t ls st M Q) ∧ (¬ (b ≤ a) → Wp y n ls st M Q)) := wp_cmp h (by rw [xn_eq ha, xn_eq hb, d_ge, decide_eq_true_eq])
theorem wp_cmp_gt (h : xcode y pc = i_cmp d_gt t n) (ha : xG a) (hb : xG b) : Wp y pc ls (xi b :: xi a :: st) M Q = ((b < a → Wp y t ls st M Q) ∧ (¬ (b < a) → Wp y n ls st M Q)) := wp_cmp h (by rw [xn_eq ha, xn_eq hb, d_gt, decide_eq_true_eq])
theorem wp_cmp_le (h : xcode y pc = i_cmp d_le t n) (ha : xG a) (hb : xG b) : Wp y pc ls (xi b :: xi a :: st) M Q = ((a ≤ b → Wp y t ls st M Q) ∧ (¬ (a ≤ b) → Wp y n ls st M Q)) := wp_cmp h (by rw [xn_eq ha, xn_eq hb, d_le, decide_eq_true_eq])
theorem wp_getf (h : xcode y pc = i_getf ci k n) (hc : x_c d = ci) : Wp y pc ls (xr d :: st) M Q = Wp y n ls (xi (M d k) :: st) M Q := wp_next (by rw [h]; exact if_pos hc)
theorem wp_getr (h : xcode y pc = i_getr ci k n) (hc : x_c d = ci) : Wp y pc ls (xr d :: st) M Q = Wp y n ls (xr (x_r d k) :: st) M Q := wp_next (by rw [h]; exact if_pos hc)
theorem wp_putf (h : xcode y pc = i_putf ci k n) (hc : x_c d = ci) : Wp y pc ls (xi a :: xr d :: st) M Q = Wp y n ls st (xup M d k a) Q := wp_next (by rw [h]; exact if_pos hc)
theorem wp_putb (h : xcode y pc = i_putb ci k n) (hc : x_c d = ci) (ha : a = 0 ∨ a = 1) : Wp y pc ls (xi a :: xr d :: st) M Q = Wp y n ls st (xup M d k a) Q := wp_next (by rw [h]; exact if_pos ⟨hc, ha⟩)
theorem x_n_R {i : Int} {d : Nat} (h1 : 0 ≤ i) (h2 : i < x_n d) : xn i = i := by
  have hb : ∀ c, x_n c ≤ 305 := by
    intro c
    unfold x_n
    rcases Nat.lt_or_ge c 59 with h | h
    · have : ∀ c, c < 59 → xnl.getD c 0 ≤ 305 := by decide +kernel
      exact this c h
    · rw [List.getD_eq_getElem?_getD, List.getElem?_eq_none (by exact h)]; exact Nat.zero_le _
  have := hb d
  exact xn_of (by omega) (by omega)
theorem wp_ald (h : xcode y pc = i_ald kd n) (hc : x_c d = kd) (h1 : 0 ≤ a) (h2 : a < x_n d) : Wp y pc ls (xi a :: xr d :: st) M Q = Wp y n ls (xi (M d a) :: st) M Q := wp_next (by
  rw [h]
  show (if x_c d = kd ∧ 0 ≤ xn a ∧ xn a < x_n d then _ else _) = _
  rw [x_n_R h1 h2, if_pos ⟨hc, h1, h2⟩])
theorem wp_aald (h : xcode y pc = i_aald n) (hc : x_c d = 23) (h1 : 0 ≤ a) (h2 : a < x_n d) : Wp y pc ls (xi a :: xr d :: st) M Q = Wp y n ls (xr (x_r d a.toNat) :: st) M Q := wp_next (by
  rw [h]
  show (if x_c d = 23 ∧ 0 ≤ xn a ∧ xn a < x_n d then _ else _) = _
  rw [x_n_R h1 h2, if_pos ⟨hc, h1, h2⟩])
theorem wp_iast {v : Int} (h : xcode y pc = i_ast 20 0 0 n) (hc : x_c d = 20) (h1 : 0 ≤ a) (h2 : a < x_n d) : Wp y pc ls (xi v :: xi a :: xr d :: st) M Q = Wp y n ls st (xup M d a v) Q := wp_next (by
  rw [h]
  show (if (x_c d : Int) = 20 ∧ (0 ≤ xn a ∧ xn a < x_n d) ∧ ((20 : Int) = 20 ∨ _) then _ else _) = _
  rw [x_n_R h1 h2, if_pos ⟨by omega, ⟨h1, h2⟩, Or.inl rfl⟩])
theorem wp_zast {v : Int} (h : xcode y pc = i_ast 21 0 2 n) (hc : x_c d = 21) (h1 : 0 ≤ a) (h2 : a < x_n d) (hv : 0 ≤ v ∧ v < 2) : Wp y pc ls (xi v :: xi a :: xr d :: st) M Q = Wp y n ls st (xup M d a v) Q := wp_next (by
  rw [h]
  show (if (x_c d : Int) = 21 ∧ (0 ≤ xn a ∧ xn a < x_n d) ∧ ((21 : Int) = 20 ∨ (0 ≤ v ∧ v < 2)) then _ else _) = _
  rw [x_n_R h1 h2, if_pos ⟨by omega, ⟨h1, h2⟩, Or.inr hv⟩])
theorem wp_cast {v : Int} (h : xcode y pc = i_ast 22 0 65536 n) (hc : x_c d = 22) (h1 : 0 ≤ a) (h2 : a < x_n d) (hv : 0 ≤ v ∧ v < 65536) : Wp y pc ls (xi v :: xi a :: xr d :: st) M Q = Wp y n ls st (xup M d a v) Q := wp_next (by
  rw [h]
  show (if (x_c d : Int) = 22 ∧ (0 ≤ xn a ∧ xn a < x_n d) ∧ ((22 : Int) = 20 ∨ (0 ≤ v ∧ v < 65536)) then _ else _) = _
  rw [x_n_R h1 h2, if_pos ⟨by omega, ⟨h1, h2⟩, Or.inr hv⟩])
theorem wp_sld (h : xcode y pc = i_sld n) (ha : xG a) (h1 : 0 ≤ a) (h2 : a < M 58 (-1)) : Wp y pc ls (xi a :: xr 58 :: st) M Q = Wp y n ls (xi (M 58 a) :: st) M Q := wp_next (by
  rw [h]
  show (if 58 = 58 ∧ 0 ≤ xn a ∧ xn a < M 58 (-1) then some (Sum.inl (n, ls, xi (M 58 (xn a)) :: st, M)) else none) = _
  rw [xn_eq ha, if_pos ⟨rfl, h1, h2⟩])
theorem wp_slen (h : xcode y pc = i_slen n) : Wp y pc ls (xr 58 :: st) M Q = Wp y n ls (xi (M 58 (-1)) :: st) M Q := wp_next (by rw [h]; rfl)
theorem wp_tsw {lo hi : Int} {ts : List Nat} {D : Nat} (h : xcode y pc = i_tsw lo hi D ts) (ha : xG a) : Wp y pc ls (xi a :: st) M Q = Wp y (if lo ≤ a ∧ a ≤ hi then ts.getD (a - lo).toNat D else D) ls st M Q := wp_next (by rw [h, i_tsw]; simp only [xn_eq ha])
theorem wp_lsw {ps : List (Int × Nat)} {D : Nat} (h : xcode y pc = i_lsw D ps) (ha : xG a) : Wp y pc ls (xi a :: st) M Q = Wp y (xlk D a ps) ls st M Q := wp_next (by rw [h, i_lsw]; simp only [xn_eq ha])
theorem wp_max (h : xcode y pc = i_max n) (hs : st.length ≤ 4) (ha : xG a) (hb : xG b) : Wp y pc ls (xi b :: xi a :: st) M Q = Wp y n ls (xi (if a < b then b else a) :: st) M Q := wp_next (by
  rw [h]
  show (if st.length ≤ 4 then some (Sum.inl (n, ls, xi (if xn a < xn b then xn b else xn a) :: st, M)) else none) = _
  rw [if_pos hs, xn_eq ha, xn_eq hb])
theorem wp_min (h : xcode y pc = i_min n) (hs : st.length ≤ 4) (ha : xG a) (hb : xG b) : Wp y pc ls (xi b :: xi a :: st) M Q = Wp y n ls (xi (if b < a then b else a) :: st) M Q := wp_next (by
  rw [h]
  show (if st.length ≤ 4 then some (Sum.inl (n, ls, xi (if xn b < xn a then xn b else xn a) :: st, M)) else none) = _
  rw [if_pos hs, xn_eq ha, xn_eq hb])
theorem wp_bc (h : xcode y pc = i_bc n) (hs : st.length ≤ 4) : Wp y pc ls (xi a :: st) M Q = Wp y n ls (xi (xbc a) :: st) M Q := wp_next (by
  rw [h]
  exact if_pos hs)
theorem wp_iret (h : xcode y pc = i_iret) : Wp y pc ls [xi a] M Q = Q (some (xi a)) M := wp_ret (by rw [h]; rfl)
theorem wp_zret (h : xcode y pc = i_zret) (ha : a = 0 ∨ a = 1) : Wp y pc ls [xi a] M Q = Q (some (xi a)) M := wp_ret (by rw [h]; exact if_pos ha)
theorem wp_vret (h : xcode y pc = i_vret) : Wp y pc ls [] M Q = Q none M := wp_ret (by rw [h]; rfl)
theorem wp_cS {as st' : List xV} (h : xcode y pc = i_call z k mx n) (hp : xpop k st [] = some (as, st')) (hs : st'.length ≤ 4) (hk : k ≤ mx) (hm : mx = xmx z) (hl : as.length = k) : Wp y pc ls st M Q = Wc z as M (fun r M2 => Wp y n ls (r.toList ++ st') M2 Q) := by
  rw [Wc, hl, ← hm]
  exact wp_call (by rw [h, i_call, hp]; exact if_pos ⟨hs, hk⟩)
theorem wp_cV {as st' : List xV} (h : xcode y pc = i_callv ci z k mx n) (hp : xpop k st [] = some (xr d :: as, st')) (hc : x_c d = ci) (hs : st'.length ≤ 4) (hk : k ≤ mx) (hm : mx = xmx z) (hl : as.length + 1 = k) : Wp y pc ls st M Q = Wc z (xr d :: as) M (fun r M2 => Wp y n ls (r.toList ++ st') M2 Q) := by
  rw [Wc, List.length_cons, hl, ← hm]
  exact wp_call (by rw [h, i_callv, hp]; exact if_pos ⟨hc, hs, hk⟩)
end WPI
