/-! memories, bits, counts -/
theorem xup_at (M : xM) (d : Nat) (k v k' : Int) : xup M d k v d k' = if k' = k then v else M d k' := by simp [xup]
theorem xup_self (M : xM) (d : Nat) (k v : Int) : xup M d k v d k = v := by simp [xup]
theorem xup_k {M : xM} {d : Nat} {k v k' : Int} (h : k' ≠ k) : xup M d k v d k' = M d k' := by simp [xup, h]
theorem xup_app (M : xM) (d : Nat) (k v : Int) (c : Nat) (k' : Int) : xup M d k v c k' = if c = d ∧ k' = k then v else M c k' := rfl
theorem xb_eq0 {P : Prop} [Decidable P] : ((if P then (1 : Int) else 0) = 0) = ¬ P := by by_cases h : P <;> simp [h]
theorem xb_eq1 {P : Prop} [Decidable P] : ((if P then (1 : Int) else 0) = 1) = P := by by_cases h : P <;> simp [h]
theorem xG_b {P : Prop} [Decidable P] : xG (if P then (1 : Int) else 0) := by by_cases h : P <;> simp [h, xG]
theorem xb_01 {P : Prop} [Decidable P] : (if P then (1 : Int) else 0) = 0 ∨ (if P then (1 : Int) else 0) = 1 := by by_cases h : P <;> simp [h]
theorem xG_xn (x : Int) : xG (xn x) := xn_rng x
theorem xG_and (a b : Int) : xG (xand a b) := ⟨Int32.le_toInt _, Int32.toInt_lt _⟩
theorem xG_or (a b : Int) : xG (xor_ a b) := ⟨Int32.le_toInt _, Int32.toInt_lt _⟩
theorem xG_xor (a b : Int) : xG (xxor a b) := ⟨Int32.le_toInt _, Int32.toInt_lt _⟩
theorem xG_shl (a b : Int) : xG (xshl a b) := ⟨Int32.le_toInt _, Int32.toInt_lt _⟩
theorem xG_shr (a b : Int) : xG (xshr a b) := ⟨Int32.le_toInt _, Int32.toInt_lt _⟩
/-- bit k of a number -/
def xt (x : Int) (k : Nat) : Bool := (Int32.ofInt x).toBitVec.getLsbD k
def xbt (b k : Int) : Int := xand (xshr b k) 1
theorem xt_and (a b : Int) (k : Nat) : xt (xand a b) k = (xt a k && xt b k) := by
  simp [xt, xand]
theorem xt_or (a b : Int) (k : Nat) : xt (xor_ a b) k = (xt a k || xt b k) := by
  simp [xt, xor_]
theorem xt_xor (a b : Int) (k : Nat) : xt (xxor a b) k = (xt a k ^^ xt b k) := by
  simp [xt, xxor]
theorem xt_big {x : Int} {k : Nat} (h : 32 ≤ k) : xt x k = false := BitVec.getLsbD_of_ge _ _ h
theorem xt_ext {x y : Int} (h : ∀ k, k < 32 → xt x k = xt y k) : xn x = xn y := by
  unfold xn
  congr 1
  apply Int32.toBitVec_inj.mp
  apply BitVec.eq_of_getLsbD_eq
  intro i hi
  exact h i hi
theorem xt_extG {x y : Int} (hx : xG x) (hy : xG y) (h : ∀ k, k < 32 → xt x k = xt y k) : x = y := by
  rw [← xn_eq hx, ← xn_eq hy]
  exact xt_ext h
theorem xsh_amt : ∀ n : Nat, n < 32 → ((Int32.ofInt (n : Int) &&& 31).toBitVec.smod 32).toNat = n := by decide +kernel
theorem xt_one_shl : ∀ p : Nat, p < 31 → ∀ k : Nat, k < 32 → xt (xshl 1 p) k = decide (k = p) := by decide +kernel
theorem xt_shl1 {p k : Nat} (hp : p < 31) : xt (xshl 1 p) k = decide (k = p) := by
  rcases Nat.lt_or_ge k 32 with h | h
  · exact xt_one_shl p hp k h
  · rw [xt_big h]
    symm
    rw [decide_eq_false_iff_not]
    omega
theorem xt_0 (k : Nat) : xt 0 k = false := by simp [xt]
theorem xshl1_val : ∀ p : Nat, p < 31 → xshl 1 p = (2 ^ p : Nat) := by decide +kernel
theorem xbt_t {b : Int} {p : Nat} (hp : p < 32) : xbt b p = if xt b p then 1 else 0 := by
  have key : ∀ x : Int32, (x &&& 1).toInt = if x.toBitVec.getLsbD 0 then 1 else 0 := by
    intro x
    have h1 : (x &&& 1).toBitVec = x.toBitVec &&& 1#32 := rfl
    have h2 : (x &&& 1).toInt = (x.toBitVec &&& 1#32).toInt := by rw [← h1]; rfl
    rw [h2]
    have h3 : x.toBitVec &&& 1#32 = if x.toBitVec.getLsbD 0 then 1#32 else 0#32 := by
      apply BitVec.eq_of_getLsbD_eq
      intro i hi
      cases hb : x.toBitVec.getLsbD 0 with
      | true => 
        by_cases h0 : i = 0
        · subst h0; simp [hb]
        · simp [BitVec.getLsbD_one, h0]
      | false =>
        by_cases h0 : i = 0
        · subst h0; rw [BitVec.getLsbD_and, hb]; simp
        · simp [BitVec.getLsbD_one, h0]
    rw [h3]
    cases x.toBitVec.getLsbD 0 <;> rfl
  show (Int32.ofInt (xshr b p) &&& Int32.ofInt 1).toInt = _
  rw [show Int32.ofInt 1 = 1 from rfl, key]
  have h4 : (Int32.ofInt (xshr b p)).toBitVec.getLsbD 0 = xt b p := by
    rw [xshr, Int32.ofInt_toInt]
    have h5 : (Int32.ofInt b >>> (Int32.ofInt (p : Int) &&& 31)).toBitVec = (Int32.ofInt b).toBitVec.sshiftRight ((Int32.ofInt (p : Int) &&& 31).toBitVec.smod 32).toNat := rfl
    rw [h5, xsh_amt p hp, BitVec.getLsbD_sshiftRight]
    simp [xt, hp]
  rw [h4]
theorem xbt_01 {b : Int} {p : Nat} (hp : p < 32) : xbt b p = 0 ∨ xbt b p = 1 := by
  rw [xbt_t hp]; cases xt b p <;> simp
theorem xG_bt (b k : Int) : xG (xbt b k) := xG_and _ _
/-- how many of the first n are so -/
def xcn (f : Int → Bool) : Nat → Int
  | 0 => 0
  | n + 1 => xcn f n + if f n then 1 else 0
theorem xcn_s (f : Int → Bool) (n : Nat) : xcn f (n + 1) = xcn f n + if f n then 1 else 0 := rfl
theorem xcn_b (f : Int → Bool) : ∀ n : Nat, 0 ≤ xcn f n ∧ xcn f n ≤ n
  | 0 => by simp [xcn]
  | n + 1 => by
    have := xcn_b f n
    rw [xcn_s]
    cases f n <;> simp <;> omega
theorem xcn_c {f g : Int → Bool} : ∀ {n : Nat}, (∀ k : Nat, k < n → f k = g k) → xcn f n = xcn g n
  | 0, _ => rfl
  | n + 1, h => by rw [xcn_s, xcn_s, xcn_c (fun k hk => h k (by omega)), h n (by omega)]
theorem xcn_0 {f : Int → Bool} : ∀ {n : Nat}, (∀ k : Nat, k < n → f k = false) → xcn f n = 0
  | 0, _ => rfl
  | n + 1, h => by rw [xcn_s, xcn_0 (fun k hk => h k (by omega)), h n (by omega)]; simp
theorem xcn_pos {f : Int → Bool} : ∀ {n : Nat}, 0 < xcn f n ↔ ∃ k : Nat, k < n ∧ f k = true
  | 0 => by simp [xcn]
  | n + 1 => by
    have ih := @xcn_pos f n
    have hb := xcn_b f n
    rw [xcn_s]
    constructor
    · intro h
      cases hf : f n with
      | true => exact ⟨n, by omega, hf⟩
      | false =>
        rw [hf] at h
        obtain ⟨k, h1, h2⟩ := ih.mp (by simpa using h)
        exact ⟨k, by omega, h2⟩
    · rintro ⟨k, h1, h2⟩
      by_cases hk : k = n
      · subst hk; simp [h2]; omega
      · have := ih.mpr ⟨k, by omega, h2⟩
        cases f n <;> simp <;> omega
/-- one of them changed -/
theorem xcn_u {f g : Int → Bool} {p : Nat} : ∀ {n : Nat}, p < n → (∀ k : Nat, k < n → k ≠ p → g k = f k) → xcn g n + (if f p then 1 else 0) = xcn f n + (if g p then 1 else 0)
  | 0, h, _ => absurd h (Nat.not_lt_zero _)
  | n + 1, h, hk => by
    rw [xcn_s, xcn_s]
    by_cases hp : p = n
    · subst hp
      rw [xcn_c (f := g) (g := f) (fun k hk2 => hk k (by omega) (by omega))]
      omega
    · have := xcn_u (n := n) (by omega) (fun k hk2 hne => hk k (by omega) hne)
      rw [hk n (by omega) (fun e => hp e.symm)]
      omega
theorem xcn_i {f : Int → Bool} {i : Int} (h : 0 ≤ i) : xcn f (i + 1).toNat = xcn f i.toNat + if f i then 1 else 0 := by
  rw [show (i + 1).toNat = i.toNat + 1 by omega, xcn_s, Int.toNat_of_nonneg h]
theorem xbr_t {P A B : Prop} (h : P) : ((P → A) ∧ (¬ P → B)) = A := by simp [h]
theorem xbr_f {P A B : Prop} (h : ¬ P) : ((P → A) ∧ (¬ P → B)) = B := by simp [h]
theorem xbr_t' {P A B : Prop} (h : P) : ((¬ P → A) ∧ (¬ ¬ P → B)) = B := by simp [h]
theorem xbr_f' {P A B : Prop} (h : ¬ P) : ((¬ P → A) ∧ (¬ ¬ P → B)) = A := by simp [h]
theorem xnl64_of {x : Int} (h : -9223372036854775808 ≤ x) (h2 : x < 9223372036854775808) : xnl64 x = x := Int64.toInt_ofInt_of_le (by omega) (by omega)
theorem xup_id {M : xM} {d : Nat} {k v : Int} (h : M d k = v) : xup M d k v = M := by
  funext a b
  rw [xup_app]
  split
  · rename_i q; rw [q.1, q.2, h]
  · rfl
/-- the first of the numbers under n that is so; -4 if none is -/
def xfst (f : Nat → Bool) : Nat → Int
  | 0 => -4
  | n + 1 => if xfst f n = -4 then (if f n then n else -4) else xfst f n
theorem xfst_no {f : Nat → Bool} : ∀ {n : Nat}, (∀ j : Nat, j < n → f j = false) → xfst f n = -4
  | 0, _ => rfl
  | n + 1, h => by rw [xfst, xfst_no (fun j hj => h j (by omega)), h n (by omega)]; rfl
theorem xfst_yes {f : Nat → Bool} {i : Nat} (hi : f i = true) (hj : ∀ j : Nat, j < i → f j = false) : ∀ {n : Nat}, i < n → xfst f n = i
  | 0, h => absurd h (Nat.not_lt_zero _)
  | n + 1, h => by
    rw [xfst]
    by_cases hin : i = n
    · subst hin
      rw [xfst_no hj, if_pos rfl, hi]; rfl
    · rw [xfst_yes hi hj (n := n) (by omega), if_neg (by omega)]
theorem xfst_c {f g : Nat → Bool} : ∀ {n : Nat}, (∀ j : Nat, j < n → f j = g j) → xfst f n = xfst g n
  | 0, _ => rfl
  | n + 1, h => by rw [xfst, xfst, xfst_c (fun j hj => h j (by omega)), h n (by omega)]
theorem xfst_rng {f : Nat → Bool} : ∀ {n : Nat}, xfst f n = -4 ∨ (0 ≤ xfst f n ∧ xfst f n < n)
  | 0 => Or.inl rfl
  | n + 1 => by
    rw [xfst]
    rcases @xfst_rng f n with h | h
    · rw [if_pos h]
      cases f n
      · exact Or.inl rfl
      · exact Or.inr ⟨by simp, by simp; omega⟩
    · rw [if_neg (by omega)]
      exact Or.inr ⟨h.1, by omega⟩
/-- bit p put to 0, then to b -/
theorem xbt_put {v p q b : Int} (hp : 0 ≤ p ∧ p < 31) (hq : 0 ≤ q ∧ q < 31) (hb : b = 0 ∨ b = 1) : xbt (xor_ (xand v (xxor (xshl 1 p) (-1))) (xshl b p)) q = if q = p then b else xbt v q := by
  obtain ⟨p', rfl⟩ : ∃ k : Nat, p = k := ⟨p.toNat, by omega⟩
  obtain ⟨q', rfl⟩ : ∃ k : Nat, q = k := ⟨q.toNat, by omega⟩
  have hm1 : ∀ k : Nat, k < 32 → xt (-1) k = true := by decide +kernel
  have h0 : ∀ p : Nat, p < 31 → xshl 0 p = 0 := by decide +kernel
  rw [xbt_t (by omega), xbt_t (by omega), xt_or, xt_and, xt_xor, xt_shl1 (by omega), hm1 q' (by omega)]
  rcases hb with rfl | rfl
  · rw [h0 p' (by omega), xt_0]
    by_cases h : q' = p'
    · subst h; simp
    · have : ¬ ((q' : Int) = (p' : Int)) := by omega
      simp [h, this]
  · rw [xt_shl1 (by omega)]
    by_cases h : q' = p'
    · subst h; simp
    · have : ¬ ((q' : Int) = (p' : Int)) := by omega
      simp [h, this]
/-- all of the first n are so -/
def xal (f : Nat → Bool) : Nat → Bool
  | 0 => true
  | n + 1 => xal f n && f n
theorem xal_iff {f : Nat → Bool} : ∀ {n : Nat}, xal f n = true ↔ ∀ i : Nat, i < n → f i = true
  | 0 => by simp [xal]
  | n + 1 => by
    rw [xal, Bool.and_eq_true, xal_iff (n := n)]
    constructor
    · rintro ⟨h1, h2⟩ i hi
      by_cases e : i = n
      · rw [e]; exact h2
      · exact h1 i (by omega)
    · intro h
      exact ⟨fun i hi => h i (by omega), h n (by omega)⟩
theorem xal_c {f g : Nat → Bool} : ∀ {n : Nat}, (∀ j : Nat, j < n → f j = g j) → xal f n = xal g n
  | 0, _ => rfl
  | n + 1, h => by rw [xal, xal, xal_c (fun j hj => h j (by omega)), h n (by omega)]
theorem xal_no {f : Nat → Bool} {n i : Nat} (hi : i < n) (h : f i = false) : xal f n = false := by
  cases hx : xal f n with
  | false => rfl
  | true => rw [xal_iff.mp hx i hi] at h; cases h
theorem xal_f {f : Nat → Bool} {n k : Nat} : xal (fun j => f (n + j)) (k + 1) = (f n && xal (fun j => f (n + 1 + j)) k) := by
  apply Bool.eq_iff_iff.mpr
  rw [Bool.and_eq_true, xal_iff, xal_iff]
  constructor
  · intro h
    exact ⟨by simpa using h 0 (by omega), fun i hi => by have := h (i + 1) (by omega); rwa [show n + (i + 1) = n + 1 + i by omega] at this⟩
  · rintro ⟨h1, h2⟩ i hi
    cases i with
    | zero => simpa using h1
    | succ i => have := h2 i (by omega); rwa [show n + 1 + i = n + (i + 1) by omega] at this
theorem xbr_n {P A B : Prop} : ((¬ ¬ P → A) ∧ (¬ ¬ ¬ P → B)) = ((P → A) ∧ (¬ P → B)) := by
  by_cases h : P <;> simp [h]
