/-! the flat machine: numbers, longs, cells; a memory of numbers; one function an instruction -/
abbrev xV : Type := Int ⊕ (Int ⊕ Option Nat)
abbrev xM : Type := Nat → Int → Int
abbrev xF : Type := Nat × (List xV × (List xV × xM))
abbrev xR : Type := xF ⊕ ((Nat × (List xV × xF)) ⊕ (Option xV × xM))
abbrev xI : Type := List xV → List xV → xM → Option xR
abbrev xi (x : Int) : xV := .inl x
abbrev xl (x : Int) : xV := .inr (.inl x)
abbrev xr (c : Nat) : xV := .inr (.inr (some c))
abbrev xj : xV := .inr (.inr none)
/-- a number as the 32 bits hold it -/
def xn (x : Int) : Int := (Int32.ofInt x).toInt
def xnl64 (x : Int) : Int := (Int64.ofInt x).toInt
def xup (M : xM) (c : Nat) (k v : Int) : xM := fun a b => if a = c ∧ b = k then v else M a b
abbrev xnx (n : Nat) (ls st : List xV) (M : xM) : Option xR := some (.inl (n, ls, st, M))
def xjl : xV → xV
  | .inr (.inl _) => xj
  | v => v
def xst : List xV → Nat → xV → Option (List xV)
  | [], _, _ => none
  | _ :: ls, 0, v => some (v :: ls)
  | [_], _ + 1, _ => none
  | a :: _ :: ls, 1, v => some (xjl a :: v :: ls)
  | a :: b :: ls, i + 2, v => (xst (b :: ls) (i + 1) v).map (a :: ·)
def xju : List xV → Nat → Option (List xV)
  | [], _ => none
  | _ :: ls, 0 => some (xj :: ls)
  | a :: ls, i + 1 => (xju ls i).map (a :: ·)
def i_const (k : Int) (n : Nat) : xI := fun ls st M => xnx n ls (xi k :: st) M
def i_lconst (k : Int) (n : Nat) : xI := fun ls st M => xnx n ls (xl k :: st) M
def i_iload (i n : Nat) : xI := fun ls st M => match ls[i]? with
  | some (.inl x) => xnx n ls (xi x :: st) M
  | _ => none
def i_lload (i n : Nat) : xI := fun ls st M => match ls[i]? with
  | some (.inr (.inl x)) => xnx n ls (xl x :: st) M
  | _ => none
def i_aload (i n : Nat) : xI := fun ls st M => match ls[i]? with
  | some (.inr (.inr (some c))) => xnx n ls (xr c :: st) M
  | _ => none
def i_istore (i n : Nat) : xI := fun ls st M => match st with
  | .inl x :: st' => match xst ls i (xi x) with
    | some ls' => xnx n ls' st' M
    | none => none
  | _ => none
def i_lstore (i n : Nat) : xI := fun ls st M => match st with
  | .inr (.inl x) :: st' => match (xst ls i (xl x)).bind (fun l => xju l (i + 1)) with
    | some ls' => xnx n ls' st' M
    | none => none
  | _ => none
def i_iinc (i : Nat) (k : Int) (n : Nat) : xI := fun ls st M => match ls[i]? with
  | some (.inl x) => match xst ls i (xi (x + k)) with
    | some ls' => xnx n ls' st M
    | none => none
  | _ => none
def i_bin (f : Int → Int → Int) (n : Nat) : xI := fun ls st M => match st with
  | .inl b :: .inl a :: st' => xnx n ls (xi (f a b) :: st') M
  | _ => none
def xadd (a b : Int) : Int := a + b
def xsub (a b : Int) : Int := a - b
def xmul (a b : Int) : Int := a * b
def xand (a b : Int) : Int := (Int32.ofInt a &&& Int32.ofInt b).toInt
def xor_ (a b : Int) : Int := (Int32.ofInt a ||| Int32.ofInt b).toInt
def xxor (a b : Int) : Int := (Int32.ofInt a ^^^ Int32.ofInt b).toInt
def xshl (a b : Int) : Int := (Int32.ofInt a <<< (Int32.ofInt b &&& 31)).toInt
def xshr (a b : Int) : Int := (Int32.ofInt a >>> (Int32.ofInt b &&& 31)).toInt
def i_neg (n : Nat) : xI := fun ls st M => match st with
  | .inl a :: st' => xnx n ls (xi (-a) :: st') M
  | _ => none
def i_div (n : Nat) : xI := fun ls st M => match st with
  | .inl b :: .inl a :: st' => if xn b = 0 then none else xnx n ls (xi ((xn a).tdiv (xn b)) :: st') M
  | _ => none
def i_rem (n : Nat) : xI := fun ls st M => match st with
  | .inl b :: .inl a :: st' => if xn b = 0 then none else xnx n ls (xi ((xn a).tmod (xn b)) :: st') M
  | _ => none
def i_lbin (f : Int → Int → Int) (n : Nat) : xI := fun ls st M => match st with
  | .inr (.inl b) :: .inr (.inl a) :: st' => xnx n ls (xl (f a b) :: st') M
  | _ => none
def i_ldiv (n : Nat) : xI := fun ls st M => match st with
  | .inr (.inl b) :: .inr (.inl a) :: st' => if xnl64 b = 0 then none else xnx n ls (xl ((xnl64 a).tdiv (xnl64 b)) :: st') M
  | _ => none
def i_lrem (n : Nat) : xI := fun ls st M => match st with
  | .inr (.inl b) :: .inr (.inl a) :: st' => if xnl64 b = 0 then none else xnx n ls (xl ((xnl64 a).tmod (xnl64 b)) :: st') M
  | _ => none
def i_i2l (n : Nat) : xI := fun ls st M => match st with
  | .inl a :: st' => xnx n ls (xl (xn a) :: st') M
  | _ => none
def i_l2i (n : Nat) : xI := fun ls st M => match st with
  | .inr (.inl a) :: st' => xnx n ls (xi a :: st') M
  | _ => none
def i_i2c (n : Nat) : xI := fun ls st M => match st with
  | .inl a :: st' => if 0 ≤ a ∧ a < 65536 then xnx n ls (xi a :: st') M else none
  | _ => none
def i_dup (n : Nat) : xI := fun ls st M => match st with
  | .inl a :: st' => xnx n ls (xi a :: xi a :: st') M
  | .inr (.inr (some c)) :: st' => xnx n ls (xr c :: xr c :: st') M
  | _ => none
def i_dup2 (n : Nat) : xI := fun ls st M => match st with
  | .inl a :: .inr (.inr (some c)) :: st' => xnx n ls (xi a :: xr c :: xi a :: xr c :: st') M
  | _ => none
def i_pop (n : Nat) : xI := fun ls st M => match st with
  | .inl _ :: st' => xnx n ls st' M
  | _ => none
def i_if (c : Int → Bool) (t n : Nat) : xI := fun ls st M => match st with
  | .inl a :: st' => xnx (if c (xn a) then t else n) ls st' M
  | _ => none
def i_cmp (c : Int → Int → Bool) (t n : Nat) : xI := fun ls st M => match st with
  | .inl b :: .inl a :: st' => xnx (if c (xn a) (xn b) then t else n) ls st' M
  | _ => none
def c_eq (a : Int) : Bool := decide (a = 0)
def c_ne (a : Int) : Bool := decide (¬ a = 0)
def c_lt (a : Int) : Bool := decide (a < 0)
def c_ge (a : Int) : Bool := decide (0 ≤ a)
def c_gt (a : Int) : Bool := decide (0 < a)
def c_le (a : Int) : Bool := decide (a ≤ 0)
def d_eq (a b : Int) : Bool := decide (a = b)
def d_ne (a b : Int) : Bool := decide (¬ a = b)
def d_lt (a b : Int) : Bool := decide (a < b)
def d_ge (a b : Int) : Bool := decide (b ≤ a)
def d_gt (a b : Int) : Bool := decide (b < a)
def d_le (a b : Int) : Bool := decide (a ≤ b)
def i_goto (t : Nat) : xI := fun ls st M => xnx t ls st M
def i_getf (ci : Nat) (k : Nat) (n : Nat) : xI := fun ls st M => match st with
  | .inr (.inr (some c)) :: st' => if x_c c = ci then xnx n ls (xi (M c k) :: st') M else none
  | _ => none
def i_getr (ci : Nat) (k : Nat) (n : Nat) : xI := fun ls st M => match st with
  | .inr (.inr (some c)) :: st' => if x_c c = ci then xnx n ls (xr (x_r c k) :: st') M else none
  | _ => none
def i_putf (ci : Nat) (k : Nat) (n : Nat) : xI := fun ls st M => match st with
  | .inl v :: .inr (.inr (some c)) :: st' => if x_c c = ci then xnx n ls st' (xup M c k v) else none
  | _ => none
def i_putb (ci : Nat) (k : Nat) (n : Nat) : xI := fun ls st M => match st with
  | .inl v :: .inr (.inr (some c)) :: st' => if x_c c = ci ∧ (v = 0 ∨ v = 1) then xnx n ls st' (xup M c k v) else none
  | _ => none
def i_ald (kd : Nat) (n : Nat) : xI := fun ls st M => match st with
  | .inl i :: .inr (.inr (some c)) :: st' => if x_c c = kd ∧ 0 ≤ xn i ∧ xn i < x_n c then xnx n ls (xi (M c (xn i)) :: st') M else none
  | _ => none
def i_aald (n : Nat) : xI := fun ls st M => match st with
  | .inl i :: .inr (.inr (some c)) :: st' => if x_c c = 23 ∧ 0 ≤ xn i ∧ xn i < x_n c then xnx n ls (xr (x_r c (xn i).toNat) :: st') M else none
  | _ => none
def i_ast (kd lo hi : Int) (n : Nat) : xI := fun ls st M => match st with
  | .inl v :: .inl i :: .inr (.inr (some c)) :: st' => if (x_c c : Int) = kd ∧ (0 ≤ xn i ∧ xn i < x_n c) ∧ (kd = 20 ∨ (lo ≤ v ∧ v < hi)) then xnx n ls st' (xup M c (xn i) v) else none
  | _ => none
def i_sld (n : Nat) : xI := fun ls st M => match st with
  | .inl i :: .inr (.inr (some c)) :: st' => if c = 58 ∧ 0 ≤ xn i ∧ xn i < M 58 (-1) then xnx n ls (xi (M 58 (xn i)) :: st') M else none
  | _ => none
def i_slen (n : Nat) : xI := fun ls st M => match st with
  | .inr (.inr (some c)) :: st' => if c = 58 then xnx n ls (xi (M 58 (-1)) :: st') M else none
  | _ => none
def i_tsw (lo hi : Int) (d : Nat) (ts : List Nat) : xI := fun ls st M => match st with
  | .inl a :: st' => xnx (if lo ≤ xn a ∧ xn a ≤ hi then ts.getD (xn a - lo).toNat d else d) ls st' M
  | _ => none
def xlk (d : Nat) (a : Int) : List (Int × Nat) → Nat
  | [] => d
  | q :: ps => if a = q.1 then q.2 else xlk d a ps
def i_lsw (d : Nat) (ps : List (Int × Nat)) : xI := fun ls st M => match st with
  | .inl a :: st' => xnx (xlk d (xn a) ps) ls st' M
  | _ => none
/-- k arguments off the stack, the last on top; longs are none -/
def xpop : Nat → List xV → List xV → Option (List xV × List xV)
  | 0, st, as => some (as, st)
  | k + 1, .inl x :: st, as => xpop k st (xi x :: as)
  | k + 1, .inr (.inr (some c)) :: st, as => xpop k st (xr c :: as)
  | _ + 1, _, _ => none
def i_call (z k mx : Nat) (n : Nat) : xI := fun ls st M => match xpop k st [] with
  | some (as, st') => if st'.length ≤ 4 ∧ k ≤ mx then some (.inr (.inl (z, as ++ List.replicate (mx - k) xj, n, ls, st', M))) else none
  | none => none
def i_max (n : Nat) : xI := fun ls st M => match st with
  | .inl b :: .inl a :: st' => if st'.length ≤ 4 then xnx n ls (xi (if xn a < xn b then xn b else xn a) :: st') M else none
  | _ => none
def i_min (n : Nat) : xI := fun ls st M => match st with
  | .inl b :: .inl a :: st' => if st'.length ≤ 4 then xnx n ls (xi (if xn b < xn a then xn b else xn a) :: st') M else none
  | _ => none
/-- Integer.bitCount, as its code counts -/
def xbc1 (i : Int32) : Int32 := i - ((i.toUInt32 >>> ((1 : Int32).toUInt32 &&& Int32.toUInt32 31)).toInt32 &&& 1431655765)
def xbc2 (i : Int32) : Int32 := (i &&& 858993459) + ((i.toUInt32 >>> ((2 : Int32).toUInt32 &&& Int32.toUInt32 31)).toInt32 &&& 858993459)
def xbc3 (i : Int32) : Int32 := (i + (i.toUInt32 >>> ((4 : Int32).toUInt32 &&& Int32.toUInt32 31)).toInt32) &&& 252645135
def xbc4 (i : Int32) : Int32 := i + (i.toUInt32 >>> ((8 : Int32).toUInt32 &&& Int32.toUInt32 31)).toInt32
def xbc5 (i : Int32) : Int32 := (i + (i.toUInt32 >>> ((16 : Int32).toUInt32 &&& Int32.toUInt32 31)).toInt32) &&& 63
def xbc (x : Int) : Int := (xbc5 (xbc4 (xbc3 (xbc2 (xbc1 (Int32.ofInt x)))))).toInt
def i_bc (n : Nat) : xI := fun ls st M => match st with
  | .inl a :: st' => if st'.length ≤ 4 then xnx n ls (xi (xbc a) :: st') M else none
  | _ => none
def i_iret : xI := fun _ st M => match st with
  | [.inl a] => some (.inr (.inr (some (xi a), M)))
  | _ => none
def i_zret : xI := fun _ st M => match st with
  | [.inl a] => if a = 0 ∨ a = 1 then some (.inr (.inr (some (xi a), M))) else none
  | _ => none
def i_vret : xI := fun _ st M => match st with
  | [] => some (.inr (.inr (none, M)))
  | _ => none
