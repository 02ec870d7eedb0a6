/-! how many bits are set -/
def nb (n : Nat) : Nat → Nat
  | 0 => 0
  | k + 1 => nb n k + (n / 2 ^ k) % 2
theorem nb_8 {a b : Nat} (hb : b < 256) : nb (256 * a + b) 8 = nb b 8 := by
  simp only [nb, Nat.reducePow]
  omega
theorem nb_add {a b : Nat} (hb : b < 256) : ∀ k : Nat, nb (256 * a + b) (8 + k) = nb b 8 + nb a k
  | 0 => by rw [Nat.add_zero, nb_8 hb]; rfl
  | k + 1 => by
    have ih := nb_add (a := a) hb k
    rw [show 8 + (k + 1) = (8 + k) + 1 by omega, nb, ih, nb]
    have e : (256 * a + b) / 2 ^ (8 + k) = a / 2 ^ k := by
      rw [Nat.pow_add, ← Nat.div_div_eq_div_mul, show (256 * a + b) / 2 ^ 8 = a by omega]
    rw [e]
    exact Nat.add_assoc _ _ _
theorem land256 {a b c d : Nat} (hb : b < 256) (hd : d < 256) : (256 * a + b) &&& (256 * c + d) = 256 * (a &&& c) + (b &&& d) := by
  have h1 : ((256 * a + b) &&& (256 * c + d)) >>> 8 = a &&& c := by
    rw [Nat.shiftRight_and_distrib, Nat.shiftRight_eq_div_pow, Nat.shiftRight_eq_div_pow, show (256 * a + b) / 2 ^ 8 = a by omega, show (256 * c + d) / 2 ^ 8 = c by omega]
  have h2 : ((256 * a + b) &&& (256 * c + d)) % 2 ^ 8 = b &&& d := by
    rw [Nat.and_mod_two_pow, show (256 * a + b) % 2 ^ 8 = b by omega, show (256 * c + d) % 2 ^ 8 = d by omega]
  rw [Nat.shiftRight_eq_div_pow] at h1
  have h3 := Nat.div_add_mod ((256 * a + b) &&& (256 * c + d)) (2 ^ 8)
  rw [h1, h2] at h3
  omega
def pk (a b c d : Nat) : Nat := 256 * (256 * (256 * d + c) + b) + a
theorem land_pk {a b c d m : Nat} (ha : a < 256) (hb : b < 256) (hc : c < 256) (hm : m < 256) : pk a b c d &&& pk m m m m = pk (a &&& m) (b &&& m) (c &&& m) (d &&& m) := by
  unfold pk
  rw [land256 ha hm, land256 hb hm, land256 hc hm]
theorem pk_of (n : Nat) : n = pk (n % 256) (n / 256 % 256) (n / 65536 % 256) (n / 16777216) := by
  unfold pk
  omega
theorem nb_pk {a b c d : Nat} (ha : a < 256) (hb : b < 256) (hc : c < 256) : nb (pk a b c d) 32 = nb a 8 + (nb b 8 + (nb c 8 + nb d 8)) := by
  unfold pk
  rw [show (32 : Nat) = 8 + (8 + (8 + 8)) by rfl, nb_add ha, nb_add hb, nb_add hc]
def bs1 (b : Nat) : Nat := b - (b / 2 &&& 85)
def bs2 (b : Nat) : Nat := (b &&& 51) + (b / 4 &&& 51)
theorem bt1 : ∀ b : Nat, b < 256 → ∀ e : Nat, e < 2 → (b / 2 + 128 * e) &&& 85 = b / 2 &&& 85 := by decide +kernel
theorem bt1' : ∀ b : Nat, b < 256 → (b / 2 &&& 85) ≤ b := by decide +kernel
theorem bt2 : ∀ b : Nat, b < 256 → ∀ e : Nat, e < 4 → (b / 4 + 64 * e) &&& 51 = b / 4 &&& 51 := by decide +kernel
theorem bt2' : ∀ b : Nat, b < 256 → bs2 (bs1 b) ≤ 68 ∧ bs2 (bs1 b) % 16 ≤ 4 ∧ (bs2 (bs1 b) + bs2 (bs1 b) / 16) % 16 = nb b 8 := by decide +kernel
theorem bt2'' : ∀ b : Nat, b < 256 → (b &&& 51) + (b / 4 &&& 51) < 256 := by decide +kernel
theorem nb_8le (b : Nat) : nb b 8 ≤ 8 := by
  simp only [nb]
  omega
theorem sw1 {a b c d : Nat} (ha : a < 256) (hb : b < 256) (hc : c < 256) (hd : d < 256) : pk a b c d - (pk a b c d / 2 &&& 1431655765) = pk (bs1 a) (bs1 b) (bs1 c) (bs1 d) ∧ (pk a b c d / 2 &&& 1431655765) ≤ pk a b c d := by
  have e : pk a b c d / 2 = pk (a / 2 + 128 * (b % 2)) (b / 2 + 128 * (c % 2)) (c / 2 + 128 * (d % 2)) (d / 2 + 128 * 0) := by unfold pk; omega
  have m : (1431655765 : Nat) = pk 85 85 85 85 := by decide
  rw [e, m, land_pk (by omega) (by omega) (by omega) (by omega), bt1 a ha _ (by omega), bt1 b hb _ (by omega), bt1 c hc _ (by omega), bt1 d hd _ (by omega)]
  have h1 := bt1' a ha
  have h2 := bt1' b hb
  have h3 := bt1' c hc
  have h4 := bt1' d hd
  unfold bs1
  unfold pk
  constructor <;> omega
theorem sw2 {a b c d : Nat} (ha : a < 256) (hb : b < 256) (hc : c < 256) (hd : d < 256) : (pk a b c d &&& 858993459) + (pk a b c d / 4 &&& 858993459) = pk (bs2 a) (bs2 b) (bs2 c) (bs2 d) := by
  have e : pk a b c d / 4 = pk (a / 4 + 64 * (b % 4)) (b / 4 + 64 * (c % 4)) (c / 4 + 64 * (d % 4)) (d / 4 + 64 * 0) := by unfold pk; omega
  have m : (858993459 : Nat) = pk 51 51 51 51 := by decide
  rw [e, m, land_pk (by omega) (by omega) (by omega) (by omega), land_pk (by omega) (by omega) (by omega) (by omega), bt2 a ha _ (by omega), bt2 b hb _ (by omega), bt2 c hc _ (by omega), bt2 d hd _ (by omega)]
  unfold bs2 pk
  omega
theorem sw3 {a b c d : Nat} (ha : a ≤ 68 ∧ a % 16 ≤ 4) (hb : b ≤ 68 ∧ b % 16 ≤ 4) (hc : c ≤ 68 ∧ c % 16 ≤ 4) (hd : d ≤ 68 ∧ d % 16 ≤ 4) : (pk a b c d + pk a b c d / 16) &&& 252645135 = pk ((a + a / 16) % 16) ((b + b / 16) % 16) ((c + c / 16) % 16) ((d + d / 16) % 16) := by
  have e : pk a b c d + pk a b c d / 16 = pk (a + a / 16 + 16 * (b % 16)) (b + b / 16 + 16 * (c % 16)) (c + c / 16 + 16 * (d % 16)) (d + d / 16) := by unfold pk; omega
  have m : (252645135 : Nat) = pk 15 15 15 15 := by decide
  have h15 : ∀ x : Nat, x &&& 15 = x % 16 := fun x => Nat.and_two_pow_sub_one_eq_mod x 4
  rw [e, m, land_pk (by omega) (by omega) (by omega) (by omega), h15, h15, h15, h15]
  unfold pk
  omega
theorem sw4 {a b c d : Nat} (ha : a ≤ 8) (hb : b ≤ 8) (hc : c ≤ 8) (hd : d ≤ 8) : (pk a b c d + pk a b c d / 256) % 4294967296 = pk (a + b) (b + c) (c + d) d := by
  have e : pk a b c d / 256 = pk b c d 0 := by unfold pk; omega
  rw [e]
  unfold pk
  omega
theorem sw5 {a b c d : Nat} (ha : a ≤ 8) (hb : b ≤ 8) (hc : c ≤ 8) (hd : d ≤ 8) : (pk (a + b) (b + c) (c + d) d + pk (a + b) (b + c) (c + d) d / 65536) % 4294967296 % 64 = a + (b + (c + d)) := by
  have e : pk (a + b) (b + c) (c + d) d / 65536 = pk (c + d) d 0 0 := by unfold pk; omega
  rw [e]
  unfold pk
  omega
abbrev nJ (i : Int32) : Nat := i.toBitVec.toNat
theorem nJ_lt (i : Int32) : nJ i < 4294967296 := i.toBitVec.isLt
theorem nJ_sub (i j : Int32) : nJ (i - j) = (4294967296 - nJ j + nJ i) % 4294967296 := by
  show (i.toBitVec - j.toBitVec).toNat = _
  rw [BitVec.toNat_sub]
theorem nJ_add (i j : Int32) : nJ (i + j) = (nJ i + nJ j) % 4294967296 := by
  show (i.toBitVec + j.toBitVec).toNat = _
  rw [BitVec.toNat_add]
theorem nJ_and (i j : Int32) : nJ (i &&& j) = nJ i &&& nJ j := by
  show (i.toBitVec &&& j.toBitVec).toNat = _
  rw [BitVec.toNat_and]
theorem nJ_shr {i : Int32} {u : UInt32} {k : Nat} (hu : u.toNat % 32 = k) : nJ (i.toUInt32 >>> u).toInt32 = nJ i / 2 ^ k := by
  show (i.toUInt32 >>> u).toNat = _
  rw [UInt32.toNat_shiftRight, hu, Nat.shiftRight_eq_div_pow]
  rfl
theorem xbc_nb (x : Int) : xbc x = (nb (nJ (Int32.ofInt x)) 32 : Nat) := by
  have hlt := nJ_lt (Int32.ofInt x)
  generalize hi : Int32.ofInt x = i at *
  have hpk := pk_of (nJ i)
  have ha : nJ i % 256 < 256 := Nat.mod_lt _ (by decide)
  have hb : nJ i / 256 % 256 < 256 := Nat.mod_lt _ (by decide)
  have hc : nJ i / 65536 % 256 < 256 := Nat.mod_lt _ (by decide)
  have hd : nJ i / 16777216 < 256 := by omega
  generalize nJ i % 256 = a at *
  generalize nJ i / 256 % 256 = b at *
  generalize nJ i / 65536 % 256 = c at *
  generalize nJ i / 16777216 = d at *
  have a2 := bt2' a ha
  have b2 := bt2' b hb
  have c2 := bt2' c hc
  have d2 := bt2' d hd
  have l1 : ∀ b : Nat, b < 256 → bs1 b < 256 := fun b h => by unfold bs1; omega
  have v1 : nJ (xbc1 i) = pk (bs1 a) (bs1 b) (bs1 c) (bs1 d) := by
    unfold xbc1
    rw [nJ_sub, nJ_and, nJ_shr (k := 1) (by decide +kernel), show nJ (1431655765 : Int32) = 1431655765 from by decide +kernel, show (2 : Nat) ^ 1 = 2 from rfl, hpk]
    obtain ⟨h1, h2⟩ := sw1 ha hb hc hd
    have h3 : pk a b c d < 4294967296 := by rw [← hpk]; exact hlt
    omega
  have r1 : pk (bs1 a) (bs1 b) (bs1 c) (bs1 d) < 4294967296 := by rw [← v1]; exact nJ_lt _
  have v2 : nJ (xbc2 (xbc1 i)) = pk (bs2 (bs1 a)) (bs2 (bs1 b)) (bs2 (bs1 c)) (bs2 (bs1 d)) := by
    unfold xbc2
    rw [nJ_add, nJ_and, nJ_and, nJ_shr (k := 2) (by decide +kernel), show nJ (858993459 : Int32) = 858993459 from by decide +kernel, show (2 : Nat) ^ 2 = 4 from rfl, v1, sw2 (l1 a ha) (l1 b hb) (l1 c hc) (l1 d hd)]
    unfold pk
    omega
  have v3 : nJ (xbc3 (xbc2 (xbc1 i))) = pk (nb a 8) (nb b 8) (nb c 8) (nb d 8) := by
    unfold xbc3
    rw [nJ_and, nJ_add, nJ_shr (k := 4) (by decide +kernel), show nJ (252645135 : Int32) = 252645135 from by decide +kernel, show (2 : Nat) ^ 4 = 16 from rfl, v2]
    have := sw3 ⟨a2.1, a2.2.1⟩ ⟨b2.1, b2.2.1⟩ ⟨c2.1, c2.2.1⟩ ⟨d2.1, d2.2.1⟩
    rw [a2.2.2, b2.2.2, c2.2.2, d2.2.2] at this
    rw [← this]
    congr 1
    unfold pk
    omega
  have ea := nb_8le a
  have eb := nb_8le b
  have ec := nb_8le c
  have ed := nb_8le d
  have hn : nb (nJ i) 32 = nb a 8 + (nb b 8 + (nb c 8 + nb d 8)) := by
    rw [hpk]; exact nb_pk ha hb hc
  have v5 : nJ (xbc5 (xbc4 (xbc3 (xbc2 (xbc1 i))))) = nb (nJ i) 32 := by
    rw [hn]
    unfold xbc5 xbc4
    rw [nJ_and, nJ_add, nJ_shr (k := 16) (by decide +kernel), nJ_add, nJ_shr (k := 8) (by decide +kernel), show nJ (63 : Int32) = 2 ^ 6 - 1 from by decide +kernel, Nat.and_two_pow_sub_one_eq_mod, v3, show (2 : Nat) ^ 8 = 256 from rfl, show (2 : Nat) ^ 16 = 65536 from rfl, show (2 : Nat) ^ 6 = 64 from rfl, sw4 ea eb ec ed, sw5 ea eb ec ed]
  unfold xbc
  rw [hi]
  have : ∀ j : Int32, nJ j < 2147483648 → j.toInt = (nJ j : Int) := fun j hj => by
    show j.toBitVec.toInt = _
    rw [BitVec.toInt_eq_toNat_of_lt (by show 2 * nJ j < 2 ^ 32; omega)]
  rw [this _ (by rw [v5, hn]; omega), v5]
theorem nb_xt {x : Int} {k : Nat} : ((nJ (Int32.ofInt x) / 2 ^ k % 2 : Nat) : Int) = if xt x k then 1 else 0 := by
  have e : xt x k = decide (nJ (Int32.ofInt x) / 2 ^ k % 2 = 1) := by
    unfold xt
    rw [BitVec.getLsbD, Nat.testBit_eq_decide_div_mod_eq]
  rw [e]
  by_cases h : nJ (Int32.ofInt x) / 2 ^ k % 2 = 1
  · simp [h]
  · have : nJ (Int32.ofInt x) / 2 ^ k % 2 = 0 := by omega
    simp [this]
theorem nb_cn {x : Int} : ∀ n : Nat, (nb (nJ (Int32.ofInt x)) n : Int) = xcn (fun k => xt x k.toNat) n
  | 0 => rfl
  | n + 1 => by
    rw [nb, xcn_s, ← nb_cn n]
    have := nb_xt (x := x) (k := n)
    simp only [Int.toNat_natCast]
    rw [← this]
    omega
theorem xbc_cn (x : Int) : xbc x = xcn (fun k => xt x k.toNat) 32 := by
  rw [xbc_nb, nb_cn]
/-- bits from n on are none -/
theorem xcn_cut {f : Int → Bool} {n : Nat} : ∀ j : Nat, (∀ k : Nat, n ≤ k → k < n + j → f k = false) → xcn f (n + j) = xcn f n
  | 0, _ => rfl
  | j + 1, h => by
    rw [show n + (j + 1) = (n + j) + 1 by omega, xcn_s, xcn_cut j (fun k a b => h k a (by omega)), h (n + j) (by omega) (by omega)]
    simp
theorem xon_cn (v : Int) : ∀ n : Nat, n < 32 → xon v n = xcn (fun k => xt v k.toNat) n
  | 0, _ => rfl
  | n + 1, h => by
    rw [xon, xcn_s, xon_cn v n (by omega), xbt_t (by omega), Int.toNat_natCast]
/-- none above the 24th -/
def sB (v : Int) : Prop := ∀ k : Nat, 24 ≤ k → xt v k = false
theorem xbc_on {v : Int} (h : sB v) : xbc v = xon v 24 := by
  rw [xbc_cn, xon_cn v 24 (by omega)]
  exact xcn_cut (n := 24) 8 (fun k a b => by simpa using h k a)
