
theorem xn_of {x : Int} (h : -2147483648 ≤ x) (h2 : x < 2147483648) : xn x = x := Int32.toInt_ofInt_of_le (by omega) (by omega)
theorem xn_rng (x : Int) : -2147483648 ≤ xn x ∧ xn x < 2147483648 := ⟨Int32.le_toInt _, Int32.toInt_lt _⟩
theorem xn_ofInt (x : Int) : Int32.ofInt (xn x) = Int32.ofInt x := Int32.ofInt_toInt _
theorem xn_toInt (x : Int32) : xn x.toInt = x.toInt := by rw [xn, Int32.ofInt_toInt]
theorem x_ofbmod (z : Int) : Int32.ofInt (z.bmod (2 ^ 32)) = Int32.ofInt z := by
  rw [Int32.ofInt_eq_iff_bmod_eq_toInt, Int32.toInt_ofInt]
  show (z.bmod (2 ^ 32)).bmod (2 ^ 32) = z.bmod (2 ^ 32)
  simp
theorem x_ofdiv (a b : Int) : Int32.ofInt ((xn a).tdiv (xn b)) = Int32.ofInt a / Int32.ofInt b := by
  rw [← x_ofbmod]
  exact (congrArg Int32.ofInt (Int32.toInt_div (Int32.ofInt a) (Int32.ofInt b)).symm).trans (Int32.ofInt_toInt _)
theorem x_ofrem (a b : Int) : Int32.ofInt ((xn a).tmod (xn b)) = Int32.ofInt a - Int32.ofInt a / Int32.ofInt b * Int32.ofInt b := by
  have h : (xn a).tmod (xn b) = xn a - (xn a).tdiv (xn b) * xn b := by
    rw [Int.tmod_def, Int.mul_comm (xn b)]
  rw [h, Int32.ofInt_sub, Int32.ofInt_mul, x_ofdiv, xn_ofInt, xn_ofInt]
theorem x_ofbmod64 (z : Int) : Int64.ofInt (z.bmod (2 ^ 64)) = Int64.ofInt z := by
  rw [Int64.ofInt_eq_iff_bmod_eq_toInt, Int64.toInt_ofInt]
  show (z.bmod (2 ^ 64)).bmod (2 ^ 64) = z.bmod (2 ^ 64)
  simp
theorem xnl64_ofInt (x : Int) : Int64.ofInt (xnl64 x) = Int64.ofInt x := Int64.ofInt_toInt _
theorem x_ofldiv (a b : Int) : Int64.ofInt ((xnl64 a).tdiv (xnl64 b)) = Int64.ofInt a / Int64.ofInt b := by
  rw [← x_ofbmod64]
  exact (congrArg Int64.ofInt (Int64.toInt_div (Int64.ofInt a) (Int64.ofInt b)).symm).trans (Int64.ofInt_toInt _)
theorem x_oflrem (a b : Int) : Int64.ofInt ((xnl64 a).tmod (xnl64 b)) = Int64.ofInt a - Int64.ofInt a / Int64.ofInt b * Int64.ofInt b := by
  have h : (xnl64 a).tmod (xnl64 b) = xnl64 a - (xnl64 a).tdiv (xnl64 b) * xnl64 b := by
    rw [Int.tmod_def, Int.mul_comm (xnl64 b)]
  rw [h, Int64.ofInt_sub, Int64.ofInt_mul, x_ofldiv, xnl64_ofInt, xnl64_ofInt]
theorem x_clamp {i : Int} : (Int32.ofInt i).toNatClampNeg = (xn i).toNat := rfl
theorem x_vpin {i : Int} {n : Nat} (h1 : 0 ≤ xn i) (h2 : xn i < n) : vp_in (Int32.ofInt i) n := vp_in_iff.mpr ⟨h1, h2⟩
def x_cv (ad : Nat → Nat) : xV → Value
  | .inl x => .int (Int32.ofInt x)
  | .inr (.inl x) => .long (Int64.ofInt x)
  | .inr (.inr (some c)) => .ref (ad c)
  | .inr (.inr none) => .null
def x_ok (lv : List Nat) : xV → Prop
  | .inr (.inr (some c)) => c ∈ lv ∨ c = 58
  | .inr (.inr none) => False
  | _ => True
def x_ty (c : Nat) : FieldType := if x_c c = 21 then .boolean else if x_c c = 22 then .char else if x_c c = 23 then .object RX6 else .int
def x_fv (ad : Nat → Nat) (M : xM) (c k : Nat) : Value := if x_isr (x_c c) k then .ref (ad (x_r c k)) else .int (Int32.ofInt (M c k))
def x_ent (ad : Nat → Nat) (cA : Nat → ClassId) (M : xM) (c : Nat) : va_E :=
  if x_c c < 20 then .inr (x_c c, (List.range (x_nf (x_c c))).map (fun k => x_fv ad M c k))
  else if x_c c = 23 then .inl (cA c, x_n c, .inr (.inr (.inr (.inr (fun j => some (ad (x_r c j)))))))
  else .inl (cA c, x_n c, .inl (fun j => Int32.ofInt (M c j)))
def x_wl (ad : Nat → Nat) (cA : Nat → ClassId) (lv : List Nat) (M : xM) : va_W := lv.map (fun c => (ad c, x_ent ad cA M c))
def x_tys (cA : Nat → ClassId) (lv : List Nat) : List (ClassId × FieldType) := lv.map (fun c => (cA c, x_ty c))
def x_Ls (ad : Nat → Nat) (lv : List Nat) (y : Nat) (sl : Array Slot) (ls : List xV) : Prop := sl.size = xmx y ∧ ls.length = xmx y ∧ lv_wf sl ∧ ∀ (i : Nat) (v : xV), ls[i]? = some v → v = xj ∨ (x_ok lv v ∧ sl[i]? = some (.val (x_cv ad v)))
def x_Sc (s : State) (H0 : Heap) (A : Nat → Prop) (ad : Nat → Nat) (y : Nat) (M : xM) : Prop := y = xlaw → ∃ (L : Nat) (xs : Nat → Int32), va_X (ad 58) L xs s H0 ∧ ad 58 < H0.size ∧ ¬ A (ad 58) ∧ L ≤ 3072 ∧ M 58 (-1) = L ∧ ∀ j : Nat, j < L → xs j = Int32.ofInt (M 58 j)
/-- what holds all the while that method y runs -/
def x_Cx (y : Nat) (p : Program) (l : Launch) (e : Env) (R : Room) (s : State) (m : MethodId) (args : Array Value) (below : List Frame) (meth : Method) (c : Code) (ad : Nat → Nat) (cA dC : Nat → ClassId) (dI : Nat → Nat → Nat) (lv : List Nat) (A : Nat → Prop) (H0 : Heap) (cells slots : Nat) : Prop :=
  p.tables.exec = Jvm.exec ∧ c.code = xby y ∧ c.maxLocals = xmx y ∧ s.vm.findClass (xow y) = some m.cls ∧ (∀ w ∈ xws, w.before args s = true) ∧ xNest s ∧ va_K (dC, dI) x_cls (x_tys cA lv) s ∧ (∀ M : xM, va_D A (x_wl ad cA lv M)) ∧ (∀ q, H0.size ≤ q → A q) ∧ lv.Nodup ∧ (∀ d ∈ lv, ∀ k, x_c d < 24 → (x_isr (x_c d) k = true ∨ (x_c d = 23 ∧ k < x_n d)) → x_r d k ∈ lv) ∧ (xfr y ≤ R.frames ∧ xlo y ≤ R.locals ∧ cells ≤ R.cells ∧ slots ≤ R.slots) ∧ meth.locks = false
def x_W (y : Nat) (p : Program) (l : Launch) (e : Env) (R : Room) (s : State) (m : MethodId) (args : Array Value) (below : List Frame) (meth : Method) (c : Code) (ad : Nat → Nat) (cA dC : Nat → ClassId) (dI : Nat → Nat → Nat) (lv : List Nat) (A : Nat → Prop) (H0 : Heap) (cells slots : Nat) (Q : State → Prop) (pc : Nat) (ls st : List xV) (M : xM) : Prop :=
  ∀ (H : Heap) (locs : List Loc) (sl : Array Slot), va_P (dC, dI) x_cls (x_wl ad cA lv M) H → va_S A H0 H locs → x_Sc s H0 A ad y M → x_Ls ad lv y sl ls → (∀ v ∈ st, x_ok lv v) → W p l e R s m args below meth c H locs cells slots Q (F0 m pc sl (st.map (x_cv ad)))
/-- an instruction that only goes on -/
def xOkN (y pc : Nat) (I : xI) : Prop := ∀ (ls st : List xV) (M : xM) (res : xR), I ls st M = some res → ∃ fr : xF, res = .inl fr ∧ (fr.2.2.2 58 = M 58) ∧
  ∀ (p : Program) (l : Launch) (e : Env) (R : Room) (s : State) (m : MethodId) (args : Array Value) (below : List Frame) (meth : Method) (c : Code) (ad : Nat → Nat) (cA dC : Nat → ClassId) (dI : Nat → Nat → Nat) (lv : List Nat) (A : Nat → Prop) (H0 : Heap) (cells slots : Nat) (Q : State → Prop), x_Cx y p l e R s m args below meth c ad cA dC dI lv A H0 cells slots → x_W y p l e R s m args below meth c ad cA dC dI lv A H0 cells slots Q fr.1 fr.2.1 fr.2.2.1 fr.2.2.2 → x_W y p l e R s m args below meth c ad cA dC dI lv A H0 cells slots Q pc ls st M
theorem x_wlAt {ad : Nat → Nat} {cA : Nat → ClassId} {lv : List Nat} {d : Nat} (h : d ∈ lv) : ∃ q0 : Nat, lv[q0]? = some d ∧ (∀ M, (x_wl ad cA lv M)[q0]? = some (ad d, x_ent ad cA M d)) ∧ (x_tys cA lv)[q0]? = some (cA d, x_ty d) := by
  obtain ⟨q0, h0⟩ := List.getElem?_of_mem h
  refine ⟨q0, h0, fun M => ?_, ?_⟩
  · rw [x_wl, List.getElem?_map, h0]; rfl
  · rw [x_tys, List.getElem?_map, h0]; rfl
theorem xup_ne {M : xM} {d d' : Nat} {k v : Int} (h : d' ≠ d) : xup M d k v d' = M d' := by
  funext b
  simp [xup, h]
theorem x_ent_ne {ad : Nat → Nat} {cA : Nat → ClassId} {M M' : xM} {d : Nat} (h : M' d = M d) : x_ent ad cA M' d = x_ent ad cA M d := by
  simp only [x_ent, x_fv, h]
theorem x_wlSet {ad : Nat → Nat} {cA : Nat → ClassId} {lv : List Nat} (hn : lv.Nodup) {d q0 : Nat} (h : lv[q0]? = some d) (M : xM) (k v : Int) : x_wl ad cA lv (xup M d k v) = (x_wl ad cA lv M).set q0 (ad d, x_ent ad cA (xup M d k v) d) := by
  apply List.ext_getElem?
  intro i
  have hq : q0 < lv.length := (List.getElem?_eq_some_iff.mp h).1
  by_cases hi : i = q0
  · subst hi
    rw [List.getElem?_set_self (by simpa [x_wl] using hq), x_wl, List.getElem?_map, h]; rfl
  · rw [List.getElem?_set_ne (Ne.symm hi), x_wl, x_wl, List.getElem?_map, List.getElem?_map]
    cases hd : lv[i]? with
    | none => rfl
    | some d' =>
      have hne : d' ≠ d := by
        intro e
        subst e
        have hil : i < lv.length := (List.getElem?_eq_some_iff.mp hd).1
        have h1 : lv[i] = lv[q0] := by
          rw [(List.getElem?_eq_some_iff.mp hd).2, (List.getElem?_eq_some_iff.mp h).2]
        exact hi ((List.getElem_inj hn).mp h1)
      simp only [Option.map_some]
      rw [x_ent_ne (xup_ne hne)]
theorem x_entO {ad : Nat → Nat} {cA : Nat → ClassId} {M : xM} {d ci : Nat} (h : x_c d = ci) (hc : ci < 20) : x_ent ad cA M d = .inr (ci, (List.range (x_nf ci)).map (fun k => x_fv ad M d k)) := by
  subst h
  rw [x_ent, if_pos hc]
theorem x_fvI {ad : Nat → Nat} {M : xM} {d ci k : Nat} (h : x_c d = ci) (hr : x_isr ci k = false) : x_fv ad M d k = .int (Int32.ofInt (M d k)) := by
  subst h
  rw [x_fv, hr]; rfl
theorem x_fvR {ad : Nat → Nat} {M : xM} {d ci k : Nat} (h : x_c d = ci) (hr : x_isr ci k = true) : x_fv ad M d k = .ref (ad (x_r d k)) := by
  subst h
  rw [x_fv, hr]; rfl
theorem x_fAt {ad : Nat → Nat} {M : xM} {d n k : Nat} (h : k < n) : ((List.range n).map (fun k => x_fv ad M d k))[k]? = some (x_fv ad M d k) := by
  rw [List.getElem?_map, List.getElem?_range h]; rfl
theorem x_putO {ad : Nat → Nat} {cA : Nat → ClassId} {M : xM} {d ci k : Nat} {v : Int} (h : x_c d = ci) (hc : ci < 20) (hk : k < x_nf ci) (hr : x_isr ci k = false) : x_ent ad cA (xup M d k v) d = .inr (ci, ((List.range (x_nf ci)).map (fun k => x_fv ad M d k)).set k (.int (Int32.ofInt v))) := by
  rw [x_entO h hc]
  congr 2
  apply List.ext_getElem?
  intro i
  by_cases hi : i = k
  · subst hi
    rw [List.getElem?_set_self (by simpa using hk), x_fAt hk, x_fvI h hr]
    simp [xup]
  · rw [List.getElem?_set_ne (Ne.symm hi), List.getElem?_map, List.getElem?_map]
    by_cases hl : i < x_nf ci
    · rw [List.getElem?_range hl]
      have : ¬ ((i : Int) = (k : Int)) := by omega
      simp [x_fv, xup, this]
    · rw [List.getElem?_eq_none (by simpa using hl)]; rfl
theorem x_entA {ad : Nat → Nat} {cA : Nat → ClassId} {M : xM} {d kd : Nat} (h : x_c d = kd) (h1 : 20 ≤ kd) (h2 : kd < 23) : x_ent ad cA M d = .inl (cA d, x_n d, .inl (fun j => Int32.ofInt (M d j))) := by
  rw [x_ent, if_neg (by omega), if_neg (by omega)]
theorem x_entQ {ad : Nat → Nat} {cA : Nat → ClassId} {M : xM} {d : Nat} (h : x_c d = 23) : x_ent ad cA M d = .inl (cA d, x_n d, .inr (.inr (.inr (.inr (fun j => some (ad (x_r d j))))))) := by
  rw [x_ent, if_neg (by omega), if_pos h]
theorem x_putA {ad : Nat → Nat} {cA : Nat → ClassId} {M : xM} {d kd : Nat} {i v : Int} (h : x_c d = kd) (h1 : 20 ≤ kd) (h2 : kd < 23) (hi : 0 ≤ i) : x_ent ad cA (xup M d i v) d = .inl (cA d, x_n d, .inl (upd (fun j => Int32.ofInt (M d j)) i.toNat (Int32.ofInt v))) := by
  rw [x_entA h h1 h2]
  congr 4
  funext j
  simp only [upd, xup, true_and]
  by_cases hj : j = i.toNat
  · rw [if_pos hj, if_pos (by omega)]
  · rw [if_neg hj, if_neg (by omega)]
theorem x_ScUp {s : State} {H0 : Heap} {A : Nat → Prop} {ad : Nat → Nat} {y : Nat} {M M' : xM} (h : M' 58 = M 58) (hs : x_Sc s H0 A ad y M) : x_Sc s H0 A ad y M' := by
  intro hy
  obtain ⟨L, xs, h1, h2, h3, h4, h5, h6⟩ := hs hy
  exact ⟨L, xs, h1, h2, h3, h4, by rw [h]; exact h5, fun j hj => by rw [h]; exact h6 j hj⟩
/-- the locals: read, written -/
theorem x_LsAt {ad : Nat → Nat} {lv : List Nat} {y : Nat} {sl : Array Slot} {ls : List xV} (h : x_Ls ad lv y sl ls) {i : Nat} {v : xV} (hi : ls[i]? = some v) (hv : v ≠ xj) : x_ok lv v ∧ sl[i]? = some (.val (x_cv ad v)) := (h.2.2.2 i v hi).resolve_left hv
/-- the listed locals, for the kit's rows -/
def x_lst (ad : Nat → Nat) (ls : List xV) : List (Nat × Value) := ls.zipIdx.filterMap (fun q => if q.1 = xj then none else some (q.2, x_cv ad q.1))
theorem x_lst_in {ad : Nat → Nat} {ls : List xV} {i : Nat} {v : xV} (hi : ls[i]? = some v) (hv : v ≠ xj) : (i, x_cv ad v) ∈ x_lst ad ls := by
  refine List.mem_filterMap.mpr ⟨(v, i), ?_, by simp [hv]⟩
  exact List.mem_zipIdx_iff_getElem?.mpr hi
theorem x_lst_has {ad : Nat → Nat} {lv : List Nat} {y : Nat} {sl : Array Slot} {ls : List xV} (h : x_Ls ad lv y sl ls) : lv_has sl (xmx y) (x_lst ad ls) := by
  refine ⟨h.1, h.2.2.1, fun q hq => ?_⟩
  obtain ⟨⟨v, i⟩, h1, h2⟩ := List.mem_filterMap.mp hq
  by_cases hv : v = xj
  · simp [hv] at h2
  · simp [hv] at h2
    subst h2
    exact (x_LsAt h (List.mem_zipIdx_iff_getElem?.mp h1) hv).2
theorem x_cat {ad : Nat → Nat} {v : xV} (h : (x_cv ad v).category = 2) : ∃ x, v = xl x := by
  rcases v with x | x | _ | d
  · simp [x_cv, Value.category] at h
  · exact ⟨x, rfl⟩
  · simp [x_cv, Value.category] at h
  · simp [x_cv, Value.category] at h
theorem xst_len : ∀ (ls : List xV) (i : Nat) (v : xV) (ls' : List xV), xst ls i v = some ls' → ls'.length = ls.length ∧ i < ls.length
  | [], _, _, _, h => by simp [xst] at h
  | a :: ls, 0, v, ls', h => by simp [xst] at h; subst h; simp
  | [a], i + 1, v, ls', h => by simp [xst] at h
  | a :: b :: ls, 1, v, ls', h => by simp [xst] at h; subst h; simp
  | a :: b :: ls, i + 2, v, ls', h => by
    simp only [xst, Option.map_eq_some_iff] at h
    obtain ⟨l2, h1, rfl⟩ := h
    have := xst_len (b :: ls) (i + 1) v l2 h1
    simp at this ⊢
    omega
theorem xst_at : ∀ (ls : List xV) (i : Nat) (v : xV) (ls' : List xV), xst ls i v = some ls' → ∀ (j : Nat) (w : xV), ls'[j]? = some w → (j = i ∧ w = v) ∨ (j ≠ i ∧ ((j + 1 ≠ i ∧ ls[j]? = some w) ∨ (j + 1 = i ∧ ∃ w0, ls[j]? = some w0 ∧ w = xjl w0)))
  | [], _, _, _, h, _, _, _ => by simp [xst] at h
  | a :: ls, 0, v, ls', h, j, w, hj => by
    simp [xst] at h; subst h
    cases j with
    | zero => simp at hj; exact Or.inl ⟨rfl, hj.symm⟩
    | succ j => simp at hj; exact Or.inr ⟨by omega, Or.inl ⟨by omega, by simpa using hj⟩⟩
  | [a], i + 1, v, ls', h, _, _, _ => by simp [xst] at h
  | a :: b :: ls, 1, v, ls', h, j, w, hj => by
    simp [xst] at h; subst h
    match j, hj with
    | 0, hj => simp at hj; exact Or.inr ⟨by omega, Or.inr ⟨rfl, a, rfl, hj.symm⟩⟩
    | 1, hj => simp at hj; exact Or.inl ⟨rfl, hj.symm⟩
    | j + 2, hj => simp at hj; exact Or.inr ⟨by omega, Or.inl ⟨by omega, by simpa using hj⟩⟩
  | a :: b :: ls, i + 2, v, ls', h, j, w, hj => by
    simp only [xst, Option.map_eq_some_iff] at h
    obtain ⟨l2, h1, rfl⟩ := h
    cases j with
    | zero => simp at hj; exact Or.inr ⟨by omega, Or.inl ⟨by omega, by simpa using hj⟩⟩
    | succ j =>
      have hj2 : l2[j]? = some w := by simpa using hj
      rcases xst_at (b :: ls) (i + 1) v l2 h1 j w hj2 with ⟨e1, e2⟩ | ⟨e1, h2⟩
      · exact Or.inl ⟨by omega, e2⟩
      · refine Or.inr ⟨by omega, ?_⟩
        rcases h2 with ⟨e2, h2⟩ | ⟨e2, w0, h2, h3⟩
        · exact Or.inl ⟨by omega, by simpa using h2⟩
        · exact Or.inr ⟨by omega, w0, by simpa using h2, h3⟩
theorem xjl_ne {w0 : xV} (h : xjl w0 ≠ xj) : xjl w0 = w0 ∧ ∀ x, w0 ≠ xl x := by
  rcases w0 with x | x | _ | d
  · exact ⟨rfl, fun _ h => by cases h⟩
  · exact absurd rfl h
  · exact absurd rfl h
  · exact ⟨rfl, fun _ h => by cases h⟩
theorem x_LsSet {ad : Nat → Nat} {lv : List Nat} {y : Nat} {sl : Array Slot} {ls ls' : List xV} {i : Nat} {v : xV} (h : x_Ls ad lv y sl ls) (hst : xst ls i v = some ls') (hv : x_ok lv v) (hc : (x_cv ad v).category = 1) :
    ∃ sl', storeLocals sl i (x_cv ad v) = some sl' ∧ x_Ls ad lv y sl' ls' := by
  obtain ⟨e1, e2⟩ := xst_len ls i v ls' hst
  obtain ⟨sl', s1, s2⟩ := lv_store1 (x_lst_has h) (show i < xmx y by rw [← h.2.1]; exact e2) hc
  refine ⟨sl', s1, s2.1, by rw [e1]; exact h.2.1, s2.2.1, fun j w hw => ?_⟩
  by_cases hj : w = xj
  · exact Or.inl hj
  · refine Or.inr ?_
    rcases xst_at ls i v ls' hst j w hw with ⟨rfl, rfl⟩ | ⟨e3, h2⟩
    · exact ⟨hv, s2.2.2 (j, x_cv ad w) List.mem_cons_self⟩
    · have h0 : ls[j]? = some w ∧ (j + 1 = i → ∀ x, w ≠ xl x) := by
        rcases h2 with ⟨e4, h2⟩ | ⟨e4, w0, h2, rfl⟩
        · exact ⟨h2, fun e => absurd e e4⟩
        · obtain ⟨h3, h4⟩ := xjl_ne hj
          exact ⟨by rw [h3]; exact h2, fun _ x hx => h4 x (by rw [← h3]; exact hx)⟩
      refine ⟨(x_LsAt h h0.1 hj).1, s2.2.2 (j, x_cv ad w) (List.mem_cons_of_mem _ (List.mem_filter.mpr ⟨x_lst_in h0.1 hj, ?_⟩))⟩
      by_cases e5 : j + 1 = i
      · have : ¬ (x_cv ad w).category = 2 := fun hcat => by obtain ⟨x, hx⟩ := x_cat hcat; exact h0.2 e5 x hx
        simp [e3, this]
      · simp [e3, e5]

