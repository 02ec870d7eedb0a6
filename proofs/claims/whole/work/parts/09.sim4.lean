theorem xws_good {L : List Cond} (h : ∀ w ∈ L, w ∈ xws) : GoodIn xws L := fun w hw => ⟨h w hw, good_of_word ((List.mem_filter.mp (h w hw)).2)⟩
theorem x_pop : ∀ (k : Nat) (st as as' st' : List xV), xpop k st as = some (as', st') → ∃ tk : List xV, st = tk ++ st' ∧ as' = tk.reverse ++ as ∧ tk.length = k ∧ ∀ v ∈ tk, v ≠ xj ∧ ∀ x, v ≠ xl x
  | 0, st, as, as', st', h => by
    simp [xpop] at h
    obtain ⟨rfl, rfl⟩ := h
    exact ⟨[], rfl, rfl, rfl, fun v hv => by cases hv⟩
  | k + 1, [], as, as', st', h => by simp [xpop] at h
  | k + 1, .inl x :: st, as, as', st', h => by
    obtain ⟨tk, h1, h2, h3, h4⟩ := x_pop k st (xi x :: as) as' st' (by simpa [xpop] using h)
    exact ⟨xi x :: tk, by rw [h1]; rfl, by rw [h2]; simp, by simp [h3], fun v hv => by
      rcases List.mem_cons.mp hv with rfl | hv
      · exact ⟨by simp, by simp⟩
      · exact h4 v hv⟩
  | k + 1, .inr (.inr (some d)) :: st, as, as', st', h => by
    obtain ⟨tk, h1, h2, h3, h4⟩ := x_pop k st (xr d :: as) as' st' (by simpa [xpop] using h)
    exact ⟨xr d :: tk, by rw [h1]; rfl, by rw [h2]; simp, by simp [h3], fun v hv => by
      rcases List.mem_cons.mp hv with rfl | hv
      · exact ⟨by simp, by simp⟩
      · exact h4 v hv⟩
  | k + 1, .inr (.inr none) :: st, as, as', st', h => by simp [xpop] at h
  | k + 1, .inr (.inl x) :: st, as, as', st', h => by simp [xpop] at h
theorem x_cat1 {ad : Nat → Nat} {v : xV} (h : ∀ x, v ≠ xl x) : (x_cv ad v).category = 1 := by
  rcases lv_cat (x_cv ad v) with q | q
  · exact q
  · obtain ⟨x, hx⟩ := x_cat q
    exact absurd hx (h x)
theorem x_args {ad : Nat → Nat} : ∀ (as : List xV) (i0 i : Nat) (v : xV), (∀ v ∈ as, ∀ x, v ≠ xl x) → as[i]? = some v → (i0 + i, x_cv ad v) ∈ lv_args i0 (as.map (x_cv ad))
  | [], _, _, _, _, h => by simp at h
  | a :: as, i0, i, v, hc, h => by
    have h1 : (x_cv ad a).category = 1 := x_cat1 (hc a List.mem_cons_self)
    cases i with
    | zero =>
      simp at h
      subst h
      exact List.mem_cons_self
    | succ i =>
      refine List.mem_cons_of_mem _ ?_
      rw [if_neg (by omega)]
      have := x_args (ad := ad) as (i0 + 1) i v (fun v hv => hc v (List.mem_cons_of_mem _ hv)) (by simpa using h)
      rw [show i0 + (i + 1) = i0 + 1 + i by omega]
      exact this
theorem x_sl {ad : Nat → Nat} (as : List xV) (h : ∀ v ∈ as, ∀ x, v ≠ xl x) : (lg_sl (as.map (x_cv ad))).length = as.length := by
  induction as with
  | nil => rfl
  | cons a as ih =>
    have h1 : (x_cv ad a).category = 1 := x_cat1 (h a List.mem_cons_self)
    have h2 := ih (fun v hv => h v (List.mem_cons_of_mem _ hv))
    simp only [lg_sl, List.map_cons, List.flatMap_cons, List.length_append, List.length_cons] at h2 ⊢
    rw [if_neg (by omega), h2]
    simp; omega
theorem x_entry {ad : Nat → Nat} {lv : List Nat} {z : Nat} {as : List xV} (hk : as.length ≤ xmx z) (ha : ∀ v ∈ as, x_ok lv v ∧ ∀ x, v ≠ xl x) :
    x_Ls ad lv z ((lg_sl (as.map (x_cv ad)) ++ List.replicate (xmx z - (lg_sl (as.map (x_cv ad))).length) Slot.unset).toArray) (as ++ List.replicate (xmx z - as.length) xj) := by
  have hlen := x_sl (ad := ad) as (fun v hv => (ha v hv).2)
  have he := lv_entry (as.map (x_cv ad)) (n := xmx z) (by rw [hlen]; exact hk)
  refine ⟨he.1, by simp; omega, he.2.1, fun i v hi => ?_⟩
  by_cases hil : i < as.length
  · rw [List.getElem?_append_left hil] at hi
    refine Or.inr ⟨(ha v (List.mem_of_getElem? hi)).1, ?_⟩
    have := x_args (ad := ad) as 0 i v (fun v hv => (ha v hv).2) hi
    rw [Nat.zero_add] at this
    exact he.2.2 _ this
  · rw [List.getElem?_append_right (by omega)] at hi
    exact Or.inl (List.eq_of_mem_replicate (List.mem_of_getElem? hi))
def x_A (ad : Nat → Nat) (lv : List Nat) (sz : Nat) : Nat → Prop := fun q => (∃ d ∈ lv, q = ad d) ∨ sz ≤ q
def x_Pc (ad : Nat → Nat) (cA dC : Nat → ClassId) (dI : Nat → Nat → Nat) (lv : List Nat) (sz : Nat) (as : List xV) (M : xM) : Array Value → State → Prop :=
  va_Pc (as.map (x_cv ad)) (fun U => U.heap.size = sz ∧ va_P (dC, dI) x_cls (x_wl ad cA lv M) U.heap ∧ va_K (dC, dI) x_cls (x_tys cA lv) U ∧ xNest U)
def x_Q (ad : Nat → Nat) (cA dC : Nat → ClassId) (dI : Nat → Nat → Nat) (lv : List Nat) (sz : Nat) (r : Option xV) (M : xM) : Array Value → State → Outcome → State → Prop := match r with
  | none => va_Qv (S := Unit) (fun _ => True) (fun _ t => va_P (dC, dI) x_cls (x_wl ad cA lv M) t.heap) (x_A ad lv sz)
  | some v => va_Qi (S := Unit) (fun i _ => x_cv ad v = .int i) (fun _ t => va_P (dC, dI) x_cls (x_wl ad cA lv M) t.heap) (x_A ad lv sz)
def x_Rm (z : Nat) : Room := { frames := xfr z, cells := 0, slots := 0, locals := xlo z }
def x_Wd (z : Nat) : List Cond := Cond.code (xnm z) (xby z) (xmx z) (xrt z) :: xws
/-- method z, called with these, ends with this answer and that memory -/
def x_Met (l : Launch) (z : Nat) (as : List xV) (M : xM) (r : Option xV) (M' : xM) : Prop :=
  ∀ (ad : Nat → Nat) (cA dC : Nat → ClassId) (dI : Nat → Nat → Nat) (lv : List Nat) (sz : Nat) (A0 : Nat → Prop), (∀ M : xM, va_D A0 (x_wl ad cA lv M)) → lv.Nodup → (∀ d ∈ lv, ∀ k, x_c d < 24 → (x_isr (x_c d) k = true ∨ (x_c d = 23 ∧ k < x_n d)) → x_r d k ∈ lv) → (∀ v ∈ as, x_ok lv v) →
    Met l (xnm z) (x_Wd z) (x_Rm z) (x_Pc ad cA dC dI lv sz as M) (x_Q ad cA dC dI lv sz r M') 0 0 (x_A ad lv sz)
/-- what the tables say of a method that is called -/
def xMok (z : Nat) : Prop := Cond.code (xnm z) (xby z) (xmx z) (xrt z) ∈ xws ∧ plainName (xnm z).cls = true ∧ ((xnm z).cls ≠ "java/lang/invoke/MethodHandle" ∧ (xnm z).cls ≠ "java/lang/invoke/VarHandle" ∧ (parseMethodDescriptor (xnm z).desc).map (fun d => d.parameters.length) = some (xnp z)) ∧ xow z = (xnm z).cls ∧ z ≠ xlaw
def xOkV (y pc : Nat) (I : xI) : Prop := ∃ (ci z idx n N : Nat) (C : String) (T : u_T) (cc : ByteArray), I = i_callv ci z (xnp z + 1) (xmx z) n ∧ xby y = cc ∧ decode cc pc = .ok (.invokevirtual idx, 3) ∧ pc + 3 = n ∧ x_cls[ci]? = some (C, T, N) ∧ ci < 20 ∧ (xnm z).cls = C ∧ Cond.methodLink (xow y) idx (xnm z) ∈ xws ∧ Cond.instanceMethod (xnm z) ∈ xws ∧ Cond.selects C (xnm z) (xnm z) ∈ xws ∧ Cond.initialized C ∈ xws ∧ xMok z ∧ xfr z + 1 ≤ xfr y ∧ 8 + (xmx z + 11) + xlo z ≤ xlo y
def xOkS (y pc : Nat) (I : xI) : Prop := ∃ (z idx n : Nat) (cc : ByteArray), I = i_call z (xnp z) (xmx z) n ∧ xby y = cc ∧ decode cc pc = .ok (.invokestatic idx, 3) ∧ pc + 3 = n ∧ (xnm z).cls = xow y ∧ Cond.methodLink (xow y) idx (xnm z) ∈ xws ∧ Cond.static (xnm z) ∈ xws ∧ Cond.initialized (xow y) ∈ xws ∧ xMok z ∧ xfr z + 1 ≤ xfr y ∧ 8 + (xmx z + 11) + xlo z ≤ xlo y
def xOkT (y pc : Nat) (I : xI) : Prop := ∃ (z idx n : Nat) (cc : ByteArray) (host : String), I = i_call z (xnp z) (xmx z) n ∧ xby y = cc ∧ decode cc pc = .ok (.invokestatic idx, 3) ∧ pc + 3 = n ∧ (xow y, idx, xnm z, host) ∈ xnest ∧ Cond.static (xnm z) ∈ xws ∧ Cond.initialized (xnm z).cls ∈ xws ∧ xMok z ∧ xfr z + 1 ≤ xfr y ∧ 8 + (xmx z + 11) + xlo z ≤ xlo y
def xRet (y pc : Nat) (r : Option xV) : Prop := match r with
  | none => decode (xby y) pc = .ok (.return_, 1) ∧ xrt y = none
  | some v => decode (xby y) pc = .ok (.ireturn, 1) ∧ ∃ x : Int, v = xi x ∧ (xrt y = some .int ∨ (xrt y = some .boolean ∧ (x = 0 ∨ x = 1)))
def xOkR (y pc : Nat) (I : xI) : Prop := ∀ (ls st : List xV) (M : xM) (res : xR), I ls st M = some res → ∃ r : Option xV, res = .inr (.inr (r, M)) ∧ st = r.toList ∧ xRet y pc r
def xOk (y pc : Nat) (I : xI) : Prop := xOkN y pc I ∨ xOkV y pc I ∨ xOkS y pc I ∨ xOkT y pc I ∨ xOkR y pc I
theorem ok_iret {y pc : Nat} {cc : ByteArray} (hcc : xby y = cc) (hd : decode cc pc = .ok (.ireturn, 1)) (hr : xrt y = some .int) : xOkR y pc i_iret := by
  intro ls st M res h
  unfold i_iret at h
  split at h
  · cases h
    exact ⟨_, rfl, rfl, by rw [hcc]; exact hd, _, rfl, Or.inl hr⟩
  · cases h
theorem ok_zret {y pc : Nat} {cc : ByteArray} (hcc : xby y = cc) (hd : decode cc pc = .ok (.ireturn, 1)) (hr : xrt y = some .boolean) : xOkR y pc i_zret := by
  intro ls st M res h
  unfold i_zret at h
  split at h
  · split at h
    · rename_i h01
      cases h
      exact ⟨_, rfl, rfl, by rw [hcc]; exact hd, _, rfl, Or.inr ⟨hr, h01⟩⟩
    · cases h
  · cases h
theorem ok_vret {y pc : Nat} {cc : ByteArray} (hcc : xby y = cc) (hd : decode cc pc = .ok (.return_, 1)) (hr : xrt y = none) : xOkR y pc i_vret := by
  intro ls st M res h
  unfold i_vret at h
  split at h
  · cases h
    exact ⟨_, rfl, rfl, by rw [hcc]; exact hd, hr⟩
  · cases h
/-- the run of method y's frame, call by call -/
def xrun : Nat → Nat → xF → Option (Option xV × xM)
  | 0, _, _ => none
  | f + 1, y, fr => match xcode y fr.1 fr.2.1 fr.2.2.1 fr.2.2.2 with
    | none => none
    | some (.inl g) => xrun f y g
    | some (.inr (.inl q)) => match xrun f q.1 (0, q.2.1, [], q.2.2.2.2.2) with
      | none => none
      | some w => xrun f y (q.2.2.1, q.2.2.2.1, w.1.toList ++ q.2.2.2.2.1, w.2)
    | some (.inr (.inr w)) => some w
def x_Sim (f : Nat) : Prop := ∀ (y pc : Nat) (ls st : List xV) (M : xM) (r : Option xV) (M' : xM), xrun f y (pc, ls, st, M) = some (r, M') → M' 58 = M 58 ∧
  ∀ (p : Program) (l : Launch) (e : Env) (R : Room) (s : State) (m : MethodId) (args : Array Value) (below : List Frame) (meth : Method) (c : Code) (ad : Nat → Nat) (cA dC : Nat → ClassId) (dI : Nat → Nat → Nat) (lv : List Nat) (A : Nat → Prop) (H0 : Heap) (cells slots : Nat) (Q : State → Prop), x_Cx y p l e R s m args below meth c ad cA dC dI lv A H0 cells slots → (∀ (pc' : Nat) (ls' : List xV), xRet y pc' r → x_W y p l e R s m args below meth c ad cA dC dI lv A H0 cells slots Q pc' ls' r.toList M') → x_W y p l e R s m args below meth c ad cA dC dI lv A H0 cells slots Q pc ls st M
theorem x_nestMoved {s U : State} (hW : s.WarmedH U.vm) (h : xNest s) : xNest U := fun q hq => va_Nw.warmM hW (h q hq)
theorem x_blind {ad : Nat → Nat} {cA dC : Nat → ClassId} {dI : Nat → Nat → Nat} {lv : List Nat} {sz : Nat} {as : List xV} {M : xM} : FrameBlind (x_Pc ad cA dC dI lv sz as M) :=
  fun a U g mk q => ⟨q.1, q.2.1, q.2.2.1, va_K.moved (u := U) (U := U.calling g mk a) (Vm.Alike.refl U.vm) q.2.2.2.1, fun w hw => va_Nw.same rfl rfl (q.2.2.2.2 w hw)⟩
theorem x_Dself {ad : Nat → Nat} {cA : Nat → ClassId} {lv : List Nat} {sz : Nat} {A0 : Nat → Prop} {M : xM} (h : va_D A0 (x_wl ad cA lv M)) : va_D (x_A ad lv sz) (x_wl ad cA lv M) := by
  refine ⟨h.1, fun k q hq => ?_⟩
  obtain ⟨d, hd, rfl⟩ := List.mem_map.mp (List.mem_of_getElem? hq)
  exact Or.inl ⟨d, hd, rfl⟩
theorem x_Ain {ad : Nat → Nat} {cA : Nat → ClassId} {lv : List Nat} {sz : Nat} {A0 : Nat → Prop} (h : ∀ M : xM, va_D A0 (x_wl ad cA lv M)) (hn : ∀ q, sz ≤ q → A0 q) : ∀ q, x_A ad lv sz q → A0 q := by
  intro q hq
  rcases hq with ⟨d, hd, rfl⟩ | hq
  · obtain ⟨q0, h0⟩ := List.getElem?_of_mem hd
    exact (h (fun _ _ => 0)).2 q0 (ad d, x_ent ad cA (fun _ _ => 0) d) (by rw [x_wl, List.getElem?_map, h0]; rfl)
  · exact hn q hq
/-- out of the run of its frame: the method's contract -/
theorem x_met {f : Nat} (IH : x_Sim f) {z : Nat} (hz : xMok z) {as : List xV} {M : xM} {r : Option xV} {M' : xM} (hk : as.length ≤ xmx z) (hl : ∀ v ∈ as, ∀ x, v ≠ xl x) (hr : xrun f z (0, as ++ List.replicate (xmx z - as.length) xj, [], M) = some (r, M')) (l : Launch) : x_Met l z as M r M' := by
  intro ad cA dC dI lv sz A0 hD0 hnd hcl hok
  obtain ⟨hcw, hpl, hd, how, hlaw⟩ := hz
  refine Met.ofW (cc := xby z) (maxL := xmx z) (ret := xrt z) (ws' := xws) hpl rfl ?_
  intro p e s m args below meth c s₁ B hml hv
  obtain ⟨rfl, hsz, hP, hK, hN⟩ := hv
  have hts := atoms_spec (ws := x_Wd z) B.pre
  have hown : s.vm.findClass (xow z) = some m.cls := by rw [how]; exact findClass_of_methodNamed B.named
  subst hsz
  rw [lg_entry_eq]
  have hC : x_Cx z p l e (headSpec (x_Wd z) (x_Rm z)).room s m (as.map (x_cv ad)).toArray below meth c ad cA dC dI lv (x_A ad lv s.heap.size) s.heap 0 0 :=
    ⟨B.exec, B.bytes, hml, hown, fun w hw => hts w (List.mem_cons_of_mem _ hw), hN, hK, fun M => x_Dself (hD0 M), fun q hq => Or.inr hq, hnd, hcl, ⟨Nat.le_refl _, Nat.le_refl _, Nat.le_refl _, Nat.le_refl _⟩, B.notSynchronized⟩
  have hS : va_S (x_A ad lv s.heap.size) s.heap s.heap [] := va_S.rf
  refine (IH z 0 _ [] M r M' hr).2 p l e _ s m _ below meth c ad cA dC dI lv _ s.heap 0 0 _ hC ?_ s.heap [] _ hP hS (fun h => absurd h hlaw) (x_entry hk (fun v hv => ⟨hok v hv, hl v hv⟩)) (fun v hv => by cases hv)
  intro pc' ls' hret H locs sl hP' hS' _ _ _
  have hb := B.bytes
  have hrt := B.returns
  cases r with
  | none =>
    obtain ⟨hdec, hty⟩ := hret
    rw [hty] at hrt
    exact W.vret B.exec hb hrt (fun t ht hW => ⟨⟨(), rfl, trivial, (show va_P _ _ _ t.heap by rw [ht]; exact hP')⟩, hS'.F ht⟩) hS'.2.2 hdec B.notSynchronized
  | some v =>
    obtain ⟨hdec, x, rfl, hty⟩ := hret
    rcases hty with hty | ⟨hty, h01⟩
    · rw [hty] at hrt
      exact W.iret (v := Int32.ofInt x) B.exec hb hrt (fun t ht hW => ⟨⟨Int32.ofInt x, (), rfl, rfl, (show va_P _ _ _ t.heap by rw [ht]; exact hP')⟩, hS'.F ht⟩) hS'.2.2 hdec B.notSynchronized
    · rw [hty] at hrt
      exact W.zret (v := Int32.ofInt x) B.exec hb hrt (by rcases h01 with rfl | rfl <;> rfl) (fun t ht hW => ⟨⟨Int32.ofInt x, (), rfl, rfl, (show va_P _ _ _ t.heap by rw [ht]; exact hP')⟩, hS'.F ht⟩) hS'.2.2 hdec B.notSynchronized
/-- behind a call that has run: the caller goes on -/
theorem x_after {y pc n : Nat} {M : xM} {r : Option xV} {M' : xM} {ls st' : List xV} (hn : pc + 3 = n) (h58 : M' 58 = M 58) (p : Program) (l : Launch) (e : Env) (R : Room) (s : State) (m : MethodId) (args : Array Value) (below : List Frame) (meth : Method) (c : Code) (ad : Nat → Nat) (cA dC : Nat → ClassId) (dI : Nat → Nat → Nat) (lv : List Nat) (A : Nat → Prop) (H0 : Heap) (cells slots : Nat) (Q : State → Prop) (hC : x_Cx y p l e R s m args below meth c ad cA dC dI lv A H0 cells slots) (hW : x_W y p l e R s m args below meth c ad cA dC dI lv A H0 cells slots Q n ls (r.toList ++ st') M') {H : Heap} {locs : List Loc} {sl : Array Slot} (hS : va_S A H0 H locs) (hSc : x_Sc s H0 A ad y M) (hL : x_Ls ad lv y sl ls) (hst : ∀ v ∈ st', x_ok lv v) {st0 : List Value} {a : Array Value}
    (hrun : va_Run p l e R s m args below meth c H locs cells slots 0 0 (F0 m pc sl st0) (st'.map (x_cv ad)) (x_Q ad cA dC dI lv H.size r M' a) (x_A ad lv H.size)) : W p l e R s m args below meth c H locs cells slots Q (F0 m pc sl st0) := by
  obtain ⟨hx, hb, hml, hown, hts, hnest, hK, hD, hA, hnd, hcl, hroom, hlocks⟩ := id hC
  have hA0 : ∀ q, x_A ad lv H.size q → A q := x_Ain hD (fun q hq => hA q (Nat.le_trans hS.1 hq))
  cases r with
  | none =>
    refine va_callv (a := a) hrun hS (fun q _ h => hA0 q h) hA0 (fun u t H1 locs1 ht hvm hw hB hz1 hk1 hS1 => ?_)
    rw [ht] at hB
    subst hn
    exact hW H1 locs1 sl hB hS1 (x_ScUp h58 hSc) hL hst
  | some v =>
    refine va_calli (a := a) hrun hS (fun q _ h => hA0 q h) hA0 (fun i u t H1 locs1 ht hvm hw hB hz1 hk1 hS1 => ?_)
    rw [ht] at hB
    subst hn
    have h9 := hW H1 locs1 sl hB hS1 (x_ScUp h58 hSc) hL (fun w hw2 => by
      rcases List.mem_cons.mp hw2 with rfl | hw2
      · rcases w with x | x | _ | d
        · trivial
        · trivial
        · cases hw
        · cases hw
      · exact hst w hw2)
    refine W.eq ?_ h9
    show F0 m (pc + 3) sl (Value.int i :: _) = F0 m (pc + 3) sl (x_cv ad v :: _)
    rw [hw]; rfl
theorem x_callV {f : Nat} (IH : x_Sim f) {y pc : Nat} {I : xI} (h : xOkV y pc I) {ls st : List xV} {M : xM} {q : Nat × (List xV × xF)} (hI : I ls st M = some (.inr (.inl q))) {w : Option xV × xM} (hr : xrun f q.1 (0, q.2.1, [], q.2.2.2.2.2) = some w) :
    w.2 58 = M 58 ∧ q.2.2.2.2.2 = M ∧ ∀ (p : Program) (l : Launch) (e : Env) (R : Room) (s : State) (m : MethodId) (args : Array Value) (below : List Frame) (meth : Method) (c : Code) (ad : Nat → Nat) (cA dC : Nat → ClassId) (dI : Nat → Nat → Nat) (lv : List Nat) (A : Nat → Prop) (H0 : Heap) (cells slots : Nat) (Q : State → Prop), x_Cx y p l e R s m args below meth c ad cA dC dI lv A H0 cells slots → x_W y p l e R s m args below meth c ad cA dC dI lv A H0 cells slots Q q.2.2.1 q.2.2.2.1 (w.1.toList ++ q.2.2.2.2.1) w.2 → x_W y p l e R s m args below meth c ad cA dC dI lv A H0 cells slots Q pc ls st M := by
  obtain ⟨ci, z, idx, n, N, C, T, cc, rfl, hcc, hd, hn, hcl0, hci, hC0, w1, w2, w3, w4, hz, hf, hlo⟩ := h
  unfold i_callv at hI
  split at hI
  · rename_i d as st' hpop
    split at hI
    · rename_i hg
      obtain ⟨hdc, hlen, hmx⟩ := hg
      cases hI
      obtain ⟨r, M'⟩ := w
      obtain ⟨tk, t1, t2, t3, t4⟩ := x_pop _ _ _ _ _ hpop
      rw [List.append_nil] at t2
      have htk : tk = (xr d :: as).reverse := by rw [t2, List.reverse_reverse]
      have hlenas : (xr d :: as).length = xnp z + 1 := by rw [t2, List.length_reverse, t3]
      have hl : ∀ v ∈ (xr d :: as), ∀ x, v ≠ xl x := fun v hv => (t4 v (by rw [htk]; exact List.mem_reverse.mpr hv)).2
      have hr' : xrun f z (0, (xr d :: as) ++ List.replicate (xmx z - (xr d :: as).length) xj, [], M) = some (r, M') := by rw [hlenas]; exact hr
      refine ⟨(IH _ _ _ _ _ _ _ hr').1, rfl, ?_⟩
      intro p l e R s m args below meth c ad cA dC dI lv A H0 cells slots Q hC hW H locs sl hP hS hSc hL hst; obtain ⟨hx, hb, hml, hown, hts, hnest, hK, hD, hA, hnd, hcl, hroom, hlocks⟩ := id hC
      have hok : ∀ v ∈ (xr d :: as), x_ok lv v := fun v hv => hst v (by rw [t1, htk]; exact List.mem_append_left _ (List.mem_reverse.mpr hv))
      have hlv := x_live (hok _ List.mem_cons_self) hdc (by omega)
      obtain ⟨q0, h0, h1, h2⟩ := x_wlAt (ad := ad) (cA := cA) hlv
      have hM := x_met IH hz (by rw [hlenas]; exact hmx) hl hr' l ad cA dC dI lv H.size A hD hnd hcl hok
      refine x_after hn (IH _ _ _ _ _ _ _ hr').1 p l e R s m args below meth c ad cA dC dI lv A H0 cells slots Q hC hW hS hSc hL (fun v hv => hst v (by rw [t1]; exact List.mem_append_right _ hv)) (a := (Value.ref (ad d) :: as.map (x_cv ad)).toArray) ?_
      refine va_runV (As := as.map (x_cv ad)) (rest := st'.map (x_cv ad)) (C := C) (y := xnm z) (bytes := xby z) (maxL := xmx z) (nL := xmx y) (ret := xrt z) (Ts := xws) (n := xnp z) (index := idx) (own := xow y) (b := ad d) ⟨hx, hb.trans hcc, hml, hown, hts⟩ hM (cwV (xnp z) hts (xws_good ?_) rfl rfl rfl ⟨hC0, hz.2.2.1⟩ ⟨?_, ?_⟩) ⟨x_blind, ?_, ?_⟩ rfl ?_ hL.1 ?_ (lv_room (x_sum ad st' hlen)) hd ⟨hroom.2.2.1, hroom.2.2.2⟩
      · intro w hw
        rcases List.mem_append.mp hw with hw | hw
        · simp only [List.mem_cons, List.not_mem_nil, or_false] at hw
          rcases hw with rfl | rfl | rfl | rfl
          · exact w1
          · exact w2
          · exact w3
          · exact w4
        · rcases List.mem_cons.mp hw with rfl | hw
          · exact hz.1
          · exact hw
      · exact Nat.le_trans hf hroom.1
      · exact Nat.le_trans hlo hroom.2.1
      · exact va_recv hK hP hcl0 (q0 := q0) (a := ad d) (by rw [h1, x_entO hdc hci])
      · intro U hU hWm
        exact ⟨rfl, by rw [hU], by rw [hU]; exact hP, va_K.moved hWm.alike hK, x_nestMoved hWm hnest⟩
      · have := hlenas
        simp at this ⊢
        exact this
      · show st.map (x_cv ad) = _
        rw [t1, htk, List.map_append, List.map_reverse, List.map_cons, List.reverse_cons, List.append_assoc]
        rfl
    · cases hI
  · cases hI
theorem x_callS {f : Nat} (IH : x_Sim f) {y pc : Nat} {I : xI} (h : xOkS y pc I ∨ xOkT y pc I) {ls st : List xV} {M : xM} {q : Nat × (List xV × xF)} (hI : I ls st M = some (.inr (.inl q))) {w : Option xV × xM} (hr : xrun f q.1 (0, q.2.1, [], q.2.2.2.2.2) = some w) :
    w.2 58 = M 58 ∧ q.2.2.2.2.2 = M ∧ ∀ (p : Program) (l : Launch) (e : Env) (R : Room) (s : State) (m : MethodId) (args : Array Value) (below : List Frame) (meth : Method) (c : Code) (ad : Nat → Nat) (cA dC : Nat → ClassId) (dI : Nat → Nat → Nat) (lv : List Nat) (A : Nat → Prop) (H0 : Heap) (cells slots : Nat) (Q : State → Prop), x_Cx y p l e R s m args below meth c ad cA dC dI lv A H0 cells slots → x_W y p l e R s m args below meth c ad cA dC dI lv A H0 cells slots Q q.2.2.1 q.2.2.2.1 (w.1.toList ++ q.2.2.2.2.1) w.2 → x_W y p l e R s m args below meth c ad cA dC dI lv A H0 cells slots Q pc ls st M := by
  obtain ⟨z, idx, n, cc, hIe, hcc, hd, hn, hz, hf, hlo, hcase⟩ : ∃ (z idx n : Nat) (cc : ByteArray), I = i_call z (xnp z) (xmx z) n ∧ xby y = cc ∧ decode cc pc = .ok (.invokestatic idx, 3) ∧ pc + 3 = n ∧ xMok z ∧ xfr z + 1 ≤ xfr y ∧ 8 + (xmx z + 11) + xlo z ≤ xlo y ∧ (((xnm z).cls = xow y ∧ Cond.methodLink (xow y) idx (xnm z) ∈ xws ∧ Cond.static (xnm z) ∈ xws ∧ Cond.initialized (xow y) ∈ xws) ∨ ∃ host, (xow y, idx, xnm z, host) ∈ xnest ∧ Cond.static (xnm z) ∈ xws ∧ Cond.initialized (xnm z).cls ∈ xws) := by
    rcases h with ⟨z, idx, n, cc, h1, h2, h3, h4, h5, h6, h7, h8, h9, h10, h11⟩ | ⟨z, idx, n, cc, host, h1, h2, h3, h4, h5, h6, h7, h9, h10, h11⟩
    · exact ⟨z, idx, n, cc, h1, h2, h3, h4, h9, h10, h11, Or.inl ⟨h5, h6, h7, h8⟩⟩
    · exact ⟨z, idx, n, cc, h1, h2, h3, h4, h9, h10, h11, Or.inr ⟨host, h5, h6, h7⟩⟩
  subst hIe
  unfold i_call at hI
  split at hI
  · rename_i as st' hpop
    split at hI
    · rename_i hg
      obtain ⟨hlen, hmx⟩ := hg
      cases hI
      obtain ⟨r, M'⟩ := w
      obtain ⟨tk, t1, t2, t3, t4⟩ := x_pop _ _ _ _ _ hpop
      rw [List.append_nil] at t2
      have htk : tk = as.reverse := by rw [t2, List.reverse_reverse]
      have hlenas : as.length = xnp z := by rw [t2, List.length_reverse, t3]
      have hl : ∀ v ∈ as, ∀ x, v ≠ xl x := fun v hv => (t4 v (by rw [htk]; exact List.mem_reverse.mpr hv)).2
      have hr' : xrun f z (0, as ++ List.replicate (xmx z - as.length) xj, [], M) = some (r, M') := by rw [hlenas]; exact hr
      refine ⟨(IH _ _ _ _ _ _ _ hr').1, rfl, ?_⟩
      intro p l e R s m args below meth c ad cA dC dI lv A H0 cells slots Q hC hW H locs sl hP hS hSc hL hst; obtain ⟨hx, hb, hml, hown, hts, hnest, hK, hD, hA, hnd, hcl, hroom, hlocks⟩ := id hC
      have hok : ∀ v ∈ as, x_ok lv v := fun v hv => hst v (by rw [t1, htk]; exact List.mem_append_left _ (List.mem_reverse.mpr hv))
      have hM := x_met IH hz (by rw [hlenas]; exact hmx) hl hr' l ad cA dC dI lv H.size A hD hnd hcl hok
      refine x_after hn (IH _ _ _ _ _ _ _ hr').1 p l e R s m args below meth c ad cA dC dI lv A H0 cells slots Q hC hW hS hSc hL (fun v hv => hst v (by rw [t1]; exact List.mem_append_right _ hv)) (a := (as.map (x_cv ad)).toArray) ?_
      have hGx : GoodIn xws (x_Wd z) := xws_good (fun w hw => by
        rcases List.mem_cons.mp hw with rfl | hw
        · exact hz.1
        · exact hw)
      have hPre : PreS s H (x_Pc ad cA dC dI lv H.size as M) (as.map (x_cv ad)) := ⟨x_blind, fun U hU hWm => ⟨rfl, by rw [hU], by rw [hU]; exact hP, va_K.moved hWm.alike hK, x_nestMoved hWm hnest⟩⟩
      have hlas : (as.map (x_cv ad)).length = xnp z := by rw [List.length_map]; exact hlenas
      have hstk : st.map (x_cv ad) = (as.map (x_cv ad)).reverse ++ st'.map (x_cv ad) := by
        rw [t1, htk, List.map_append, List.map_reverse]
      rcases hcase with ⟨c1, c2, c3, c4⟩ | ⟨host, c2, c3, c4⟩
      · refine va_runS (As := as.map (x_cv ad)) (rest := st'.map (x_cv ad)) (y := xnm z) (bytes := xby z) (maxL := xmx z) (nL := xmx y) (ret := xrt z) (Ts := xws) (n := xnp z) (index := idx) (own := xow y) ⟨hx, hb.trans hcc, hml, hown, hts⟩ hM (cwS (xnp z) hts (xws_good ?_) rfl rfl rfl ⟨c1, hz.2.2.1⟩ ⟨Nat.le_trans hf hroom.1, Nat.le_trans hlo hroom.2.1⟩) hPre rfl hlas hL.1 hstk (lv_room (x_sum ad st' hlen)) hd ⟨hroom.2.2.1, hroom.2.2.2⟩
        intro w hw
        rcases List.mem_append.mp hw with hw | hw
        · simp only [List.mem_cons, List.not_mem_nil, or_false] at hw
          rcases hw with rfl | rfl | rfl
          · exact c2
          · exact c3
          · exact c4
        · exact (hGx w hw).1
      · exact va_runSN (As := as.map (x_cv ad)) (rest := st'.map (x_cv ad)) (y := xnm z) (bytes := xby z) (maxL := xmx z) (nL := xmx y) (ret := xrt z) (Ts := xws) (n := xnp z) (index := idx) (own := xow y) (host := host) ⟨hx, hb.trans hcc, hml, hown, hts⟩ hM ⟨va_cnB (xnp z) hts hGx rfl rfl rfl (hnest _ c2) (hts _ c4) hz.2.2.1 ⟨Nat.le_trans hf hroom.1, Nat.le_trans hlo hroom.2.1⟩, hts _ c3, trivial⟩ hPre rfl hlas hL.1 hstk (lv_room (x_sum ad st' hlen)) hd ⟨hroom.2.2.1, hroom.2.2.2⟩
    · cases hI
  · cases hI
/-- THE FLAT MACHINE'S RUN IS THE MACHINE'S, where each instruction of the table is its method's -/
theorem x_sim (hall : ∀ (y pc : Nat), xOk y pc (xcode y pc)) : ∀ f, x_Sim f := by
  intro f
  induction f with
  | zero =>
    intro y pc ls st M r M' h
    cases h
  | succ f IH =>
    intro y pc ls st M r M' h
    unfold xrun at h
    dsimp only at h
    cases hI : xcode y pc ls st M with
    | none => rw [hI] at h; cases h
    | some res =>
      rw [hI] at h
      rcases hall y pc with hN | hV | hS | hT | hR
      · obtain ⟨fr, rfl, h58, hk⟩ := hN ls st M res hI
        obtain ⟨pc1, ls1, st1, M1⟩ := fr
        obtain ⟨i1, i2⟩ := IH y pc1 ls1 st1 M1 r M' h
        exact ⟨i1.trans h58, fun p l e R s m args below meth c ad cA dC dI lv A H0 cells slots Q hC hW => hk p l e R s m args below meth c ad cA dC dI lv A H0 cells slots Q hC (i2 p l e R s m args below meth c ad cA dC dI lv A H0 cells slots Q hC hW)⟩
      · obtain ⟨q, rfl⟩ : ∃ q, res = .inr (.inl q) := by
          obtain ⟨ci, z, idx, n, N, C, T, cc, h1, -⟩ := hV
          rw [h1] at hI
          unfold i_callv at hI
          split at hI
          · split at hI
            · cases hI; exact ⟨_, rfl⟩
            · cases hI
          · cases hI
        dsimp only at h
        cases hw : xrun f q.1 (0, q.2.1, [], q.2.2.2.2.2) with
        | none => rw [hw] at h; cases h
        | some w =>
          rw [hw] at h
          obtain ⟨j1, j2, j3⟩ := x_callV IH hV hI hw
          obtain ⟨i1, i2⟩ := IH y _ _ _ _ r M' h
          exact ⟨i1.trans j1, fun p l e R s m args below meth c ad cA dC dI lv A H0 cells slots Q hC hW => j3 p l e R s m args below meth c ad cA dC dI lv A H0 cells slots Q hC (i2 p l e R s m args below meth c ad cA dC dI lv A H0 cells slots Q hC hW)⟩
      · obtain ⟨q, rfl⟩ : ∃ q, res = .inr (.inl q) := by
          obtain ⟨z, idx, n, cc, h1, -⟩ := hS
          rw [h1] at hI
          unfold i_call at hI
          split at hI
          · split at hI
            · cases hI; exact ⟨_, rfl⟩
            · cases hI
          · cases hI
        dsimp only at h
        cases hw : xrun f q.1 (0, q.2.1, [], q.2.2.2.2.2) with
        | none => rw [hw] at h; cases h
        | some w =>
          rw [hw] at h
          obtain ⟨j1, j2, j3⟩ := x_callS IH (Or.inl hS) hI hw
          obtain ⟨i1, i2⟩ := IH y _ _ _ _ r M' h
          exact ⟨i1.trans j1, fun p l e R s m args below meth c ad cA dC dI lv A H0 cells slots Q hC hW => j3 p l e R s m args below meth c ad cA dC dI lv A H0 cells slots Q hC (i2 p l e R s m args below meth c ad cA dC dI lv A H0 cells slots Q hC hW)⟩
      · obtain ⟨q, rfl⟩ : ∃ q, res = .inr (.inl q) := by
          obtain ⟨z, idx, n, cc, host, h1, -⟩ := hT
          rw [h1] at hI
          unfold i_call at hI
          split at hI
          · split at hI
            · cases hI; exact ⟨_, rfl⟩
            · cases hI
          · cases hI
        dsimp only at h
        cases hw : xrun f q.1 (0, q.2.1, [], q.2.2.2.2.2) with
        | none => rw [hw] at h; cases h
        | some w =>
          rw [hw] at h
          obtain ⟨j1, j2, j3⟩ := x_callS IH (Or.inr hT) hI hw
          obtain ⟨i1, i2⟩ := IH y _ _ _ _ r M' h
          exact ⟨i1.trans j1, fun p l e R s m args below meth c ad cA dC dI lv A H0 cells slots Q hC hW => j3 p l e R s m args below meth c ad cA dC dI lv A H0 cells slots Q hC (i2 p l e R s m args below meth c ad cA dC dI lv A H0 cells slots Q hC hW)⟩
      · obtain ⟨r0, rfl, rfl, hret⟩ := hR ls st M res hI
        cases h
        exact ⟨rfl, fun p l e R s m args below meth c ad cA dC dI lv A H0 cells slots Q hC hW => hW pc ls hret⟩

