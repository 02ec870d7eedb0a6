/-! constructors: what holds while they run, what they owe, calls of them -/
def zT (cI cZ cC cR : ClassId) : List (ClassId × FieldType) := [(cI, .int), (cZ, .boolean), (cC, .char), (cR, .object RX6)]
abbrev zA0 : Nat → Int32 := fun _ => 0
def zN (U : State) : Prop := xNest U ∧ va_AO RX6 U
theorem zN_moved {s U : State} (hW : s.WarmedH U.vm) (h : zN s) : zN U := ⟨x_nestMoved hW h.1, va_AO.moved hW.alike h.2⟩
theorem RA_int {s : State} : ∀ a b : ClassId, va_RA s a .int → va_RA s b .int → a = b := fun a b h h' => Option.some.inj ((show s.vm.findClass _ = some a from h).symm.trans h')
theorem RA_bool {s : State} : ∀ a b : ClassId, va_RA s a .boolean → va_RA s b .boolean → a = b := fun a b h h' => Option.some.inj ((show s.vm.findClass _ = some a from h).symm.trans h')
theorem RA_char {s : State} : ∀ a b : ClassId, va_RA s a .char → va_RA s b .char → a = b := fun a b h h' => Option.some.inj ((show s.vm.findClass _ = some a from h).symm.trans h')
theorem RA_obj {s : State} {C : String} : ∀ a b : ClassId, va_RA s a (.object C) → va_RA s b (.object C) → a = b := fun a b h h' => by
  obtain ⟨_, _, -, -, -, h4⟩ := h
  obtain ⟨_, _, -, -, -, h4'⟩ := h'
  exact Option.some.inj (h4.symm.trans h4')
/-- what holds all the while that a constructor runs -/
def z_Cx (own : String) (cc : ByteArray) (n : Nat) (p : Program) (s : State) (m : MethodId) (args : Array Value) (meth : Method) (c : Code) (dC : Nat → ClassId) (dI : Nat → Nat → Nat) (tys : List (ClassId × FieldType)) (A : Nat → Prop) (H0 : Heap) : Prop :=
  p.tables.exec = Jvm.exec ∧ c.code = cc ∧ c.maxLocals = n ∧ s.vm.findClass own = some m.cls ∧ (∀ w ∈ xws, w.before args s = true) ∧ zN s ∧ va_K (dC, dI) x_cls tys s ∧ (∀ q, H0.size ≤ q → A q) ∧ meth.name = "<init>" ∧ meth.locks = false
/-- a constructor's contract: its object, as it was made, and what it makes -/
def z_Met (l : Launch) (y : MethodName) (cc : ByteArray) (n fr lo mc ms : Nat) (dC : Nat → ClassId) (dI : Nat → Nat → Nat) (tys : List (ClassId × FieldType)) (as : List Value) (ws0 : va_W) (post : va_W → Prop) : Prop := ∀ (sz : Nat) (A0 : Nat → Prop), va_D A0 ws0 → Met l y (Cond.code y cc n none :: xws) ({ frames := fr, cells := mc, slots := ms, locals := lo } : Room) (va_Pc as (fun U => U.heap.size = sz ∧ va_P (dC, dI) x_cls ws0 U.heap ∧ va_K (dC, dI) x_cls tys U ∧ zN U)) (va_Qv post (fun ws t => va_P (dC, dI) x_cls ws t.heap ∧ va_D (va_A ws0 sz) ws) (va_A ws0 sz)) mc ms (va_A ws0 sz)
theorem z_of {l : Launch} {y : MethodName} {cc : ByteArray} {n fr lo mc ms : Nat} {dC : Nat → ClassId} {dI : Nat → Nat → Nat} {tys : List (ClassId × FieldType)} {as : List Value} {ws0 : va_W} {post : va_W → Prop} (hpl : plainName y.cls = true) (hinit : y.name = "<init>") (hn : (lg_sl as).length ≤ n)
    (body : ∀ (p : Program) (e : Env) (s : State) (m : MethodId) (below : List Frame) (meth : Method) (c : Code) (A : Nat → Prop) (Q : State → Prop) (ls : Array Slot), z_Cx y.cls cc n p s m as.toArray meth c dC dI tys A s.heap → va_P (dC, dI) x_cls ws0 s.heap → va_D A ws0 → va_S A s.heap s.heap [] → lv_has ls n (lv_args 0 as) →
      (∀ (H : Heap) (locs : List Loc) (ls' : Array Slot) (pc : Nat) (ws : va_W), decode cc pc = .ok (.return_, 1) → post ws → va_P (dC, dI) x_cls ws H → va_D A ws → va_S A s.heap H locs → W p l e ({ frames := fr, cells := mc, slots := ms, locals := lo } : Room) s m as.toArray below meth c H locs mc ms Q (F0 m pc ls' [])) →
      W p l e ({ frames := fr, cells := mc, slots := ms, locals := lo } : Room) s m as.toArray below meth c s.heap [] 0 0 Q (F0 m 0 ls [])) : z_Met l y cc n fr lo mc ms dC dI tys as ws0 post := by
  intro sz A0 hD0
  refine Met.ofW (cc := cc) (maxL := n) (ret := none) (ws' := xws) hpl rfl ?_
  intro p e s m args below meth c s₁ B hml hv
  obtain ⟨rfl, hsz, hP, hK, hN⟩ := hv
  have hts := atoms_spec (ws := Cond.code y cc n none :: xws) B.pre
  have hown : s.vm.findClass y.cls = some m.cls := findClass_of_methodNamed B.named
  have hin : meth.name = "<init>" := (name_of_methodNamed B.named B.method).1.trans hinit
  subst hsz
  have hr := B.returns
  rw [lg_entry_eq]
  have hl := lv_entry as (n := n) hn
  generalize (lg_sl as ++ List.replicate (n - (lg_sl as).length) Slot.unset).toArray = ls at hl ⊢
  refine body p e s m below meth c (va_A ws0 s.heap.size) _ ls ⟨B.exec, B.bytes, hml, hown, fun w hw => hts w (List.mem_cons_of_mem _ hw), hN, hK, fun q h => Or.inr h, hin, B.notSynchronized⟩ hP hD0.self va_S.rf hl ?_
  intro H locs ls' pc ws hd hp hP' hD' hS'
  exact W.vret B.exec B.bytes hr (fun t ht hW => ⟨⟨ws, rfl, hp, by rw [ht]; exact hP', hD'⟩, hS'.F ht⟩) hS'.2.2 hd B.notSynchronized
section ZROWS
variable {p : Program} {l : Launch} {e : Env} {R : Room} {s : State} {m : MethodId} {args : Array Value} {below : List Frame} {meth : Method} {c : Code} {H H0 : Heap} {locs : List Loc} {cells slots : Nat} {Q : State → Prop} {own : String} {cc : ByteArray} {n : Nat} {dC : Nat → ClassId} {dI : Nat → Nat → Nat} {tys : List (ClassId × FieldType)} {A : Nat → Prop} {ws wr wc : va_W} {rest : List Value} {ls : Array Slot} {pc : Nat}
theorem z_newa (hexec : p.tables.exec = Jvm.exec) (hb : c.code = cc) {atype : ArrayType} (harr : (Cond.arrayClass (newarray.typeOf atype)).before args s = true) {ty : FieldType} (hty : newarray.typeOf atype = ty) (hK : va_K (dC, dI) x_cls tys s) (t0 : Nat) {cX : ClassId} (ht : tys[t0]? = some (cX, ty)) (hu : ∀ a b : ClassId, va_RA s a ty → va_RA s b ty → a = b) (hP : va_P (dC, dI) x_cls ws H) (hD : va_D A ws) (hS : va_S A H0 H locs) (hA : ∀ q, H0.size ≤ q → A q)
    {k : Int32} {N' : Nat} (ha : ∀ cA : ClassId, vp_cell cA (N', .inl zA0) = arrV cA N' (fun _ => defaultValue ty)) (hn : ¬ k < 0) (hN : k.toNatClampNeg = N') (hbytes : N' * componentBytes ty ≤ 536870912) (hcells : cells + 1 ≤ R.cells) (hslots : slots + N' ≤ R.slots) (hdg : decode cc pc = .ok (.newarray atype, 2))
    (kk : ∀ (q : Nat) (H1 : Heap), va_P (dC, dI) x_cls (ws ++ [(q, .inl (cX, N', .inl zA0))]) H1 → va_D A (ws ++ [(q, .inl (cX, N', .inl zA0))]) → va_S A H0 H1 locs →
      W p l e R s m args below meth c H1 locs (cells + 1) (slots + N') Q (F0 m (pc + 2) ls (.ref q :: rest))) : W p l e R s m args below meth c H locs cells slots Q (F0 m pc ls (.int k :: rest)) := by
  refine va_newa (a0 := (N', .inl zA0)) hexec hb harr hty hK hP hD hS hA ha hn hN hbytes hcells hslots hdg (fun q cA H1 hK1 hP1 hD1 hS1 => ?_)
  have e : cA = cX := hu _ _ (hK1.2 tys.length (cA, ty) (by simp)).2 (hK.2 t0 _ ht).2
  subst e
  exact kk q H1 hP1 hD1 hS1
theorem z_call (C : z_Cx own cc n p s m args meth c dC dI tys A H0) {y : MethodName} {cy : ByteArray} {ny fr lo mc ms q : Nat} {As : List Value} {post : va_W → Prop} (hM : z_Met l y cy ny fr lo mc ms dC dI tys (.ref q :: As) wc post) (hP : va_P (dC, dI) x_cls ws H) (hD : va_D A ws) (hS : va_S A H0 H locs) (isC isR : List Nat) (hC : isC.map (fun i => ws[i]?) = wc.map some) (hC2 : isC.filterMap (fun i => ws[i]?) = wc) (hnC : va_nd isC = true) (hR : isR.map (fun i => ws[i]?) = wr.map some) (hn : va_nd isR = true) (hdis : ∀ i ∈ isR, i ∉ isC)
    {index : Nat} {host : String} (hl : ls.size = n) (link : (own, index, y, host) ∈ xnest) (hcode : Cond.code y cy ny none ∈ xws) (hini : Cond.initialized y.cls ∈ xws) (hinst : Cond.instanceMethod y ∈ xws) (hy : y.name = "<init>") (hds : y.cls ≠ "java/lang/invoke/MethodHandle" ∧ y.cls ≠ "java/lang/invoke/VarHandle" ∧ (parseMethodDescriptor y.desc).map (fun d => d.parameters.length) = some As.length) (hRm : fr + 1 ≤ R.frames ∧ 8 + (ny + 11) + lo ≤ R.locals) (hcs : cells + mc ≤ R.cells ∧ slots + ms ≤ R.slots) (hcat : (rest.map fun v => v.category).sum ≤ 8) (hd : decode cc pc = .ok (.invokespecial index, 3))
    (kk : ∀ (w1 : va_W) (H1 : Heap) (locs1 : List Loc), post w1 → va_P (dC, dI) x_cls (wr ++ w1) H1 → va_D A (wr ++ w1) → va_S A H0 H1 locs1 → W p l e R s m args below meth c H1 locs1 (cells + mc) (slots + ms) Q (F0 m (pc + 3) ls rest)) : W p l e R s m args below meth c H locs cells slots Q (F0 m pc ls (As.reverse ++ .ref q :: rest)) := by
  obtain ⟨hx, hb, hml, hown, hw, hN, hK, hA, hinit, hlocks⟩ := C
  have hPc := hP.sub (ws' := wc) isC hC2
  have hDc := hD.sub (ws' := wc) isC hnC hC
  have hFc := va_free (wc := wc) hD hS hA isC hC
  refine va_callv (va_runIN (As := As) (rest := rest) (nL := n) (Ts := xws) (y := y) (bytes := cy) (maxL := ny) (n := As.length) (index := index) (own := own) (host := host) (b := q) ⟨hx, hb, hml, hown, hw⟩ (hM H.size A hDc) ⟨va_cnB As.length hw (xws_good ?_) rfl rfl rfl (hN.1 _ link) (hw _ hini) hds hRm, hy, hw _ hinst⟩ ⟨?_, fun U hU hW => ⟨rfl, by rw [hU], by rw [hU]; exact hPc, va_K.moved hW.alike hK, zN_moved hW hN⟩⟩ rfl rfl hl rfl (lv_room hcat) hd hcs) hS (fun q _ h => hFc q h) hFc (fun u t H1 locs1 ht hvm hu hB hz1 hk1 hS1 => ?_)
  · intro w h
    rcases List.mem_cons.mp h with rfl | h
    · exact hcode
    · exact h
  · exact fun a U g mk q => ⟨q.1, q.2.1, q.2.2.1, va_K.moved (u := U) (U := U.calling g mk a) (Vm.Alike.refl U.vm) q.2.2.2.1, fun w hw => va_Nw.same rfl rfl (q.2.2.2.2.1 w hw), va_AO.moved (u := U) (U := U.calling g mk a) (Vm.Alike.refl U.vm) q.2.2.2.2.2⟩
  · obtain ⟨hP1, hD1⟩ := hB
    rw [ht] at hP1
    obtain ⟨hP2, hD2⟩ := va_join (wr := wr) (w1 := u) hP hD isC isR hC hR hn hdis hk1 hFc hP1 hD1
    exact kk u H1 locs1 hu hP2 hD2 hS1
theorem z_callM (C : z_Cx own cc n p s m args meth c dC dI tys A H0) {y : MethodName} {cy : ByteArray} {ny fr lo mc ms q : Nat} {As : List Value} {post : va_W → Prop} (hM : z_Met l y cy ny fr lo mc ms dC dI tys (.ref q :: As) wc post) (hP : va_P (dC, dI) x_cls ws H) (hD : va_D A ws) (hS : va_S A H0 H locs) (isC isR : List Nat) (hC : isC.map (fun i => ws[i]?) = wc.map some) (hC2 : isC.filterMap (fun i => ws[i]?) = wc) (hnC : va_nd isC = true) (hR : isR.map (fun i => ws[i]?) = wr.map some) (hn : va_nd isR = true) (hdis : ∀ i ∈ isR, i ∉ isC)
    {index : Nat} (hl : ls.size = n) (link : Cond.methodLink own index y ∈ xws) (hcode : Cond.code y cy ny none ∈ xws) (hini : Cond.initialized y.cls ∈ xws) (hinst : Cond.instanceMethod y ∈ xws) (hy : y.name = "<init>") (hds : y.cls ≠ "java/lang/invoke/MethodHandle" ∧ y.cls ≠ "java/lang/invoke/VarHandle" ∧ (parseMethodDescriptor y.desc).map (fun d => d.parameters.length) = some As.length) (hRm : fr + 1 ≤ R.frames ∧ 8 + (ny + 11) + lo ≤ R.locals) (hcs : cells + mc ≤ R.cells ∧ slots + ms ≤ R.slots) (hcat : (rest.map fun v => v.category).sum ≤ 8) (hd : decode cc pc = .ok (.invokespecial index, 3))
    (kk : ∀ (w1 : va_W) (H1 : Heap) (locs1 : List Loc), post w1 → va_P (dC, dI) x_cls (wr ++ w1) H1 → va_D A (wr ++ w1) → va_S A H0 H1 locs1 → W p l e R s m args below meth c H1 locs1 (cells + mc) (slots + ms) Q (F0 m (pc + 3) ls rest)) : W p l e R s m args below meth c H locs cells slots Q (F0 m pc ls (As.reverse ++ .ref q :: rest)) := by
  obtain ⟨hx, hb, hml, hown, hw, hN, hK, hA, hinit, hlocks⟩ := C
  have hPc := hP.sub (ws' := wc) isC hC2
  have hDc := hD.sub (ws' := wc) isC hnC hC
  have hFc := va_free (wc := wc) hD hS hA isC hC
  refine va_callv (va_runI (As := As) (rest := rest) (nL := n) (Ts := xws) (y := y) (bytes := cy) (maxL := ny) (n := As.length) (index := index) (own := own) (b := q) ⟨hx, hb, hml, hown, hw⟩ (hM H.size A hDc) (cwI As.length hw (xws_good ?_) rfl rfl rfl (hw _ hini) (hw _ link) (hw _ hinst) hy hds hRm) ⟨?_, fun U hU hW => ⟨rfl, by rw [hU], by rw [hU]; exact hPc, va_K.moved hW.alike hK, zN_moved hW hN⟩⟩ rfl rfl hl rfl (lv_room hcat) hd hcs) hS (fun q _ h => hFc q h) hFc (fun u t H1 locs1 ht hvm hu hB hz1 hk1 hS1 => ?_)
  · intro w h
    rcases List.mem_cons.mp h with rfl | h
    · exact hcode
    · exact h
  · exact fun a U g mk q => ⟨q.1, q.2.1, q.2.2.1, va_K.moved (u := U) (U := U.calling g mk a) (Vm.Alike.refl U.vm) q.2.2.2.1, fun w hw => va_Nw.same rfl rfl (q.2.2.2.2.1 w hw), va_AO.moved (u := U) (U := U.calling g mk a) (Vm.Alike.refl U.vm) q.2.2.2.2.2⟩
  · obtain ⟨hP1, hD1⟩ := hB
    rw [ht] at hP1
    obtain ⟨hP2, hD2⟩ := va_join (wr := wr) (w1 := u) hP hD isC isR hC hR hn hdis hk1 hFc hP1 hD1
    exact kk u H1 locs1 hu hP2 hD2 hS1
end ZROWS
