/-! the opening text: String's own members over it, and addAll -/
theorem dJ0_length_8abf5_0 : decode cJ0_length_8abf5 0 = .ok (.aload_n 0, 1) := by decide +kernel
theorem dJ0_length_8abf5_1 : decode cJ0_length_8abf5 1 = .ok (.getfield 9, 3) := by decide +kernel
theorem dJ0_length_8abf5_4 : decode cJ0_length_8abf5 4 = .ok (.arraylength, 1) := by decide +kernel
theorem dJ0_length_8abf5_5 : decode cJ0_length_8abf5 5 = .ok (.aload_n 0, 1) := by decide +kernel
theorem dJ0_length_8abf5_6 : decode cJ0_length_8abf5 6 = .ok (.invokevirtual 335, 3) := by decide +kernel
theorem dJ0_length_8abf5_9 : decode cJ0_length_8abf5 9 = .ok (.ishr, 1) := by decide +kernel
theorem dJ0_length_8abf5_10 : decode cJ0_length_8abf5 10 = .ok (.ireturn, 1) := by decide +kernel
theorem dJ0_charAt_5068e_0 : decode cJ0_charAt_5068e 0 = .ok (.aload_n 0, 1) := by decide +kernel
theorem dJ0_charAt_5068e_1 : decode cJ0_charAt_5068e 1 = .ok (.invokevirtual 492, 3) := by decide +kernel
theorem dJ0_charAt_5068e_4 : decode cJ0_charAt_5068e 4 = .ok (.ifCond .eq 12, 3) := by decide +kernel
theorem dJ0_charAt_5068e_7 : decode cJ0_charAt_5068e 7 = .ok (.aload_n 0, 1) := by decide +kernel
theorem dJ0_charAt_5068e_8 : decode cJ0_charAt_5068e 8 = .ok (.getfield 9, 3) := by decide +kernel
theorem dJ0_charAt_5068e_11 : decode cJ0_charAt_5068e 11 = .ok (.iload_n 1, 1) := by decide +kernel
theorem dJ0_charAt_5068e_12 : decode cJ0_charAt_5068e 12 = .ok (.invokestatic 495, 3) := by decide +kernel
theorem dJ0_charAt_5068e_15 : decode cJ0_charAt_5068e 15 = .ok (.ireturn, 1) := by decide +kernel
theorem dJ0_charAt_5068e_16 : decode cJ0_charAt_5068e 16 = .ok (.aload_n 0, 1) := by decide +kernel
theorem dJ0_charAt_5068e_17 : decode cJ0_charAt_5068e 17 = .ok (.getfield 9, 3) := by decide +kernel
theorem dJ0_charAt_5068e_20 : decode cJ0_charAt_5068e 20 = .ok (.iload_n 1, 1) := by decide +kernel
theorem dJ0_charAt_5068e_21 : decode cJ0_charAt_5068e 21 = .ok (.invokestatic 498, 3) := by decide +kernel
theorem dJ0_charAt_5068e_24 : decode cJ0_charAt_5068e 24 = .ok (.ireturn, 1) := by decide +kernel
theorem dJ0_coder_7d493_0 : decode cJ0_coder_7d493 0 = .ok (.getstatic 38, 3) := by decide +kernel
theorem dJ0_coder_7d493_3 : decode cJ0_coder_7d493 3 = .ok (.ifCond .eq 10, 3) := by decide +kernel
theorem dJ0_coder_7d493_6 : decode cJ0_coder_7d493 6 = .ok (.aload_n 0, 1) := by decide +kernel
theorem dJ0_coder_7d493_7 : decode cJ0_coder_7d493 7 = .ok (.getfield 15, 3) := by decide +kernel
theorem dJ0_coder_7d493_10 : decode cJ0_coder_7d493 10 = .ok (.goto 4, 3) := by decide +kernel
theorem dJ0_coder_7d493_13 : decode cJ0_coder_7d493 13 = .ok (.iconst 1, 1) := by decide +kernel
theorem dJ0_coder_7d493_14 : decode cJ0_coder_7d493 14 = .ok (.ireturn, 1) := by decide +kernel
theorem dJ0_isLatin1_aae02_0 : decode cJ0_isLatin1_aae02 0 = .ok (.getstatic 38, 3) := by decide +kernel
theorem dJ0_isLatin1_aae02_3 : decode cJ0_isLatin1_aae02 3 = .ok (.ifCond .eq 14, 3) := by decide +kernel
theorem dJ0_isLatin1_aae02_6 : decode cJ0_isLatin1_aae02 6 = .ok (.aload_n 0, 1) := by decide +kernel
theorem dJ0_isLatin1_aae02_7 : decode cJ0_isLatin1_aae02 7 = .ok (.getfield 15, 3) := by decide +kernel
theorem dJ0_isLatin1_aae02_10 : decode cJ0_isLatin1_aae02 10 = .ok (.ifCond .ne 7, 3) := by decide +kernel
theorem dJ0_isLatin1_aae02_13 : decode cJ0_isLatin1_aae02 13 = .ok (.iconst 1, 1) := by decide +kernel
theorem dJ0_isLatin1_aae02_14 : decode cJ0_isLatin1_aae02 14 = .ok (.goto 4, 3) := by decide +kernel
theorem dJ0_isLatin1_aae02_17 : decode cJ0_isLatin1_aae02 17 = .ok (.iconst 0, 1) := by decide +kernel
theorem dJ0_isLatin1_aae02_18 : decode cJ0_isLatin1_aae02 18 = .ok (.ireturn, 1) := by decide +kernel
theorem dJ0_checkIndex_df160_0 : decode cJ0_checkIndex_df160 0 = .ok (.iload_n 0, 1) := by decide +kernel
theorem dJ0_checkIndex_df160_1 : decode cJ0_checkIndex_df160 1 = .ok (.iload_n 1, 1) := by decide +kernel
theorem dJ0_checkIndex_df160_2 : decode cJ0_checkIndex_df160 2 = .ok (.getstatic 1053, 3) := by decide +kernel
theorem dJ0_checkIndex_df160_5 : decode cJ0_checkIndex_df160 5 = .ok (.invokestatic 1059, 3) := by decide +kernel
theorem dJ0_checkIndex_df160_8 : decode cJ0_checkIndex_df160 8 = .ok (.pop, 1) := by decide +kernel
theorem dJ0_checkIndex_df160_9 : decode cJ0_checkIndex_df160 9 = .ok (.return_, 1) := by decide +kernel
theorem dJ1_charAt_3b067_0 : decode cJ1_charAt_3b067 0 = .ok (.iload_n 1, 1) := by decide +kernel
theorem dJ1_charAt_3b067_1 : decode cJ1_charAt_3b067 1 = .ok (.aload_n 0, 1) := by decide +kernel
theorem dJ1_charAt_3b067_2 : decode cJ1_charAt_3b067 2 = .ok (.arraylength, 1) := by decide +kernel
theorem dJ1_charAt_3b067_3 : decode cJ1_charAt_3b067 3 = .ok (.invokestatic 9, 3) := by decide +kernel
theorem dJ1_charAt_3b067_6 : decode cJ1_charAt_3b067 6 = .ok (.aload_n 0, 1) := by decide +kernel
theorem dJ1_charAt_3b067_7 : decode cJ1_charAt_3b067 7 = .ok (.iload_n 1, 1) := by decide +kernel
theorem dJ1_charAt_3b067_8 : decode cJ1_charAt_3b067 8 = .ok (.baload, 1) := by decide +kernel
theorem dJ1_charAt_3b067_9 : decode cJ1_charAt_3b067 9 = .ok (.sipush 255, 3) := by decide +kernel
theorem dJ1_charAt_3b067_12 : decode cJ1_charAt_3b067 12 = .ok (.iand, 1) := by decide +kernel
theorem dJ1_charAt_3b067_13 : decode cJ1_charAt_3b067 13 = .ok (.i2c, 1) := by decide +kernel
theorem dJ1_charAt_3b067_14 : decode cJ1_charAt_3b067 14 = .ok (.ireturn, 1) := by decide +kernel
theorem dJ3_checkIndex_8e157_0 : decode cJ3_checkIndex_8e157 0 = .ok (.iload_n 0, 1) := by decide +kernel
theorem dJ3_checkIndex_8e157_1 : decode cJ3_checkIndex_8e157 1 = .ok (.ifCond .lt 8, 3) := by decide +kernel
theorem dJ3_checkIndex_8e157_4 : decode cJ3_checkIndex_8e157 4 = .ok (.iload_n 0, 1) := by decide +kernel
theorem dJ3_checkIndex_8e157_5 : decode cJ3_checkIndex_8e157 5 = .ok (.iload_n 1, 1) := by decide +kernel
theorem dJ3_checkIndex_8e157_6 : decode cJ3_checkIndex_8e157 6 = .ok (.if_icmp .lt 10, 3) := by decide +kernel
theorem dJ3_checkIndex_8e157_9 : decode cJ3_checkIndex_8e157 9 = .ok (.aload_n 2, 1) := by decide +kernel
theorem dJ3_checkIndex_8e157_10 : decode cJ3_checkIndex_8e157 10 = .ok (.iload_n 0, 1) := by decide +kernel
theorem dJ3_checkIndex_8e157_11 : decode cJ3_checkIndex_8e157 11 = .ok (.iload_n 1, 1) := by decide +kernel
theorem dJ3_checkIndex_8e157_12 : decode cJ3_checkIndex_8e157 12 = .ok (.invokestatic 95, 3) := by decide +kernel
theorem dJ3_checkIndex_8e157_15 : decode cJ3_checkIndex_8e157 15 = .ok (.athrow, 1) := by decide +kernel
theorem dJ3_checkIndex_8e157_16 : decode cJ3_checkIndex_8e157 16 = .ok (.iload_n 0, 1) := by decide +kernel
theorem dJ3_checkIndex_8e157_17 : decode cJ3_checkIndex_8e157 17 = .ok (.ireturn, 1) := by decide +kernel
theorem yw38 : Cond.initialized "PlatformsLeave$Text" ∈ xws := xws_in (i := 38) (by decide +kernel) (by decide +kernel)
theorem yw46 : Cond.initialized "java/lang/String" ∈ xws := xws_in (i := 46) (by decide +kernel) (by decide +kernel)
theorem yw47 : Cond.initialized "java/lang/StringLatin1" ∈ xws := xws_in (i := 47) (by decide +kernel) (by decide +kernel)
theorem yw48 : Cond.initialized "jdk/internal/util/Preconditions" ∈ xws := xws_in (i := 48) (by decide +kernel) (by decide +kernel)
theorem yw297 : Cond.methodLink "PlatformsLeave" 67 yX7_addAll ∈ xws := xws_in (i := 297) (by decide +kernel) (by decide +kernel)
theorem yw298 : Cond.instanceMethod yX7_addAll ∈ xws := xws_in (i := 298) (by decide +kernel) (by decide +kernel)
theorem yw299 : Cond.selects "PlatformsLeave$Text" yX7_addAll yX7_addAll ∈ xws := xws_in (i := 299) (by decide +kernel) (by decide +kernel)
theorem yw300 : Cond.code yX7_addAll cX7_addAll 3 none ∈ xws := xws_in (i := 300) (by decide +kernel) (by decide +kernel)
theorem yw301 : Cond.methodLink "PlatformsLeave$Text" 23 yJ0_length_8abf5 ∈ xws := xws_in (i := 301) (by decide +kernel) (by decide +kernel)
theorem yw302 : Cond.instanceMethod yJ0_length_8abf5 ∈ xws := xws_in (i := 302) (by decide +kernel) (by decide +kernel)
theorem yw303 : Cond.selects "java/lang/String" yJ0_length_8abf5 yJ0_length_8abf5 ∈ xws := xws_in (i := 303) (by decide +kernel) (by decide +kernel)
theorem yw304 : Cond.code yJ0_length_8abf5 cJ0_length_8abf5 1 (some .int) ∈ xws := xws_in (i := 304) (by decide +kernel) (by decide +kernel)
theorem yw305 : Cond.methodLink "java/lang/String" 335 yJ0_coder_7d493 ∈ xws := xws_in (i := 305) (by decide +kernel) (by decide +kernel)
theorem yw306 : Cond.instanceMethod yJ0_coder_7d493 ∈ xws := xws_in (i := 306) (by decide +kernel) (by decide +kernel)
theorem yw307 : Cond.selects "java/lang/String" yJ0_coder_7d493 yJ0_coder_7d493 ∈ xws := xws_in (i := 307) (by decide +kernel) (by decide +kernel)
theorem yw308 : Cond.code yJ0_coder_7d493 cJ0_coder_7d493 1 (some .byte) ∈ xws := xws_in (i := 308) (by decide +kernel) (by decide +kernel)
theorem yw309 : Cond.fieldLink "java/lang/String" 38 "java/lang/String" "COMPACT_STRINGS" "Z" ∈ xws := xws_in (i := 309) (by decide +kernel) (by decide +kernel)
theorem yw311 : Cond.methodLink "PlatformsLeave$Text" 28 yJ0_charAt_5068e ∈ xws := xws_in (i := 311) (by decide +kernel) (by decide +kernel)
theorem yw312 : Cond.instanceMethod yJ0_charAt_5068e ∈ xws := xws_in (i := 312) (by decide +kernel) (by decide +kernel)
theorem yw313 : Cond.selects "java/lang/String" yJ0_charAt_5068e yJ0_charAt_5068e ∈ xws := xws_in (i := 313) (by decide +kernel) (by decide +kernel)
theorem yw314 : Cond.code yJ0_charAt_5068e cJ0_charAt_5068e 2 (some .char) ∈ xws := xws_in (i := 314) (by decide +kernel) (by decide +kernel)
theorem yw315 : Cond.methodLink "java/lang/String" 492 yJ0_isLatin1_aae02 ∈ xws := xws_in (i := 315) (by decide +kernel) (by decide +kernel)
theorem yw316 : Cond.instanceMethod yJ0_isLatin1_aae02 ∈ xws := xws_in (i := 316) (by decide +kernel) (by decide +kernel)
theorem yw317 : Cond.selects "java/lang/String" yJ0_isLatin1_aae02 yJ0_isLatin1_aae02 ∈ xws := xws_in (i := 317) (by decide +kernel) (by decide +kernel)
theorem yw318 : Cond.code yJ0_isLatin1_aae02 cJ0_isLatin1_aae02 1 (some .boolean) ∈ xws := xws_in (i := 318) (by decide +kernel) (by decide +kernel)
theorem yw319 : Cond.methodLink "java/lang/String" 495 yJ1_charAt_3b067 ∈ xws := xws_in (i := 319) (by decide +kernel) (by decide +kernel)
theorem yw320 : Cond.static yJ1_charAt_3b067 ∈ xws := xws_in (i := 320) (by decide +kernel) (by decide +kernel)
theorem yw321 : Cond.code yJ1_charAt_3b067 cJ1_charAt_3b067 2 (some .char) ∈ xws := xws_in (i := 321) (by decide +kernel) (by decide +kernel)
theorem yw322 : Cond.methodLink "java/lang/StringLatin1" 9 yJ0_checkIndex_df160 ∈ xws := xws_in (i := 322) (by decide +kernel) (by decide +kernel)
theorem yw323 : Cond.static yJ0_checkIndex_df160 ∈ xws := xws_in (i := 323) (by decide +kernel) (by decide +kernel)
theorem yw324 : Cond.code yJ0_checkIndex_df160 cJ0_checkIndex_df160 2 none ∈ xws := xws_in (i := 324) (by decide +kernel) (by decide +kernel)
theorem yw325 : Cond.fieldLink "java/lang/String" 1053 "jdk/internal/util/Preconditions" "SIOOBE_FORMATTER" "Ljava/util/function/BiFunction;" ∈ xws := xws_in (i := 325) (by decide +kernel) (by decide +kernel)
theorem yw327 : Cond.methodLink "java/lang/String" 1059 yJ3_checkIndex_8e157 ∈ xws := xws_in (i := 327) (by decide +kernel) (by decide +kernel)
theorem yw328 : Cond.static yJ3_checkIndex_8e157 ∈ xws := xws_in (i := 328) (by decide +kernel) (by decide +kernel)
theorem yw329 : Cond.code yJ3_checkIndex_8e157 cJ3_checkIndex_8e157 3 (some .int) ∈ xws := xws_in (i := 329) (by decide +kernel) (by decide +kernel)
theorem yw349 : Cond.methodLink "PlatformsLeave$Text" 32 yX7_add ∈ xws := xws_in (i := 349) (by decide +kernel) (by decide +kernel)
theorem yw350 : Cond.instanceMethod yX7_add ∈ xws := xws_in (i := 350) (by decide +kernel) (by decide +kernel)
theorem yw351 : Cond.selects "PlatformsLeave$Text" yX7_add yX7_add ∈ xws := xws_in (i := 351) (by decide +kernel) (by decide +kernel)
theorem yw352 : Cond.code yX7_add cX7_add 2 (some .boolean) ∈ xws := xws_in (i := 352) (by decide +kernel) (by decide +kernel)
theorem yw1012 : Cond.fieldLink "java/lang/String" 9 "java/lang/String" "value" "[B" ∈ xws := xws_in (i := 1012) (by decide +kernel) (by decide +kernel)
theorem yw1013 : Cond.fieldLink "java/lang/String" 15 "java/lang/String" "coder" "B" ∈ xws := xws_in (i := 1013) (by decide +kernel) (by decide +kernel)
def sTx : List Int32 := [110, 49, 50, 59, 116, 51, 59, 116, 55, 59, 116, 49, 48, 59, 97, 54, 59, 97, 49, 49, 59, 112, 48, 44, 48, 44, 48, 44, 48, 59, 112, 50, 44, 53, 44, 49, 44, 48, 59, 112, 52, 44, 57, 44, 48, 44, 51, 59, 112, 51, 44, 50, 44, 49, 44, 49, 59, 119, 52, 59, 119, 53, 59]
/-- the constant, its bytes, and the two statics: cells that a run leaves alone -/
def zS (q qv : Nat) (A : Nat → Prop) (U : State) (H : Heap) : Prop := va_O "java/lang/String" q A U H ∧ va_OF "java/lang/String" "coder" "B" (.int 0) q A U H ∧ va_OF "java/lang/String" "value" "[B" (.ref qv) q A U H ∧ va_T .byte qv 63 (fun j => .int (sTx.getD j 0)) A U H ∧ va_Z "java/lang/String" "COMPACT_STRINGS" "Z" (.int 1) A U H ∧ va_Zq "jdk/internal/util/Preconditions" "SIOOBE_FORMATTER" "Ljava/util/function/BiFunction;" A U H
theorem zS.moved {q qv : Nat} {A : Nat → Prop} {u U : State} {H : Heap} (hvm : u.vm.Alike U.vm) (h : zS q qv A u H) : zS q qv A U H := ⟨va_O.moved hvm h.1, va_OF.moved hvm h.2.1, va_OF.moved hvm h.2.2.1, va_T.moved hvm h.2.2.2.1, va_Z.moved hvm h.2.2.2.2.1, va_Zq.moved hvm h.2.2.2.2.2⟩
theorem zS.kept {q qv : Nat} {A : Nat → Prop} {U : State} {H H1 : Heap} (h : zS q qv A U H) (hq : ∀ a : Nat, a < H.size → ¬ A a → H1[a]? = H[a]?) : zS q qv A U H1 := ⟨h.1.kept hq, h.2.1.kept hq, h.2.2.1.kept hq, h.2.2.2.1.kept hq, h.2.2.2.2.1.kept hq, h.2.2.2.2.2.kept hq⟩
theorem zS.narrow {q qv : Nat} {A B : Nat → Prop} {U : State} {H : Heap} (h : zS q qv A U H) (hAB : ∀ q, B q → A q) : zS q qv B U H := ⟨h.1.narrow hAB, h.2.1.narrow hAB, h.2.2.1.narrow hAB, h.2.2.2.1.narrow hAB, h.2.2.2.2.1.narrow hAB, h.2.2.2.2.2.narrow hAB⟩
abbrev zNew (sz : Nat) : Nat → Prop := fun x => sz ≤ x
def zSx (q qv sz : Nat) (U : State) : Prop := U.heap.size = sz ∧ zS q qv (zNew sz) U U.heap
/-- what only reads: it answers v, or nothing -/
def z_I (l : Launch) (y : MethodName) (cc : ByteArray) (n : Nat) (ret : Option FieldType) (fr lo : Nat) (as : List Value) (q qv : Nat) (v : Int32) : Prop := ∀ sz : Nat, Met l y (Cond.code y cc n ret :: xws) ({ frames := fr, cells := 0, slots := 0, locals := lo } : Room) (va_Pc as (zSx q qv sz)) (va_Qi (S := Unit) (fun r _ => r = v) (fun _ _ => True) (zNew sz)) 0 0 (zNew sz)
def z_V (l : Launch) (y : MethodName) (cc : ByteArray) (n : Nat) (fr lo : Nat) (as : List Value) (q qv : Nat) : Prop := ∀ sz : Nat, Met l y (Cond.code y cc n none :: xws) ({ frames := fr, cells := 0, slots := 0, locals := lo } : Room) (va_Pc as (zSx q qv sz)) (va_Qv (S := Unit) (fun _ => True) (fun _ _ => True) (zNew sz)) 0 0 (zNew sz)
def z_Sx (own : String) (cc : ByteArray) (n : Nat) (p : Program) (s : State) (m : MethodId) (args : Array Value) (c : Code) : Prop := p.tables.exec = Jvm.exec ∧ c.code = cc ∧ c.maxLocals = n ∧ s.vm.findClass own = some m.cls ∧ (∀ w ∈ xws, w.before args s = true)
theorem z_ofI {l : Launch} {y : MethodName} {cc : ByteArray} {n fr lo : Nat} {ty : FieldType} {as : List Value} {q qv : Nat} {v : Int32} (hpl : plainName y.cls = true) (hn : (lg_sl as).length ≤ n) (hty : narrow ty (.int v) = .int v)
    (body : ∀ (p : Program) (e : Env) (s : State) (m : MethodId) (below : List Frame) (meth : Method) (c : Code) (Q : State → Prop) (ls : Array Slot), z_Sx y.cls cc n p s m as.toArray c → zS q qv (zNew s.heap.size) s s.heap → va_S (zNew s.heap.size) s.heap s.heap [] → lv_has ls n (lv_args 0 as) →
      (∀ (H : Heap) (locs : List Loc) (ls' : Array Slot) (pc : Nat), decode cc pc = .ok (.ireturn, 1) → va_S (zNew s.heap.size) s.heap H locs → W p l e ({ frames := fr, cells := 0, slots := 0, locals := lo } : Room) s m as.toArray below meth c H locs 0 0 Q (F0 m pc ls' [.int v])) →
      W p l e ({ frames := fr, cells := 0, slots := 0, locals := lo } : Room) s m as.toArray below meth c s.heap [] 0 0 Q (F0 m 0 ls [])) : z_I l y cc n (some ty) fr lo as q qv v := by
  intro sz
  refine Met.ofW (cc := cc) (maxL := n) (ret := some ty) (ws' := xws) hpl rfl ?_
  intro p e s m args below meth c s₁ B hml hv
  obtain ⟨rfl, hsz, hZ⟩ := hv
  have hts := atoms_spec (ws := Cond.code y cc n (some ty) :: xws) B.pre
  have hown : s.vm.findClass y.cls = some m.cls := findClass_of_methodNamed B.named
  subst hsz
  have hr := B.returns
  rw [lg_entry_eq]
  have hl := lv_entry as (n := n) hn
  generalize (lg_sl as ++ List.replicate (n - (lg_sl as).length) Slot.unset).toArray = ls at hl ⊢
  refine body p e s m below meth c _ ls ⟨B.exec, B.bytes, hml, hown, fun w hw => hts w (List.mem_cons_of_mem _ hw)⟩ hZ va_S.rf hl ?_
  intro H locs ls' pc hd hS'
  exact W.zret B.exec B.bytes hr hty (fun t ht hW => ⟨⟨v, (), rfl, rfl, trivial⟩, hS'.F ht⟩) hS'.2.2 hd B.notSynchronized
theorem z_ofV {l : Launch} {y : MethodName} {cc : ByteArray} {n fr lo : Nat} {as : List Value} {q qv : Nat} (hpl : plainName y.cls = true) (hn : (lg_sl as).length ≤ n)
    (body : ∀ (p : Program) (e : Env) (s : State) (m : MethodId) (below : List Frame) (meth : Method) (c : Code) (Q : State → Prop) (ls : Array Slot), z_Sx y.cls cc n p s m as.toArray c → zS q qv (zNew s.heap.size) s s.heap → va_S (zNew s.heap.size) s.heap s.heap [] → lv_has ls n (lv_args 0 as) →
      (∀ (H : Heap) (locs : List Loc) (ls' : Array Slot) (pc : Nat), decode cc pc = .ok (.return_, 1) → va_S (zNew s.heap.size) s.heap H locs → W p l e ({ frames := fr, cells := 0, slots := 0, locals := lo } : Room) s m as.toArray below meth c H locs 0 0 Q (F0 m pc ls' [])) →
      W p l e ({ frames := fr, cells := 0, slots := 0, locals := lo } : Room) s m as.toArray below meth c s.heap [] 0 0 Q (F0 m 0 ls [])) : z_V l y cc n fr lo as q qv := by
  intro sz
  refine Met.ofW (cc := cc) (maxL := n) (ret := none) (ws' := xws) hpl rfl ?_
  intro p e s m args below meth c s₁ B hml hv
  obtain ⟨rfl, hsz, hZ⟩ := hv
  have hts := atoms_spec (ws := Cond.code y cc n none :: xws) B.pre
  have hown : s.vm.findClass y.cls = some m.cls := findClass_of_methodNamed B.named
  subst hsz
  have hr := B.returns
  rw [lg_entry_eq]
  have hl := lv_entry as (n := n) hn
  generalize (lg_sl as ++ List.replicate (n - (lg_sl as).length) Slot.unset).toArray = ls at hl ⊢
  refine body p e s m below meth c _ ls ⟨B.exec, B.bytes, hml, hown, fun w hw => hts w (List.mem_cons_of_mem _ hw)⟩ hZ va_S.rf hl ?_
  intro H locs ls' pc hd hS'
  exact W.vret B.exec B.bytes hr (fun t ht hW => ⟨⟨(), rfl, trivial, trivial⟩, hS'.F ht⟩) hS'.2.2 hd B.notSynchronized
theorem zSx_blind {as : List Value} {q qv sz : Nat} : FrameBlind (va_Pc as (zSx q qv sz)) := fun a U g mk h => ⟨h.1, h.2.1, zS.moved (u := U) (U := U.calling g mk a) (Vm.Alike.refl U.vm) h.2.2⟩
section ZSC
variable {p : Program} {l : Launch} {e : Env} {R : Room} {s : State} {m : MethodId} {args : Array Value} {below : List Frame} {meth : Method} {c : Code} {H : Heap} {locs : List Loc} {cells slots : Nat} {Q : State → Prop} {own : String} {cc : ByteArray} {n : Nat} {A : Nat → Prop} {rest : List Value} {ls : Array Slot} {pc q qv : Nat}
theorem zS_at {U : State} (hZ : zS q qv A s s.heap) (hS : va_S A s.heap H locs) (hA : ∀ x, s.heap.size ≤ x → A x) (hU : U.heap = H) (hW : s.WarmedH U.vm) : zSx q qv H.size U := by
  refine ⟨by rw [hU], ?_⟩
  rw [hU]
  exact (zS.moved hW.alike (hZ.kept hS.2.1)).narrow (fun x hx => hA x (Nat.le_trans hS.1 hx))
theorem z_callS (C : z_Sx own cc n p s m args c) {y : MethodName} {cy : ByteArray} {ny fr lo : Nat} {ret : Option FieldType} {As : List Value} {v : Int32} (hM : z_I l y cy ny ret fr lo As q qv v) (hZ : zS q qv A s s.heap) (hS : va_S A s.heap H locs) (hA : ∀ x, s.heap.size ≤ x → A x)
    {index : Nat} (hl : ls.size = n) (link : Cond.methodLink own index y ∈ xws) (hst : Cond.static y ∈ xws) (hini : Cond.initialized y.cls ∈ xws) (hcode : Cond.code y cy ny ret ∈ xws) (hds : y.cls ≠ "java/lang/invoke/MethodHandle" ∧ y.cls ≠ "java/lang/invoke/VarHandle" ∧ (parseMethodDescriptor y.desc).map (fun d => d.parameters.length) = some As.length) (hRm : fr + 1 ≤ R.frames ∧ 8 + (ny + 11) + lo ≤ R.locals) (hcs : cells ≤ R.cells ∧ slots ≤ R.slots) (hcat : (rest.map fun v => v.category).sum ≤ 8) (hd : decode cc pc = .ok (.invokestatic index, 3))
    (kk : ∀ (H1 : Heap) (locs1 : List Loc), va_S A s.heap H1 locs1 → (∀ x, x < H.size → H1[x]? = H[x]?) → W p l e R s m args below meth c H1 locs1 cells slots Q (F0 m (pc + 3) ls (.int v :: rest))) : W p l e R s m args below meth c H locs cells slots Q (F0 m pc ls (As.reverse ++ rest)) := by
  obtain ⟨hx, hb, hml, hown, hw⟩ := C
  have hfr : ∀ x, zNew H.size x → A x := fun x h => hA x (Nat.le_trans hS.1 h)
  refine va_calli (va_runS (As := As) (rest := rest) (nL := n) (Ts := xws) (y := y) (bytes := cy) (maxL := ny) (ret := ret) (n := As.length) (index := index) (own := own) ⟨hx, hb, hml, hown, hw⟩ (hM H.size) ⟨callB_of As.length hw (xws_good ?_) rfl rfl rfl (hw _ hini) (hw _ link) hds hRm, hw _ hst⟩ ⟨zSx_blind, fun U hU hW => ⟨rfl, zS_at hZ hS hA hU hW⟩⟩ rfl rfl hl rfl (lv_room hcat) hd hcs) hS (fun x _ h => hfr x h) hfr (fun r u t H1 locs1 ht hvm hr hB hz1 hk1 hS1 => ?_)
  · intro w h
    rcases List.mem_cons.mp h with rfl | h
    · exact hcode
    · exact h
  · subst hr
    exact kk H1 locs1 hS1 (fun x hx => hk1 x hx (fun h => Nat.lt_irrefl _ (Nat.lt_of_lt_of_le hx h)))
theorem z_callSv (C : z_Sx own cc n p s m args c) {y : MethodName} {cy : ByteArray} {ny fr lo : Nat} {As : List Value} (hM : z_V l y cy ny fr lo As q qv) (hZ : zS q qv A s s.heap) (hS : va_S A s.heap H locs) (hA : ∀ x, s.heap.size ≤ x → A x)
    {index : Nat} (hl : ls.size = n) (link : Cond.methodLink own index y ∈ xws) (hst : Cond.static y ∈ xws) (hini : Cond.initialized y.cls ∈ xws) (hcode : Cond.code y cy ny none ∈ xws) (hds : y.cls ≠ "java/lang/invoke/MethodHandle" ∧ y.cls ≠ "java/lang/invoke/VarHandle" ∧ (parseMethodDescriptor y.desc).map (fun d => d.parameters.length) = some As.length) (hRm : fr + 1 ≤ R.frames ∧ 8 + (ny + 11) + lo ≤ R.locals) (hcs : cells ≤ R.cells ∧ slots ≤ R.slots) (hcat : (rest.map fun v => v.category).sum ≤ 8) (hd : decode cc pc = .ok (.invokestatic index, 3))
    (kk : ∀ (H1 : Heap) (locs1 : List Loc), va_S A s.heap H1 locs1 → (∀ x, x < H.size → H1[x]? = H[x]?) → W p l e R s m args below meth c H1 locs1 cells slots Q (F0 m (pc + 3) ls rest)) : W p l e R s m args below meth c H locs cells slots Q (F0 m pc ls (As.reverse ++ rest)) := by
  obtain ⟨hx, hb, hml, hown, hw⟩ := C
  have hfr : ∀ x, zNew H.size x → A x := fun x h => hA x (Nat.le_trans hS.1 h)
  refine va_callv (va_runS (As := As) (rest := rest) (nL := n) (Ts := xws) (y := y) (bytes := cy) (maxL := ny) (ret := none) (n := As.length) (index := index) (own := own) ⟨hx, hb, hml, hown, hw⟩ (hM H.size) ⟨callB_of As.length hw (xws_good ?_) rfl rfl rfl (hw _ hini) (hw _ link) hds hRm, hw _ hst⟩ ⟨zSx_blind, fun U hU hW => ⟨rfl, zS_at hZ hS hA hU hW⟩⟩ rfl rfl hl rfl (lv_room hcat) hd hcs) hS (fun x _ h => hfr x h) hfr (fun u t H1 locs1 ht hvm hr hB hz1 hk1 hS1 => ?_)
  · intro w h
    rcases List.mem_cons.mp h with rfl | h
    · exact hcode
    · exact h
  · exact kk H1 locs1 hS1 (fun x hx => hk1 x hx (fun h => Nat.lt_irrefl _ (Nat.lt_of_lt_of_le hx h)))
theorem z_callV (C : z_Sx own cc n p s m args c) {y : MethodName} {cy : ByteArray} {ny fr lo : Nat} {ret : Option FieldType} {As : List Value} {v : Int32} (hM : z_I l y cy ny ret fr lo (.ref q :: As) q qv v) (hZ : zS q qv A s s.heap) (hS : va_S A s.heap H locs) (hA : ∀ x, s.heap.size ≤ x → A x)
    {index : Nat} (hl : ls.size = n) (hC : y.cls = "java/lang/String") (link : Cond.methodLink own index y ∈ xws) (hst : Cond.instanceMethod y ∈ xws) (hse : Cond.selects "java/lang/String" y y ∈ xws) (hini : Cond.initialized "java/lang/String" ∈ xws) (hcode : Cond.code y cy ny ret ∈ xws) (hds : y.cls ≠ "java/lang/invoke/MethodHandle" ∧ y.cls ≠ "java/lang/invoke/VarHandle" ∧ (parseMethodDescriptor y.desc).map (fun d => d.parameters.length) = some As.length) (hRm : fr + 1 ≤ R.frames ∧ 8 + (ny + 11) + lo ≤ R.locals) (hcs : cells ≤ R.cells ∧ slots ≤ R.slots) (hcat : (rest.map fun v => v.category).sum ≤ 8) (hd : decode cc pc = .ok (.invokevirtual index, 3))
    (kk : ∀ (H1 : Heap) (locs1 : List Loc), va_S A s.heap H1 locs1 → (∀ x, x < H.size → H1[x]? = H[x]?) → W p l e R s m args below meth c H1 locs1 cells slots Q (F0 m (pc + 3) ls (.int v :: rest))) : W p l e R s m args below meth c H locs cells slots Q (F0 m pc ls (As.reverse ++ .ref q :: rest)) := by
  obtain ⟨hx, hb, hml, hown, hw⟩ := C
  have hfr : ∀ x, zNew H.size x → A x := fun x h => hA x (Nat.le_trans hS.1 h)
  have hrec : ∃ cellB : Cell, H[q]? = some cellB ∧ cellB.vm.isStatics = false ∧ s.vm.findClass "java/lang/String" = some cellB.cls := by
    obtain ⟨cell, h1, h2, h3, -⟩ := hZ.1.kept hS.2.1
    exact ⟨cell, h1, h2, h3⟩
  refine va_calli (va_runV (As := As) (rest := rest) (C := "java/lang/String") (nL := n) (Ts := xws) (y := y) (bytes := cy) (maxL := ny) (ret := ret) (n := As.length) (index := index) (own := own) (b := q) ⟨hx, hb, hml, hown, hw⟩ (hM H.size) (cwV As.length hw (xws_good ?_) rfl rfl rfl ⟨hC, hds⟩ hRm) ⟨zSx_blind, hrec, fun U hU hW => ⟨rfl, zS_at hZ hS hA hU hW⟩⟩ rfl rfl hl rfl (lv_room hcat) hd hcs) hS (fun x _ h => hfr x h) hfr (fun r u t H1 locs1 ht hvm hr hB hz1 hk1 hS1 => ?_)
  · intro w hw
    rcases List.mem_append.mp hw with hw | hw
    · simp only [List.mem_cons, List.not_mem_nil, or_false] at hw
      rcases hw with rfl | rfl | rfl | rfl
      · exact link
      · exact hst
      · exact hse
      · exact hini
    · rcases List.mem_cons.mp hw with rfl | hw
      · exact hcode
      · exact hw
  · subst hr
    exact kk H1 locs1 hS1 (fun x hx => hk1 x hx (fun h => Nat.lt_irrefl _ (Nat.lt_of_lt_of_le hx h)))
end ZSC
theorem k_pre {l : Launch} {i N : Int32} {v : Value} {q qv : Nat} (h0 : ¬ i < 0) (h1 : i < N) (hla : (lg_sl [.int i, .int N, v]).length ≤ 3) : z_I l yJ3_checkIndex_8e157 cJ3_checkIndex_8e157 3 (some .int) 0 0 [.int i, .int N, v] q qv i := by
  refine z_ofI (by decide +kernel) hla rfl ?_
  intro p e s m below meth c Q ls C hZ hS hl out
  obtain ⟨hx, hb, hml, hown, hw⟩ := id C
  have hl : lv_has ls 3 ((0, .int i) :: (1, .int N) :: lv_args 2 [v]) := hl
  refine lv_iload_n hx hb dJ3_checkIndex_8e157_0 rfl (lv_at hl 0 rfl) ?_
  refine lv_if_lt (tgt := 9) hx hb dJ3_checkIndex_8e157_1 rfl (fun h => absurd h h0) (fun _ => ?_)
  refine lv_iload_n hx hb dJ3_checkIndex_8e157_4 rfl (lv_at hl 0 rfl) ?_
  refine lv_iload_n hx hb dJ3_checkIndex_8e157_5 rfl (lv_at hl 1 rfl) ?_
  refine lv_icmp_lt (tgt := 16) hx hb dJ3_checkIndex_8e157_6 rfl (fun _ => ?_) (fun h => absurd h1 h)
  refine lv_iload_n hx hb dJ3_checkIndex_8e157_16 rfl (lv_at hl 0 rfl) ?_
  exact out _ _ ls 17 dJ3_checkIndex_8e157_17 hS
theorem k_chk {l : Launch} {i N : Int32} {q qv : Nat} (h0 : ¬ i < 0) (h1 : i < N) : z_V l yJ0_checkIndex_df160 cJ0_checkIndex_df160 2 1 22 [.int i, .int N] q qv := by
  refine z_ofV (by decide +kernel) (Nat.le_of_ble_eq_true rfl) ?_
  intro p e s m below meth c Q ls C hZ hS hl out
  obtain ⟨hx, hb, hml, hown, hw⟩ := id C
  have hl : lv_has ls 2 [(0, .int i), (1, .int N)] := hl
  have hA : ∀ x, s.heap.size ≤ x → zNew s.heap.size x := fun x h => h
  refine lv_iload_n hx hb dJ0_checkIndex_df160_0 rfl (lv_at hl 0 rfl) ?_
  refine lv_iload_n hx hb dJ0_checkIndex_df160_1 rfl (lv_at hl 1 rfl) ?_
  have go : ∀ v : Value, (lg_sl [.int i, .int N, v]).length ≤ 3 → W p l e ({ frames := 1, cells := 0, slots := 0, locals := 22 } : Room) s m ([.int i, .int N] : List Value).toArray below meth c s.heap [] 0 0 Q (F0 m 5 ls (v :: .int N :: [.int i])) := fun v hv => by
    refine z_callS C (As := [.int i, .int N, v]) (rest := []) (k_pre (l := l) h0 h1 hv) hZ hS hA hl.1 yw327 yw328 yw48 yw329 (show yJ3_checkIndex_8e157.cls ≠ "java/lang/invoke/MethodHandle" ∧ yJ3_checkIndex_8e157.cls ≠ "java/lang/invoke/VarHandle" ∧ (parseMethodDescriptor yJ3_checkIndex_8e157.desc).map (fun d => d.parameters.length) = some 3 from by decide +kernel) ⟨Nat.le_of_ble_eq_true rfl, Nat.le_of_ble_eq_true rfl⟩ ⟨Nat.le_refl _, Nat.le_refl _⟩ (Nat.le_of_ble_eq_true rfl) dJ0_checkIndex_df160_5 (fun H1 locs1 hS1 _ => ?_)
    refine lv_pop hx hb dJ0_checkIndex_df160_8 rfl ?_
    exact out H1 locs1 ls 9 dJ0_checkIndex_df160_9 hS1
  rcases hZ.2.2.2.2.2 with h | ⟨t, h⟩
  · refine va_gets hx hb h hS hown (hw _ yw325) (fun _ h => h) dJ0_checkIndex_df160_2 ?_
    exact go .null (Nat.le_of_ble_eq_true rfl)
  · refine va_gets hx hb h hS hown (hw _ yw325) (fun _ h => h) dJ0_checkIndex_df160_2 ?_
    exact go (.ref t) (Nat.le_of_ble_eq_true rfl)
theorem sTx_ok : ∀ k : Nat, k < 63 → vp_in (nI k) 63 ∧ ¬ nI k < 0 ∧ nI k < 63 ∧ (nI k).toNatClampNeg = k ∧ sTx.getD k 0 &&& 255 = sTx.getD k 0 ∧ ((sTx.getD k 0).toUInt32 % 65536).toInt32 = sTx.getD k 0 ∧ narrow .char (.int (sTx.getD k 0)) = .int (sTx.getD k 0) := by
  have h : ∀ k : Nat, k < 63 → (¬ (nI k < 0 ∨ 63 ≤ (nI k).toNatClampNeg)) ∧ ¬ nI k < 0 ∧ nI k < 63 ∧ (nI k).toNatClampNeg = k ∧ sTx.getD k 0 &&& 255 = sTx.getD k 0 ∧ ((sTx.getD k 0).toUInt32 % 65536).toInt32 = sTx.getD k 0 ∧ (sTx.getD k 0).toUInt32.toUInt16.toUInt32.toInt32 = sTx.getD k 0 := by decide +kernel
  intro k hk
  obtain ⟨a1, a2, a3, a4, a5, a6, a8⟩ := h k hk
  refine ⟨a1, a2, a3, a4, a5, a6, ?_⟩
  exact congrArg Value.int a8
theorem k_lat {l : Launch} {k : Nat} {q qv : Nat} (hk : k < 63) : z_I l yJ1_charAt_3b067 cJ1_charAt_3b067 2 (some .char) 2 43 [.ref qv, .int (nI k)] q qv (sTx.getD k 0) := by
  obtain ⟨a1, a2, a3, a4, a5, a6, a7⟩ := sTx_ok k hk
  refine z_ofI (by decide +kernel) (Nat.le_of_ble_eq_true rfl) a7 ?_
  intro p e s m below meth c Q ls C hZ hS hl out
  obtain ⟨hx, hb, hml, hown, hw⟩ := id C
  have hl : lv_has ls 2 [(0, .ref qv), (1, .int (nI k))] := hl
  have hA : ∀ x, s.heap.size ≤ x → zNew s.heap.size x := fun x h => h
  refine lv_iload_n hx hb dJ1_charAt_3b067_0 rfl (lv_at hl 1 rfl) ?_
  refine lv_aload_n hx hb dJ1_charAt_3b067_1 rfl (lv_at hl 0 rfl) ?_
  refine va_tlen (v := 63) hx hb hZ.2.2.2.1 hS (by decide) dJ1_charAt_3b067_2 ?_
  refine z_callSv C (As := [.int (nI k), .int 63]) (rest := []) (k_chk (l := l) a2 a3) hZ hS hA hl.1 yw322 yw323 yw46 yw324 (show yJ0_checkIndex_df160.cls ≠ "java/lang/invoke/MethodHandle" ∧ yJ0_checkIndex_df160.cls ≠ "java/lang/invoke/VarHandle" ∧ (parseMethodDescriptor yJ0_checkIndex_df160.desc).map (fun d => d.parameters.length) = some 2 from by decide +kernel) ⟨Nat.le_of_ble_eq_true rfl, Nat.le_of_ble_eq_true rfl⟩ ⟨Nat.le_refl _, Nat.le_refl _⟩ (Nat.le_of_ble_eq_true rfl) dJ1_charAt_3b067_3 (fun H1 locs1 hS1 _ => ?_)
  refine lv_aload_n hx hb dJ1_charAt_3b067_6 rfl (lv_at hl 0 rfl) ?_
  refine lv_iload_n hx hb dJ1_charAt_3b067_7 rfl (lv_at hl 1 rfl) ?_
  refine va_tb (v := .int (sTx.getD k 0)) hx hb hZ.2.2.2.1 hS1 a1 (by rw [a4]) dJ1_charAt_3b067_8 ?_
  refine lv_sipush (v := 255) hx hb dJ1_charAt_3b067_9 (by decide) ?_
  refine lv_iand hx hb dJ1_charAt_3b067_12 ?_
  rw [a5]
  refine lv_i2c hx hb dJ1_charAt_3b067_13 a6 ?_
  exact out H1 locs1 ls 14 dJ1_charAt_3b067_14 hS1
theorem k_isl {l : Launch} {q qv : Nat} : z_I l yJ0_isLatin1_aae02 cJ0_isLatin1_aae02 1 (some .boolean) 0 0 [.ref q] q qv 1 := by
  refine z_ofI (by decide +kernel) (Nat.le_of_ble_eq_true rfl) rfl ?_
  intro p e s m below meth c Q ls C hZ hS hl out
  obtain ⟨hx, hb, hml, hown, hw⟩ := id C
  have hl : lv_has ls 1 [(0, .ref q)] := hl
  refine va_gets hx hb hZ.2.2.2.2.1 hS hown (hw _ yw309) (fun _ h => h) dJ0_isLatin1_aae02_0 ?_
  refine lv_if_eq (tgt := 17) hx hb dJ0_isLatin1_aae02_3 rfl (fun h => absurd h (by decide)) (fun _ => ?_)
  refine lv_aload_n hx hb dJ0_isLatin1_aae02_6 rfl (lv_at hl 0 rfl) ?_
  refine vk_getf hx hb hZ.2.1 hS hown (hw _ yw1013) (fun _ h => h) dJ0_isLatin1_aae02_7 ?_
  refine lv_if_ne (tgt := 17) hx hb dJ0_isLatin1_aae02_10 rfl (fun h => absurd rfl h) (fun _ => ?_)
  refine lv_iconst (v := 1) hx hb dJ0_isLatin1_aae02_13 (by decide) ?_
  refine lv_goto (tgt := 18) hx hb dJ0_isLatin1_aae02_14 rfl ?_
  exact out _ _ ls 18 dJ0_isLatin1_aae02_18 hS
theorem k_cod {l : Launch} {q qv : Nat} : z_I l yJ0_coder_7d493 cJ0_coder_7d493 1 (some .byte) 0 0 [.ref q] q qv 0 := by
  refine z_ofI (by decide +kernel) (Nat.le_of_ble_eq_true rfl) rfl ?_
  intro p e s m below meth c Q ls C hZ hS hl out
  obtain ⟨hx, hb, hml, hown, hw⟩ := id C
  have hl : lv_has ls 1 [(0, .ref q)] := hl
  refine va_gets hx hb hZ.2.2.2.2.1 hS hown (hw _ yw309) (fun _ h => h) dJ0_coder_7d493_0 ?_
  refine lv_if_eq (tgt := 13) hx hb dJ0_coder_7d493_3 rfl (fun h => absurd h (by decide)) (fun _ => ?_)
  refine lv_aload_n hx hb dJ0_coder_7d493_6 rfl (lv_at hl 0 rfl) ?_
  refine vk_getf hx hb hZ.2.1 hS hown (hw _ yw1013) (fun _ h => h) dJ0_coder_7d493_7 ?_
  refine lv_goto (tgt := 14) hx hb dJ0_coder_7d493_10 rfl ?_
  exact out _ _ ls 14 dJ0_coder_7d493_14 hS
theorem k_len {l : Launch} {q qv : Nat} : z_I l yJ0_length_8abf5 cJ0_length_8abf5 1 (some .int) 1 20 [.ref q] q qv 63 := by
  refine z_ofI (by decide +kernel) (Nat.le_of_ble_eq_true rfl) rfl ?_
  intro p e s m below meth c Q ls C hZ hS hl out
  obtain ⟨hx, hb, hml, hown, hw⟩ := id C
  have hl : lv_has ls 1 [(0, .ref q)] := hl
  have hA : ∀ x, s.heap.size ≤ x → zNew s.heap.size x := fun x h => h
  refine lv_aload_n hx hb dJ0_length_8abf5_0 rfl (lv_at hl 0 rfl) ?_
  refine vk_getf hx hb hZ.2.2.1 hS hown (hw _ yw1012) (fun _ h => h) dJ0_length_8abf5_1 ?_
  refine va_tlen (v := 63) hx hb hZ.2.2.2.1 hS (by decide) dJ0_length_8abf5_4 ?_
  refine lv_aload_n hx hb dJ0_length_8abf5_5 rfl (lv_at hl 0 rfl) ?_
  refine z_callV C (As := []) (rest := [.int 63]) (k_cod (l := l)) hZ hS hA hl.1 rfl yw305 yw306 yw307 yw46 yw308 (show yJ0_coder_7d493.cls ≠ "java/lang/invoke/MethodHandle" ∧ yJ0_coder_7d493.cls ≠ "java/lang/invoke/VarHandle" ∧ (parseMethodDescriptor yJ0_coder_7d493.desc).map (fun d => d.parameters.length) = some 0 from by decide +kernel) ⟨Nat.le_of_ble_eq_true rfl, Nat.le_of_ble_eq_true rfl⟩ ⟨Nat.le_refl _, Nat.le_refl _⟩ (Nat.le_of_ble_eq_true rfl) dJ0_length_8abf5_6 (fun H1 locs1 hS1 _ => ?_)
  refine lv_ishr hx hb dJ0_length_8abf5_9 ?_
  refine lv_topi (fun x ex => ?_)
  have e63 : x = 63 := by rw [ex]; decide
  rw [e63]
  exact out H1 locs1 ls 10 dJ0_length_8abf5_10 hS1
theorem k_cha {l : Launch} {k : Nat} {q qv : Nat} (hk : k < 63) : z_I l yJ0_charAt_5068e cJ0_charAt_5068e 2 (some .char) 3 64 [.ref q, .int (nI k)] q qv (sTx.getD k 0) := by
  obtain ⟨a1, a2, a3, a4, a5, a6, a7⟩ := sTx_ok k hk
  refine z_ofI (by decide +kernel) (Nat.le_of_ble_eq_true rfl) a7 ?_
  intro p e s m below meth c Q ls C hZ hS hl out
  obtain ⟨hx, hb, hml, hown, hw⟩ := id C
  have hl : lv_has ls 2 [(0, .ref q), (1, .int (nI k))] := hl
  have hA : ∀ x, s.heap.size ≤ x → zNew s.heap.size x := fun x h => h
  refine lv_aload_n hx hb dJ0_charAt_5068e_0 rfl (lv_at hl 0 rfl) ?_
  refine z_callV C (As := []) (rest := []) (k_isl (l := l)) hZ hS hA hl.1 rfl yw315 yw316 yw317 yw46 yw318 (show yJ0_isLatin1_aae02.cls ≠ "java/lang/invoke/MethodHandle" ∧ yJ0_isLatin1_aae02.cls ≠ "java/lang/invoke/VarHandle" ∧ (parseMethodDescriptor yJ0_isLatin1_aae02.desc).map (fun d => d.parameters.length) = some 0 from by decide +kernel) ⟨Nat.le_of_ble_eq_true rfl, Nat.le_of_ble_eq_true rfl⟩ ⟨Nat.le_refl _, Nat.le_refl _⟩ (Nat.le_of_ble_eq_true rfl) dJ0_charAt_5068e_1 (fun H1 locs1 hS1 _ => ?_)
  refine lv_if_eq (tgt := 16) hx hb dJ0_charAt_5068e_4 rfl (fun h => absurd h (by decide)) (fun _ => ?_)
  refine lv_aload_n hx hb dJ0_charAt_5068e_7 rfl (lv_at hl 0 rfl) ?_
  refine vk_getf hx hb hZ.2.2.1 hS1 hown (hw _ yw1012) (fun _ h => h) dJ0_charAt_5068e_8 ?_
  refine lv_iload_n hx hb dJ0_charAt_5068e_11 rfl (lv_at hl 1 rfl) ?_
  refine z_callS C (As := [.ref qv, .int (nI k)]) (rest := []) (k_lat (l := l) hk) hZ hS1 hA hl.1 yw319 yw320 yw47 yw321 (show yJ1_charAt_3b067.cls ≠ "java/lang/invoke/MethodHandle" ∧ yJ1_charAt_3b067.cls ≠ "java/lang/invoke/VarHandle" ∧ (parseMethodDescriptor yJ1_charAt_3b067.desc).map (fun d => d.parameters.length) = some 2 from by decide +kernel) ⟨Nat.le_of_ble_eq_true rfl, Nat.le_of_ble_eq_true rfl⟩ ⟨Nat.le_refl _, Nat.le_refl _⟩ (Nat.le_of_ble_eq_true rfl) dJ0_charAt_5068e_12 (fun H2 locs2 hS2 _ => ?_)
  exact out H2 locs2 ls 15 dJ0_charAt_5068e_15 hS2
