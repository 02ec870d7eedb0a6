/-! THE CLAIM OUT OF ONE WALK OF THE LAW'S BODY. Your part is whole_start (and what it stands on); all else here is the same for every law, but numbers. -/
def R_law : String := "PlatformsLeaveLaw"
def lw_P (b : Addr) (xs : List Int32) (args : Array Value) (s : State) : Prop := args = #[.ref b] ∧ s.IntsAt b xs ∧ xs.length ≤ 3072 ∧ (Jvm.Cond.and given_1 narrow_1).before args s = true
def lw_Q (_ : Array Value) (s : State) (o : Outcome) (t : State) : Prop := o = .returned (some (.int 1)) ∧ Framed s o t [] 58 1734
def lw_Z (below : List Frame) (a : Array Value) (s : State) : State → Prop := fun t => ∃ o, t.status = .running ∧ Ended t below o ∧ lw_Q a s o t
/-- the law's own end, with 1 on the stack, nothing written that was there before, its room as the claim has it -/
theorem lw_ret {p : Program} {l : Launch} {e : Env} {s : State} {m : MethodId} {below : List Frame} {meth : Method} {c : Code} {b : Nat} (hx : p.tables.exec = Jvm.exec) (hb : c.code = code) (hr : meth.sig.returnType = ret) (hlocks : meth.locks = false) {pc : Nat} {H : Heap} {ls : Array Slot} (hdg : decode code pc = .ok (.ireturn, 1)) : W p l e room_1 s m #[Value.ref b] below meth c H [] 58 1734 (lw_Z below #[Value.ref b] s) (F0 m pc ls [.int 1]) := by
  intro T hT X
  obtain ⟨fs, hret, hrun, hended, hW, hframe⟩ := X.leave (v := some (.int 1)) (hlocks := hlocks) (fun h => by rw [hr] at h; cases h)
  have hmeth' : T.vm.method? m = some meth := X.method'
  refine ⟨T.setFrames fs, ?_, .returned (some (.int 1)), hrun, hended, rfl, ⟨_, rfl⟩, hW, hframe⟩
  jvm_step X.here [X.here.top, hx, hb, hdg, hmeth', hr, ret, narrow_b1]
  (try refine ⟨rfl, ?_⟩); (try refine ⟨rfl, ?_⟩)
  first | (intro acts; rw [hret _ acts rfl rfl rfl]) | rw [hret _ _ rfl rfl rfl]
  exact Steps.refl _
/-- what holds at the law's entry: the machine, the code, the tables' words (any of lw_tbl by 'hts w (by decide +kernel)'), the script of L ints xs at the cell b, what the Statement gives of the start (any of its parts by flat_of_before) -/
def lw_At (p : Program) (s : State) (m : MethodId) (meth : Method) (c : Code) (b L : Nat) (xs : Nat → Int32) : Prop :=
  p.tables.exec = Jvm.exec ∧ c.code = code ∧ meth.sig.returnType = ret ∧ c.maxLocals = 4 ∧ s.vm.findClass R_law = some m.cls ∧ (∀ w ∈ lw_tbl, w.before #[Value.ref b] s = true) ∧ va_X b L xs s s.heap ∧ b < s.heap.size ∧ meth.locks = false ∧ (Jvm.Cond.and given_1 narrow_1).before #[Value.ref b] s = true
/-! the law's start: what the tables say, the two objects, then its loop -/
theorem xnest_tbl : ∀ q ∈ xnest, Cond.methodLinkNest q.1 q.2.1 q.2.2.1 q.2.2.2 ∈ lw_tbl := by decide +kernel
theorem z_el : ∀ j : Nat, j < 63 → Cond.eq (.elem (.field (.string "PlatformsLeave" 65) "java/lang/String" "value" "[B") (.int (Int32.ofNat j))) (.int (sTx.getD j 0)) ∈ flatC (Jvm.Cond.and given_1 narrow_1) := by decide +kernel
set_option maxRecDepth 20000 in
theorem z_str {s : State} {args : Array Value} (hts : ∀ w ∈ lw_tbl, w.before args s = true) (hn : (Jvm.Cond.and given_1 narrow_1).before args s = true) : ∃ q qv : Nat, vk_R "PlatformsLeave" 65 oTx q s ∧ zS q qv (zNew s.heap.size) s s.heap := by
  have hs := flat_of_before _ hn
  have hA : ∀ a : Nat, a < s.heap.size → ¬ zNew s.heap.size a := fun a h h2 => Nat.lt_irrefl _ (Nat.lt_of_lt_of_le h h2)
  obtain ⟨adK, adV, hS, hq⟩ := vk_Sof (args := args) (s := s) (N := 1) (tm := fun _ => Term.string "PlatformsLeave" 65) (len := [63]) (byt := [sTx]) (A := zNew s.heap.size) (fun i hi => by rcases (show i = 0 by omega) with rfl; decide)
    (fun i _ => show (Cond.exactly (Term.string "PlatformsLeave" 65) "java/lang/String").before args s = true from hs _ (by decide +kernel))
    (fun i _ => show (Cond.eq (.field (Term.string "PlatformsLeave" 65) "java/lang/String" "coder" "B") (.int 0)).before args s = true from hs _ (by decide +kernel))
    (fun i _ => show (Cond.arrayOf (.field (Term.string "PlatformsLeave" 65) "java/lang/String" "value" "[B") .byte).before args s = true from hs _ (by decide +kernel))
    (fun i hi => by
      rcases (show i = 0 by omega) with rfl
      exact (show (Cond.eq (.length (.field (Term.string "PlatformsLeave" 65) "java/lang/String" "value" "[B")) (.int (Int32.ofNat 63))).before args s = true from hs _ (by decide +kernel)))
    (fun i hi j hj => by
      rcases (show i = 0 by omega) with rfl
      exact hs _ (z_el j hj))
    (fun i j hi hj h => absurd (show i = j by omega) h) hA
  obtain ⟨s1, s2, s3, s4⟩ := hS.1 0 (by decide)
  refine ⟨adK 0, adV 0, vk_R.of (A := args) (hts _ (List.mem_of_getElem? (l := lw_tbl) (i := 296) (show lw_tbl[296]? = some (Cond.stringRef "PlatformsLeave" 65 oTx) from by decide +kernel))) (hq 0 (by decide)), s1, s2, s3, s4, va_Zof (hts _ (List.mem_of_getElem? (l := lw_tbl) (i := 310) (show lw_tbl[310]? = some (Cond.laysStatic "java/lang/String" "COMPACT_STRINGS" "Z") from by decide +kernel))) (hts _ (List.mem_of_getElem? (l := lw_tbl) (i := 46) (show lw_tbl[46]? = some (Cond.initialized "java/lang/String") from by decide +kernel))) (va_eqt (show (Cond.eq (.static "java/lang/String" "COMPACT_STRINGS" "Z") (.int 1)).before args s = true from hs _ (by decide +kernel))) hA, va_Zqof (hts _ (List.mem_of_getElem? (l := lw_tbl) (i := 326) (show lw_tbl[326]? = some (Cond.laysStatic "jdk/internal/util/Preconditions" "SIOOBE_FORMATTER" "Ljava/util/function/BiFunction;") from by decide +kernel))) (hts _ (List.mem_of_getElem? (l := lw_tbl) (i := 48) (show lw_tbl[48]? = some (Cond.initialized "jdk/internal/util/Preconditions") from by decide +kernel))) (show (Cond.isRef (.static "jdk/internal/util/Preconditions" "SIOOBE_FORMATTER" "Ljava/util/function/BiFunction;")).before args s = true from hs _ (by decide +kernel)) hA⟩
theorem z_known {s : State} {args : Array Value} (hts : ∀ w ∈ lw_tbl, w.before args s = true) : ∃ (dC : Nat → ClassId) (dI : Nat → Nat → Nat) (cI cZ cC cR : ClassId), va_K (dC, dI) x_cls (zT cI cZ cC cR) s ∧ zN s := by
  have hw : ∀ w ∈ xws, w.before args s = true := fun w h => hts w (List.mem_filter.mp h).1
  obtain ⟨c0, iS0, hKn0⟩ := u_known (C := RX0) (T := TX0) (N := 4) (n := 4) hw xin_0 (hts _ (List.mem_of_getElem? (l := lw_tbl) (i := 169) (show lw_tbl[169]? = some (Cond.instantiable RX0 4) from by decide +kernel)))
  obtain ⟨c1, iS1, hKn1⟩ := u_known (C := RX1) (T := TX1) (N := 4) (n := 4) hw xin_1 (hts _ (List.mem_of_getElem? (l := lw_tbl) (i := 206) (show lw_tbl[206]? = some (Cond.instantiable RX1 4) from by decide +kernel)))
  obtain ⟨c2, iS2, hKn2⟩ := u_known (C := RX2) (T := TX2) (N := 2) (n := 2) hw xin_2 (hts _ (List.mem_of_getElem? (l := lw_tbl) (i := 189) (show lw_tbl[189]? = some (Cond.instantiable RX2 2) from by decide +kernel)))
  obtain ⟨c3, iS3, hKn3⟩ := u_known (C := RX3) (T := TX3) (N := 9) (n := 9) hw xin_3 (hts _ (List.mem_of_getElem? (l := lw_tbl) (i := 87) (show lw_tbl[87]? = some (Cond.instantiable RX3 9) from by decide +kernel)))
  obtain ⟨c4, iS4, hKn4⟩ := u_known (C := RX4) (T := TX4) (N := 3) (n := 3) hw xin_4 (hts _ (List.mem_of_getElem? (l := lw_tbl) (i := 280) (show lw_tbl[280]? = some (Cond.instantiable RX4 3) from by decide +kernel)))
  obtain ⟨c5, iS5, hKn5⟩ := u_known (C := RX5) (T := TX5) (N := 12) (n := 12) hw xin_5 (hts _ (List.mem_of_getElem? (l := lw_tbl) (i := 227) (show lw_tbl[227]? = some (Cond.instantiable RX5 12) from by decide +kernel)))
  obtain ⟨c6, iS6, hKn6⟩ := u_known (C := RX6) (T := TX6) (N := 3) (n := 3) hw xin_6 (hts _ (List.mem_of_getElem? (l := lw_tbl) (i := 93) (show lw_tbl[93]? = some (Cond.instantiable RX6 3) from by decide +kernel)))
  obtain ⟨c7, iS7, hKn7⟩ := u_known (C := RX7) (T := TX7) (N := 5) (n := 5) hw xin_7 (hts _ (List.mem_of_getElem? (l := lw_tbl) (i := 62) (show lw_tbl[62]? = some (Cond.instantiable RX7 5) from by decide +kernel)))
  obtain ⟨c8, iS8, hKn8⟩ := u_known (C := RX8) (T := TX8) (N := 8) (n := 8) hw xin_8 (hts _ (List.mem_of_getElem? (l := lw_tbl) (i := 54) (show lw_tbl[54]? = some (Cond.instantiable RX8 8) from by decide +kernel)))
  obtain ⟨c9, iS9, hKn9⟩ := u_known (C := RX9) (T := TX9) (N := 26) (n := 26) hw xin_9 (hts _ (List.mem_of_getElem? (l := lw_tbl) (i := 716) (show lw_tbl[716]? = some (Cond.instantiable RX9 26) from by decide +kernel)))
  obtain ⟨cI, kI, pI, a1, a2, a3⟩ := Cond.arrayClass_spec (hts _ (List.mem_of_getElem? (l := lw_tbl) (i := 85) (show lw_tbl[85]? = some (Cond.arrayClass .int) from by decide +kernel)))
  obtain ⟨cZ, kZ, pZ, b1, b2, b3⟩ := Cond.arrayClass_spec (hts _ (List.mem_of_getElem? (l := lw_tbl) (i := 225) (show lw_tbl[225]? = some (Cond.arrayClass .boolean) from by decide +kernel)))
  obtain ⟨cC, kC, pC, d1, d2, d3⟩ := Cond.arrayClass_spec (hts _ (List.mem_of_getElem? (l := lw_tbl) (i := 84) (show lw_tbl[84]? = some (Cond.arrayClass .char) from by decide +kernel)))
  have hAO := (hts _ (List.mem_of_getElem? (l := lw_tbl) (i := 195) (show lw_tbl[195]? = some (Cond.arrayOver (.object RX6)) from by decide +kernel)))
  obtain ⟨pR, cR, kR, r1, r2, r3, r4, r5⟩ := Cond.arrayOver_spec (n := RX6) hAO
  refine ⟨fun k => ([c0, c1, c2, c3, c4, c5, c6, c7, c8, c9] : List ClassId).getD k c0, fun k => ([iS0, iS1, iS2, iS3, iS4, iS5, iS6, iS7, iS8, iS9] : List (Nat → Nat)).getD k iS0, cI, cZ, cC, cR, ⟨fun k q hq => ?_, fun k q hq => ?_⟩, fun q hq => va_Nw.of rfl (hts _ (xnest_tbl q hq)), va_AO.of hAO⟩
  · match k, hq with
    | 0, hq => cases hq; exact hKn0
    | 1, hq => cases hq; exact hKn1
    | 2, hq => cases hq; exact hKn2
    | 3, hq => cases hq; exact hKn3
    | 4, hq => cases hq; exact hKn4
    | 5, hq => cases hq; exact hKn5
    | 6, hq => cases hq; exact hKn6
    | 7, hq => cases hq; exact hKn7
    | 8, hq => cases hq; exact hKn8
    | 9, hq => cases hq; exact hKn9
    | k + 10, hq => simp [x_cls] at hq
  · match k, hq with
    | 0, hq => cases hq; exact ⟨fun n z => ⟨(fun k h => by cases h), kI, a2, pI, a3⟩, a1⟩
    | 1, hq => cases hq; exact ⟨fun n z => ⟨(fun k h => by cases h), kZ, b2, pZ, b3⟩, b1⟩
    | 2, hq => cases hq; exact ⟨fun n z => ⟨(fun k h => by cases h), kC, d2, pC, d3⟩, d1⟩
    | 3, hq => cases hq; exact ⟨fun n z => ⟨(fun k h => by cases h), kR, r3, pR, r4⟩, kR, pR, r3, r4, r1, r5⟩
    | k + 4, hq => simp [zT] at hq
/-- cells told by two memories that agree there -/
theorem x_ent_c {ad ad' : Nat → Nat} {cA : Nat → ClassId} {M M' : xM} {d : Nat} (hM : M d = M' d) (h1 : ∀ k, x_isr (x_c d) k = true → ad (x_r d k) = ad' (x_r d k)) (h2 : x_c d = 23 → ∀ k, ad (x_r d k) = ad' (x_r d k)) : x_ent ad cA M d = x_ent ad' cA M' d := by
  have hf : ∀ k, x_fv ad M d k = x_fv ad' M' d k := fun k => by
    unfold x_fv
    by_cases h : x_isr (x_c d) k = true
    · rw [if_pos h, if_pos h, h1 k h]
    · rw [if_neg h, if_neg h, hM]
  unfold x_ent
  by_cases hc : x_c d < 20
  · rw [if_pos hc, if_pos hc, show (fun k => x_fv ad M d k) = (fun k => x_fv ad' M' d k) from funext hf]
  · rw [if_neg hc, if_neg hc]
    by_cases h3 : x_c d = 23
    · rw [if_pos h3, if_pos h3, show (fun j => some (ad (x_r d j))) = (fun j => some (ad' (x_r d j))) from funext (fun j => by rw [h2 h3 j])]
    · rw [if_neg h3, if_neg h3, hM]
theorem x_wl_c {ad ad' : Nat → Nat} {cA : Nat → ClassId} {M M' : xM} {lv : List Nat} (h : ∀ d ∈ lv, ad d = ad' d ∧ M d = M' d ∧ (∀ k, x_isr (x_c d) k = true → ad (x_r d k) = ad' (x_r d k)) ∧ (x_c d = 23 → ∀ k, ad (x_r d k) = ad' (x_r d k))) : x_wl ad cA lv M = x_wl ad' cA lv M' := by
  unfold x_wl
  refine List.map_congr_left (fun d hd => ?_)
  obtain ⟨a, b, c, e⟩ := h d hd
  rw [a, x_ent_c b c e]
theorem zlv58 : zlv 0 58 = zlv 0 42 ++ zlv 42 16 := by decide
theorem zC58 : ∀ d ∈ zlv 0 58, ∀ k, x_c d < 24 → (x_isr (x_c d) k = true ∨ (x_c d = 23 ∧ k < x_n d)) → x_r d k ∈ zlv 0 58 := fun d hd k h1 h => by
  rw [zlv58] at hd ⊢
  rcases List.mem_append.mp hd with hd | hd
  · exact List.mem_append_left _ (zC8 d hd k h1 h)
  · exact List.mem_append_right _ (zC9 d hd k h1 h)
set_option maxHeartbeats 4000000 in
/-- from the loop's head to the end -/
theorem law_run {p : Program} {e : Env} {s : State} {m : MethodId} {below : List Frame} {meth : Method} {c : Code} {l : Launch} {b L : Nat} {xs : Nat → Int32} (hL : L ≤ 3072) (C0 : lw_At p s m meth c b L xs) {dC : Nat → ClassId} {dI : Nat → Nat → Nat} {cI cZ cC cR : ClassId} (hK : va_K (dC, dI) x_cls (zT cI cZ cC cR) s) (hN : zN s) {ad8 ad9 : Nat → Nat} {M8 M9 : xM} (m8 : made8 M8) (m9 : made9 M9) {H : Heap} {locs : List Loc} {ls : Array Slot} (hP : va_P (dC, dI) x_cls (x_wl ad8 (zcA cI cZ cC cR) (zlv 0 42) M8 ++ x_wl ad9 (zcA cI cZ cC cR) (zlv 42 16) M9) H) (hD : va_D (zNew s.heap.size) (x_wl ad8 (zcA cI cZ cC cR) (zlv 0 42) M8 ++ x_wl ad9 (zcA cI cZ cC cR) (zlv 42 16) M9)) (hS : va_S (zNew s.heap.size) s.heap H locs) (hl : lv_has ls 4 [(3, .int 0), (2, .ref (ad9 42)), (1, .ref (ad8 0)), (0, .ref b)]) :
    W p l e room_1 s m #[Value.ref b] below meth c H locs 58 1734 (lw_Z below #[Value.ref b] s) (F0 m 18 ls []) := by
  obtain ⟨hx, hb, hr, hml, hown, hts, hX, hbl, hlocks, hgv⟩ := id C0
  have hw : ∀ w ∈ xws, w.before #[Value.ref b] s = true := fun w h => hts w (List.mem_filter.mp h).1
  generalize had : (fun c : Nat => if c < 42 then ad8 c else if c < 58 then ad9 c else b) = ad
  generalize hM : (fun (c : Nat) (k : Int) => if c < 42 then M8 c k else if c < 58 then M9 c k else if k = -1 then (L : Int) else (xs k.toNat).toInt) = M
  have d8 : ∀ c, c < 42 → ad c = ad8 c := fun c h => by rw [← had]; exact if_pos h
  have d9 : ∀ c, 42 ≤ c → c < 58 → ad c = ad9 c := fun c h h' => by rw [← had]; show (if c < 42 then _ else if c < 58 then _ else _) = _; rw [if_neg (by omega), if_pos h']
  have d58 : ad 58 = b := by rw [← had]; rfl
  have e8 : ∀ c, c < 42 → M c = M8 c := fun c h => by rw [← hM]; funext k; exact if_pos h
  have e9 : ∀ c, 42 ≤ c → c < 58 → M c = M9 c := fun c h h' => by rw [← hM]; funext k; show (if c < 42 then _ else if c < 58 then _ else _) = _; rw [if_neg (by omega), if_pos h']
  have e58 : ∀ k, M 58 k = if k = -1 then (L : Int) else (xs k.toNat).toInt := fun k => by rw [← hM]; rfl
  have hwl : x_wl ad (zcA cI cZ cC cR) (zlv 0 58) M = x_wl ad8 (zcA cI cZ cC cR) (zlv 0 42) M8 ++ x_wl ad9 (zcA cI cZ cC cR) (zlv 42 16) M9 := by
    rw [zlv58, ← x_wl_c (ad := ad) (ad' := ad8) (M := M) (M' := M8) (lv := zlv 0 42), ← x_wl_c (ad := ad) (ad' := ad9) (M := M) (M' := M9) (lv := zlv 42 16)]
    · unfold x_wl
      rw [List.map_append]
    · intro d hd
      have hd2 := zlv_in.mp hd
      have h23 : ∀ d, d < 58 → 42 ≤ d → x_c d ≠ 23 := by decide +kernel
      refine ⟨d9 d hd2.1 (by omega), e9 d hd2.1 (by omega), fun k hk => ?_, fun h => absurd h (h23 d (by omega) hd2.1)⟩
      have := zcl9 d hd2.1 (by omega) k hk
      exact d9 _ this.1 this.2
    · intro d hd
      have hd2 := zlv_in.mp hd
      have hr := zcl8 d (by omega)
      exact ⟨d8 d (by omega), e8 d (by omega), fun k _ => d8 _ (hr k), fun _ k => d8 _ (hr k)⟩
  rw [← hwl] at hP hD
  obtain ⟨a1, a2, a3⟩ := m8
  obtain ⟨t1, t2, t3, t4, t5, t6, t7⟩ := m9
  have hRR : RR M := RR_0 e8 e9 a1 a2 a3 t1 t2 t3 t4 t5 t6 t7
  have hsO : sOk M L := ⟨by rw [e58]; rfl, by omega, fun j j0 j1 => by
    rw [e58, if_neg (by omega)]
    exact ⟨Int32.le_toInt _, Int32.toInt_lt _⟩⟩
  obtain ⟨f, r, M', hr', rfl⟩ := lp_law L 0 M hRR hsO (by omega) (by omega) (by omega)
  have hA : ∀ q, s.heap.size ≤ q → zNew s.heap.size q := fun _ h => h
  have hbA : ¬ zNew s.heap.size b := Nat.not_le.mpr hbl
  have hC : x_Cx 132 p l e room_1 s m #[Value.ref b] below meth c ad (zcA cI cZ cC cR) dC dI (zlv 0 58) (zNew s.heap.size) s.heap 58 1734 := ⟨hx, hb, hml, hown, hw, hN.1, zK hK _, fun M => x_Dall hD, hA, by decide, zC58, ⟨Nat.le_of_ble_eq_true rfl, Nat.le_of_ble_eq_true rfl, Nat.le_refl _, Nat.le_refl _⟩, hlocks⟩
  refine (x_sim xall f 132 18 [xr 58, xr 0, xr 42, xi 0] [] M (some (xi 1)) M' hr').2 p l e room_1 s m _ below meth c ad _ dC dI _ _ s.heap 58 1734 _ hC ?_ H locs ls hP hS (fun _ => ⟨L, xs, by rw [d58]; exact hX, by rw [d58]; exact hbl, by rw [d58]; exact hbA, hL, by rw [e58]; rfl, fun j hj => ?_⟩) (x_LsOf hl rfl (fun i v hi => ?_)) (fun v hv => by cases hv)
  · intro pc' ls' hret H' locs' sl' hP' hS' _ _ _
    refine va_forget (fun q hq => hS'.2.2 q hq) ?_
    exact lw_ret hx hb hr hlocks hret.1
  · rw [e58, if_neg (by omega), Int.toNat_natCast, Int32.ofInt_toInt]
  · match i, hi with
    | 0, hi =>
      cases hi
      refine Or.inr ⟨Or.inr rfl, ?_⟩
      show (0, Value.ref (ad 58)) ∈ _
      rw [d58]
      exact List.mem_of_getElem? (i := 3) rfl
    | 1, hi =>
      cases hi
      refine Or.inr ⟨Or.inl (zlv_in.mpr (by omega)), ?_⟩
      show (1, Value.ref (ad 0)) ∈ _
      rw [d8 0 (by omega)]
      exact List.mem_of_getElem? (i := 2) rfl
    | 2, hi =>
      cases hi
      refine Or.inr ⟨Or.inl (zlv_in.mpr (by omega)), ?_⟩
      show (2, Value.ref (ad 42)) ∈ _
      rw [d9 42 (by omega) (by omega)]
      exact List.mem_of_getElem? (i := 1) rfl
    | 3, hi =>
      cases hi
      exact Or.inr ⟨trivial, List.mem_of_getElem? (i := 0) rfl⟩
    | i + 4, hi => cases hi
set_option maxHeartbeats 8000000 in
set_option maxRecDepth 100000 in
/-- from the entry, for every script of at most 3072 ints, the law comes to its end with true -/
theorem whole_start {p : Program} {e : Env} {s : State} {m : MethodId} {below : List Frame} {meth : Method} {c : Code} (l : Launch) (hflags : l.flags = flags0) {b L : Nat} {xs : Nat → Int32} (hL : L ≤ 3072) (C0 : lw_At p s m meth c b L xs) : W p l e room_1 s m #[Value.ref b] below meth c s.heap [] 0 0 (lw_Z below #[Value.ref b] s) (entryFrame m ([Value.ref b] : List Value).toArray 4) := by
  obtain ⟨hx, hb, hr, hml, hown, hts, hX, hbl, hlocks, hgv⟩ := id C0
  have hw : ∀ w ∈ xws, w.before #[Value.ref b] s = true := fun w h => hts w (List.mem_filter.mp h).1
  obtain ⟨dC, dI, cI, cZ, cC, cR, hK, hN⟩ := z_known hts
  obtain ⟨q, qv, hR, hZ⟩ := z_str hts hgv
  have hA : ∀ q : Nat, s.heap.size ≤ q → zNew s.heap.size q := fun _ h => h
  have hS : va_S (zNew s.heap.size) s.heap s.heap [] := va_S.rf
  have hP : va_P (dC, dI) x_cls [] s.heap := fun k q h => by simp at h
  have hD : va_D (zNew s.heap.size) [] := ⟨fun i j p q h => by simp at h, fun k q h => by simp at h⟩
  have hl := lv_entry ([.ref b]) (n := 4) (Nat.le_of_ble_eq_true rfl)
  rw [lg_entry_eq]
  generalize (lg_sl ([.ref b]) ++ List.replicate (4 - (lg_sl ([.ref b])).length) Slot.unset).toArray = ls at hl ⊢
  have hl : lv_has ls 4 [(0, .ref b)] := hl
  refine va_new (ci := 8) (fs := [.null, .null, .null, .null, .null, .null, .null, .null]) (C := RX8) (T := TX8) (N := 8) hx hb hw xin_8 tyX8 tyX8_ok hown (hts _ (List.mem_of_getElem? (l := lw_tbl) (i := 53) (show lw_tbl[53]? = some (Cond.classLink R_law 7 RX8) from by decide +kernel))) (hts _ (List.mem_of_getElem? (l := lw_tbl) (i := 54) (show lw_tbl[54]? = some (Cond.instantiable RX8 8) from by decide +kernel))) (hts _ (List.mem_of_getElem? (l := lw_tbl) (i := 37) (show lw_tbl[37]? = some (Cond.initialized RX8) from by decide +kernel))) hK hP hD hS hA rfl (fun j hj => by rcases (show j = 0 ∨ j = 1 ∨ j = 2 ∨ j = 3 ∨ j = 4 ∨ j = 5 ∨ j = 6 ∨ j = 7 by omega) with rfl | rfl | rfl | rfl | rfl | rfl | rfl | rfl <;> rfl) (Nat.le_of_ble_eq_true rfl) (Nat.le_of_ble_eq_true rfl) dL_law_0 (fun q0 H hP hD hS => ?_)
  have hP : va_P (dC, dI) x_cls [(q0, .inr (8, [.null, .null, .null, .null, .null, .null, .null, .null]))] H := hP
  have hD : va_D (zNew s.heap.size) [(q0, .inr (8, [.null, .null, .null, .null, .null, .null, .null, .null]))] := hD
  refine lv_dup hx hb dL_law_3 rfl ?_
  have hFc := va_free (wc := [(q0, .inr (8, [.null, .null, .null, .null, .null, .null, .null, .null]))]) hD hS hA [0] rfl
  refine va_callv (a := ([.ref q0] : List Value).toArray) (va_runI (As := []) (rest := [.ref q0]) (Ts := xws) (nL := 4) (y := yX8_init) (bytes := cX8_init) (maxL := 1) (n := 0) (index := 9) (own := R_law) (b := q0) ⟨hx, hb, hml, hown, hw⟩ (k_X8 (l := l) (dC := dC) (dI := dI) (cI := cI) (cZ := cZ) (cC := cC) (cR := cR) q0 q qv H.size _ hD) (cwI 0 hw (xws_good ?_) rfl rfl rfl (hts _ (List.mem_of_getElem? (l := lw_tbl) (i := 37) (show lw_tbl[37]? = some (Cond.initialized RX8) from by decide +kernel))) (hts _ (List.mem_of_getElem? (l := lw_tbl) (i := 55) (show lw_tbl[55]? = some (Cond.methodLink R_law 9 yX8_init) from by decide +kernel))) (hts _ (List.mem_of_getElem? (l := lw_tbl) (i := 56) (show lw_tbl[56]? = some (Cond.instanceMethod yX8_init) from by decide +kernel))) rfl (show yX8_init.cls ≠ "java/lang/invoke/MethodHandle" ∧ yX8_init.cls ≠ "java/lang/invoke/VarHandle" ∧ (parseMethodDescriptor yX8_init.desc).map (fun d => d.parameters.length) = some 0 from by decide +kernel) ⟨Nat.le_of_ble_eq_true rfl, Nat.le_of_ble_eq_true rfl⟩) ⟨fun a U g mk h => ⟨h.1, h.2.1, h.2.2.1, va_K.moved (u := U) (U := U.calling g mk a) (Vm.Alike.refl U.vm) h.2.2.2.1, ⟨fun w hw => va_Nw.same rfl rfl (h.2.2.2.2.1.1 w hw), va_AO.moved (u := U) (U := U.calling g mk a) (Vm.Alike.refl U.vm) h.2.2.2.2.1.2⟩, vk_R.same (u := U) rfl h.2.2.2.2.2.1, zS.moved (u := U) (U := U.calling g mk a) (Vm.Alike.refl U.vm) h.2.2.2.2.2.2⟩, fun U hU hW => ⟨rfl, by rw [hU], by rw [hU]; exact hP, va_K.moved hW.alike hK, zN_moved hW hN, vk_R.warm hW hR, by rw [hU]; exact (zS.moved hW.alike (hZ.kept hS.2.1)).narrow hFc⟩⟩ rfl rfl hl.1 rfl (lv_room (Nat.le_of_ble_eq_true rfl)) dL_law_4 ⟨Nat.le_of_ble_eq_true rfl, Nat.le_of_ble_eq_true rfl⟩) hS (fun x _ h => hFc x h) hFc (fun u t H1 locs1 ht hvm hu hB hz1 hk1 hS1 => ?_)
  · intro w hw
    rcases List.mem_cons.mp hw with rfl | hw
    · exact (xws_in (i := 57) (show lw_tbl[57]? = some (Cond.code yX8_init cX8_init 1 none) from by decide +kernel) (by decide +kernel))
    · exact hw
  obtain ⟨ad8, M8, had8, rfl, m8⟩ := hu
  obtain ⟨hP1, hD1⟩ := hB
  rw [ht] at hP1
  obtain ⟨hP2, hD2⟩ := va_join (wr := []) hP hD [0] [] rfl rfl (by decide) (by decide) hk1 hFc hP1 hD1
  rw [List.nil_append] at hP2 hD2
  rw [← had8]
  refine lv_astore_n (lv' := [(1, .ref (ad8 0)), (0, .ref b)]) hx hb dL_law_7 rfl hl (by decide) rfl (fun ls hl => ?_)
  refine va_new (ci := 9) (fs := [.null, .int 0, .null, .null, .null, .null, .null, .int 0, .null, .int 0, .null, .int 0, .int 0, .null, .null, .null, .null, .int 0, .int 0, .int 0, .int 0, .int 0, .int 0, .null, .null, .null]) (C := RX9) (T := TX9) (N := 26) hx hb hw xin_9 tyX9 tyX9_ok hown (hts _ (List.mem_of_getElem? (l := lw_tbl) (i := 715) (show lw_tbl[715]? = some (Cond.classLink R_law 10 RX9) from by decide +kernel))) (hts _ (List.mem_of_getElem? (l := lw_tbl) (i := 716) (show lw_tbl[716]? = some (Cond.instantiable RX9 26) from by decide +kernel))) (hts _ (List.mem_of_getElem? (l := lw_tbl) (i := 50) (show lw_tbl[50]? = some (Cond.initialized RX9) from by decide +kernel))) hK hP2 hD2 hS1 hA rfl (fun j hj => by rcases (show j = 0 ∨ j = 1 ∨ j = 2 ∨ j = 3 ∨ j = 4 ∨ j = 5 ∨ j = 6 ∨ j = 7 ∨ j = 8 ∨ j = 9 ∨ j = 10 ∨ j = 11 ∨ j = 12 ∨ j = 13 ∨ j = 14 ∨ j = 15 ∨ j = 16 ∨ j = 17 ∨ j = 18 ∨ j = 19 ∨ j = 20 ∨ j = 21 ∨ j = 22 ∨ j = 23 ∨ j = 24 ∨ j = 25 by omega) with rfl | rfl | rfl | rfl | rfl | rfl | rfl | rfl | rfl | rfl | rfl | rfl | rfl | rfl | rfl | rfl | rfl | rfl | rfl | rfl | rfl | rfl | rfl | rfl | rfl | rfl <;> rfl) (Nat.le_of_ble_eq_true rfl) (Nat.le_of_ble_eq_true rfl) dL_law_8 (fun q8 H3 hP3 hD3 hS3 => ?_)
  refine lv_dup hx hb dL_law_11 rfl ?_
  have hlen : (x_wl ad8 (zcA cI cZ cC cR) (zlv 0 42) M8).length = 42 := by unfold x_wl; rw [List.length_map]; rfl
  generalize hW8 : x_wl ad8 (zcA cI cZ cC cR) (zlv 0 42) M8 = W8 at hP3 hD3 hlen
  have hat : (W8 ++ [(q8, .inr (9, [.null, .int 0, .null, .null, .null, .null, .null, .int 0, .null, .int 0, .null, .int 0, .int 0, .null, .null, .null, .null, .int 0, .int 0, .int 0, .int 0, .int 0, .int 0, .null, .null, .null]))])[42]? = some ((q8, .inr (9, [.null, .int 0, .null, .null, .null, .null, .null, .int 0, .null, .int 0, .null, .int 0, .int 0, .null, .null, .null, .null, .int 0, .int 0, .int 0, .int 0, .int 0, .int 0, .null, .null, .null])) : Nat × va_E) := by
    rw [List.getElem?_append_right (by omega), hlen]; rfl
  have hC9 : ([42] : List Nat).map (fun i => (W8 ++ [(q8, .inr (9, [.null, .int 0, .null, .null, .null, .null, .null, .int 0, .null, .int 0, .null, .int 0, .int 0, .null, .null, .null, .null, .int 0, .int 0, .int 0, .int 0, .int 0, .int 0, .null, .null, .null]))])[i]?) = ([(q8, .inr (9, [.null, .int 0, .null, .null, .null, .null, .null, .int 0, .null, .int 0, .null, .int 0, .int 0, .null, .null, .null, .null, .int 0, .int 0, .int 0, .int 0, .int 0, .int 0, .null, .null, .null]))] : va_W).map some := by
    show [(W8 ++ [(q8, .inr (9, [.null, .int 0, .null, .null, .null, .null, .null, .int 0, .null, .int 0, .null, .int 0, .int 0, .null, .null, .null, .null, .int 0, .int 0, .int 0, .int 0, .int 0, .int 0, .null, .null, .null]))])[42]?] = _
    rw [hat]; rfl
  have hC92 : ([42] : List Nat).filterMap (fun i => (W8 ++ [(q8, .inr (9, [.null, .int 0, .null, .null, .null, .null, .null, .int 0, .null, .int 0, .null, .int 0, .int 0, .null, .null, .null, .null, .int 0, .int 0, .int 0, .int 0, .int 0, .int 0, .null, .null, .null]))])[i]?) = ([(q8, .inr (9, [.null, .int 0, .null, .null, .null, .null, .null, .int 0, .null, .int 0, .null, .int 0, .int 0, .null, .null, .null, .null, .int 0, .int 0, .int 0, .int 0, .int 0, .int 0, .null, .null, .null]))] : va_W) := by
    rw [List.filterMap_cons, hat]; rfl
  have hR9 : (List.range 42).map (fun i => (W8 ++ [(q8, .inr (9, [.null, .int 0, .null, .null, .null, .null, .null, .int 0, .null, .int 0, .null, .int 0, .int 0, .null, .null, .null, .null, .int 0, .int 0, .int 0, .int 0, .int 0, .int 0, .null, .null, .null]))])[i]?) = W8.map some := by
    refine List.ext_getElem? (fun i => ?_)
    rw [List.getElem?_map, List.getElem?_map]
    by_cases hi : i < 42
    · rw [List.getElem?_range hi]
      show some ((W8 ++ _)[i]?) = _
      rw [List.getElem?_append_left (by omega), List.getElem?_eq_getElem (by omega)]
      rfl
    · rw [List.getElem?_eq_none (by rw [List.length_range]; omega), List.getElem?_eq_none (l := W8) (by omega)]
      rfl
  have hPc := hP3.sub (ws' := [(q8, .inr (9, [.null, .int 0, .null, .null, .null, .null, .null, .int 0, .null, .int 0, .null, .int 0, .int 0, .null, .null, .null, .null, .int 0, .int 0, .int 0, .int 0, .int 0, .int 0, .null, .null, .null]))]) [42] hC92
  have hDc := hD3.sub (ws' := [(q8, .inr (9, [.null, .int 0, .null, .null, .null, .null, .null, .int 0, .null, .int 0, .null, .int 0, .int 0, .null, .null, .null, .null, .int 0, .int 0, .int 0, .int 0, .int 0, .int 0, .null, .null, .null]))]) [42] (by decide) hC9
  have hFc9 := va_free (wc := [(q8, .inr (9, [.null, .int 0, .null, .null, .null, .null, .null, .int 0, .null, .int 0, .null, .int 0, .int 0, .null, .null, .null, .null, .int 0, .int 0, .int 0, .int 0, .int 0, .int 0, .null, .null, .null]))]) hD3 hS3 hA [42] hC9
  refine va_callv (a := ([.ref q8] : List Value).toArray) (va_runI (As := []) (rest := [.ref q8]) (Ts := xws) (nL := 4) (y := yX9_init) (bytes := cX9_init) (maxL := 1) (n := 0) (index := 12) (own := R_law) (b := q8) ⟨hx, hb, hml, hown, hw⟩ (k_X9 (l := l) (dC := dC) (dI := dI) (cI := cI) (cZ := cZ) (cC := cC) (cR := cR) q8 H3.size _ hDc) (cwI 0 hw (xws_good ?_) rfl rfl rfl (hts _ (List.mem_of_getElem? (l := lw_tbl) (i := 50) (show lw_tbl[50]? = some (Cond.initialized RX9) from by decide +kernel))) (hts _ (List.mem_of_getElem? (l := lw_tbl) (i := 717) (show lw_tbl[717]? = some (Cond.methodLink R_law 12 yX9_init) from by decide +kernel))) (hts _ (List.mem_of_getElem? (l := lw_tbl) (i := 718) (show lw_tbl[718]? = some (Cond.instanceMethod yX9_init) from by decide +kernel))) rfl (show yX9_init.cls ≠ "java/lang/invoke/MethodHandle" ∧ yX9_init.cls ≠ "java/lang/invoke/VarHandle" ∧ (parseMethodDescriptor yX9_init.desc).map (fun d => d.parameters.length) = some 0 from by decide +kernel) ⟨Nat.le_of_ble_eq_true rfl, Nat.le_of_ble_eq_true rfl⟩) ⟨fun a U g mk h => ⟨h.1, h.2.1, h.2.2.1, va_K.moved (u := U) (U := U.calling g mk a) (Vm.Alike.refl U.vm) h.2.2.2.1, ⟨fun w hw => va_Nw.same rfl rfl (h.2.2.2.2.1 w hw), va_AO.moved (u := U) (U := U.calling g mk a) (Vm.Alike.refl U.vm) h.2.2.2.2.2⟩⟩, fun U hU hW => ⟨rfl, by rw [hU], by rw [hU]; exact hPc, va_K.moved hW.alike hK, zN_moved hW hN⟩⟩ rfl rfl hl.1 rfl (lv_room (Nat.le_of_ble_eq_true rfl)) dL_law_12 ⟨Nat.le_of_ble_eq_true rfl, Nat.le_of_ble_eq_true rfl⟩) hS3 (fun x _ h => hFc9 x h) hFc9 (fun u t H4 locs4 ht4 hvm4 hu hB hz4 hk4 hS4 => ?_)
  · intro w hw
    rcases List.mem_cons.mp hw with rfl | hw
    · exact (xws_in (i := 719) (show lw_tbl[719]? = some (Cond.code yX9_init cX9_init 1 none) from by decide +kernel) (by decide +kernel))
    · exact hw
  obtain ⟨ad9, M9, had9, rfl, m9⟩ := hu
  obtain ⟨hP4, hD4⟩ := hB
  rw [ht4] at hP4
  obtain ⟨hP5, hD5⟩ := va_join (wr := W8) hP3 hD3 [42] (List.range 42) hC9 hR9 (by decide) (by decide) hk4 hFc9 hP4 hD4
  rw [← hW8] at hP5 hD5
  rw [← had9]
  refine lv_astore_n (lv' := [(2, .ref (ad9 42)), (1, .ref (ad8 0)), (0, .ref b)]) hx hb dL_law_15 rfl hl (by decide) rfl (fun ls hl => ?_)
  refine lv_iconst (v := 0) hx hb dL_law_16 (by decide) ?_
  refine lv_istore_n (lv' := [(3, .int 0), (2, .ref (ad9 42)), (1, .ref (ad8 0)), (0, .ref b)]) hx hb dL_law_17 rfl hl (by decide) rfl (fun ls hl => ?_)
  refine W.widen (k := 58) (n := 1734) (Nat.le_of_ble_eq_true rfl) (Nat.le_of_ble_eq_true rfl) ?_
  exact law_run hL C0 hK hN m8 m9 hP5 hD5 hS4 hl
