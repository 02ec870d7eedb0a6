/-! the two constructors' contracts -/
theorem zlv_in {b n d : Nat} : d ∈ zlv b n ↔ b ≤ d ∧ d < b + n := by
  unfold zlv
  constructor
  · intro h
    obtain ⟨i, hi, rfl⟩ := List.mem_map.mp h
    have := List.mem_range.mp hi
    omega
  · intro h
    exact List.mem_map.mpr ⟨d - b, List.mem_range.mpr (by omega), by omega⟩
theorem zcl8 (d : Nat) (hd : d < 42) (k : Nat) : x_r d k < 42 := by
  have h : ∀ d, d < 42 → ∀ e ∈ xrl.getD d [], e < 42 := by decide +kernel
  unfold x_r
  rw [List.getD_eq_getElem?_getD (l := xrl.getD d [])]
  cases hk : (xrl.getD d [])[k]? with
  | none => exact (by decide : (0 : Nat) < 42)
  | some e => exact h d hd e (List.mem_of_getElem? hk)
theorem zcl9 (d : Nat) (h1 : 42 ≤ d) (h2 : d < 58) (k : Nat) (hr : x_isr (x_c d) k = true) : 42 ≤ x_r d k ∧ x_r d k < 58 := by
  have h20 : ∀ d, d < 58 → 42 < d → x_c d = 20 := by decide +kernel
  by_cases hd : d = 42
  · subst hd
    by_cases hk : k < 26
    · have : ∀ k, k < 26 → x_isr (x_c 42) k = true → 42 ≤ x_r 42 k ∧ x_r 42 k < 58 := by decide +kernel
      exact this k hk hr
    · have hn : x_isr (x_c 42) k = false := by
        show (xirl.getD 9 []).getD k false = false
        rw [List.getD_eq_getElem?_getD, List.getElem?_eq_none (by show 26 ≤ k; omega)]
        rfl
      rw [hn] at hr
      cases hr
  · rw [h20 d h2 (by omega)] at hr
    have hn : x_isr 20 k = false := by
      show ((xirl.getD 20 []) : List Bool).getD k false = false
      rw [List.getD_eq_getElem?_getD, List.getElem?_eq_none (by show 0 ≤ k; omega)]
      rfl
    rw [hn] at hr
    cases hr
theorem zC8 : ∀ d ∈ zlv 0 42, ∀ k, x_c d < 24 → (x_isr (x_c d) k = true ∨ (x_c d = 23 ∧ k < x_n d)) → x_r d k ∈ zlv 0 42 := fun d hd k _ _ => zlv_in.mpr ⟨Nat.zero_le _, zcl8 d (by have := zlv_in.mp hd; omega) k⟩
theorem zC9 : ∀ d ∈ zlv 42 16, ∀ k, x_c d < 24 → (x_isr (x_c d) k = true ∨ (x_c d = 23 ∧ k < x_n d)) → x_r d k ∈ zlv 42 16 := fun d hd k _ h => by
  have hd2 := zlv_in.mp hd
  have h23 : ∀ d, d < 58 → 42 ≤ d → x_c d ≠ 23 := by decide +kernel
  rcases h with h | h
  · have := zcl9 d hd2.1 (by omega) k h
    exact zlv_in.mpr (by omega)
  · exact absurd h.1 (h23 d (by omega) hd2.1)
theorem zK {dC : Nat → ClassId} {dI : Nat → Nat → Nat} {cI cZ cC cR : ClassId} {s : State} (hK : va_K (dC, dI) x_cls (zT cI cZ cC cR) s) (lv : List Nat) : va_K (dC, dI) x_cls (x_tys (zcA cI cZ cC cR) lv) s := by
  refine ⟨hK.1, fun k q hq => ?_⟩
  obtain ⟨d, -, rfl⟩ := List.mem_map.mp (List.mem_of_getElem? hq)
  unfold zcA x_ty
  by_cases h1 : x_c d = 21
  · rw [if_pos h1, if_pos h1]; exact hK.2 1 (cZ, .boolean) rfl
  · rw [if_neg h1, if_neg h1]
    by_cases h2 : x_c d = 22
    · rw [if_pos h2, if_pos h2]; exact hK.2 2 (cC, .char) rfl
    · rw [if_neg h2, if_neg h2]
      by_cases h3 : x_c d = 23
      · rw [if_pos h3, if_pos h3]; exact hK.2 3 (cR, .object RX6) rfl
      · rw [if_neg h3, if_neg h3]; exact hK.2 0 (cI, .int) rfl
theorem x_Dall {A : Nat → Prop} {ad : Nat → Nat} {cA : Nat → ClassId} {lv : List Nat} {M M' : xM} (h : va_D A (x_wl ad cA lv M)) : va_D A (x_wl ad cA lv M') := by
  have at' : ∀ (i : Nat) (p : Nat × va_E), (x_wl ad cA lv M')[i]? = some p → ∃ p', (x_wl ad cA lv M)[i]? = some p' ∧ p'.1 = p.1 := fun i p hp => by
    unfold x_wl at hp ⊢
    rw [List.getElem?_map] at hp ⊢
    cases hl : lv[i]? with
    | none => rw [hl] at hp; cases hp
    | some d => rw [hl] at hp; cases hp; exact ⟨_, rfl, rfl⟩
  refine ⟨fun i j p q hi hj e => ?_, fun k q hq => ?_⟩
  · obtain ⟨p', a, b⟩ := at' i p hi
    obtain ⟨q', c, d⟩ := at' j q hj
    exact h.1 i j p' q' a c (by rw [b, d, e])
  · obtain ⟨q', a, b⟩ := at' k q hq
    rw [← b]
    exact h.2 k q' a
theorem x_LsOf {ad : Nat → Nat} {lv : List Nat} {y : Nat} {sl : Array Slot} {ls : List xV} {l : List (Nat × Value)} (h : lv_has sl (xmx y) l) (hn : ls.length = xmx y) (hv : ∀ (i : Nat) (v : xV), ls[i]? = some v → v = xj ∨ (x_ok lv v ∧ (i, x_cv ad v) ∈ l)) : x_Ls ad lv y sl ls := ⟨h.1, hn, h.2.1, fun i v hi => (hv i v hi).imp_right (fun q => ⟨q.1, h.2.2 _ q.2⟩)⟩
/-- what the reference's constructor leaves -/
def made9 (M : xM) : Prop := rT w9 M ∧ rS w9 M ∧ M 47 5 = 0 ∧ (M 42 7 = 0 ∧ M 42 9 = 0 ∧ M 42 11 = 0) ∧ M 42 1 = 0 ∧ M 42 20 = -1 ∧ M 42 22 = 0
set_option maxHeartbeats 4000000 in
theorem k_X9 {l : Launch} {dC : Nat → ClassId} {dI : Nat → Nat → Nat} {cI cZ cC cR : ClassId} (h0 : Nat) : z_Met l yX9_init cX9_init 1 1 25 15 1275 dC dI (zT cI cZ cC cR) [.ref h0] [(h0, .inr (9, [.null, .int 0, .null, .null, .null, .null, .null, .int 0, .null, .int 0, .null, .int 0, .int 0, .null, .null, .null, .null, .int 0, .int 0, .int 0, .int 0, .int 0, .int 0, .null, .null, .null]))] (fun ws => ∃ (ad : Nat → Nat) (M : xM), ad 42 = h0 ∧ ws = x_wl ad (zcA cI cZ cC cR) (zlv 42 16) M ∧ made9 M) := by
  refine z_of (by decide +kernel) rfl (Nat.le_of_ble_eq_true rfl) ?_
  intro p e s m below meth c A Q ls C hP hD hS hl out
  refine k_X9_init h0 C hP hD hS hl (fun H locs q8 q16 q24 q32 q40 q48 q56 q64 q73 q82 q91 q98 q110 q117 q124 hP hD hS => ?_)
  obtain ⟨hP, hD⟩ := z9_conv h0 q8 q16 q24 q32 q40 q48 q56 q64 q73 q82 q91 q98 q110 q117 q124 hP hD
  have had : zad 42 [h0, q8, q16, q24, q32, q40, q48, q56, q64, q73, q82, q91, q98, q110, q117, q124] 42 = h0 := rfl
  generalize zad 42 [h0, q8, q16, q24, q32, q40, q48, q56, q64, q73, q82, q91, q98, q110, q117, q124] = ad at hP hD had
  obtain ⟨f, r, M', hr, hq⟩ := q_made (Q := fun r M' => r = none ∧ made9 M') (fun M' a b c d e f g => ⟨rfl, a, b, c, d, e, f, g⟩)
  obtain ⟨rfl, hm⟩ := hq
  obtain ⟨hx, hb, hml, hown, hw, hN, hK, hA, hin, hlocks⟩ := id C
  have hC : x_Cx 134 p l e ({ frames := 1, cells := 15, slots := 1275, locals := 25 } : Room) s m ([.ref h0] : List Value).toArray below meth c ad (zcA cI cZ cC cR) dC dI (zlv 42 16) A s.heap 15 1275 := ⟨hx, hb, hml, hown, hw, hN.1, zK hK _, fun M => x_Dall hD, hA, by decide, zC9, ⟨Nat.le_of_ble_eq_true rfl, Nat.le_of_ble_eq_true rfl, Nat.le_refl _, Nat.le_refl _⟩, hlocks⟩
  refine (x_sim xall f 134 129 [xr 42] [] zM9 none M' hr).2 p l e _ s m _ below meth c ad _ dC dI _ A s.heap 15 1275 Q hC ?_ H locs ls hP hS (fun h => absurd h (by decide)) (x_LsOf hl rfl (fun i v hi => ?_)) (fun v hv => by cases hv)
  · intro pc' ls' hret H' locs' sl' hP' hS' _ _ _
    exact out H' locs' sl' pc' _ hret.1 ⟨ad, M', had, rfl, hm⟩ hP' (x_Dall hD) hS'
  · cases i with
    | zero =>
      cases hi
      refine Or.inr ⟨Or.inl (zlv_in.mpr (by omega)), ?_⟩
      show (0, Value.ref (ad 42)) ∈ _
      rw [had]
      exact List.mem_cons_self
    | succ i => cases hi
/-- what the class's constructor leaves -/
def made8 (M : xM) : Prop := cT4 oR.2 M ∧ (∀ c, (c = 2 ∨ 9 < c) → M c = sL zM0 63 c) ∧ M 1 2 = 0
def oTx : String := "n12;t3;t7;t10;a6;a11;p0,0,0,0;p2,5,1,0;p4,9,0,3;p3,2,1,1;w4;w5;"
set_option maxHeartbeats 4000000 in
set_option maxRecDepth 20000 in
theorem k_X8 {l : Launch} {dC : Nat → ClassId} {dI : Nat → Nat → Nat} {cI cZ cC cR : ClassId} (h0 q qv : Nat) (sz : Nat) (A0 : Nat → Prop) (hD0 : va_D A0 [(h0, .inr (8, [.null, .null, .null, .null, .null, .null, .null, .null]))]) : Met l yX8_init (Cond.code yX8_init cX8_init 1 none :: xws) ({ frames := 5, cells := 41, slots := 425, locals := 107 } : Room) (va_Pc [.ref h0] (fun U => U.heap.size = sz ∧ va_P (dC, dI) x_cls [(h0, .inr (8, [.null, .null, .null, .null, .null, .null, .null, .null]))] U.heap ∧ va_K (dC, dI) x_cls (zT cI cZ cC cR) U ∧ zN U ∧ vk_R "PlatformsLeave" 65 oTx q U ∧ zS q qv (va_A [(h0, .inr (8, [.null, .null, .null, .null, .null, .null, .null, .null]))] sz) U U.heap)) (va_Qv (fun ws => ∃ (ad : Nat → Nat) (M : xM), ad 0 = h0 ∧ ws = x_wl ad (zcA cI cZ cC cR) (zlv 0 42) M ∧ made8 M) (fun ws t => va_P (dC, dI) x_cls ws t.heap ∧ va_D (va_A [(h0, .inr (8, [.null, .null, .null, .null, .null, .null, .null, .null]))] sz) ws) (va_A [(h0, .inr (8, [.null, .null, .null, .null, .null, .null, .null, .null]))] sz)) 41 425 (va_A [(h0, .inr (8, [.null, .null, .null, .null, .null, .null, .null, .null]))] sz) := by
  refine Met.ofW (cc := cX8_init) (maxL := 1) (ret := none) (ws' := xws) (by decide +kernel) rfl ?_
  intro p e s m args below meth c s₁ B hml hv
  obtain ⟨rfl, hsz, hP, hK, hN, hR, hZ⟩ := hv
  have hts := atoms_spec (ws := Cond.code yX8_init cX8_init 1 none :: xws) B.pre
  have hown : s.vm.findClass RX8 = some m.cls := findClass_of_methodNamed B.named
  have hin : meth.name = "<init>" := (name_of_methodNamed B.named B.method).1
  subst hsz
  have hx := B.exec
  have hb := B.bytes
  have hr := B.returns
  have hlocks := B.notSynchronized
  have hw : ∀ w ∈ xws, w.before ([.ref h0] : List Value).toArray s = true := fun w hw => hts w (List.mem_cons_of_mem _ hw)
  rw [lg_entry_eq]
  have hl := lv_entry ([.ref h0]) (n := 1) (Nat.le_of_ble_eq_true rfl)
  generalize (lg_sl ([.ref h0]) ++ List.replicate (1 - (lg_sl ([.ref h0])).length) Slot.unset).toArray = ls at hl ⊢
  have hl : lv_has ls 1 [(0, .ref h0)] := hl
  have hD := hD0.self (sz := s.heap.size)
  have hA : ∀ x, s.heap.size ≤ x → va_A [(h0, .inr (8, [.null, .null, .null, .null, .null, .null, .null, .null]))] s.heap.size x := fun x h => Or.inr h
  generalize hAe : va_A [(h0, .inr (8, [.null, .null, .null, .null, .null, .null, .null, .null]))] s.heap.size = A at hD hA hZ ⊢
  have C : z_Cx RX8 cX8_init 1 p s m ([.ref h0] : List Value).toArray meth c dC dI (zT cI cZ cC cR) A s.heap := ⟨hx, hb, hml, hown, hw, hN, hK, hA, hin, hlocks⟩
  refine k_X8_init h0 C hP hD va_S.rf hl (fun H locs q5 q8_9 q15_9 q16 q6_20 q13_20 q20_20 q26_20 q6_30_20 q27 q6_31 q13_31 q20_31 q26_31 q6_30_31 q38 q7_42 q15_42 q23_42 q49 q6_53 q11_53 q6_15_53 q21_53 q6_25_53 q60 q7_64 q15_64 q23_64 q71 q5_79 q6_9_79 q17_79 q24_79 q31_79 q38_79 q45_79 q53_79 q86 q6_94 q13_94 hP hD hS => ?_)
  obtain ⟨hP, hD⟩ := z8_conv h0 q5 q8_9 q15_9 q16 q6_20 q13_20 q20_20 q26_20 q6_30_20 q27 q6_31 q13_31 q20_31 q26_31 q6_30_31 q38 q7_42 q15_42 q23_42 q49 q6_53 q11_53 q6_15_53 q21_53 q6_25_53 q60 q7_64 q15_64 q23_64 q71 q5_79 q6_9_79 q17_79 q24_79 q31_79 q38_79 q45_79 q53_79 q86 q6_94 q13_94 hP hD
  have had : zad 0 [h0, q5, q8_9, q15_9, q16, q6_20, q13_20, q20_20, q26_20, q6_30_20, q27, q6_31, q13_31, q20_31, q26_31, q6_30_31, q38, q7_42, q15_42, q23_42, q49, q6_53, q11_53, q6_15_53, q21_53, q6_25_53, q60, q7_64, q15_64, q23_64, q71, q5_79, q6_9_79, q17_79, q24_79, q31_79, q38_79, q45_79, q53_79, q86, q6_94, q13_94] 0 = h0 := rfl
  have had1 : zad 0 [h0, q5, q8_9, q15_9, q16, q6_20, q13_20, q20_20, q26_20, q6_30_20, q27, q6_31, q13_31, q20_31, q26_31, q6_30_31, q38, q7_42, q15_42, q23_42, q49, q6_53, q11_53, q6_15_53, q21_53, q6_25_53, q60, q7_64, q15_64, q23_64, q71, q5_79, q6_9_79, q17_79, q24_79, q31_79, q38_79, q45_79, q53_79, q86, q6_94, q13_94] 1 = q5 := rfl
  rw [← had1]
  generalize zad 0 [h0, q5, q8_9, q15_9, q16, q6_20, q13_20, q20_20, q26_20, q6_30_20, q27, q6_31, q13_31, q20_31, q26_31, q6_30_31, q38, q7_42, q15_42, q23_42, q49, q6_53, q11_53, q6_15_53, q21_53, q6_25_53, q60, q7_64, q15_64, q23_64, q71, q5_79, q6_9_79, q17_79, q24_79, q31_79, q38_79, q45_79, q53_79, q86, q6_94, q13_94] = ad at hP hD had ⊢
  have hDall : ∀ M, va_D A (x_wl ad (zcA cI cZ cC cR) (zlv 0 42) M) := fun M => x_Dall hD
  refine va_ldcS hx hb hown hR dX8_init_104 ?_
  have h1 : 1 ∈ zlv 0 42 := zlv_in.mpr (by omega)
  obtain ⟨q0, g0, g1, g2⟩ := x_wlAt (ad := ad) (cA := zcA cI cZ cC cR) h1
  have hA2 : ∀ x, x_A ad (zlv 0 42) H.size x → A x := x_Ain hDall (fun x hx => hA x (Nat.le_trans hS.1 hx))
  have hpre : PreV s H "PlatformsLeave$Text" (ad 1) (va_Pc [.ref (ad 1), .ref q] (fun U => U.heap.size = H.size ∧ va_P (dC, dI) x_cls (x_wl ad (zcA cI cZ cC cR) (zlv 0 42) zM0) U.heap ∧ va_K (dC, dI) x_cls (x_tys (zcA cI cZ cC cR) (zlv 0 42)) U ∧ xNest U ∧ zS q qv (x_A ad (zlv 0 42) H.size) U U.heap)) [.ref q] := by
    refine ⟨fun a U g mk h => ⟨h.1, h.2.1, h.2.2.1, va_K.moved (u := U) (U := U.calling g mk a) (Vm.Alike.refl U.vm) h.2.2.2.1, fun w hw => va_Nw.same rfl rfl (h.2.2.2.2.1 w hw), zS.moved (u := U) (U := U.calling g mk a) (Vm.Alike.refl U.vm) h.2.2.2.2.2⟩, va_recv (zK hK (zlv 0 42)) hP (show x_cls[7]? = some (RX7, TX7, 5) from rfl) (q0 := q0) (a := ad 1) (fs := (List.range (x_nf 7)).map (fun j => x_fv ad zM0 1 j)) (by rw [g1, x_entO (ci := 7) rfl (by omega)]), fun U hU hW => ⟨rfl, by rw [hU], by rw [hU]; exact hP, va_K.moved hW.alike (zK hK _), x_nestMoved hW hN.1, ?_⟩⟩
    rw [hU]
    exact (zS.moved hW.alike (hZ.kept hS.2.1)).narrow hA2
  refine va_callv (a := ([.ref (ad 1), .ref q] : List Value).toArray) (va_runV (As := [.ref q]) (rest := []) (C := "PlatformsLeave$Text") (y := yX7_addAll) (bytes := cX7_addAll) (maxL := 3) (nL := 1) (ret := none) (Ts := xws) (n := 1) (index := 67) (own := RX8) (b := ad 1) ⟨hx, hb, hml, hown, hw⟩ (k_all (l := l) (q := q) (qv := qv) (M := zM0) rfl h1 H.size A hDall (by decide) zC8) (cwV 1 hw (xws_good ?_) rfl rfl rfl ⟨rfl, by decide +kernel⟩ ⟨Nat.le_of_ble_eq_true rfl, Nat.le_of_ble_eq_true rfl⟩) hpre rfl rfl hl.1 rfl (lv_room (Nat.le_of_ble_eq_true rfl)) dX8_init_106 ⟨Nat.le_refl _, Nat.le_refl _⟩) hS (fun x _ h => hA2 x h) hA2 (fun u t H1 locs1 ht hvm hu hB hz1 hk1 hS1 => ?_)
  · intro w hw
    rcases List.mem_append.mp hw with hw | hw
    · simp only [List.mem_cons, List.not_mem_nil, or_false] at hw
      rcases hw with rfl | rfl | rfl | rfl
      · exact yw297
      · exact yw298
      · exact yw299
      · exact yw38
    · rcases List.mem_cons.mp hw with rfl | hw
      · exact yw300
      · exact hw
  · rw [ht] at hB
    obtain ⟨f, r, M', hr', hq⟩ := q_open (Q := fun r M' => r = none ∧ made8 M') (fun M' a b c => ⟨rfl, a, b, c⟩)
    obtain ⟨rfl, hm⟩ := hq
    have hC : x_Cx 133 p l e ({ frames := 5, cells := 41, slots := 425, locals := 107 } : Room) s m ([.ref h0] : List Value).toArray below meth c ad (zcA cI cZ cC cR) dC dI (zlv 0 42) A s.heap 41 425 := ⟨hx, hb, hml, hown, hw, hN.1, zK hK _, hDall, hA, by decide, zC8, ⟨Nat.le_of_ble_eq_true rfl, Nat.le_of_ble_eq_true rfl, Nat.le_refl _, Nat.le_refl _⟩, hlocks⟩
    refine (x_sim xall f 133 109 [xr 0] [] (sL zM0 63) none M' hr').2 p l e _ s m _ below meth c ad _ dC dI _ A s.heap 41 425 _ hC ?_ H1 locs1 ls hB hS1 (fun h => absurd h (by decide)) (x_LsOf hl rfl (fun i v hi => ?_)) (fun v hv => by cases hv)
    · intro pc' ls' hret H' locs' sl' hP' hS' _ _ _
      exact W.vret hx hb hr (fun t ht hW => ⟨⟨_, rfl, ⟨ad, M', had, rfl, hm⟩, by rw [ht]; exact hP', hDall _⟩, hS'.F ht⟩) hS'.2.2 hret.1 hlocks
    · cases i with
      | zero =>
        cases hi
        refine Or.inr ⟨Or.inl (zlv_in.mpr (by omega)), ?_⟩
        show (0, Value.ref (ad 0)) ∈ _
        rw [had]
        exact List.mem_cons_self
      | succ i => cases hi
