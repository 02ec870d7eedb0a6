/-! Text.addAll over the opening text -/
def sCh (k : Nat) : Int := (sTx.getD k 0).toInt
theorem sCh_rng : ∀ k : Nat, k < 63 → 32 ≤ sCh k ∧ sCh k ≤ 126 := by decide +kernel
/-- so many letters in -/
def sL (M : xM) : Nat → xM
  | 0 => M
  | n + 1 => xup (xup (sL M n) 2 n (sCh n)) 1 2 (n + 1 : Nat)
theorem sL_1 {M : xM} (h : M 1 2 = 0) : ∀ n : Nat, (sL M n) 1 2 = n
  | 0 => h
  | n + 1 => by
    show xup (xup (sL M n) 2 n (sCh n)) 1 2 (n + 1 : Nat) 1 2 = _
    rw [xup_self]
theorem sL_ne {M : xM} {c : Nat} (h1 : c ≠ 1) (h2 : c ≠ 2) : ∀ n : Nat, (sL M n) c = M c
  | 0 => rfl
  | n + 1 => by
    show xup (xup (sL M n) 2 n (sCh n)) 1 2 (n + 1 : Nat) c = _
    rw [xup_ne h1, xup_ne h2, sL_ne h1 h2 n]
theorem sL_1k {M : xM} {k : Int} (h : k ≠ 2) : ∀ n : Nat, (sL M n) 1 k = M 1 k
  | 0 => rfl
  | n + 1 => by
    show xup (xup (sL M n) 2 n (sCh n)) 1 2 (n + 1 : Nat) 1 k = _
    rw [xup_k h, xup_ne (by omega), sL_1k h n]
theorem sL_2 {M : xM} : ∀ (n : Nat) (k : Int), (sL M n) 2 k = if 0 ≤ k ∧ k < n then sCh k.toNat else M 2 k
  | 0, k => by rw [if_neg (by omega)]; rfl
  | n + 1, k => by
    show xup (xup (sL M n) 2 n (sCh n)) 1 2 (n + 1 : Nat) 2 k = _
    rw [xup_ne (by omega), xup_at, sL_2 n k]
    by_cases h : k = n
    · rw [if_pos h, if_pos (by omega), h, Int.toNat_natCast]
    · rw [if_neg h]
      by_cases h2 : 0 ≤ k ∧ k < n
      · rw [if_pos h2, if_pos (by omega)]
      · rw [if_neg h2, if_neg (by omega)]
theorem q_tadd {M : xM} {Q : Option xV → xM → Prop} {x : Int} (hr : 0 ≤ x ∧ x < 65536) (h : 0 ≤ M 1 2 ∧ M 1 2 < 200) (hQ : Q (some (xi 1)) (xup (xup M 2 (M 1 2) x) 1 2 (M 1 2 + 1))) : Wc 19 [xr 1, xi x] M Q := by
  simp (disch := first | assumption | decide +kernel | exact hM _ _ | exact hL _ | exact xG_b | exact xG_bt _ _ | omega) only [wc19, w19_0, w19_1, w19_4, w19_7, Int.reduceAdd, xup_twice, true_implies, false_implies, not_true_eq_false, not_false_eq_true, and_true, true_and, Int.reduceEq, Int.reduceLE, Int.reduceLT, Int.reduceNeg, xb_eq0, xb_eq1, xup_ne, xup_self, xup_k, xjl_i, xjl_r, xjl_j, xjl_l, Option.toList_some, Option.toList_none, List.cons_append, List.nil_append, xr_0_0, xr_0_1, xr_0_2, xr_0_3, xr_0_4, xr_0_5, xr_0_6, xr_0_7, xr_1_0, xr_1_1, xr_4_5, xr_4_6, xr_4_7, xr_4_8, xr_8_0, xr_10_5, xr_10_6, xr_10_7, xr_10_8, xr_14_0, xr_16_0, xr_16_1, xr_16_2, xr_20_0, xr_21_0, xr_21_1, xr_22_0, xr_24_0, xr_26_0, xr_26_1, xr_26_2, xr_30_0, xr_30_1, xr_30_2, xr_30_3, xr_30_4, xr_30_5, xr_30_6, xr_30_7, xr_31_0, xr_39_0, xr_39_1, xr_39_2, xr_42_0, xr_42_2, xr_42_3, xr_42_4, xr_42_5, xr_42_6, xr_42_8, xr_42_10, xr_42_13, xr_42_14, xr_42_15, xr_42_16, xr_42_23, xr_42_24, xr_42_25]
  refine ⟨fun h3 => ?_, fun h3 => absurd h.2 h3⟩
  simp (disch := first | assumption | decide +kernel | exact hM _ _ | exact hL _ | exact xG_b | exact xG_bt _ _ | omega) only [w19_12, w19_13, w19_16, w19_17, w19_20, w19_21, w19_22, w19_23, w19_24, w19_27, w19_28, w19_29, w19_32, w19_33, Int.reduceAdd, xup_twice, true_implies, false_implies, not_true_eq_false, not_false_eq_true, and_true, true_and, Int.reduceEq, Int.reduceLE, Int.reduceLT, Int.reduceNeg, xb_eq0, xb_eq1, xup_ne, xup_self, xup_k, xjl_i, xjl_r, xjl_j, xjl_l, Option.toList_some, Option.toList_none, List.cons_append, List.nil_append, xr_0_0, xr_0_1, xr_0_2, xr_0_3, xr_0_4, xr_0_5, xr_0_6, xr_0_7, xr_1_0, xr_1_1, xr_4_5, xr_4_6, xr_4_7, xr_4_8, xr_8_0, xr_10_5, xr_10_6, xr_10_7, xr_10_8, xr_14_0, xr_16_0, xr_16_1, xr_16_2, xr_20_0, xr_21_0, xr_21_1, xr_22_0, xr_24_0, xr_26_0, xr_26_1, xr_26_2, xr_30_0, xr_30_1, xr_30_2, xr_30_3, xr_30_4, xr_30_5, xr_30_6, xr_30_7, xr_31_0, xr_39_0, xr_39_1, xr_39_2, xr_42_0, xr_42_2, xr_42_3, xr_42_4, xr_42_5, xr_42_6, xr_42_8, xr_42_10, xr_42_13, xr_42_14, xr_42_15, xr_42_16, xr_42_23, xr_42_24, xr_42_25]
  exact hQ
theorem x_met_add {l : Launch} {M : xM} {x : Int} (hr : 0 ≤ x ∧ x < 65536) (h : 0 ≤ M 1 2 ∧ M 1 2 < 200) : x_Met l 19 [xr 1, xi x] M (some (xi 1)) (xup (xup M 2 (M 1 2) x) 1 2 (M 1 2 + 1)) := by
  obtain ⟨f, r, M', hr', e1, e2⟩ := q_tadd (Q := fun r M' => r = some (xi 1) ∧ M' = xup (xup M 2 (M 1 2) x) 1 2 (M 1 2 + 1)) hr h ⟨rfl, rfl⟩
  subst e1 e2
  exact x_met (x_sim xall f) xmok19 (Nat.le_of_ble_eq_true rfl) (fun v hv y => by
    rcases List.mem_cons.mp hv with rfl | hv
    · exact fun h => by cases h
    · rcases List.mem_cons.mp hv with rfl | hv
      · exact fun h => by cases h
      · cases hv) hr' l
/-- addAll's contract: the letters come in -/
theorem k_all {l : Launch} {ad : Nat → Nat} {cA dC : Nat → ClassId} {dI : Nat → Nat → Nat} {lv : List Nat} {M : xM} {q qv : Nat} (hM : M 1 2 = 0) (h1 : 1 ∈ lv) (sz : Nat) (A0 : Nat → Prop) (hD0 : ∀ M : xM, va_D A0 (x_wl ad cA lv M)) (hnd : lv.Nodup) (hcl : ∀ d ∈ lv, ∀ k, x_c d < 24 → (x_isr (x_c d) k = true ∨ (x_c d = 23 ∧ k < x_n d)) → x_r d k ∈ lv) :
    Met l yX7_addAll (Cond.code yX7_addAll cX7_addAll 3 none :: xws) ({ frames := 4, cells := 0, slots := 0, locals := 85 } : Room) (va_Pc [.ref (ad 1), .ref q] (fun U => U.heap.size = sz ∧ va_P (dC, dI) x_cls (x_wl ad cA lv M) U.heap ∧ va_K (dC, dI) x_cls (x_tys cA lv) U ∧ xNest U ∧ zS q qv (x_A ad lv sz) U U.heap)) (x_Q ad cA dC dI lv sz none (sL M 63)) 0 0 (x_A ad lv sz) := by
  refine Met.ofW (cc := cX7_addAll) (maxL := 3) (ret := none) (ws' := xws) (by decide +kernel) rfl ?_
  intro p e s m args below meth c s₁ B hml hv
  obtain ⟨rfl, hsz, hP, hK, hN, hZ⟩ := hv
  have hx := B.exec
  have hb := B.bytes
  have hr := B.returns
  have hts := atoms_spec (ws := Cond.code yX7_addAll cX7_addAll 3 none :: xws) B.pre
  have hw : ∀ w ∈ xws, w.before ([.ref (ad 1), .ref q] : List Value).toArray s = true := fun w h => hts w (List.mem_cons_of_mem _ h)
  have hown : s.vm.findClass "PlatformsLeave$Text" = some m.cls := findClass_of_methodNamed B.named
  have hlocks := B.notSynchronized
  subst hsz
  have C : z_Sx "PlatformsLeave$Text" cX7_addAll 3 p s m ([.ref (ad 1), .ref q] : List Value).toArray c := ⟨hx, hb, hml, hown, hw⟩
  rw [lg_entry_eq]
  have hl := lv_entry ([.ref (ad 1), .ref q]) (n := 3) (Nat.le_of_ble_eq_true rfl)
  generalize (lg_sl ([.ref (ad 1), .ref q]) ++ List.replicate (3 - (lg_sl ([.ref (ad 1), .ref q])).length) Slot.unset).toArray = ls at hl ⊢
  have hl : lv_has ls 3 [(0, .ref (ad 1)), (1, .ref q)] := hl
  have hA : ∀ x, s.heap.size ≤ x → x_A ad lv s.heap.size x := fun x h => Or.inr h
  have hD : ∀ M : xM, va_D (x_A ad lv s.heap.size) (x_wl ad cA lv M) := fun M => x_Dself (hD0 M)
  have loop : ∀ (j k : Nat), k + j = 63 → ∀ (H : Heap) (locs : List Loc) (ls : Array Slot), va_P (dC, dI) x_cls (x_wl ad cA lv (sL M k)) H → va_S (x_A ad lv s.heap.size) s.heap H locs → lv_has ls 3 [(2, .int (nI k)), (0, .ref (ad 1)), (1, .ref q)] →
      W p l e ({ frames := 4, cells := 0, slots := 0, locals := 85 } : Room) s m ([.ref (ad 1), .ref q] : List Value).toArray below meth c H locs 0 0 (MQ below (x_Q ad cA dC dI lv s.heap.size none (sL M 63)) ([.ref (ad 1), .ref q] : List Value).toArray s 0 0 (x_A ad lv s.heap.size)) (F0 m 2 ls []) := by
    intro j
    induction j with
    | zero =>
      intro k hk H locs ls hP hS hl
      have hk63 : k = 63 := by omega
      subst hk63
      refine lv_iload_n hx hb dX7_addAll_2 rfl (lv_at hl 0 rfl) ?_
      refine lv_aload_n hx hb dX7_addAll_3 rfl (lv_at hl 2 rfl) ?_
      refine z_callV C (As := []) (rest := [.int (nI 63)]) (k_len (l := l)) hZ hS hA hl.1 rfl yw301 yw302 yw303 yw46 yw304 (show yJ0_length_8abf5.cls ≠ "java/lang/invoke/MethodHandle" ∧ yJ0_length_8abf5.cls ≠ "java/lang/invoke/VarHandle" ∧ (parseMethodDescriptor yJ0_length_8abf5.desc).map (fun d => d.parameters.length) = some 0 from by decide +kernel) ⟨Nat.le_of_ble_eq_true rfl, Nat.le_of_ble_eq_true rfl⟩ ⟨Nat.le_refl _, Nat.le_refl _⟩ (Nat.le_of_ble_eq_true rfl) dX7_addAll_4 (fun H1 locs1 hS1 hk1 => ?_)
      have hP1 : va_P (dC, dI) x_cls (x_wl ad cA lv (sL M 63)) H1 := hP.kept (fun k q hq => hk1 q.1 (hP k q hq).lt)
      refine lv_icmp_ge (tgt := 26) hx hb dX7_addAll_7 rfl (fun _ => ?_) (fun h => absurd (by decide) h)
      exact W.vret hx hb hr (fun t ht hW => ⟨⟨(), rfl, trivial, (show va_P _ _ _ t.heap by rw [ht]; exact hP1)⟩, hS1.F ht⟩) hS1.2.2 dX7_addAll_26 hlocks
    | succ j ih =>
      intro k hk H locs ls hP hS hl
      have hk63 : k < 63 := by omega
      obtain ⟨a1, a2, a3, a4, a5, a6, a7⟩ := sTx_ok k hk63
      have hr32 := sCh_rng k hk63
      have h12 := sL_1 hM k
      refine lv_iload_n hx hb dX7_addAll_2 rfl (lv_at hl 0 rfl) ?_
      refine lv_aload_n hx hb dX7_addAll_3 rfl (lv_at hl 2 rfl) ?_
      refine z_callV C (As := []) (rest := [.int (nI k)]) (k_len (l := l)) hZ hS hA hl.1 rfl yw301 yw302 yw303 yw46 yw304 (show yJ0_length_8abf5.cls ≠ "java/lang/invoke/MethodHandle" ∧ yJ0_length_8abf5.cls ≠ "java/lang/invoke/VarHandle" ∧ (parseMethodDescriptor yJ0_length_8abf5.desc).map (fun d => d.parameters.length) = some 0 from by decide +kernel) ⟨Nat.le_of_ble_eq_true rfl, Nat.le_of_ble_eq_true rfl⟩ ⟨Nat.le_refl _, Nat.le_refl _⟩ (Nat.le_of_ble_eq_true rfl) dX7_addAll_4 (fun H1 locs1 hS1 hk1 => ?_)
      have hP1 : va_P (dC, dI) x_cls (x_wl ad cA lv (sL M k)) H1 := hP.kept (fun k q hq => hk1 q.1 (hP k q hq).lt)
      refine lv_icmp_ge (tgt := 26) hx hb dX7_addAll_7 rfl (fun h => absurd a3 (Int32.not_lt.mpr h)) (fun _ => ?_)
      refine lv_aload_n hx hb dX7_addAll_10 rfl (lv_at hl 1 rfl) ?_
      refine lv_aload_n hx hb dX7_addAll_11 rfl (lv_at hl 2 rfl) ?_
      refine lv_iload_n hx hb dX7_addAll_12 rfl (lv_at hl 0 rfl) ?_
      refine z_callV C (As := [.int (nI k)]) (rest := [.ref (ad 1)]) (k_cha (l := l) hk63) hZ hS1 hA hl.1 rfl yw311 yw312 yw313 yw46 yw314 (show yJ0_charAt_5068e.cls ≠ "java/lang/invoke/MethodHandle" ∧ yJ0_charAt_5068e.cls ≠ "java/lang/invoke/VarHandle" ∧ (parseMethodDescriptor yJ0_charAt_5068e.desc).map (fun d => d.parameters.length) = some 1 from by decide +kernel) ⟨Nat.le_of_ble_eq_true rfl, Nat.le_of_ble_eq_true rfl⟩ ⟨Nat.le_refl _, Nat.le_refl _⟩ (Nat.le_of_ble_eq_true rfl) dX7_addAll_13 (fun H2 locs2 hS2 hk2 => ?_)
      have hP2 : va_P (dC, dI) x_cls (x_wl ad cA lv (sL M k)) H2 := hP1.kept (fun k q hq => hk2 q.1 (hP1 k q hq).lt)
      have ech : Value.int (sTx.getD k 0) = x_cv ad (xi (sCh k)) := by
        show Value.int _ = Value.int (Int32.ofInt (sCh k))
        rw [sCh, Int32.ofInt_toInt]
      obtain ⟨q0, g0, g1, g2⟩ := x_wlAt (ad := ad) (cA := cA) h1
      have hA2 : ∀ x, x_A ad lv H2.size x → x_A ad lv s.heap.size x := x_Ain hD (fun x hx => hA x (Nat.le_trans hS2.1 hx))
      have hMet := x_met_add (l := l) (M := sL M k) (x := sCh k) (by omega) (by omega) ad cA dC dI lv H2.size _ hD hnd hcl (fun v hv => by
        rcases List.mem_cons.mp hv with rfl | hv
        · exact Or.inl h1
        · rcases List.mem_cons.mp hv with rfl | hv
          · trivial
          · cases hv)
      have hpre : PreV s H2 "PlatformsLeave$Text" (ad 1) (x_Pc ad cA dC dI lv H2.size [xr 1, xi (sCh k)] (sL M k)) [x_cv ad (xi (sCh k))] := ⟨x_blind, va_recv hK hP2 (show x_cls[7]? = some (RX7, TX7, 5) from rfl) (q0 := q0) (a := ad 1) (fs := (List.range (x_nf 7)).map (fun j => x_fv ad (sL M k) 1 j)) (by rw [g1, x_entO (ci := 7) rfl (by omega)]), fun U hU hWm => ⟨rfl, by rw [hU], by rw [hU]; exact hP2, va_K.moved hWm.alike hK, x_nestMoved hWm hN⟩⟩
      rw [ech]
      refine va_calli (a := (Value.ref (ad 1) :: [x_cv ad (xi (sCh k))]).toArray) (va_runV (As := [x_cv ad (xi (sCh k))]) (rest := []) (C := "PlatformsLeave$Text") (y := xnm 19) (bytes := xby 19) (maxL := xmx 19) (nL := 3) (ret := xrt 19) (Ts := xws) (n := 1) (index := 32) (own := "PlatformsLeave$Text") (b := ad 1) ⟨hx, hb, hml, hown, hw⟩ hMet (cwV 1 hw (xws_good ?_) rfl rfl rfl ⟨rfl, by decide +kernel⟩ ⟨Nat.le_of_ble_eq_true rfl, Nat.le_of_ble_eq_true rfl⟩) hpre rfl rfl hl.1 rfl (lv_room (Nat.le_of_ble_eq_true rfl)) dX7_addAll_16 ⟨Nat.le_refl _, Nat.le_refl _⟩) hS2 (fun x _ h => hA2 x h) hA2 (fun i u t H3 locs3 ht hvm hwv hB hz3 hk3 hS3 => ?_)
      · intro w hw
        rcases List.mem_append.mp hw with hw | hw
        · simp only [List.mem_cons, List.not_mem_nil, or_false] at hw
          rcases hw with rfl | rfl | rfl | rfl
          · exact yw349
          · exact yw350
          · exact yw351
          · exact yw38
        · rcases List.mem_cons.mp hw with rfl | hw
          · exact yw352
          · exact hw
      · rw [ht] at hB
        have eM : xup (xup (sL M k) 2 ((sL M k) 1 2) (sCh k)) 1 2 ((sL M k) 1 2 + 1) = sL M (k + 1) := by
          rw [h12]; rfl
        rw [eM] at hB
        refine lv_pop hx hb dX7_addAll_19 rfl ?_
        refine lv_iinc (lv' := [(2, .int (nI (k + 1))), (0, .ref (ad 1)), (1, .ref q)]) hx hb dX7_addAll_20 hl (k := 0) rfl (v := nI (k + 1)) (nI_succ k).symm (by decide) rfl (fun ls' hl' => ?_)
        refine lv_goto (tgt := 2) hx hb dX7_addAll_23 rfl ?_
        exact ih (k + 1) (by omega) H3 locs3 ls' hB hS3 hl'
  have hS : va_S (x_A ad lv s.heap.size) s.heap s.heap [] := va_S.rf
  refine lv_iconst (v := nI 0) hx hb dX7_addAll_0 rfl ?_
  refine lv_istore_n (lv' := [(2, .int (nI 0)), (0, .ref (ad 1)), (1, .ref q)]) hx hb dX7_addAll_1 rfl hl (by decide) rfl (fun ls hl => ?_)
  exact loop 63 0 rfl s.heap [] ls hP hS hl
