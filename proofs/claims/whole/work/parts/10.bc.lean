theorem xw_bc : Cond.code yJ6_bitCount_0f7a4 cJ6_bitCount_0f7a4 1 (some .int) ∈ xws := xws_in (i := 603) (by decide +kernel) (by decide +kernel)
theorem xw_bc1 : Cond.constant RJ6 265 (1431655765) ∈ xws := xws_in (i := 604) (by decide +kernel) (by decide +kernel)
theorem xw_bc2 : Cond.constant RJ6 266 (858993459) ∈ xws := xws_in (i := 605) (by decide +kernel) (by decide +kernel)
theorem xw_bc3 : Cond.constant RJ6 267 (252645135) ∈ xws := xws_in (i := 606) (by decide +kernel) (by decide +kernel)
set_option maxHeartbeats 4000000 in
theorem x_bcMet (l : Launch) (a : Int) (M : xM) (ad : Nat → Nat) (cA dC : Nat → ClassId) (dI : Nat → Nat → Nat) (lv : List Nat) (sz : Nat) : Met l yJ6_bitCount_0f7a4 (Cond.code yJ6_bitCount_0f7a4 cJ6_bitCount_0f7a4 1 (some .int) :: xws) { frames := 0, cells := 0, slots := 0, locals := 0 } (x_Pc ad cA dC dI lv sz [xi a] M) (x_Q ad cA dC dI lv sz (some (xi (xbc a))) M) 0 0 (x_A ad lv sz) := by
  refine Met.ofW (cc := cJ6_bitCount_0f7a4) (maxL := 1) (ret := some .int) (by decide) rfl ?_
  intro p e s m args below meth c s₁ B hml hv
  obtain ⟨rfl, hsz, hP, hK, hN⟩ := hv
  have hx := B.exec
  have hb := B.bytes
  have hr := B.returns
  have hts := atoms_spec (ws := Cond.code yJ6_bitCount_0f7a4 cJ6_bitCount_0f7a4 1 (some .int) :: xws) B.pre
  have hown : s.vm.findClass RJ6 = some m.cls := findClass_of_methodNamed B.named
  have hlocks := B.notSynchronized
  subst hsz
  show W _ _ _ _ _ _ _ _ _ _ _ _ _ _ _ (entryFrame m ([Value.int (Int32.ofInt a)] : List Value).toArray 1)
  have hS : va_S (x_A ad lv s.heap.size) s.heap s.heap [] := va_S.rf
  have hl := lv_entry ([.int (Int32.ofInt a)]) (n := 1) (Nat.le_of_ble_eq_true rfl)
  rw [lg_entry_eq]
  generalize (lg_sl ([.int (Int32.ofInt a)]) ++ List.replicate (1 - (lg_sl ([.int (Int32.ofInt a)])).length) Slot.unset).toArray = ls at hl ⊢
  have hl : lv_has ls 1 [(0, .int (Int32.ofInt a))] := hl
  have hxe : xbc a = (xbc5 (xbc4 (xbc3 (xbc2 (xbc1 (Int32.ofInt a)))))).toInt := rfl
  generalize Int32.ofInt a = x0 at hl hxe ⊢
  refine lv_iload_n hx hb dJ6_bitCount_0f7a4_0 rfl (lv_at hl 0 rfl) ?_
  refine lv_iload_n hx hb dJ6_bitCount_0f7a4_1 rfl (lv_at hl 0 rfl) ?_
  refine lv_iconst (v := 1) hx hb dJ6_bitCount_0f7a4_2 (by decide) ?_
  refine lv_iushr hx hb dJ6_bitCount_0f7a4_3 rfl ?_
  refine lv_ldcw hx hb hown (hts _ (List.mem_cons_of_mem _ xw_bc1)) dJ6_bitCount_0f7a4_4 ?_
  refine lv_iand hx hb dJ6_bitCount_0f7a4_7 ?_
  refine lv_isub hx hb dJ6_bitCount_0f7a4_8 ?_
  refine lv_topi (fun x1 ex1 => ?_)
  refine lv_istore_n (lv' := [(0, .int x1)]) hx hb dJ6_bitCount_0f7a4_9 rfl hl (by decide) rfl (fun ls hl => ?_)
  refine lv_iload_n hx hb dJ6_bitCount_0f7a4_10 rfl (lv_at hl 0 rfl) ?_
  refine lv_ldcw hx hb hown (hts _ (List.mem_cons_of_mem _ xw_bc2)) dJ6_bitCount_0f7a4_11 ?_
  refine lv_iand hx hb dJ6_bitCount_0f7a4_14 ?_
  refine lv_iload_n hx hb dJ6_bitCount_0f7a4_15 rfl (lv_at hl 0 rfl) ?_
  refine lv_iconst (v := 2) hx hb dJ6_bitCount_0f7a4_16 (by decide) ?_
  refine lv_iushr hx hb dJ6_bitCount_0f7a4_17 rfl ?_
  refine lv_ldcw hx hb hown (hts _ (List.mem_cons_of_mem _ xw_bc2)) dJ6_bitCount_0f7a4_18 ?_
  refine lv_iand hx hb dJ6_bitCount_0f7a4_21 ?_
  refine lv_iadd hx hb dJ6_bitCount_0f7a4_22 ?_
  refine lv_topi (fun x2 ex2 => ?_)
  refine lv_istore_n (lv' := [(0, .int x2)]) hx hb dJ6_bitCount_0f7a4_23 rfl hl (by decide) rfl (fun ls hl => ?_)
  refine lv_iload_n hx hb dJ6_bitCount_0f7a4_24 rfl (lv_at hl 0 rfl) ?_
  refine lv_iload_n hx hb dJ6_bitCount_0f7a4_25 rfl (lv_at hl 0 rfl) ?_
  refine lv_iconst (v := 4) hx hb dJ6_bitCount_0f7a4_26 (by decide) ?_
  refine lv_iushr hx hb dJ6_bitCount_0f7a4_27 rfl ?_
  refine lv_iadd hx hb dJ6_bitCount_0f7a4_28 ?_
  refine lv_ldcw hx hb hown (hts _ (List.mem_cons_of_mem _ xw_bc3)) dJ6_bitCount_0f7a4_29 ?_
  refine lv_iand hx hb dJ6_bitCount_0f7a4_32 ?_
  refine lv_topi (fun x3 ex3 => ?_)
  refine lv_istore_n (lv' := [(0, .int x3)]) hx hb dJ6_bitCount_0f7a4_33 rfl hl (by decide) rfl (fun ls hl => ?_)
  refine lv_iload_n hx hb dJ6_bitCount_0f7a4_34 rfl (lv_at hl 0 rfl) ?_
  refine lv_iload_n hx hb dJ6_bitCount_0f7a4_35 rfl (lv_at hl 0 rfl) ?_
  refine lv_bipush (v := 8) hx hb dJ6_bitCount_0f7a4_36 (by decide) ?_
  refine lv_iushr hx hb dJ6_bitCount_0f7a4_38 rfl ?_
  refine lv_iadd hx hb dJ6_bitCount_0f7a4_39 ?_
  refine lv_topi (fun x4 ex4 => ?_)
  refine lv_istore_n (lv' := [(0, .int x4)]) hx hb dJ6_bitCount_0f7a4_40 rfl hl (by decide) rfl (fun ls hl => ?_)
  refine lv_iload_n hx hb dJ6_bitCount_0f7a4_41 rfl (lv_at hl 0 rfl) ?_
  refine lv_iload_n hx hb dJ6_bitCount_0f7a4_42 rfl (lv_at hl 0 rfl) ?_
  refine lv_bipush (v := 16) hx hb dJ6_bitCount_0f7a4_43 (by decide) ?_
  refine lv_iushr hx hb dJ6_bitCount_0f7a4_45 rfl ?_
  refine lv_iadd hx hb dJ6_bitCount_0f7a4_46 ?_
  refine lv_topi (fun x5 ex5 => ?_)
  refine lv_istore_n (lv' := [(0, .int x5)]) hx hb dJ6_bitCount_0f7a4_47 rfl hl (by decide) rfl (fun ls hl => ?_)
  refine lv_iload_n hx hb dJ6_bitCount_0f7a4_48 rfl (lv_at hl 0 rfl) ?_
  refine lv_bipush (v := 63) hx hb dJ6_bitCount_0f7a4_49 (by decide) ?_
  refine lv_iand hx hb dJ6_bitCount_0f7a4_51 ?_
  refine lv_topi (fun x9 ex9 => ?_)
  exact W.iret (v := x9) hx hb hr (fun t ht hW => ⟨⟨x9, (), rfl, (show Value.int (Int32.ofInt (xbc a)) = Value.int x9 by rw [hxe, Int32.ofInt_toInt, ex9, ex5, ex4, ex3, ex2, ex1]; rfl), (show va_P _ _ _ t.heap by rw [ht]; exact hP)⟩, hS.F ht⟩) hS.2.2 dJ6_bitCount_0f7a4_52 hlocks
theorem ok_bc {y pc n idx : Nat} {cc : ByteArray} (hcc : xby y = cc) (hd : decode cc pc = .ok (.invokestatic idx, 3)) (hn : pc + 3 = n) (hl : Cond.methodLink (xow y) idx yJ6_bitCount_0f7a4 ∈ xws) (hs : Cond.static yJ6_bitCount_0f7a4 ∈ xws) (hi : Cond.initialized yJ6_bitCount_0f7a4.cls ∈ xws) (hf : 1 ≤ xfr y) (hlo : 20 ≤ xlo y) : xOkN y pc (i_bc n) := by
  intro ls st M res h
  unfold i_bc at h
  split at h
  · rename_i a st'
    split at h
    · rename_i hlen
      cases h
      refine ⟨_, rfl, rfl, ?_⟩
      intro p l e R s m args below meth c ad cA dC dI lv A H0 cells slots Q hC hW H locs sl hP hS hSc hL hst; obtain ⟨hx, hb, hml, hown, hts, hnest, hK, hD, hA, hnd, hcl, hroom, hlocks⟩ := id hC
      refine x_after (r := some (xi (xbc a))) hn rfl p l e R s m args below meth c ad cA dC dI lv A H0 cells slots Q hC hW hS hSc hL (fun v hv => hst v (List.mem_cons_of_mem _ hv)) (a := ([xi a].map (x_cv ad)).toArray) ?_
      have hPre : PreS s H (x_Pc ad cA dC dI lv H.size [xi a] M) ([xi a].map (x_cv ad)) := ⟨x_blind, fun U hU hWm => ⟨rfl, by rw [hU], by rw [hU]; exact hP, va_K.moved hWm.alike hK, x_nestMoved hWm hnest⟩⟩
      have hc : Cond.code yJ6_bitCount_0f7a4 cJ6_bitCount_0f7a4 1 (some .int) ∈ Cond.code yJ6_bitCount_0f7a4 cJ6_bitCount_0f7a4 1 (some .int) :: xws := List.mem_cons_self
      refine va_runS (As := [xi a].map (x_cv ad)) (rest := st'.map (x_cv ad)) (y := yJ6_bitCount_0f7a4) (bytes := cJ6_bitCount_0f7a4) (maxL := 1) (nL := xmx y) (ret := some .int) (Ts := xws) (n := 1) (index := idx) (own := xow y) ⟨hx, hb.trans hcc, hml, hown, hts⟩ (x_bcMet l a M ad cA dC dI lv H.size) ⟨callB_of (ws' := xws) 1 hts (xws_good (fun w hw => ?_)) rfl rfl rfl (hts _ hi) (hts _ hl) ⟨by decide, by decide, by decide +kernel⟩ ⟨by show 0 + 1 ≤ R.frames; omega, by show 8 + (1 + 11) + 0 ≤ R.locals; omega⟩, hts _ hs⟩ hPre rfl rfl hL.1 rfl (lv_room (x_sum ad st' hlen)) hd ⟨hroom.2.2.1, hroom.2.2.2⟩
      rcases List.mem_cons.mp hw with rfl | hw
      · exact xw_bc
      · exact hw
    · cases h
  · cases h
