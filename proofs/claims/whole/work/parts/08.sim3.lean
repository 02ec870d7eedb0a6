theorem x_c58 : x_c 58 = 24 := by decide +kernel
theorem x_live {lv : List Nat} {d ci : Nat} (h : x_ok lv (xr d)) (hc : x_c d = ci) (hci : ci < 24) : d ∈ lv := by
  rcases h with h | h
  · exact h
  · subst h
    have := x_c58
    omega
theorem x_58 {M : xM} {d ci : Nat} {k v : Int} (hc : x_c d = ci) (hci : ci < 24) : xup M d k v 58 = M 58 := xup_ne (fun h => by
  subst h
  have := x_c58
  omega)
theorem ok_getf {y pc n ci k idx N : Nat} {C : String} {T : u_T} {cc : ByteArray} (hcc : xby y = cc) (hd : decode cc pc = .ok (.getfield idx, 3)) (hn : pc + 3 = n) (hq : x_cls[ci]? = some (C, T, N)) (hin : ∀ w ∈ u_ws C T N, w ∈ xws) (hN : x_nf ci = N) (hk : k < N) (hci : ci < 20) (hr : x_isr ci k = false) (hT : (T k).1 = C) (hw : Cond.fieldLink (xow y) idx C (T k).2.1 (T k).2.2.1 ∈ xws) : xOkN y pc (i_getf ci k n) := by
  intro ls st M res h
  unfold i_getf at h
  split at h
  · rename_i d st'
    split at h
    · rename_i hdc
      cases h
      refine ⟨_, rfl, rfl, ?_⟩
      intro p l e R s m args below meth c ad cA dC dI lv A H0 cells slots Q hC hW H locs sl hP hS hSc hL hst; obtain ⟨hx, hb, hml, hown, hts, hnest, hK, hD, hA, hnd, hcl, hroom, hlocks⟩ := id hC
      have hlv := x_live (hst _ List.mem_cons_self) hdc (by omega)
      obtain ⟨q0, h0, h1, h2⟩ := x_wlAt (ad := ad) (cA := cA) hlv
      refine va_get (D := (dC, dI)) (v := .int (Int32.ofInt (M d k))) hx (hb.trans hcc) hts hin hown hK hP q0 (by rw [h1, x_entO hdc hci]) hq k hk (hts _ hw) (by rw [hT]; exact fun _ h => h) ?_ hd ?_
      · rw [hN, x_fAt hk, x_fvI hdc hr]
      · subst hn
        exact hW H locs sl hP hS hSc hL (fun v hv => by
          rcases List.mem_cons.mp hv with rfl | hv
          · trivial
          · exact hst v (List.mem_cons_of_mem _ hv))
    · cases h
  · cases h
theorem ok_getr {y pc n ci k idx N : Nat} {C : String} {T : u_T} {cc : ByteArray} (hcc : xby y = cc) (hd : decode cc pc = .ok (.getfield idx, 3)) (hn : pc + 3 = n) (hq : x_cls[ci]? = some (C, T, N)) (hin : ∀ w ∈ u_ws C T N, w ∈ xws) (hN : x_nf ci = N) (hk : k < N) (hci : ci < 20) (hr : x_isr ci k = true) (hT : (T k).1 = C) (hw : Cond.fieldLink (xow y) idx C (T k).2.1 (T k).2.2.1 ∈ xws) : xOkN y pc (i_getr ci k n) := by
  intro ls st M res h
  unfold i_getr at h
  split at h
  · rename_i d st'
    split at h
    · rename_i hdc
      cases h
      refine ⟨_, rfl, rfl, ?_⟩
      intro p l e R s m args below meth c ad cA dC dI lv A H0 cells slots Q hC hW H locs sl hP hS hSc hL hst; obtain ⟨hx, hb, hml, hown, hts, hnest, hK, hD, hA, hnd, hcl, hroom, hlocks⟩ := id hC
      have hlv := x_live (hst _ List.mem_cons_self) hdc (by omega)
      obtain ⟨q0, h0, h1, h2⟩ := x_wlAt (ad := ad) (cA := cA) hlv
      refine va_get (D := (dC, dI)) (v := .ref (ad (x_r d k))) hx (hb.trans hcc) hts hin hown hK hP q0 (by rw [h1, x_entO hdc hci]) hq k hk (hts _ hw) (by rw [hT]; exact fun _ h => h) ?_ hd ?_
      · rw [hN, x_fAt hk, x_fvR hdc hr]
      · subst hn
        exact hW H locs sl hP hS hSc hL (fun v hv => by
          rcases List.mem_cons.mp hv with rfl | hv
          · exact Or.inl (hcl d hlv k (by omega) (Or.inl (by rw [hdc]; exact hr)))
          · exact hst v (List.mem_cons_of_mem _ hv))
    · cases h
  · cases h
theorem ok_putf {y pc n ci k idx N : Nat} {C : String} {T : u_T} {ty0 : Nat → FieldType} {cc : ByteArray} (hcc : xby y = cc) (hd : decode cc pc = .ok (.putfield idx, 3)) (hn : pc + 3 = n) (hq : x_cls[ci]? = some (C, T, N)) (hin : ∀ w ∈ u_ws C T N, w ∈ xws) (hty : ∀ k, k < N → parseFieldDescriptor (T k).2.2.1 = some (ty0 k)) (hnm : ∀ a, a < N → ∀ b, b < N → a ≠ b → (T a).2.1 ≠ (T b).2.1) (hN : x_nf ci = N) (hk : k < N) (hci : ci < 20) (hr : x_isr ci k = false) (hT : (T k).1 = C) (hf : (T k).2.2.2 = false) (ht : parseFieldDescriptor (T k).2.2.1 = some FieldType.int) (hw : Cond.fieldLink (xow y) idx C (T k).2.1 (T k).2.2.1 ∈ xws) : xOkN y pc (i_putf ci k n) := by
  intro ls st M res h
  unfold i_putf at h
  split at h
  · rename_i v d st'
    split at h
    · rename_i hdc
      cases h
      skip
      refine ⟨_, rfl, x_58 hdc (by omega), ?_⟩
      intro p l e R s m args below meth c ad cA dC dI lv A H0 cells slots Q hC hW H locs sl hP hS hSc hL hst; obtain ⟨hx, hb, hml, hown, hts, hnest, hK, hD, hA, hnd, hcl, hroom, hlocks⟩ := id hC
      have hlv := x_live (hst _ (List.mem_cons_of_mem _ List.mem_cons_self)) hdc (by omega)
      obtain ⟨q0, h0, h1, h2⟩ := x_wlAt (ad := ad) (cA := cA) hlv
      refine va_put (D := (dC, dI)) (v := .int (Int32.ofInt v)) (ty := FieldType.int) hx (hb.trans hcc) hts hin ty0 hty hnm hown hK hP (hD M) hS q0 (by rw [h1, x_entO hdc hci]) hq k hk (hts _ hw) (by rw [hT]; exact fun _ h => h) hf ht rfl rfl (by rw [hN]; simpa using hk) hd (fun H1 locs1 hP1 hD1 hS1 => ?_)
      rw [← x_putO hdc hci (by rw [hN]; exact hk) hr, ← x_wlSet hnd h0] at hP1
      subst hn
      exact hW H1 locs1 sl hP1 hS1 (x_ScUp (x_58 hdc (by omega)) hSc) hL (fun v hv => hst v (List.mem_cons_of_mem _ (List.mem_cons_of_mem _ hv)))
    · cases h
  · cases h
theorem ok_putb {y pc n ci k idx N : Nat} {C : String} {T : u_T} {ty0 : Nat → FieldType} {cc : ByteArray} (hcc : xby y = cc) (hd : decode cc pc = .ok (.putfield idx, 3)) (hn : pc + 3 = n) (hq : x_cls[ci]? = some (C, T, N)) (hin : ∀ w ∈ u_ws C T N, w ∈ xws) (hty : ∀ k, k < N → parseFieldDescriptor (T k).2.2.1 = some (ty0 k)) (hnm : ∀ a, a < N → ∀ b, b < N → a ≠ b → (T a).2.1 ≠ (T b).2.1) (hN : x_nf ci = N) (hk : k < N) (hci : ci < 20) (hr : x_isr ci k = false) (hT : (T k).1 = C) (hf : (T k).2.2.2 = false) (ht : parseFieldDescriptor (T k).2.2.1 = some FieldType.boolean) (hw : Cond.fieldLink (xow y) idx C (T k).2.1 (T k).2.2.1 ∈ xws) : xOkN y pc (i_putb ci k n) := by
  intro ls st M res h
  unfold i_putb at h
  split at h
  · rename_i v d st'
    split at h
    · rename_i hdc
      cases h
      obtain ⟨hdc, hbv⟩ := hdc
      refine ⟨_, rfl, x_58 hdc (by omega), ?_⟩
      intro p l e R s m args below meth c ad cA dC dI lv A H0 cells slots Q hC hW H locs sl hP hS hSc hL hst; obtain ⟨hx, hb, hml, hown, hts, hnest, hK, hD, hA, hnd, hcl, hroom, hlocks⟩ := id hC
      have hlv := x_live (hst _ (List.mem_cons_of_mem _ List.mem_cons_self)) hdc (by omega)
      obtain ⟨q0, h0, h1, h2⟩ := x_wlAt (ad := ad) (cA := cA) hlv
      refine va_put (D := (dC, dI)) (v := .int (Int32.ofInt v)) (ty := FieldType.boolean) hx (hb.trans hcc) hts hin ty0 hty hnm hown hK hP (hD M) hS q0 (by rw [h1, x_entO hdc hci]) hq k hk (hts _ hw) (by rw [hT]; exact fun _ h => h) hf ht (by rcases hbv with rfl | rfl <;> rfl) (by rcases hbv with rfl | rfl <;> rfl) (by rw [hN]; simpa using hk) hd (fun H1 locs1 hP1 hD1 hS1 => ?_)
      rw [← x_putO hdc hci (by rw [hN]; exact hk) hr, ← x_wlSet hnd h0] at hP1
      subst hn
      exact hW H1 locs1 sl hP1 hS1 (x_ScUp (x_58 hdc (by omega)) hSc) hL (fun v hv => hst v (List.mem_cons_of_mem _ (List.mem_cons_of_mem _ hv)))
    · cases h
  · cases h
theorem ok_iald {y pc n : Nat} {cc : ByteArray} (hcc : xby y = cc) (hd : decode cc pc = .ok (.iaload, 1)) (hn : pc + 1 = n) : xOkN y pc (i_ald 20 n) := by
  intro ls st M res h
  unfold i_ald at h
  split at h
  · rename_i i d st'
    split at h
    · rename_i hdc
      cases h
      obtain ⟨hdc, hi1, hi2⟩ := hdc
      refine ⟨_, rfl, rfl, ?_⟩
      intro p l e R s m args below meth c ad cA dC dI lv A H0 cells slots Q hC hW H locs sl hP hS hSc hL hst; obtain ⟨hx, hb, hml, hown, hts, hnest, hK, hD, hA, hnd, hcl, hroom, hlocks⟩ := id hC
      have hlv := x_live (hst _ (List.mem_cons_of_mem _ List.mem_cons_self)) hdc (by omega)
      obtain ⟨q0, h0, h1, h2⟩ := x_wlAt (ad := ad) (cA := cA) hlv
      refine va_iald (D := (dC, dI)) (f := fun j => Int32.ofInt (M d j)) hx (hb.trans hcc) hK hP q0 q0 (by rw [h1, x_entA hdc (by omega) (by omega)]) (by rw [h2, x_ty, hdc]; rfl) (x_vpin hi1 hi2) hd ?_
      subst hn
      have h9 := hW H locs sl hP hS hSc hL (fun v hv => by
        rcases List.mem_cons.mp hv with rfl | hv
        · trivial
        · exact hst v (List.mem_cons_of_mem _ (List.mem_cons_of_mem _ hv)))
      refine W.eq ?_ h9
      show F0 m (pc + 1) sl (Value.int (Int32.ofInt (M d ((xn i).toNat : Int))) :: _) = F0 m (pc + 1) sl (Value.int (Int32.ofInt (M d (xn i))) :: _)
      rw [Int.toNat_of_nonneg hi1]
    · cases h
  · cases h
theorem ok_zald {y pc n : Nat} {cc : ByteArray} (hcc : xby y = cc) (hd : decode cc pc = .ok (.baload, 1)) (hn : pc + 1 = n) : xOkN y pc (i_ald 21 n) := by
  intro ls st M res h
  unfold i_ald at h
  split at h
  · rename_i i d st'
    split at h
    · rename_i hdc
      cases h
      obtain ⟨hdc, hi1, hi2⟩ := hdc
      refine ⟨_, rfl, rfl, ?_⟩
      intro p l e R s m args below meth c ad cA dC dI lv A H0 cells slots Q hC hW H locs sl hP hS hSc hL hst; obtain ⟨hx, hb, hml, hown, hts, hnest, hK, hD, hA, hnd, hcl, hroom, hlocks⟩ := id hC
      have hlv := x_live (hst _ (List.mem_cons_of_mem _ List.mem_cons_self)) hdc (by omega)
      obtain ⟨q0, h0, h1, h2⟩ := x_wlAt (ad := ad) (cA := cA) hlv
      refine va_zald (D := (dC, dI)) (f := fun j => Int32.ofInt (M d j)) hx (hb.trans hcc) hK hP q0 q0 (by rw [h1, x_entA hdc (by omega) (by omega)]) (by rw [h2, x_ty, hdc]; rfl) (x_vpin hi1 hi2) hd ?_
      subst hn
      have h9 := hW H locs sl hP hS hSc hL (fun v hv => by
        rcases List.mem_cons.mp hv with rfl | hv
        · trivial
        · exact hst v (List.mem_cons_of_mem _ (List.mem_cons_of_mem _ hv)))
      refine W.eq ?_ h9
      show F0 m (pc + 1) sl (Value.int (Int32.ofInt (M d ((xn i).toNat : Int))) :: _) = F0 m (pc + 1) sl (Value.int (Int32.ofInt (M d (xn i))) :: _)
      rw [Int.toNat_of_nonneg hi1]
    · cases h
  · cases h
theorem ok_cald {y pc n : Nat} {cc : ByteArray} (hcc : xby y = cc) (hd : decode cc pc = .ok (.caload, 1)) (hn : pc + 1 = n) : xOkN y pc (i_ald 22 n) := by
  intro ls st M res h
  unfold i_ald at h
  split at h
  · rename_i i d st'
    split at h
    · rename_i hdc
      cases h
      obtain ⟨hdc, hi1, hi2⟩ := hdc
      refine ⟨_, rfl, rfl, ?_⟩
      intro p l e R s m args below meth c ad cA dC dI lv A H0 cells slots Q hC hW H locs sl hP hS hSc hL hst; obtain ⟨hx, hb, hml, hown, hts, hnest, hK, hD, hA, hnd, hcl, hroom, hlocks⟩ := id hC
      have hlv := x_live (hst _ (List.mem_cons_of_mem _ List.mem_cons_self)) hdc (by omega)
      obtain ⟨q0, h0, h1, h2⟩ := x_wlAt (ad := ad) (cA := cA) hlv
      refine va_cald (D := (dC, dI)) (f := fun j => Int32.ofInt (M d j)) hx (hb.trans hcc) hK hP q0 q0 (by rw [h1, x_entA hdc (by omega) (by omega)]) (by rw [h2, x_ty, hdc]; rfl) (x_vpin hi1 hi2) hd ?_
      subst hn
      have h9 := hW H locs sl hP hS hSc hL (fun v hv => by
        rcases List.mem_cons.mp hv with rfl | hv
        · trivial
        · exact hst v (List.mem_cons_of_mem _ (List.mem_cons_of_mem _ hv)))
      refine W.eq ?_ h9
      show F0 m (pc + 1) sl (Value.int (Int32.ofInt (M d ((xn i).toNat : Int))) :: _) = F0 m (pc + 1) sl (Value.int (Int32.ofInt (M d (xn i))) :: _)
      rw [Int.toNat_of_nonneg hi1]
    · cases h
  · cases h
theorem ok_iast {y pc n : Nat} {cc : ByteArray} (hcc : xby y = cc) (hd : decode cc pc = .ok (.iastore, 1)) (hn : pc + 1 = n) : xOkN y pc (i_ast 20 0 0 n) := by
  intro ls st M res h
  unfold i_ast at h
  split at h
  · rename_i v i d st'
    split at h
    · rename_i hdc
      cases h
      obtain ⟨hdc, ⟨hi1, hi2⟩, hv⟩ := hdc
      have hdc : x_c d = 20 := by omega
      refine ⟨_, rfl, x_58 hdc (by omega), ?_⟩
      intro p l e R s m args below meth c ad cA dC dI lv A H0 cells slots Q hC hW H locs sl hP hS hSc hL hst; obtain ⟨hx, hb, hml, hown, hts, hnest, hK, hD, hA, hnd, hcl, hroom, hlocks⟩ := id hC
      have hlv := x_live (hst _ (List.mem_cons_of_mem _ (List.mem_cons_of_mem _ List.mem_cons_self))) hdc (by omega)
      obtain ⟨q0, h0, h1, h2⟩ := x_wlAt (ad := ad) (cA := cA) hlv
      refine va_iast (D := (dC, dI)) (f := fun j => Int32.ofInt (M d j)) hx (hb.trans hcc) hK hP (hD M) hS q0 q0 (by rw [h1, x_entA hdc (by omega) (by omega)]) (by rw [h2, x_ty, hdc]; rfl) (x_vpin hi1 hi2) hd (fun H1 locs1 hP1 hD1 hS1 => ?_)
      skip
      rw [x_clamp, ← x_putA hdc (by omega) (by omega) hi1, ← x_wlSet hnd h0] at hP1
      subst hn
      exact hW H1 locs1 sl hP1 hS1 (x_ScUp (x_58 hdc (by omega)) hSc) hL (fun v hv => hst v (List.mem_cons_of_mem _ (List.mem_cons_of_mem _ (List.mem_cons_of_mem _ hv))))
    · cases h
  · cases h
theorem ok_zast {y pc n : Nat} {cc : ByteArray} (hcc : xby y = cc) (hd : decode cc pc = .ok (.bastore, 1)) (hn : pc + 1 = n) : xOkN y pc (i_ast 21 0 2 n) := by
  intro ls st M res h
  unfold i_ast at h
  split at h
  · rename_i v i d st'
    split at h
    · rename_i hdc
      cases h
      obtain ⟨hdc, ⟨hi1, hi2⟩, hv⟩ := hdc
      have hdc : x_c d = 21 := by omega
      refine ⟨_, rfl, x_58 hdc (by omega), ?_⟩
      intro p l e R s m args below meth c ad cA dC dI lv A H0 cells slots Q hC hW H locs sl hP hS hSc hL hst; obtain ⟨hx, hb, hml, hown, hts, hnest, hK, hD, hA, hnd, hcl, hroom, hlocks⟩ := id hC
      have hlv := x_live (hst _ (List.mem_cons_of_mem _ (List.mem_cons_of_mem _ List.mem_cons_self))) hdc (by omega)
      obtain ⟨q0, h0, h1, h2⟩ := x_wlAt (ad := ad) (cA := cA) hlv
      refine va_zast (D := (dC, dI)) (f := fun j => Int32.ofInt (M d j)) hx (hb.trans hcc) hK hP (hD M) hS q0 q0 (by rw [h1, x_entA hdc (by omega) (by omega)]) (by rw [h2, x_ty, hdc]; rfl) (x_vpin hi1 hi2) hd (fun H1 locs1 hP1 hD1 hS1 => ?_)
      rw [show vp_nar .boolean (Int32.ofInt v) = Int32.ofInt v by rcases (show v = 0 ∨ v = 1 by omega) with rfl | rfl <;> rfl] at hP1
      rw [x_clamp, ← x_putA hdc (by omega) (by omega) hi1, ← x_wlSet hnd h0] at hP1
      subst hn
      exact hW H1 locs1 sl hP1 hS1 (x_ScUp (x_58 hdc (by omega)) hSc) hL (fun v hv => hst v (List.mem_cons_of_mem _ (List.mem_cons_of_mem _ (List.mem_cons_of_mem _ hv))))
    · cases h
  · cases h
theorem ok_cast {y pc n : Nat} {cc : ByteArray} (hcc : xby y = cc) (hd : decode cc pc = .ok (.castore, 1)) (hn : pc + 1 = n) : xOkN y pc (i_ast 22 0 65536 n) := by
  intro ls st M res h
  unfold i_ast at h
  split at h
  · rename_i v i d st'
    split at h
    · rename_i hdc
      cases h
      obtain ⟨hdc, ⟨hi1, hi2⟩, hv⟩ := hdc
      have hdc : x_c d = 22 := by omega
      refine ⟨_, rfl, x_58 hdc (by omega), ?_⟩
      intro p l e R s m args below meth c ad cA dC dI lv A H0 cells slots Q hC hW H locs sl hP hS hSc hL hst; obtain ⟨hx, hb, hml, hown, hts, hnest, hK, hD, hA, hnd, hcl, hroom, hlocks⟩ := id hC
      have hlv := x_live (hst _ (List.mem_cons_of_mem _ (List.mem_cons_of_mem _ List.mem_cons_self))) hdc (by omega)
      obtain ⟨q0, h0, h1, h2⟩ := x_wlAt (ad := ad) (cA := cA) hlv
      refine va_cast (D := (dC, dI)) (f := fun j => Int32.ofInt (M d j)) hx (hb.trans hcc) hK hP (hD M) hS q0 q0 (by rw [h1, x_entA hdc (by omega) (by omega)]) (by rw [h2, x_ty, hdc]; rfl) (x_vpin hi1 hi2) hd (fun H1 locs1 hP1 hD1 hS1 => ?_)
      rw [show vp_nar .char (Int32.ofInt v) = Int32.ofInt v by
        obtain ⟨k, rfl⟩ : ∃ k : Nat, v = k := ⟨v.toNat, by omega⟩
        have hc : ((nI k).toUInt32 % 65536).toInt32 = nI k := by
          have h1 := pk_char (nI k)
          rw [pk_tn (by omega), Nat.mod_eq_of_lt (by omega)] at h1
          exact h1
        have h1 := pk_vc (nI k)
        rw [hc] at h1
        rw [Int32.ofInt_eq_ofNat]
        exact h1] at hP1
      rw [x_clamp, ← x_putA hdc (by omega) (by omega) hi1, ← x_wlSet hnd h0] at hP1
      subst hn
      exact hW H1 locs1 sl hP1 hS1 (x_ScUp (x_58 hdc (by omega)) hSc) hL (fun v hv => hst v (List.mem_cons_of_mem _ (List.mem_cons_of_mem _ (List.mem_cons_of_mem _ hv))))
    · cases h
  · cases h
theorem ok_aald {y pc n : Nat} {cc : ByteArray} (hcc : xby y = cc) (hd : decode cc pc = .ok (.aaload, 1)) (hn : pc + 1 = n) : xOkN y pc (i_aald n) := by
  intro ls st M res h
  unfold i_aald at h
  split at h
  · rename_i i d st'
    split at h
    · rename_i hdc
      cases h
      obtain ⟨hdc, hi1, hi2⟩ := hdc
      refine ⟨_, rfl, rfl, ?_⟩
      intro p l e R s m args below meth c ad cA dC dI lv A H0 cells slots Q hC hW H locs sl hP hS hSc hL hst; obtain ⟨hx, hb, hml, hown, hts, hnest, hK, hD, hA, hnd, hcl, hroom, hlocks⟩ := id hC
      have hlv := x_live (hst _ (List.mem_cons_of_mem _ List.mem_cons_self)) hdc (by omega)
      obtain ⟨q0, h0, h1, h2⟩ := x_wlAt (ad := ad) (cA := cA) hlv
      refine va_aldq (D := (dC, dI)) (C := RX6) (f := fun j => some (ad (x_r d j))) hx (hb.trans hcc) hK hP q0 q0 (by rw [h1, x_entQ hdc]) (by rw [h2, x_ty, hdc]; rfl) (x_vpin hi1 hi2) hd ?_
      subst hn
      exact hW H locs sl hP hS hSc hL (fun v hv => by
        rcases List.mem_cons.mp hv with rfl | hv
        · exact Or.inl (hcl d hlv _ (by omega) (Or.inr ⟨hdc, by omega⟩))
        · exact hst v (List.mem_cons_of_mem _ (List.mem_cons_of_mem _ hv)))
    · cases h
  · cases h
theorem ok_sld {pc n : Nat} {cc : ByteArray} (hcc : xby xlaw = cc) (hd : decode cc pc = .ok (.iaload, 1)) (hn : pc + 1 = n) : xOkN xlaw pc (i_sld n) := by
  intro ls st M res h
  unfold i_sld at h
  split at h
  · rename_i i d st'
    split at h
    · rename_i hdc
      cases h
      obtain ⟨rfl, hi1, hi2⟩ := hdc
      refine ⟨_, rfl, rfl, ?_⟩
      intro p l e R s m args below meth c ad cA dC dI lv A H0 cells slots Q hC hW H locs sl hP hS hSc hL hst; obtain ⟨hx, hb, hml, hown, hts, hnest, hK, hD, hA, hnd, hcl, hroom, hlocks⟩ := id hC
      obtain ⟨L, xs, s1, s2, s3, s4, s5, s6⟩ := hSc rfl
      refine va_sld hx (hb.trans hcc) s1 s2 s3 hS (x_vpin hi1 (by omega)) hd ?_
      subst hn
      have h9 := hW H locs sl hP hS hSc hL (fun v hv => by
        rcases List.mem_cons.mp hv with rfl | hv
        · trivial
        · exact hst v (List.mem_cons_of_mem _ (List.mem_cons_of_mem _ hv)))
      refine W.eq ?_ h9
      show F0 m (pc + 1) sl (Value.int (xs (xn i).toNat) :: _) = F0 m (pc + 1) sl (Value.int (Int32.ofInt (M 58 (xn i))) :: _)
      rw [s6 _ (by omega), Int.toNat_of_nonneg hi1]
    · cases h
  · cases h
theorem ok_slen {pc n : Nat} {cc : ByteArray} (hcc : xby xlaw = cc) (hd : decode cc pc = .ok (.arraylength, 1)) (hn : pc + 1 = n) : xOkN xlaw pc (i_slen n) := by
  intro ls st M res h
  unfold i_slen at h
  split at h
  · rename_i d st'
    split at h
    · rename_i hdc
      cases h
      subst hdc
      refine ⟨_, rfl, rfl, ?_⟩
      intro p l e R s m args below meth c ad cA dC dI lv A H0 cells slots Q hC hW H locs sl hP hS hSc hL hst; obtain ⟨hx, hb, hml, hown, hts, hnest, hK, hD, hA, hnd, hcl, hroom, hlocks⟩ := id hC
      obtain ⟨L, xs, s1, s2, s3, s4, s5, s6⟩ := hSc rfl
      refine va_slen hx (hb.trans hcc) s1 s2 s3 hS hd ?_
      subst hn
      have h9 := hW H locs sl hP hS hSc hL (fun v hv => by
        rcases List.mem_cons.mp hv with rfl | hv
        · trivial
        · exact hst v (List.mem_cons_of_mem _ hv))
      refine W.eq ?_ h9
      show F0 m (pc + 1) sl (Value.int (Int32.ofNat L) :: _) = F0 m (pc + 1) sl (Value.int (Int32.ofInt (M 58 (-1))) :: _)
      rw [s5, Int32.ofInt_eq_ofNat]
    · cases h
  · cases h
theorem ok_tsw {y pc d len : Nat} {lo hi dflt : Int} {ts : List Nat} {offs : Array Int} {cc : ByteArray} (hcc : xby y = cc) (hd : decode cc pc = .ok (.tableswitch dflt lo hi offs, len)) (h1 : (pc : Int) + dflt = (d : Int)) (h2 : ts.map (fun (t : Nat) => (t : Int) - (pc : Int)) = offs.toList) (h3 : (ts.length : Int) = hi - lo + 1) : xOkN y pc (i_tsw lo hi d ts) := by
  intro ls st M res h
  unfold i_tsw at h
  split at h
  · rename_i x st'
    cases h
    refine ⟨_, rfl, rfl, ?_⟩
    intro p l e R s m args below meth c ad cA dC dI lv A H0 cells slots Q hC hW H locs sl hP hS hSc hL hst; obtain ⟨hx, hb, hml, hown, hts, hnest, hK, hD, hA, hnd, hcl, hroom, hlocks⟩ := id hC
    have h9 := hW H locs sl hP hS hSc hL (fun v hv => hst v (List.mem_cons_of_mem _ hv))
    by_cases hin : lo ≤ xn x ∧ xn x ≤ hi
    · have hlt : (xn x - lo).toNat < ts.length := by omega
      have ho : offs[(xn x - lo).toNat]? = some ((ts.getD (xn x - lo).toNat d : Int) - pc) := by
        rw [← Array.getElem?_toList, ← h2, List.getElem?_map, List.getD_eq_getElem?_getD, List.getElem?_eq_getElem hlt]
        rfl
      refine lv_tableIn hx (hb.trans hcc) hd (show ¬ (Int32.ofInt x).toInt < lo from Int.not_lt.mpr hin.1) (Int.not_lt.mpr hin.2) ho (tgt := ts.getD (xn x - lo).toNat d) (by omega) ?_
      simp only [if_pos hin] at h9
      exact h9
    · have hout : (Int32.ofInt x).toInt < lo ∨ hi < (Int32.ofInt x).toInt := by
        show xn x < lo ∨ hi < xn x
        omega
      refine lv_tableOut hx (hb.trans hcc) hd hout h1 ?_
      simp only [if_neg hin] at h9
      exact h9
  · cases h
theorem x_lk (pc d : Nat) (dflt a : Int) (hd : (pc : Int) + dflt = (d : Int)) : ∀ (ps : List (Int × Nat)), (pc : Int) + Op.lookupswitch.offset (ps.map (fun q => (q.1, (q.2 : Int) - pc))) dflt a = (xlk d a ps : Int)
  | [] => hd
  | q :: ps => by
    rw [List.map_cons, Op.lookupswitch.offset_cons, xlk]
    by_cases h : a = q.1
    · rw [if_pos h.symm, if_pos h]
      show (pc : Int) + ((q.2 : Int) - pc) = _
      omega
    · rw [if_neg (fun z => h z.symm), if_neg h]
      exact x_lk pc d dflt a hd ps
theorem ok_lsw {y pc d len : Nat} {dflt : Int} {ps : List (Int × Nat)} {offs : Array (Int × Int)} {cc : ByteArray} (hcc : xby y = cc) (hd : decode cc pc = .ok (.lookupswitch dflt offs, len)) (h1 : (pc : Int) + dflt = (d : Int)) (h2 : ps.map (fun q => (q.1, (q.2 : Int) - pc)) = offs.toList) (h3 : (offs.toList.zip (offs.toList.drop 1)).all (fun (a, next) => a.1 < next.1) = true) : xOkN y pc (i_lsw d ps) := by
  intro ls st M res h
  unfold i_lsw at h
  split at h
  · rename_i x st'
    cases h
    refine ⟨_, rfl, rfl, ?_⟩
    intro p l e R s m args below meth c ad cA dC dI lv A H0 cells slots Q hC hW H locs sl hP hS hSc hL hst; obtain ⟨hx, hb, hml, hown, hts, hnest, hK, hD, hA, hnd, hcl, hroom, hlocks⟩ := id hC
    have h9 := hW H locs sl hP hS hSc hL (fun v hv => hst v (List.mem_cons_of_mem _ hv))
    refine lv_lookup hx (hb.trans hcc) hd h3 rfl (tgt := xlk d (xn x) ps) ?_ h9
    rw [← h2]
    exact x_lk pc d dflt (xn x) h1 ps
  · cases h
theorem x_sum (ad : Nat → Nat) (st : List xV) (h : st.length ≤ 4) : ((st.map (x_cv ad)).map fun v => v.category).sum ≤ 8 := by
  have key : ∀ l : List xV, ((l.map (x_cv ad)).map fun v => v.category).sum ≤ 2 * l.length := by
    intro l
    induction l with
    | nil => simp
    | cons v l ih =>
      have h2 : (x_cv ad v).category ≤ 2 := by rcases lv_cat (x_cv ad v) with q | q <;> omega
      simp only [List.map_cons, List.sum_cons, List.length_cons]
      omega
  have := key st
  omega
theorem ok_max {y pc n idx : Nat} {cc : ByteArray} (hcc : xby y = cc) (hd : decode cc pc = .ok (.invokestatic idx, 3)) (hn : pc + 3 = n) (hl : Cond.methodLink (xow y) idx Lib.Math.max.name ∈ xws) (hs : Cond.static Lib.Math.max.name ∈ xws) (hi : Cond.initialized "java/lang/Math" ∈ xws) (hc : Cond.code Lib.Math.max.name Lib.Math.max.code 2 (some .int) ∈ xws) (hf : 1 ≤ xfr y) (hlo : 21 ≤ xlo y) : xOkN y pc (i_max n) := by
  intro ls st M res h
  unfold i_max at h
  split at h
  · rename_i b a st'
    split at h
    · rename_i hlen
      cases h
      refine ⟨_, rfl, rfl, ?_⟩
      intro p l e R s m args below meth c ad cA dC dI lv A H0 cells slots Q hC hW H locs sl hP hS hSc hL hst; obtain ⟨hx, hb, hml, hown, hts, hnest, hK, hD, hA, hnd, hcl, hroom, hlocks⟩ := id hC
      refine va_mmax hx (hb.trans hcc) (hml.trans hL.1.symm) hown (hts _ hl) (hts _ hs) (hts _ hi) (hts _ hc) (by omega) ?_ hroom.2.2.1 hroom.2.2.2 hd ?_
      · have := x_sum ad st' hlen
        omega
      · subst hn
        have h9 := hW H locs sl hP hS hSc hL (fun v hv => by
          rcases List.mem_cons.mp hv with rfl | hv
          · trivial
          · exact hst v (List.mem_cons_of_mem _ (List.mem_cons_of_mem _ hv)))
        refine W.eq ?_ h9
        show F0 m (pc + 3) sl (Value.int _ :: _) = F0 m (pc + 3) sl (Value.int (Int32.ofInt (if xn a < xn b then xn b else xn a)) :: _)
        congr 3
        by_cases hlt : xn a < xn b
        · rw [if_pos hlt, if_pos (Int32.lt_iff_toInt_lt.mpr hlt), xn_ofInt]
        · rw [if_neg hlt, if_neg (fun q => hlt (Int32.lt_iff_toInt_lt.mp q)), xn_ofInt]
    · cases h
  · cases h
theorem ok_min {y pc n idx : Nat} {cc : ByteArray} (hcc : xby y = cc) (hd : decode cc pc = .ok (.invokestatic idx, 3)) (hn : pc + 3 = n) (hl : Cond.methodLink (xow y) idx Lib.Math.min.name ∈ xws) (hs : Cond.static Lib.Math.min.name ∈ xws) (hi : Cond.initialized "java/lang/Math" ∈ xws) (hc : Cond.code Lib.Math.min.name Lib.Math.min.code 2 (some .int) ∈ xws) (hf : 1 ≤ xfr y) (hlo : 21 ≤ xlo y) : xOkN y pc (i_min n) := by
  intro ls st M res h
  unfold i_min at h
  split at h
  · rename_i b a st'
    split at h
    · rename_i hlen
      cases h
      refine ⟨_, rfl, rfl, ?_⟩
      intro p l e R s m args below meth c ad cA dC dI lv A H0 cells slots Q hC hW H locs sl hP hS hSc hL hst; obtain ⟨hx, hb, hml, hown, hts, hnest, hK, hD, hA, hnd, hcl, hroom, hlocks⟩ := id hC
      refine va_mmin hx (hb.trans hcc) (hml.trans hL.1.symm) hown (hts _ hl) (hts _ hs) (hts _ hi) (hts _ hc) (by omega) ?_ hroom.2.2.1 hroom.2.2.2 hd ?_
      · have := x_sum ad st' hlen
        omega
      · subst hn
        have h9 := hW H locs sl hP hS hSc hL (fun v hv => by
          rcases List.mem_cons.mp hv with rfl | hv
          · trivial
          · exact hst v (List.mem_cons_of_mem _ (List.mem_cons_of_mem _ hv)))
        refine W.eq ?_ h9
        show F0 m (pc + 3) sl (Value.int _ :: _) = F0 m (pc + 3) sl (Value.int (Int32.ofInt (if xn b < xn a then xn b else xn a)) :: _)
        congr 3
        by_cases hlt : xn b < xn a
        · rw [if_pos hlt, if_pos (Int32.lt_iff_toInt_lt.mpr hlt), xn_ofInt]
        · rw [if_neg hlt, if_neg (fun q => hlt (Int32.lt_iff_toInt_lt.mp q)), xn_ofInt]
    · cases h
  · cases h
