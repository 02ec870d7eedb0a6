theorem xju_at : ∀ (ls : List xV) (i : Nat) (ls' : List xV), xju ls i = some ls' → ls'.length = ls.length ∧ i < ls.length ∧ ∀ (j : Nat) (w : xV), ls'[j]? = some w → (j = i ∧ w = xj) ∨ (j ≠ i ∧ ls[j]? = some w)
  | [], _, _, h => by simp [xju] at h
  | a :: ls, 0, ls', h => by
    simp [xju] at h; subst h
    refine ⟨by simp, by simp, fun j w hj => ?_⟩
    cases j with
    | zero => simp at hj; exact Or.inl ⟨rfl, hj.symm⟩
    | succ j => exact Or.inr ⟨by omega, by simpa using hj⟩
  | a :: ls, i + 1, ls', h => by
    simp only [xju, Option.map_eq_some_iff] at h
    obtain ⟨l2, h1, rfl⟩ := h
    obtain ⟨e1, e2, e3⟩ := xju_at ls i l2 h1
    refine ⟨by simp [e1], by simp; omega, fun j w hj => ?_⟩
    cases j with
    | zero => exact Or.inr ⟨by omega, by simpa using hj⟩
    | succ j =>
      rcases e3 j w (by simpa using hj) with ⟨q1, q2⟩ | ⟨q1, q2⟩
      · exact Or.inl ⟨by omega, q2⟩
      · exact Or.inr ⟨by omega, by simpa using q2⟩
theorem x_LsSet2 {ad : Nat → Nat} {lv : List Nat} {y : Nat} {sl : Array Slot} {ls ls' : List xV} {i : Nat} {x : Int} (h : x_Ls ad lv y sl ls) (hst : (xst ls i (xl x)).bind (fun l => xju l (i + 1)) = some ls') :
    ∃ sl', storeLocals sl i (.long (Int64.ofInt x)) = some sl' ∧ x_Ls ad lv y sl' ls' := by
  obtain ⟨l1, h1, h2⟩ := Option.bind_eq_some_iff.mp hst
  obtain ⟨e1, e2⟩ := xst_len ls i (xl x) l1 h1
  obtain ⟨f1, f2, f3⟩ := xju_at l1 (i + 1) ls' h2
  obtain ⟨sl', s1, s2⟩ := lv_store2 (v := .long (Int64.ofInt x)) (x_lst_has h) (show i + 1 < xmx y by rw [← h.2.1, ← e1]; exact f2) rfl
  refine ⟨sl', s1, s2.1, by rw [f1, e1]; exact h.2.1, s2.2.1, fun j w hw => ?_⟩
  by_cases hj : w = xj
  · exact Or.inl hj
  · refine Or.inr ?_
    rcases f3 j w hw with ⟨-, q⟩ | ⟨q0, q⟩
    · exact absurd q hj
    · rcases xst_at ls i (xl x) l1 h1 j w q with ⟨rfl, rfl⟩ | ⟨e3, h2⟩
      · exact ⟨trivial, s2.2.2 (j, .long (Int64.ofInt x)) List.mem_cons_self⟩
      · have h0 : ls[j]? = some w ∧ (j + 1 = i → ∀ x, w ≠ xl x) := by
          rcases h2 with ⟨e4, h2⟩ | ⟨e4, w0, h2, rfl⟩
          · exact ⟨h2, fun e => absurd e e4⟩
          · obtain ⟨h3, h4⟩ := xjl_ne hj
            exact ⟨by rw [h3]; exact h2, fun _ x hx => h4 x (by rw [← h3]; exact hx)⟩
        refine ⟨(x_LsAt h h0.1 hj).1, s2.2.2 (j, x_cv ad w) (List.mem_cons_of_mem _ (List.mem_filter.mpr ⟨x_lst_in h0.1 hj, ?_⟩))⟩
        by_cases e5 : j + 1 = i
        · have : ¬ (x_cv ad w).category = 2 := fun hcat => by obtain ⟨x, hx⟩ := x_cat hcat; exact h0.2 e5 x hx
          simp [e3, q0, this]
        · simp [e3, e5, q0]
theorem ok_iconst {y pc n : Nat} {k : Int} {cc : ByteArray} (hcc : xby y = cc) (hd : decode cc pc = .ok (.iconst k, 1)) (hn : pc + 1 = n) : xOkN y pc (i_const k n) := by
  intro ls st M res h
  cases h
  refine ⟨_, rfl, rfl, ?_⟩
  intro p l e R s m args below meth c ad cA dC dI lv A H0 cells slots Q hC hW H locs sl hP hS hSc hL hst; obtain ⟨hx, hb, hml, hown, hts, hnest, hK, hD, hA, hnd, hcl, hroom, hlocks⟩ := id hC
  refine lv_iconst hx (hb.trans hcc) hd rfl ?_
  subst hn
  exact hW H locs sl hP hS hSc hL (fun v hv => by
    rcases List.mem_cons.mp hv with rfl | hv
    · trivial
    · exact hst v hv)
theorem ok_bipush {y pc n : Nat} {k : Int} {cc : ByteArray} (hcc : xby y = cc) (hd : decode cc pc = .ok (.bipush k, 2)) (hn : pc + 2 = n) (hv : (Int8.ofInt k).toInt32 = Int32.ofInt k) : xOkN y pc (i_const k n) := by
  intro ls st M res h
  cases h
  refine ⟨_, rfl, rfl, ?_⟩
  intro p l e R s m args below meth c ad cA dC dI lv A H0 cells slots Q hC hW H locs sl hP hS hSc hL hst; obtain ⟨hx, hb, hml, hown, hts, hnest, hK, hD, hA, hnd, hcl, hroom, hlocks⟩ := id hC
  refine lv_bipush hx (hb.trans hcc) hd hv ?_
  subst hn
  exact hW H locs sl hP hS hSc hL (fun v hv => by
    rcases List.mem_cons.mp hv with rfl | hv
    · trivial
    · exact hst v hv)
theorem ok_sipush {y pc n : Nat} {k : Int} {cc : ByteArray} (hcc : xby y = cc) (hd : decode cc pc = .ok (.sipush k, 3)) (hn : pc + 3 = n) (hv : (Int16.ofInt k).toInt32 = Int32.ofInt k) : xOkN y pc (i_const k n) := by
  intro ls st M res h
  cases h
  refine ⟨_, rfl, rfl, ?_⟩
  intro p l e R s m args below meth c ad cA dC dI lv A H0 cells slots Q hC hW H locs sl hP hS hSc hL hst; obtain ⟨hx, hb, hml, hown, hts, hnest, hK, hD, hA, hnd, hcl, hroom, hlocks⟩ := id hC
  refine lv_sipush hx (hb.trans hcc) hd hv ?_
  subst hn
  exact hW H locs sl hP hS hSc hL (fun v hv => by
    rcases List.mem_cons.mp hv with rfl | hv
    · trivial
    · exact hst v hv)
theorem ok_ldc {y pc n idx : Nat} {k : Int} {v : Int32} {cc : ByteArray} (hcc : xby y = cc) (hd : decode cc pc = .ok (.ldc idx, 2)) (hn : pc + 2 = n) (hv : v = Int32.ofInt k) (hw : Cond.constant (xow y) idx v ∈ xws) : xOkN y pc (i_const k n) := by
  intro ls st M res h
  cases h
  refine ⟨_, rfl, rfl, ?_⟩
  intro p l e R s m args below meth c ad cA dC dI lv A H0 cells slots Q hC hW H locs sl hP hS hSc hL hst; obtain ⟨hx, hb, hml, hown, hts, hnest, hK, hD, hA, hnd, hcl, hroom, hlocks⟩ := id hC
  subst hv
  refine lv_ldc hx (hb.trans hcc) hown (hts _ hw) hd ?_
  subst hn
  exact hW H locs sl hP hS hSc hL (fun v hv => by
    rcases List.mem_cons.mp hv with rfl | hv
    · trivial
    · exact hst v hv)
theorem ok_ldc2 {y pc n idx : Nat} {k : Int} {v : Int64} {cc : ByteArray} (hcc : xby y = cc) (hd : decode cc pc = .ok (.ldc2_w idx, 3)) (hn : pc + 3 = n) (hv : v = Int64.ofInt k) (hw : Cond.constantLong (xow y) idx v ∈ xws) : xOkN y pc (i_lconst k n) := by
  intro ls st M res h
  cases h
  refine ⟨_, rfl, rfl, ?_⟩
  intro p l e R s m args below meth c ad cA dC dI lv A H0 cells slots Q hC hW H locs sl hP hS hSc hL hst; obtain ⟨hx, hb, hml, hown, hts, hnest, hK, hD, hA, hnd, hcl, hroom, hlocks⟩ := id hC
  subst hv
  refine lv_ldc2 hx (hb.trans hcc) hown (hts _ hw) hd ?_
  subst hn
  exact hW H locs sl hP hS hSc hL (fun v hv => by
    rcases List.mem_cons.mp hv with rfl | hv
    · trivial
    · exact hst v hv)
theorem ok_lconst {y pc n : Nat} {f : Fin 2} {k : Int} {cc : ByteArray} (hcc : xby y = cc) (hd : decode cc pc = .ok (.lconst f, 1)) (hn : pc + 1 = n) (hv : Int64.ofNat (f : Nat) = Int64.ofInt k) : xOkN y pc (i_lconst k n) := by
  intro ls st M res h
  cases h
  refine ⟨_, rfl, rfl, ?_⟩
  intro p l e R s m args below meth c ad cA dC dI lv A H0 cells slots Q hC hW H locs sl hP hS hSc hL hst; obtain ⟨hx, hb, hml, hown, hts, hnest, hK, hD, hA, hnd, hcl, hroom, hlocks⟩ := id hC
  refine lv_lconst hx (hb.trans hcc) hd hv ?_
  subst hn
  exact hW H locs sl hP hS hSc hL (fun v hv => by
    rcases List.mem_cons.mp hv with rfl | hv
    · trivial
    · exact hst v hv)
theorem ok_iload_n {y pc n i : Nat} {f : Fin 4} {cc : ByteArray} (hcc : xby y = cc) (hd : decode cc pc = .ok (.iload_n f, 1)) (hi : (f : Nat) = i) (hn : pc + 1 = n) : xOkN y pc (i_iload i n) := by
  intro ls st M res h
  unfold i_iload at h
  split at h
  · rename_i x hi0
    cases h
    refine ⟨_, rfl, rfl, ?_⟩
    intro p l e R s m args below meth c ad cA dC dI lv A H0 cells slots Q hC hW H locs sl hP hS hSc hL hst; obtain ⟨hx, hb, hml, hown, hts, hnest, hK, hD, hA, hnd, hcl, hroom, hlocks⟩ := id hC
    obtain ⟨h1, h2⟩ := x_LsAt hL hi0 (by simp)
    refine lv_iload_n hx (hb.trans hcc) hd hi h2 ?_
    subst hn
    exact hW H locs sl hP hS hSc hL (fun v hv => by
      rcases List.mem_cons.mp hv with rfl | hv
      · exact h1
      · exact hst v hv)
  · cases h
theorem ok_iload {y pc n i : Nat} {cc : ByteArray} (hcc : xby y = cc) (hd : decode cc pc = .ok (.iload i, 2)) (hn : pc + 2 = n) : xOkN y pc (i_iload i n) := by
  intro ls st M res h
  unfold i_iload at h
  split at h
  · rename_i x hi0
    cases h
    refine ⟨_, rfl, rfl, ?_⟩
    intro p l e R s m args below meth c ad cA dC dI lv A H0 cells slots Q hC hW H locs sl hP hS hSc hL hst; obtain ⟨hx, hb, hml, hown, hts, hnest, hK, hD, hA, hnd, hcl, hroom, hlocks⟩ := id hC
    obtain ⟨h1, h2⟩ := x_LsAt hL hi0 (by simp)
    refine lv_iload hx (hb.trans hcc) hd h2 ?_
    subst hn
    exact hW H locs sl hP hS hSc hL (fun v hv => by
      rcases List.mem_cons.mp hv with rfl | hv
      · exact h1
      · exact hst v hv)
  · cases h
theorem ok_lload_n {y pc n i : Nat} {f : Fin 4} {cc : ByteArray} (hcc : xby y = cc) (hd : decode cc pc = .ok (.lload_n f, 1)) (hi : (f : Nat) = i) (hn : pc + 1 = n) : xOkN y pc (i_lload i n) := by
  intro ls st M res h
  unfold i_lload at h
  split at h
  · rename_i x hi0
    cases h
    refine ⟨_, rfl, rfl, ?_⟩
    intro p l e R s m args below meth c ad cA dC dI lv A H0 cells slots Q hC hW H locs sl hP hS hSc hL hst; obtain ⟨hx, hb, hml, hown, hts, hnest, hK, hD, hA, hnd, hcl, hroom, hlocks⟩ := id hC
    obtain ⟨h1, h2⟩ := x_LsAt hL hi0 (by simp)
    refine lv_lload_n hx (hb.trans hcc) hd hi h2 ?_
    subst hn
    exact hW H locs sl hP hS hSc hL (fun v hv => by
      rcases List.mem_cons.mp hv with rfl | hv
      · exact h1
      · exact hst v hv)
  · cases h
theorem ok_lload {y pc n i : Nat} {cc : ByteArray} (hcc : xby y = cc) (hd : decode cc pc = .ok (.lload i, 2)) (hn : pc + 2 = n) : xOkN y pc (i_lload i n) := by
  intro ls st M res h
  unfold i_lload at h
  split at h
  · rename_i x hi0
    cases h
    refine ⟨_, rfl, rfl, ?_⟩
    intro p l e R s m args below meth c ad cA dC dI lv A H0 cells slots Q hC hW H locs sl hP hS hSc hL hst; obtain ⟨hx, hb, hml, hown, hts, hnest, hK, hD, hA, hnd, hcl, hroom, hlocks⟩ := id hC
    obtain ⟨h1, h2⟩ := x_LsAt hL hi0 (by simp)
    refine lv_lload hx (hb.trans hcc) hd h2 ?_
    subst hn
    exact hW H locs sl hP hS hSc hL (fun v hv => by
      rcases List.mem_cons.mp hv with rfl | hv
      · exact h1
      · exact hst v hv)
  · cases h
theorem ok_aload_n {y pc n i : Nat} {f : Fin 4} {cc : ByteArray} (hcc : xby y = cc) (hd : decode cc pc = .ok (.aload_n f, 1)) (hi : (f : Nat) = i) (hn : pc + 1 = n) : xOkN y pc (i_aload i n) := by
  intro ls st M res h
  unfold i_aload at h
  split at h
  · rename_i x hi0
    cases h
    refine ⟨_, rfl, rfl, ?_⟩
    intro p l e R s m args below meth c ad cA dC dI lv A H0 cells slots Q hC hW H locs sl hP hS hSc hL hst; obtain ⟨hx, hb, hml, hown, hts, hnest, hK, hD, hA, hnd, hcl, hroom, hlocks⟩ := id hC
    obtain ⟨h1, h2⟩ := x_LsAt hL hi0 (by simp)
    refine lv_aload_n hx (hb.trans hcc) hd hi h2 ?_
    subst hn
    exact hW H locs sl hP hS hSc hL (fun v hv => by
      rcases List.mem_cons.mp hv with rfl | hv
      · exact h1
      · exact hst v hv)
  · cases h
theorem ok_istore_n {y pc n i : Nat} {f : Fin 4} {cc : ByteArray} (hcc : xby y = cc) (hd : decode cc pc = .ok (.istore_n f, 1)) (hi : (f : Nat) = i) (hn : pc + 1 = n) : xOkN y pc (i_istore i n) := by
  intro ls st M res h
  unfold i_istore at h
  split at h
  · rename_i x st'
    split at h
    · rename_i ls' hls
      cases h
      refine ⟨_, rfl, rfl, ?_⟩
      intro p l e R s m args below meth c ad cA dC dI lv A H0 cells slots Q hC hW H locs sl hP hS hSc hL hst; obtain ⟨hx, hb, hml, hown, hts, hnest, hK, hD, hA, hnd, hcl, hroom, hlocks⟩ := id hC
      obtain ⟨sl', e', hL'⟩ := x_LsSet hL hls trivial rfl
      have e' : storeLocals sl i (Value.int (Int32.ofInt x)) = some sl' := e'
      subst hi
      intro T hT X
      have hb2 := hb.trans hcc
      obtain ⟨t, a, b⟩ := hW H locs sl' hP hS hSc hL' (fun v hv => hst v (List.mem_cons_of_mem _ hv)) T hT X
      refine ⟨t, ?_, b⟩
      subst hn
      show Steps p.tables e below (T.setTop (F0 m pc sl (Value.int (Int32.ofInt x) :: st'.map (x_cv ad)))) t
      jvm_step X.here [X.here.top, ↓top_set X.here.top, hx, hb2, hd, e']
      exact a
    · cases h
  · cases h
theorem ok_istore {y pc n i : Nat} {cc : ByteArray} (hcc : xby y = cc) (hd : decode cc pc = .ok (.istore i, 2)) (hn : pc + 2 = n) : xOkN y pc (i_istore i n) := by
  intro ls st M res h
  unfold i_istore at h
  split at h
  · rename_i x st'
    split at h
    · rename_i ls' hls
      cases h
      refine ⟨_, rfl, rfl, ?_⟩
      intro p l e R s m args below meth c ad cA dC dI lv A H0 cells slots Q hC hW H locs sl hP hS hSc hL hst; obtain ⟨hx, hb, hml, hown, hts, hnest, hK, hD, hA, hnd, hcl, hroom, hlocks⟩ := id hC
      obtain ⟨sl', e', hL'⟩ := x_LsSet hL hls trivial rfl
      have e' : storeLocals sl i (Value.int (Int32.ofInt x)) = some sl' := e'
      skip
      intro T hT X
      have hb2 := hb.trans hcc
      obtain ⟨t, a, b⟩ := hW H locs sl' hP hS hSc hL' (fun v hv => hst v (List.mem_cons_of_mem _ hv)) T hT X
      refine ⟨t, ?_, b⟩
      subst hn
      show Steps p.tables e below (T.setTop (F0 m pc sl (Value.int (Int32.ofInt x) :: st'.map (x_cv ad)))) t
      jvm_step X.here [X.here.top, ↓top_set X.here.top, hx, hb2, hd, e']
      exact a
    · cases h
  · cases h
theorem ok_lstore_n {y pc n i : Nat} {f : Fin 4} {cc : ByteArray} (hcc : xby y = cc) (hd : decode cc pc = .ok (.lstore_n f, 1)) (hi : (f : Nat) = i) (hn : pc + 1 = n) : xOkN y pc (i_lstore i n) := by
  intro ls st M res h
  unfold i_lstore at h
  split at h
  · rename_i x st'
    split at h
    · rename_i ls' hls
      cases h
      refine ⟨_, rfl, rfl, ?_⟩
      intro p l e R s m args below meth c ad cA dC dI lv A H0 cells slots Q hC hW H locs sl hP hS hSc hL hst; obtain ⟨hx, hb, hml, hown, hts, hnest, hK, hD, hA, hnd, hcl, hroom, hlocks⟩ := id hC
      obtain ⟨sl', e', hL'⟩ := x_LsSet2 hL hls
      have e' : storeLocals sl i (Value.long (Int64.ofInt x)) = some sl' := e'
      subst hi
      intro T hT X
      have hb2 := hb.trans hcc
      obtain ⟨t, a, b⟩ := hW H locs sl' hP hS hSc hL' (fun v hv => hst v (List.mem_cons_of_mem _ hv)) T hT X
      refine ⟨t, ?_, b⟩
      subst hn
      show Steps p.tables e below (T.setTop (F0 m pc sl (Value.long (Int64.ofInt x) :: st'.map (x_cv ad)))) t
      jvm_step X.here [X.here.top, ↓top_set X.here.top, hx, hb2, hd, e']
      exact a
    · cases h
  · cases h
theorem ok_lstore {y pc n i : Nat} {cc : ByteArray} (hcc : xby y = cc) (hd : decode cc pc = .ok (.lstore i, 2)) (hn : pc + 2 = n) : xOkN y pc (i_lstore i n) := by
  intro ls st M res h
  unfold i_lstore at h
  split at h
  · rename_i x st'
    split at h
    · rename_i ls' hls
      cases h
      refine ⟨_, rfl, rfl, ?_⟩
      intro p l e R s m args below meth c ad cA dC dI lv A H0 cells slots Q hC hW H locs sl hP hS hSc hL hst; obtain ⟨hx, hb, hml, hown, hts, hnest, hK, hD, hA, hnd, hcl, hroom, hlocks⟩ := id hC
      obtain ⟨sl', e', hL'⟩ := x_LsSet2 hL hls
      have e' : storeLocals sl i (Value.long (Int64.ofInt x)) = some sl' := e'
      skip
      intro T hT X
      have hb2 := hb.trans hcc
      obtain ⟨t, a, b⟩ := hW H locs sl' hP hS hSc hL' (fun v hv => hst v (List.mem_cons_of_mem _ hv)) T hT X
      refine ⟨t, ?_, b⟩
      subst hn
      show Steps p.tables e below (T.setTop (F0 m pc sl (Value.long (Int64.ofInt x) :: st'.map (x_cv ad)))) t
      jvm_step X.here [X.here.top, ↓top_set X.here.top, hx, hb2, hd, e']
      exact a
    · cases h
  · cases h
theorem ok_iinc {y pc n i : Nat} {k : Int} {cc : ByteArray} (hcc : xby y = cc) (hd : decode cc pc = .ok (.iinc i k, 3)) (hn : pc + 3 = n) : xOkN y pc (i_iinc i k n) := by
  intro ls st M res h
  unfold i_iinc at h
  split at h
  · rename_i x hi0
    split at h
    · rename_i ls' hls
      cases h
      refine ⟨_, rfl, rfl, ?_⟩
      intro p l e R s m args below meth c ad cA dC dI lv A H0 cells slots Q hC hW H locs sl hP hS hSc hL hst; obtain ⟨hx, hb, hml, hown, hts, hnest, hK, hD, hA, hnd, hcl, hroom, hlocks⟩ := id hC
      obtain ⟨h1, hg⟩ := x_LsAt hL hi0 (by simp)
      obtain ⟨sl', e', hL'⟩ := x_LsSet hL hls trivial rfl
      rw [show x_cv ad (xi (x + k)) = Value.int (Int32.ofInt x + Int32.ofInt k) from congrArg Value.int (Int32.ofInt_add x k)] at e'
      rw [show x_cv ad (Sum.inl x) = Value.int (Int32.ofInt x) from rfl] at hg
      intro T hT X
      have hb2 := hb.trans hcc
      obtain ⟨t, a, b⟩ := hW H locs sl' hP hS hSc hL' hst T hT X
      refine ⟨t, ?_, b⟩
      subst hn
      jvm_step X.here [X.here.top, ↓top_set X.here.top, hx, hb2, hd, hg, e']
      exact a
    · cases h
  · cases h
theorem ok_iadd {y pc n : Nat} {cc : ByteArray} (hcc : xby y = cc) (hd : decode cc pc = .ok (.iadd, 1)) (hn : pc + 1 = n) : xOkN y pc (i_bin xadd n) := by
  intro ls st M res h
  unfold i_bin at h
  split at h
  · rename_i b a st'
    cases h
    refine ⟨_, rfl, rfl, ?_⟩
    intro p l e R s m args below meth c ad cA dC dI lv A H0 cells slots Q hC hW H locs sl hP hS hSc hL hst; obtain ⟨hx, hb, hml, hown, hts, hnest, hK, hD, hA, hnd, hcl, hroom, hlocks⟩ := id hC
    refine lv_iadd hx (hb.trans hcc) hd ?_
    subst hn
    have h2 := hW H locs sl hP hS hSc hL (fun v hv => by
      rcases List.mem_cons.mp hv with rfl | hv
      · trivial
      · exact hst v (List.mem_cons_of_mem _ (List.mem_cons_of_mem _ hv)))
    refine W.eq ?_ h2
    show F0 m (pc + 1) sl (_ :: _) = F0 m (pc + 1) sl (Value.int (Int32.ofInt (xadd a b)) :: st'.map (x_cv ad))
    rw [show Int32.ofInt (xadd a b) = _ from Int32.ofInt_add a b]
  · cases h
theorem ok_isub {y pc n : Nat} {cc : ByteArray} (hcc : xby y = cc) (hd : decode cc pc = .ok (.isub, 1)) (hn : pc + 1 = n) : xOkN y pc (i_bin xsub n) := by
  intro ls st M res h
  unfold i_bin at h
  split at h
  · rename_i b a st'
    cases h
    refine ⟨_, rfl, rfl, ?_⟩
    intro p l e R s m args below meth c ad cA dC dI lv A H0 cells slots Q hC hW H locs sl hP hS hSc hL hst; obtain ⟨hx, hb, hml, hown, hts, hnest, hK, hD, hA, hnd, hcl, hroom, hlocks⟩ := id hC
    refine lv_isub hx (hb.trans hcc) hd ?_
    subst hn
    have h2 := hW H locs sl hP hS hSc hL (fun v hv => by
      rcases List.mem_cons.mp hv with rfl | hv
      · trivial
      · exact hst v (List.mem_cons_of_mem _ (List.mem_cons_of_mem _ hv)))
    refine W.eq ?_ h2
    show F0 m (pc + 1) sl (_ :: _) = F0 m (pc + 1) sl (Value.int (Int32.ofInt (xsub a b)) :: st'.map (x_cv ad))
    rw [show Int32.ofInt (xsub a b) = _ from Int32.ofInt_sub a b]
  · cases h
theorem ok_imul {y pc n : Nat} {cc : ByteArray} (hcc : xby y = cc) (hd : decode cc pc = .ok (.imul, 1)) (hn : pc + 1 = n) : xOkN y pc (i_bin xmul n) := by
  intro ls st M res h
  unfold i_bin at h
  split at h
  · rename_i b a st'
    cases h
    refine ⟨_, rfl, rfl, ?_⟩
    intro p l e R s m args below meth c ad cA dC dI lv A H0 cells slots Q hC hW H locs sl hP hS hSc hL hst; obtain ⟨hx, hb, hml, hown, hts, hnest, hK, hD, hA, hnd, hcl, hroom, hlocks⟩ := id hC
    refine lv_imul hx (hb.trans hcc) hd ?_
    subst hn
    have h2 := hW H locs sl hP hS hSc hL (fun v hv => by
      rcases List.mem_cons.mp hv with rfl | hv
      · trivial
      · exact hst v (List.mem_cons_of_mem _ (List.mem_cons_of_mem _ hv)))
    refine W.eq ?_ h2
    show F0 m (pc + 1) sl (_ :: _) = F0 m (pc + 1) sl (Value.int (Int32.ofInt (xmul a b)) :: st'.map (x_cv ad))
    rw [show Int32.ofInt (xmul a b) = _ from Int32.ofInt_mul a b]
  · cases h
theorem ok_iand {y pc n : Nat} {cc : ByteArray} (hcc : xby y = cc) (hd : decode cc pc = .ok (.iand, 1)) (hn : pc + 1 = n) : xOkN y pc (i_bin xand n) := by
  intro ls st M res h
  unfold i_bin at h
  split at h
  · rename_i b a st'
    cases h
    refine ⟨_, rfl, rfl, ?_⟩
    intro p l e R s m args below meth c ad cA dC dI lv A H0 cells slots Q hC hW H locs sl hP hS hSc hL hst; obtain ⟨hx, hb, hml, hown, hts, hnest, hK, hD, hA, hnd, hcl, hroom, hlocks⟩ := id hC
    refine lv_iand hx (hb.trans hcc) hd ?_
    subst hn
    have h2 := hW H locs sl hP hS hSc hL (fun v hv => by
      rcases List.mem_cons.mp hv with rfl | hv
      · trivial
      · exact hst v (List.mem_cons_of_mem _ (List.mem_cons_of_mem _ hv)))
    refine W.eq ?_ h2
    show F0 m (pc + 1) sl (_ :: _) = F0 m (pc + 1) sl (Value.int (Int32.ofInt (xand a b)) :: st'.map (x_cv ad))
    rw [show Int32.ofInt (xand a b) = _ from Int32.ofInt_toInt _]
  · cases h
theorem ok_ior {y pc n : Nat} {cc : ByteArray} (hcc : xby y = cc) (hd : decode cc pc = .ok (.ior, 1)) (hn : pc + 1 = n) : xOkN y pc (i_bin xor_ n) := by
  intro ls st M res h
  unfold i_bin at h
  split at h
  · rename_i b a st'
    cases h
    refine ⟨_, rfl, rfl, ?_⟩
    intro p l e R s m args below meth c ad cA dC dI lv A H0 cells slots Q hC hW H locs sl hP hS hSc hL hst; obtain ⟨hx, hb, hml, hown, hts, hnest, hK, hD, hA, hnd, hcl, hroom, hlocks⟩ := id hC
    refine lv_ior hx (hb.trans hcc) hd ?_
    subst hn
    have h2 := hW H locs sl hP hS hSc hL (fun v hv => by
      rcases List.mem_cons.mp hv with rfl | hv
      · trivial
      · exact hst v (List.mem_cons_of_mem _ (List.mem_cons_of_mem _ hv)))
    refine W.eq ?_ h2
    show F0 m (pc + 1) sl (_ :: _) = F0 m (pc + 1) sl (Value.int (Int32.ofInt (xor_ a b)) :: st'.map (x_cv ad))
    rw [show Int32.ofInt (xor_ a b) = _ from Int32.ofInt_toInt _]
  · cases h
theorem ok_ixor {y pc n : Nat} {cc : ByteArray} (hcc : xby y = cc) (hd : decode cc pc = .ok (.ixor, 1)) (hn : pc + 1 = n) : xOkN y pc (i_bin xxor n) := by
  intro ls st M res h
  unfold i_bin at h
  split at h
  · rename_i b a st'
    cases h
    refine ⟨_, rfl, rfl, ?_⟩
    intro p l e R s m args below meth c ad cA dC dI lv A H0 cells slots Q hC hW H locs sl hP hS hSc hL hst; obtain ⟨hx, hb, hml, hown, hts, hnest, hK, hD, hA, hnd, hcl, hroom, hlocks⟩ := id hC
    refine lv_ixor hx (hb.trans hcc) hd ?_
    subst hn
    have h2 := hW H locs sl hP hS hSc hL (fun v hv => by
      rcases List.mem_cons.mp hv with rfl | hv
      · trivial
      · exact hst v (List.mem_cons_of_mem _ (List.mem_cons_of_mem _ hv)))
    refine W.eq ?_ h2
    show F0 m (pc + 1) sl (_ :: _) = F0 m (pc + 1) sl (Value.int (Int32.ofInt (xxor a b)) :: st'.map (x_cv ad))
    rw [show Int32.ofInt (xxor a b) = _ from Int32.ofInt_toInt _]
  · cases h
theorem ok_ishl {y pc n : Nat} {cc : ByteArray} (hcc : xby y = cc) (hd : decode cc pc = .ok (.ishl, 1)) (hn : pc + 1 = n) : xOkN y pc (i_bin xshl n) := by
  intro ls st M res h
  unfold i_bin at h
  split at h
  · rename_i b a st'
    cases h
    refine ⟨_, rfl, rfl, ?_⟩
    intro p l e R s m args below meth c ad cA dC dI lv A H0 cells slots Q hC hW H locs sl hP hS hSc hL hst; obtain ⟨hx, hb, hml, hown, hts, hnest, hK, hD, hA, hnd, hcl, hroom, hlocks⟩ := id hC
    refine lv_ishl hx (hb.trans hcc) hd ?_
    subst hn
    have h2 := hW H locs sl hP hS hSc hL (fun v hv => by
      rcases List.mem_cons.mp hv with rfl | hv
      · trivial
      · exact hst v (List.mem_cons_of_mem _ (List.mem_cons_of_mem _ hv)))
    refine W.eq ?_ h2
    show F0 m (pc + 1) sl (_ :: _) = F0 m (pc + 1) sl (Value.int (Int32.ofInt (xshl a b)) :: st'.map (x_cv ad))
    rw [show Int32.ofInt (xshl a b) = _ from Int32.ofInt_toInt _]
  · cases h
theorem ok_ishr {y pc n : Nat} {cc : ByteArray} (hcc : xby y = cc) (hd : decode cc pc = .ok (.ishr, 1)) (hn : pc + 1 = n) : xOkN y pc (i_bin xshr n) := by
  intro ls st M res h
  unfold i_bin at h
  split at h
  · rename_i b a st'
    cases h
    refine ⟨_, rfl, rfl, ?_⟩
    intro p l e R s m args below meth c ad cA dC dI lv A H0 cells slots Q hC hW H locs sl hP hS hSc hL hst; obtain ⟨hx, hb, hml, hown, hts, hnest, hK, hD, hA, hnd, hcl, hroom, hlocks⟩ := id hC
    refine lv_ishr hx (hb.trans hcc) hd ?_
    subst hn
    have h2 := hW H locs sl hP hS hSc hL (fun v hv => by
      rcases List.mem_cons.mp hv with rfl | hv
      · trivial
      · exact hst v (List.mem_cons_of_mem _ (List.mem_cons_of_mem _ hv)))
    refine W.eq ?_ h2
    show F0 m (pc + 1) sl (_ :: _) = F0 m (pc + 1) sl (Value.int (Int32.ofInt (xshr a b)) :: st'.map (x_cv ad))
    rw [show Int32.ofInt (xshr a b) = _ from Int32.ofInt_toInt _]
  · cases h
theorem ok_ladd {y pc n : Nat} {cc : ByteArray} (hcc : xby y = cc) (hd : decode cc pc = .ok (.ladd, 1)) (hn : pc + 1 = n) : xOkN y pc (i_lbin xadd n) := by
  intro ls st M res h
  unfold i_lbin at h
  split at h
  · rename_i b a st'
    cases h
    refine ⟨_, rfl, rfl, ?_⟩
    intro p l e R s m args below meth c ad cA dC dI lv A H0 cells slots Q hC hW H locs sl hP hS hSc hL hst; obtain ⟨hx, hb, hml, hown, hts, hnest, hK, hD, hA, hnd, hcl, hroom, hlocks⟩ := id hC
    refine lv_ladd hx (hb.trans hcc) hd ?_
    subst hn
    have h2 := hW H locs sl hP hS hSc hL (fun v hv => by
      rcases List.mem_cons.mp hv with rfl | hv
      · trivial
      · exact hst v (List.mem_cons_of_mem _ (List.mem_cons_of_mem _ hv)))
    refine W.eq ?_ h2
    show F0 m (pc + 1) sl (_ :: _) = F0 m (pc + 1) sl (Value.long (Int64.ofInt (xadd a b)) :: st'.map (x_cv ad))
    rw [show Int64.ofInt (xadd a b) = _ from Int64.ofInt_add a b]
  · cases h
theorem ok_lmul {y pc n : Nat} {cc : ByteArray} (hcc : xby y = cc) (hd : decode cc pc = .ok (.lmul, 1)) (hn : pc + 1 = n) : xOkN y pc (i_lbin xmul n) := by
  intro ls st M res h
  unfold i_lbin at h
  split at h
  · rename_i b a st'
    cases h
    refine ⟨_, rfl, rfl, ?_⟩
    intro p l e R s m args below meth c ad cA dC dI lv A H0 cells slots Q hC hW H locs sl hP hS hSc hL hst; obtain ⟨hx, hb, hml, hown, hts, hnest, hK, hD, hA, hnd, hcl, hroom, hlocks⟩ := id hC
    refine lv_lmul hx (hb.trans hcc) hd ?_
    subst hn
    have h2 := hW H locs sl hP hS hSc hL (fun v hv => by
      rcases List.mem_cons.mp hv with rfl | hv
      · trivial
      · exact hst v (List.mem_cons_of_mem _ (List.mem_cons_of_mem _ hv)))
    refine W.eq ?_ h2
    show F0 m (pc + 1) sl (_ :: _) = F0 m (pc + 1) sl (Value.long (Int64.ofInt (xmul a b)) :: st'.map (x_cv ad))
    rw [show Int64.ofInt (xmul a b) = _ from Int64.ofInt_mul a b]
  · cases h
theorem ok_ineg {y pc n : Nat} {cc : ByteArray} (hcc : xby y = cc) (hd : decode cc pc = .ok (.ineg, 1)) (hn : pc + 1 = n) : xOkN y pc (i_neg n) := by
  intro ls st M res h
  unfold i_neg at h
  split at h
  · rename_i a st'
    cases h
    refine ⟨_, rfl, rfl, ?_⟩
    intro p l e R s m args below meth c ad cA dC dI lv A H0 cells slots Q hC hW H locs sl hP hS hSc hL hst; obtain ⟨hx, hb, hml, hown, hts, hnest, hK, hD, hA, hnd, hcl, hroom, hlocks⟩ := id hC
    refine lv_ineg hx (hb.trans hcc) hd ?_
    subst hn
    have h2 := hW H locs sl hP hS hSc hL (fun v hv => by
      rcases List.mem_cons.mp hv with rfl | hv
      · trivial
      · exact hst v (List.mem_cons_of_mem _ hv))
    refine W.eq ?_ h2
    show F0 m (pc + 1) sl (_ :: _) = F0 m (pc + 1) sl (Value.int (Int32.ofInt (-a)) :: st'.map (x_cv ad))
    rw [show Int32.ofInt (-a) = _ from Int32.ofInt_neg a]
  · cases h
theorem ok_i2l {y pc n : Nat} {cc : ByteArray} (hcc : xby y = cc) (hd : decode cc pc = .ok (.i2l, 1)) (hn : pc + 1 = n) : xOkN y pc (i_i2l n) := by
  intro ls st M res h
  unfold i_i2l at h
  split at h
  · rename_i a st'
    cases h
    refine ⟨_, rfl, rfl, ?_⟩
    intro p l e R s m args below meth c ad cA dC dI lv A H0 cells slots Q hC hW H locs sl hP hS hSc hL hst; obtain ⟨hx, hb, hml, hown, hts, hnest, hK, hD, hA, hnd, hcl, hroom, hlocks⟩ := id hC
    refine lv_i2l hx (hb.trans hcc) hd rfl ?_
    subst hn
    have h2 := hW H locs sl hP hS hSc hL (fun v hv => by
      rcases List.mem_cons.mp hv with rfl | hv
      · trivial
      · exact hst v (List.mem_cons_of_mem _ hv))
    refine W.eq ?_ h2
    show F0 m (pc + 1) sl (_ :: _) = F0 m (pc + 1) sl (Value.long (Int64.ofInt (xn a)) :: st'.map (x_cv ad))
    rw [show Int64.ofInt (xn a) = _ from (rfl : _ = (Int32.ofInt a).toInt64)]
  · cases h
theorem ok_l2i {y pc n : Nat} {cc : ByteArray} (hcc : xby y = cc) (hd : decode cc pc = .ok (.l2i, 1)) (hn : pc + 1 = n) : xOkN y pc (i_l2i n) := by
  intro ls st M res h
  unfold i_l2i at h
  split at h
  · rename_i a st'
    cases h
    refine ⟨_, rfl, rfl, ?_⟩
    intro p l e R s m args below meth c ad cA dC dI lv A H0 cells slots Q hC hW H locs sl hP hS hSc hL hst; obtain ⟨hx, hb, hml, hown, hts, hnest, hK, hD, hA, hnd, hcl, hroom, hlocks⟩ := id hC
    refine lv_l2i hx (hb.trans hcc) hd rfl ?_
    subst hn
    have h2 := hW H locs sl hP hS hSc hL (fun v hv => by
      rcases List.mem_cons.mp hv with rfl | hv
      · trivial
      · exact hst v (List.mem_cons_of_mem _ hv))
    refine W.eq ?_ h2
    show F0 m (pc + 1) sl (_ :: _) = F0 m (pc + 1) sl (Value.int (Int32.ofInt (a)) :: st'.map (x_cv ad))
    rw [show Int32.ofInt (a) = _ from (Int64.toInt32_ofInt).symm]
  · cases h
theorem ok_i2c {y pc n : Nat} {cc : ByteArray} (hcc : xby y = cc) (hd : decode cc pc = .ok (.i2c, 1)) (hn : pc + 1 = n) : xOkN y pc (i_i2c n) := by
  intro ls st M res h
  unfold i_i2c at h
  split at h
  · rename_i a st'
    split at h
    · rename_i hr
      cases h
      refine ⟨_, rfl, rfl, ?_⟩
      intro p l e R s m args below meth c ad cA dC dI lv A H0 cells slots Q hC hW H locs sl hP hS hSc hL hst; obtain ⟨hx, hb, hml, hown, hts, hnest, hK, hD, hA, hnd, hcl, hroom, hlocks⟩ := id hC
      obtain ⟨k, rfl⟩ : ∃ k : Nat, a = k := ⟨a.toNat, by omega⟩
      have hc : ((Int32.ofInt (k : Int)).toUInt32 % 65536).toInt32 = Int32.ofInt (k : Int) := by
        rw [Int32.ofInt_eq_ofNat]
        have h1 := pk_char (nI k)
        rw [pk_tn (by omega), Nat.mod_eq_of_lt (by omega)] at h1
        exact h1
      refine lv_i2c hx (hb.trans hcc) hd hc ?_
      subst hn
      exact hW H locs sl hP hS hSc hL (fun v hv => by
        rcases List.mem_cons.mp hv with rfl | hv
        · trivial
        · exact hst v (List.mem_cons_of_mem _ hv))
    · cases h
  · cases h
theorem ok_idiv {y pc n : Nat} {cc : ByteArray} (hcc : xby y = cc) (hd : decode cc pc = .ok (.idiv, 1)) (hn : pc + 1 = n) : xOkN y pc (i_div n) := by
  intro ls st M res h
  unfold i_div at h
  split at h
  · rename_i b a st'
    split at h
    · cases h
    · rename_i hne
      cases h
      refine ⟨_, rfl, rfl, ?_⟩
      intro p l e R s m args below meth c ad cA dC dI lv A H0 cells slots Q hC hW H locs sl hP hS hSc hL hst; obtain ⟨hx, hb, hml, hown, hts, hnest, hK, hD, hA, hnd, hcl, hroom, hlocks⟩ := id hC
      have hz : ¬ Int32.ofInt b = 0 := fun q => hne (by show (Int32.ofInt b).toInt = 0; rw [q]; rfl)
      refine lv_idiv hx (hb.trans hcc) hd hz ?_
      subst hn
      have h2 := hW H locs sl hP hS hSc hL (fun v hv => by
        rcases List.mem_cons.mp hv with rfl | hv
        · trivial
        · exact hst v (List.mem_cons_of_mem _ (List.mem_cons_of_mem _ hv)))
      refine W.eq ?_ h2
      show F0 m (pc + 1) sl (_ :: _) = F0 m (pc + 1) sl (Value.int (Int32.ofInt ((xn a).tdiv (xn b))) :: st'.map (x_cv ad))
      rw [x_ofdiv]
  · cases h
theorem ok_irem {y pc n : Nat} {cc : ByteArray} (hcc : xby y = cc) (hd : decode cc pc = .ok (.irem, 1)) (hn : pc + 1 = n) : xOkN y pc (i_rem n) := by
  intro ls st M res h
  unfold i_rem at h
  split at h
  · rename_i b a st'
    split at h
    · cases h
    · rename_i hne
      cases h
      refine ⟨_, rfl, rfl, ?_⟩
      intro p l e R s m args below meth c ad cA dC dI lv A H0 cells slots Q hC hW H locs sl hP hS hSc hL hst; obtain ⟨hx, hb, hml, hown, hts, hnest, hK, hD, hA, hnd, hcl, hroom, hlocks⟩ := id hC
      have hz : ¬ Int32.ofInt b = 0 := fun q => hne (by show (Int32.ofInt b).toInt = 0; rw [q]; rfl)
      refine lv_irem hx (hb.trans hcc) hd hz ?_
      subst hn
      have h2 := hW H locs sl hP hS hSc hL (fun v hv => by
        rcases List.mem_cons.mp hv with rfl | hv
        · trivial
        · exact hst v (List.mem_cons_of_mem _ (List.mem_cons_of_mem _ hv)))
      refine W.eq ?_ h2
      show F0 m (pc + 1) sl (_ :: _) = F0 m (pc + 1) sl (Value.int (Int32.ofInt ((xn a).tmod (xn b))) :: st'.map (x_cv ad))
      rw [x_ofrem]
  · cases h
theorem ok_ldiv {y pc n : Nat} {cc : ByteArray} (hcc : xby y = cc) (hd : decode cc pc = .ok (.ldiv, 1)) (hn : pc + 1 = n) : xOkN y pc (i_ldiv n) := by
  intro ls st M res h
  unfold i_ldiv at h
  split at h
  · rename_i b a st'
    split at h
    · cases h
    · rename_i hne
      cases h
      refine ⟨_, rfl, rfl, ?_⟩
      intro p l e R s m args below meth c ad cA dC dI lv A H0 cells slots Q hC hW H locs sl hP hS hSc hL hst; obtain ⟨hx, hb, hml, hown, hts, hnest, hK, hD, hA, hnd, hcl, hroom, hlocks⟩ := id hC
      have hz : ¬ Int64.ofInt b = 0 := fun q => hne (by show (Int64.ofInt b).toInt = 0; rw [q]; rfl)
      refine lv_ldiv hx (hb.trans hcc) hd hz ?_
      subst hn
      have h2 := hW H locs sl hP hS hSc hL (fun v hv => by
        rcases List.mem_cons.mp hv with rfl | hv
        · trivial
        · exact hst v (List.mem_cons_of_mem _ (List.mem_cons_of_mem _ hv)))
      refine W.eq ?_ h2
      show F0 m (pc + 1) sl (_ :: _) = F0 m (pc + 1) sl (Value.long (Int64.ofInt ((xnl64 a).tdiv (xnl64 b))) :: st'.map (x_cv ad))
      rw [x_ofldiv]
  · cases h
theorem ok_lrem {y pc n : Nat} {cc : ByteArray} (hcc : xby y = cc) (hd : decode cc pc = .ok (.lrem, 1)) (hn : pc + 1 = n) : xOkN y pc (i_lrem n) := by
  intro ls st M res h
  unfold i_lrem at h
  split at h
  · rename_i b a st'
    split at h
    · cases h
    · rename_i hne
      cases h
      refine ⟨_, rfl, rfl, ?_⟩
      intro p l e R s m args below meth c ad cA dC dI lv A H0 cells slots Q hC hW H locs sl hP hS hSc hL hst; obtain ⟨hx, hb, hml, hown, hts, hnest, hK, hD, hA, hnd, hcl, hroom, hlocks⟩ := id hC
      have hz : ¬ Int64.ofInt b = 0 := fun q => hne (by show (Int64.ofInt b).toInt = 0; rw [q]; rfl)
      refine lv_lrem hx (hb.trans hcc) hd hz ?_
      subst hn
      have h2 := hW H locs sl hP hS hSc hL (fun v hv => by
        rcases List.mem_cons.mp hv with rfl | hv
        · trivial
        · exact hst v (List.mem_cons_of_mem _ (List.mem_cons_of_mem _ hv)))
      refine W.eq ?_ h2
      show F0 m (pc + 1) sl (_ :: _) = F0 m (pc + 1) sl (Value.long (Int64.ofInt ((xnl64 a).tmod (xnl64 b))) :: st'.map (x_cv ad))
      rw [x_oflrem]
  · cases h
theorem ok_dup {y pc n : Nat} {cc : ByteArray} (hcc : xby y = cc) (hd : decode cc pc = .ok (.dup, 1)) (hn : pc + 1 = n) : xOkN y pc (i_dup n) := by
  intro ls st M res h
  unfold i_dup at h
  split at h
  · cases h
    refine ⟨_, rfl, rfl, ?_⟩
    intro p l e R s m args below meth c ad cA dC dI lv A H0 cells slots Q hC hW H locs sl hP hS hSc hL hst; obtain ⟨hx, hb, hml, hown, hts, hnest, hK, hD, hA, hnd, hcl, hroom, hlocks⟩ := id hC
    refine lv_dup hx (hb.trans hcc) hd rfl ?_
    subst hn
    exact hW H locs sl hP hS hSc hL (fun v hv => by
      rcases List.mem_cons.mp hv with rfl | hv
      · trivial
      · exact hst v hv)
  · cases h
    refine ⟨_, rfl, rfl, ?_⟩
    intro p l e R s m args below meth c ad cA dC dI lv A H0 cells slots Q hC hW H locs sl hP hS hSc hL hst; obtain ⟨hx, hb, hml, hown, hts, hnest, hK, hD, hA, hnd, hcl, hroom, hlocks⟩ := id hC
    refine lv_dup hx (hb.trans hcc) hd rfl ?_
    subst hn
    exact hW H locs sl hP hS hSc hL (fun v hv => by
      rcases List.mem_cons.mp hv with rfl | hv
      · exact hst _ List.mem_cons_self
      · exact hst v hv)
  · cases h
theorem ok_dup2 {y pc n : Nat} {cc : ByteArray} (hcc : xby y = cc) (hd : decode cc pc = .ok (.dup2, 1)) (hn : pc + 1 = n) : xOkN y pc (i_dup2 n) := by
  intro ls st M res h
  unfold i_dup2 at h
  split at h
  · cases h
    refine ⟨_, rfl, rfl, ?_⟩
    intro p l e R s m args below meth c ad cA dC dI lv A H0 cells slots Q hC hW H locs sl hP hS hSc hL hst; obtain ⟨hx, hb, hml, hown, hts, hnest, hK, hD, hA, hnd, hcl, hroom, hlocks⟩ := id hC
    refine lv_dup2_11 hx (hb.trans hcc) hd rfl rfl ?_
    subst hn
    exact hW H locs sl hP hS hSc hL (fun v hv => by
      rcases List.mem_cons.mp hv with rfl | hv
      · trivial
      · rcases List.mem_cons.mp hv with rfl | hv
        · exact hst _ (List.mem_cons_of_mem _ List.mem_cons_self)
        · exact hst v hv)
  · cases h
theorem ok_pop {y pc n : Nat} {cc : ByteArray} (hcc : xby y = cc) (hd : decode cc pc = .ok (.pop, 1)) (hn : pc + 1 = n) : xOkN y pc (i_pop n) := by
  intro ls st M res h
  unfold i_pop at h
  split at h
  · cases h
    refine ⟨_, rfl, rfl, ?_⟩
    intro p l e R s m args below meth c ad cA dC dI lv A H0 cells slots Q hC hW H locs sl hP hS hSc hL hst; obtain ⟨hx, hb, hml, hown, hts, hnest, hK, hD, hA, hnd, hcl, hroom, hlocks⟩ := id hC
    refine lv_pop hx (hb.trans hcc) hd rfl ?_
    subst hn
    exact hW H locs sl hP hS hSc hL (fun v hv => hst v (List.mem_cons_of_mem _ hv))
  · cases h
theorem ok_goto {y pc t : Nat} {off : Int} {cc : ByteArray} (hcc : xby y = cc) (hd : decode cc pc = .ok (.goto off, 3)) (ht : (pc : Int) + off = (t : Int)) : xOkN y pc (i_goto t) := by
  intro ls st M res h
  cases h
  refine ⟨_, rfl, rfl, ?_⟩
  intro p l e R s m args below meth c ad cA dC dI lv A H0 cells slots Q hC hW H locs sl hP hS hSc hL hst; obtain ⟨hx, hb, hml, hown, hts, hnest, hK, hD, hA, hnd, hcl, hroom, hlocks⟩ := id hC
  refine lv_goto hx (hb.trans hcc) hd ht ?_
  exact hW H locs sl hP hS hSc hL hst
theorem fa_lt0 (x : Int32) : x < 0 ↔ x.toInt < 0 := by rw [Int32.lt_iff_toInt_lt, Int32.toInt_zero]
theorem fa_lt0' (x : Int32) : 0 < x ↔ 0 < x.toInt := by rw [Int32.lt_iff_toInt_lt, Int32.toInt_zero]
theorem fa_le0 (x : Int32) : x ≤ 0 ↔ x.toInt ≤ 0 := by rw [Int32.le_iff_toInt_le, Int32.toInt_zero]
theorem fa_le0' (x : Int32) : 0 ≤ x ↔ 0 ≤ x.toInt := by rw [Int32.le_iff_toInt_le, Int32.toInt_zero]
theorem fa_eq0 (x : Int32) : x = 0 ↔ x.toInt = 0 := by rw [← Int32.toInt_inj, Int32.toInt_zero]
theorem ok_if_eq {y pc t n : Nat} {off : Int} {cc : ByteArray} (hcc : xby y = cc) (hd : decode cc pc = .ok (.ifCond .eq off, 3)) (ht : (pc : Int) + off = (t : Int)) (hn : pc + 3 = n) : xOkN y pc (i_if c_eq t n) := by
  intro ls st M res h
  unfold i_if at h
  split at h
  · rename_i a st'
    cases h
    refine ⟨_, rfl, rfl, ?_⟩
    intro p l e R s m args below meth c ad cA dC dI lv A H0 cells slots Q hC hW H locs sl hP hS hSc hL hst; obtain ⟨hx, hb, hml, hown, hts, hnest, hK, hD, hA, hnd, hcl, hroom, hlocks⟩ := id hC
    have hc : (c_eq (xn a) = true) ↔ Int32.ofInt a = 0 := by
      rw [c_eq, decide_eq_true_eq]
      simp only [fa_lt0, fa_le0, fa_eq0, fa_lt0', fa_le0', xn]
    subst hn
    refine lv_if_eq hx (hb.trans hcc) hd ht (fun q => ?_) (fun q => ?_)
    · have h2 := hW H locs sl hP hS hSc hL (fun v hv => hst v (List.mem_cons_of_mem _ hv))
      simp only [hc.mpr q, if_true] at h2
      exact h2
    · have h2 := hW H locs sl hP hS hSc hL (fun v hv => hst v (List.mem_cons_of_mem _ hv))
      rw [if_neg (fun z => absurd (hc.mp z) q)] at h2
      exact h2
  · cases h
theorem ok_if_ne {y pc t n : Nat} {off : Int} {cc : ByteArray} (hcc : xby y = cc) (hd : decode cc pc = .ok (.ifCond .ne off, 3)) (ht : (pc : Int) + off = (t : Int)) (hn : pc + 3 = n) : xOkN y pc (i_if c_ne t n) := by
  intro ls st M res h
  unfold i_if at h
  split at h
  · rename_i a st'
    cases h
    refine ⟨_, rfl, rfl, ?_⟩
    intro p l e R s m args below meth c ad cA dC dI lv A H0 cells slots Q hC hW H locs sl hP hS hSc hL hst; obtain ⟨hx, hb, hml, hown, hts, hnest, hK, hD, hA, hnd, hcl, hroom, hlocks⟩ := id hC
    have hc : (c_ne (xn a) = true) ↔ ¬ Int32.ofInt a = 0 := by
      rw [c_ne, decide_eq_true_eq]
      simp only [fa_lt0, fa_le0, fa_eq0, fa_lt0', fa_le0', xn]
    subst hn
    refine lv_if_ne hx (hb.trans hcc) hd ht (fun q => ?_) (fun q => ?_)
    · have h2 := hW H locs sl hP hS hSc hL (fun v hv => hst v (List.mem_cons_of_mem _ hv))
      simp only [hc.mpr q, if_true] at h2
      exact h2
    · have h2 := hW H locs sl hP hS hSc hL (fun v hv => hst v (List.mem_cons_of_mem _ hv))
      rw [if_neg (fun z => absurd (hc.mp z) (fun k => k q))] at h2
      exact h2
  · cases h
theorem ok_if_lt {y pc t n : Nat} {off : Int} {cc : ByteArray} (hcc : xby y = cc) (hd : decode cc pc = .ok (.ifCond .lt off, 3)) (ht : (pc : Int) + off = (t : Int)) (hn : pc + 3 = n) : xOkN y pc (i_if c_lt t n) := by
  intro ls st M res h
  unfold i_if at h
  split at h
  · rename_i a st'
    cases h
    refine ⟨_, rfl, rfl, ?_⟩
    intro p l e R s m args below meth c ad cA dC dI lv A H0 cells slots Q hC hW H locs sl hP hS hSc hL hst; obtain ⟨hx, hb, hml, hown, hts, hnest, hK, hD, hA, hnd, hcl, hroom, hlocks⟩ := id hC
    have hc : (c_lt (xn a) = true) ↔ Int32.ofInt a < 0 := by
      rw [c_lt, decide_eq_true_eq]
      simp only [fa_lt0, fa_le0, fa_eq0, fa_lt0', fa_le0', xn]
    subst hn
    refine lv_if_lt hx (hb.trans hcc) hd ht (fun q => ?_) (fun q => ?_)
    · have h2 := hW H locs sl hP hS hSc hL (fun v hv => hst v (List.mem_cons_of_mem _ hv))
      simp only [hc.mpr q, if_true] at h2
      exact h2
    · have h2 := hW H locs sl hP hS hSc hL (fun v hv => hst v (List.mem_cons_of_mem _ hv))
      rw [if_neg (fun z => absurd (hc.mp z) q)] at h2
      exact h2
  · cases h
theorem ok_if_ge {y pc t n : Nat} {off : Int} {cc : ByteArray} (hcc : xby y = cc) (hd : decode cc pc = .ok (.ifCond .ge off, 3)) (ht : (pc : Int) + off = (t : Int)) (hn : pc + 3 = n) : xOkN y pc (i_if c_ge t n) := by
  intro ls st M res h
  unfold i_if at h
  split at h
  · rename_i a st'
    cases h
    refine ⟨_, rfl, rfl, ?_⟩
    intro p l e R s m args below meth c ad cA dC dI lv A H0 cells slots Q hC hW H locs sl hP hS hSc hL hst; obtain ⟨hx, hb, hml, hown, hts, hnest, hK, hD, hA, hnd, hcl, hroom, hlocks⟩ := id hC
    have hc : (c_ge (xn a) = true) ↔ 0 ≤ Int32.ofInt a := by
      rw [c_ge, decide_eq_true_eq]
      simp only [fa_lt0, fa_le0, fa_eq0, fa_lt0', fa_le0', xn]
    subst hn
    refine lv_if_ge hx (hb.trans hcc) hd ht (fun q => ?_) (fun q => ?_)
    · have h2 := hW H locs sl hP hS hSc hL (fun v hv => hst v (List.mem_cons_of_mem _ hv))
      simp only [hc.mpr q, if_true] at h2
      exact h2
    · have h2 := hW H locs sl hP hS hSc hL (fun v hv => hst v (List.mem_cons_of_mem _ hv))
      rw [if_neg (fun z => absurd (hc.mp z) q)] at h2
      exact h2
  · cases h
theorem ok_if_gt {y pc t n : Nat} {off : Int} {cc : ByteArray} (hcc : xby y = cc) (hd : decode cc pc = .ok (.ifCond .gt off, 3)) (ht : (pc : Int) + off = (t : Int)) (hn : pc + 3 = n) : xOkN y pc (i_if c_gt t n) := by
  intro ls st M res h
  unfold i_if at h
  split at h
  · rename_i a st'
    cases h
    refine ⟨_, rfl, rfl, ?_⟩
    intro p l e R s m args below meth c ad cA dC dI lv A H0 cells slots Q hC hW H locs sl hP hS hSc hL hst; obtain ⟨hx, hb, hml, hown, hts, hnest, hK, hD, hA, hnd, hcl, hroom, hlocks⟩ := id hC
    have hc : (c_gt (xn a) = true) ↔ 0 < Int32.ofInt a := by
      rw [c_gt, decide_eq_true_eq]
      simp only [fa_lt0, fa_le0, fa_eq0, fa_lt0', fa_le0', xn]
    subst hn
    refine lv_if_gt hx (hb.trans hcc) hd ht (fun q => ?_) (fun q => ?_)
    · have h2 := hW H locs sl hP hS hSc hL (fun v hv => hst v (List.mem_cons_of_mem _ hv))
      simp only [hc.mpr q, if_true] at h2
      exact h2
    · have h2 := hW H locs sl hP hS hSc hL (fun v hv => hst v (List.mem_cons_of_mem _ hv))
      rw [if_neg (fun z => absurd (hc.mp z) q)] at h2
      exact h2
  · cases h
theorem ok_if_le {y pc t n : Nat} {off : Int} {cc : ByteArray} (hcc : xby y = cc) (hd : decode cc pc = .ok (.ifCond .le off, 3)) (ht : (pc : Int) + off = (t : Int)) (hn : pc + 3 = n) : xOkN y pc (i_if c_le t n) := by
  intro ls st M res h
  unfold i_if at h
  split at h
  · rename_i a st'
    cases h
    refine ⟨_, rfl, rfl, ?_⟩
    intro p l e R s m args below meth c ad cA dC dI lv A H0 cells slots Q hC hW H locs sl hP hS hSc hL hst; obtain ⟨hx, hb, hml, hown, hts, hnest, hK, hD, hA, hnd, hcl, hroom, hlocks⟩ := id hC
    have hc : (c_le (xn a) = true) ↔ Int32.ofInt a ≤ 0 := by
      rw [c_le, decide_eq_true_eq]
      simp only [fa_lt0, fa_le0, fa_eq0, fa_lt0', fa_le0', xn]
    subst hn
    refine lv_if_le hx (hb.trans hcc) hd ht (fun q => ?_) (fun q => ?_)
    · have h2 := hW H locs sl hP hS hSc hL (fun v hv => hst v (List.mem_cons_of_mem _ hv))
      simp only [hc.mpr q, if_true] at h2
      exact h2
    · have h2 := hW H locs sl hP hS hSc hL (fun v hv => hst v (List.mem_cons_of_mem _ hv))
      rw [if_neg (fun z => absurd (hc.mp z) q)] at h2
      exact h2
  · cases h
theorem ok_cmp_eq {y pc t n : Nat} {off : Int} {cc : ByteArray} (hcc : xby y = cc) (hd : decode cc pc = .ok (.if_icmp .eq off, 3)) (ht : (pc : Int) + off = (t : Int)) (hn : pc + 3 = n) : xOkN y pc (i_cmp d_eq t n) := by
  intro ls st M res h
  unfold i_cmp at h
  split at h
  · rename_i b a st'
    cases h
    refine ⟨_, rfl, rfl, ?_⟩
    intro p l e R s m args below meth c ad cA dC dI lv A H0 cells slots Q hC hW H locs sl hP hS hSc hL hst; obtain ⟨hx, hb, hml, hown, hts, hnest, hK, hD, hA, hnd, hcl, hroom, hlocks⟩ := id hC
    have hc : (d_eq (xn a) (xn b) = true) ↔ Int32.ofInt a = Int32.ofInt b := by
      rw [d_eq, decide_eq_true_eq]
      simp only [xn, Int32.lt_iff_toInt_lt, Int32.le_iff_toInt_le, ← Int32.toInt_inj]
    subst hn
    refine lv_icmp_eq hx (hb.trans hcc) hd ht (fun q => ?_) (fun q => ?_)
    · have h2 := hW H locs sl hP hS hSc hL (fun v hv => hst v (List.mem_cons_of_mem _ (List.mem_cons_of_mem _ hv)))
      simp only [hc.mpr q, if_true] at h2
      exact h2
    · have h2 := hW H locs sl hP hS hSc hL (fun v hv => hst v (List.mem_cons_of_mem _ (List.mem_cons_of_mem _ hv)))
      rw [if_neg (fun z => absurd (hc.mp z) q)] at h2
      exact h2
  · cases h
theorem ok_cmp_ne {y pc t n : Nat} {off : Int} {cc : ByteArray} (hcc : xby y = cc) (hd : decode cc pc = .ok (.if_icmp .ne off, 3)) (ht : (pc : Int) + off = (t : Int)) (hn : pc + 3 = n) : xOkN y pc (i_cmp d_ne t n) := by
  intro ls st M res h
  unfold i_cmp at h
  split at h
  · rename_i b a st'
    cases h
    refine ⟨_, rfl, rfl, ?_⟩
    intro p l e R s m args below meth c ad cA dC dI lv A H0 cells slots Q hC hW H locs sl hP hS hSc hL hst; obtain ⟨hx, hb, hml, hown, hts, hnest, hK, hD, hA, hnd, hcl, hroom, hlocks⟩ := id hC
    have hc : (d_ne (xn a) (xn b) = true) ↔ ¬ Int32.ofInt a = Int32.ofInt b := by
      rw [d_ne, decide_eq_true_eq]
      simp only [xn, Int32.lt_iff_toInt_lt, Int32.le_iff_toInt_le, ← Int32.toInt_inj]
    subst hn
    refine lv_icmp_ne hx (hb.trans hcc) hd ht (fun q => ?_) (fun q => ?_)
    · have h2 := hW H locs sl hP hS hSc hL (fun v hv => hst v (List.mem_cons_of_mem _ (List.mem_cons_of_mem _ hv)))
      simp only [hc.mpr q, if_true] at h2
      exact h2
    · have h2 := hW H locs sl hP hS hSc hL (fun v hv => hst v (List.mem_cons_of_mem _ (List.mem_cons_of_mem _ hv)))
      rw [if_neg (fun z => absurd (hc.mp z) (fun k => k q))] at h2
      exact h2
  · cases h
theorem ok_cmp_lt {y pc t n : Nat} {off : Int} {cc : ByteArray} (hcc : xby y = cc) (hd : decode cc pc = .ok (.if_icmp .lt off, 3)) (ht : (pc : Int) + off = (t : Int)) (hn : pc + 3 = n) : xOkN y pc (i_cmp d_lt t n) := by
  intro ls st M res h
  unfold i_cmp at h
  split at h
  · rename_i b a st'
    cases h
    refine ⟨_, rfl, rfl, ?_⟩
    intro p l e R s m args below meth c ad cA dC dI lv A H0 cells slots Q hC hW H locs sl hP hS hSc hL hst; obtain ⟨hx, hb, hml, hown, hts, hnest, hK, hD, hA, hnd, hcl, hroom, hlocks⟩ := id hC
    have hc : (d_lt (xn a) (xn b) = true) ↔ Int32.ofInt a < Int32.ofInt b := by
      rw [d_lt, decide_eq_true_eq]
      simp only [xn, Int32.lt_iff_toInt_lt, Int32.le_iff_toInt_le, ← Int32.toInt_inj]
    subst hn
    refine lv_icmp_lt hx (hb.trans hcc) hd ht (fun q => ?_) (fun q => ?_)
    · have h2 := hW H locs sl hP hS hSc hL (fun v hv => hst v (List.mem_cons_of_mem _ (List.mem_cons_of_mem _ hv)))
      simp only [hc.mpr q, if_true] at h2
      exact h2
    · have h2 := hW H locs sl hP hS hSc hL (fun v hv => hst v (List.mem_cons_of_mem _ (List.mem_cons_of_mem _ hv)))
      rw [if_neg (fun z => absurd (hc.mp z) q)] at h2
      exact h2
  · cases h
theorem ok_cmp_ge {y pc t n : Nat} {off : Int} {cc : ByteArray} (hcc : xby y = cc) (hd : decode cc pc = .ok (.if_icmp .ge off, 3)) (ht : (pc : Int) + off = (t : Int)) (hn : pc + 3 = n) : xOkN y pc (i_cmp d_ge t n) := by
  intro ls st M res h
  unfold i_cmp at h
  split at h
  · rename_i b a st'
    cases h
    refine ⟨_, rfl, rfl, ?_⟩
    intro p l e R s m args below meth c ad cA dC dI lv A H0 cells slots Q hC hW H locs sl hP hS hSc hL hst; obtain ⟨hx, hb, hml, hown, hts, hnest, hK, hD, hA, hnd, hcl, hroom, hlocks⟩ := id hC
    have hc : (d_ge (xn a) (xn b) = true) ↔ Int32.ofInt b ≤ Int32.ofInt a := by
      rw [d_ge, decide_eq_true_eq]
      simp only [xn, Int32.lt_iff_toInt_lt, Int32.le_iff_toInt_le, ← Int32.toInt_inj]
    subst hn
    refine lv_icmp_ge hx (hb.trans hcc) hd ht (fun q => ?_) (fun q => ?_)
    · have h2 := hW H locs sl hP hS hSc hL (fun v hv => hst v (List.mem_cons_of_mem _ (List.mem_cons_of_mem _ hv)))
      simp only [hc.mpr q, if_true] at h2
      exact h2
    · have h2 := hW H locs sl hP hS hSc hL (fun v hv => hst v (List.mem_cons_of_mem _ (List.mem_cons_of_mem _ hv)))
      rw [if_neg (fun z => absurd (hc.mp z) q)] at h2
      exact h2
  · cases h
theorem ok_cmp_gt {y pc t n : Nat} {off : Int} {cc : ByteArray} (hcc : xby y = cc) (hd : decode cc pc = .ok (.if_icmp .gt off, 3)) (ht : (pc : Int) + off = (t : Int)) (hn : pc + 3 = n) : xOkN y pc (i_cmp d_gt t n) := by
  intro ls st M res h
  unfold i_cmp at h
  split at h
  · rename_i b a st'
    cases h
    refine ⟨_, rfl, rfl, ?_⟩
    intro p l e R s m args below meth c ad cA dC dI lv A H0 cells slots Q hC hW H locs sl hP hS hSc hL hst; obtain ⟨hx, hb, hml, hown, hts, hnest, hK, hD, hA, hnd, hcl, hroom, hlocks⟩ := id hC
    have hc : (d_gt (xn a) (xn b) = true) ↔ Int32.ofInt b < Int32.ofInt a := by
      rw [d_gt, decide_eq_true_eq]
      simp only [xn, Int32.lt_iff_toInt_lt, Int32.le_iff_toInt_le, ← Int32.toInt_inj]
    subst hn
    refine lv_icmp_gt hx (hb.trans hcc) hd ht (fun q => ?_) (fun q => ?_)
    · have h2 := hW H locs sl hP hS hSc hL (fun v hv => hst v (List.mem_cons_of_mem _ (List.mem_cons_of_mem _ hv)))
      simp only [hc.mpr q, if_true] at h2
      exact h2
    · have h2 := hW H locs sl hP hS hSc hL (fun v hv => hst v (List.mem_cons_of_mem _ (List.mem_cons_of_mem _ hv)))
      rw [if_neg (fun z => absurd (hc.mp z) q)] at h2
      exact h2
  · cases h
theorem ok_cmp_le {y pc t n : Nat} {off : Int} {cc : ByteArray} (hcc : xby y = cc) (hd : decode cc pc = .ok (.if_icmp .le off, 3)) (ht : (pc : Int) + off = (t : Int)) (hn : pc + 3 = n) : xOkN y pc (i_cmp d_le t n) := by
  intro ls st M res h
  unfold i_cmp at h
  split at h
  · rename_i b a st'
    cases h
    refine ⟨_, rfl, rfl, ?_⟩
    intro p l e R s m args below meth c ad cA dC dI lv A H0 cells slots Q hC hW H locs sl hP hS hSc hL hst; obtain ⟨hx, hb, hml, hown, hts, hnest, hK, hD, hA, hnd, hcl, hroom, hlocks⟩ := id hC
    have hc : (d_le (xn a) (xn b) = true) ↔ Int32.ofInt a ≤ Int32.ofInt b := by
      rw [d_le, decide_eq_true_eq]
      simp only [xn, Int32.lt_iff_toInt_lt, Int32.le_iff_toInt_le, ← Int32.toInt_inj]
    subst hn
    refine lv_icmp_le hx (hb.trans hcc) hd ht (fun q => ?_) (fun q => ?_)
    · have h2 := hW H locs sl hP hS hSc hL (fun v hv => hst v (List.mem_cons_of_mem _ (List.mem_cons_of_mem _ hv)))
      simp only [hc.mpr q, if_true] at h2
      exact h2
    · have h2 := hW H locs sl hP hS hSc hL (fun v hv => hst v (List.mem_cons_of_mem _ (List.mem_cons_of_mem _ hv)))
      rw [if_neg (fun z => absurd (hc.mp z) q)] at h2
      exact h2
  · cases h
