/-! a call on both: answers that change nothing that is told -/
section STEPS
variable {w M : xM}
/-- the same call on class and reference: one answer, and all holds on -/
def St (z y : Nat) (as : List xV) (M : xM) : Prop := Wc z (xr 0 :: as) M (fun r M1 => ∃ a : Int, r = some (xi a) ∧ Wc y (xr 42 :: as) M1 (fun r' M2 => r' = some (xi a) ∧ RR M2))
theorem rG_c {M1 : xM} (h : cG M M1) : rG M M1 := fun c hc => h c (by omega)
theorem hDC {M1 : xM} (h : RRw w M) (hf : rG M M1) : hD M1 = hC M := by
  funext s p
  show xbt (M1 47 5) p = xbt (M 8 1) p
  rw [hf 47 (by omega), h.2.2.1.2.1]
theorem st_where {p s k : Int} (hp : xG p) (hs : xG s) (hk : xG k) (hR : RR M) : St 56 113 [xi p, xi s, xi k] M := by
  obtain ⟨w, h⟩ := hR
  refine q8_where hp hs hk h.1.1 h.2.1 (fun M1 hf => ⟨_, rfl, ?_⟩)
  have h1 := RR_c h (rG_c hf)
  refine q9_where hp hs hk h.1.1 h1.2.2 (fun M2 hg => ⟨?_, RR_r h1.1 hg⟩)
  rw [hDC h.1 (rG_c hf)]
theorem st_first {p t : Int} (hp : xG p) (ht : xG t) (hR : RR M) : St 57 116 [xi p, xi t] M := by
  obtain ⟨w, h⟩ := hR
  refine q8_first hp ht h.1.1 h.2.1 (fun M1 hf => ⟨_, rfl, ?_⟩)
  have h1 := RR_c h (rG_c hf)
  refine q9_first hp ht h.1.1 h1.2.2 (fun M2 hg => ⟨?_, RR_r h1.1 hg⟩)
  rw [hDC h.1 (rG_c hf)]
theorem st_trip {a b k : Int} (ha : xG a) (hb : xG b) (hk : xG k) (hR : RR M) : St 59 118 [xi a, xi b, xi k] M := by
  obtain ⟨w, h⟩ := hR
  refine q8_trip ha hb hk h.1.1 h.2.1 (fun M1 hf => ⟨_, rfl, ?_⟩)
  have h1 := RR_c h (hf)
  refine q9_trip ha hb hk h.1.1 h1.2.2 (fun M2 hg => ⟨?_, RR_r h1.1 hg⟩)
  rw [hDC h.1 (hf)]
theorem st_best {p t k : Int} (hp : xG p) (ht : xG t) (hk : xG k) (hR : RR M) : St 60 119 [xi p, xi t, xi k] M := by
  obtain ⟨w, h⟩ := hR
  refine q8_best hp ht hk h.1.1 h.2.1 (fun M1 hf => ⟨_, rfl, ?_⟩)
  have h1 := RR_c h (rG_c hf)
  refine q9_best hp ht hk h.1.1 h1.2.2 (fun M2 hg => ⟨?_, RR_r h1.1 hg⟩)
  rw [hDC h.1 (rG_c hf)]
theorem st_places {k : Int} (hk : xG k) (hR : RR M) : St 61 120 [xi k] M := by
  obtain ⟨w, h⟩ := hR
  refine q8_places hk h.1.1 h.2.1 (fun M1 hf => ⟨_, rfl, ?_⟩)
  have h1 := RR_c h (rG_c hf)
  refine q9_places hk h.1.1 h1.2.2 (fun M2 hg => ⟨?_, RR_r h1.1 hg⟩)
  rw [hDC h.1 (rG_c hf)]
theorem st_from {p t s k : Int} (hp : xG p) (ht : xG t) (hs : xG s) (hk : xG k) (hR : RR M) : St 65 125 [xi p, xi t, xi s, xi k] M := by
  obtain ⟨w, h⟩ := hR
  refine q8_from hp ht hs hk h.1.1 h.2.1 (fun M1 hf => ⟨_, rfl, ?_⟩)
  have h1 := RR_c h (rG_c hf)
  refine q9_from hp ht hs hk h.1.1 h1.2.2 (fun M2 hg => ⟨?_, RR_r h1.1 hg⟩)
  rw [hDC h.1 (rG_c hf)]
theorem st_clocks {p q k : Int} (hp : xG p) (hq : xG q) (hk : xG k) (hR : RR M) : St 66 126 [xi p, xi q, xi k] M := by
  obtain ⟨w, h⟩ := hR
  refine q8_clocks hp hq hk h.1.1 h.2.1 (fun M1 hf => ⟨_, rfl, ?_⟩)
  have h1 := RR_c h (rG_c hf)
  refine q9_clocks hp hq hk h.1.1 h1.2.2 (fun M2 hg => ⟨?_, RR_r h1.1 hg⟩)
  rw [hDC h.1 (rG_c hf)]
theorem st_floods {p t n x k : Int} (hp : xG p) (ht : xG t) (hn : xG n) (hx : xG x) (hk : xG k) (hR : RR M) : St 67 127 [xi p, xi t, xi n, xi x, xi k] M := by
  obtain ⟨w, h⟩ := hR
  refine q8_floods hp ht hn hx hk h.1.1 h.2.1 (fun M1 hf => ⟨_, rfl, ?_⟩)
  have h1 := RR_c h (rG_c hf)
  refine q9_floods hp ht hn hx hk h.1.1 h1.2.2 (fun M2 hg => ⟨?_, RR_r h1.1 hg⟩)
  rw [hDC h.1 (rG_c hf)]
theorem st_hang (hR : RR M) : St 58 117 [] M := by
  obtain ⟨w, h⟩ := hR
  refine q8_hang h.1.1 h.2.1 (fun M1 hf => ⟨_, rfl, ?_⟩)
  have h1 := RR_c h (rG_c hf)
  refine q9_hang h.1.1 h1.2.2 (fun M2 hg => ⟨?_, RR_r h1.1 hg⟩)
  rw [hDC h.1 (rG_c hf)]
theorem aFits_x {M1 : xM} {h : Int → Int → Int} {p : Int} (hf : rG M M1) : aFits w h M1 p = aFits w h M p := by
  have ok : ∀ w', okC w' h M1 = okC w' h M := fun w' => by
    funext i
    unfold okC
    rw [hf 27 (by omega), hf 28 (by omega), hf 29 (by omega)]
  unfold aFits
  simp only [ok]
  rw [hf 26 (by omega)]
theorem st_fits {p : Int} (hp : xG p) (hR : RR M) : St 64 123 [xi p] M := by
  obtain ⟨w, h⟩ := hR
  refine q8_fits hp h.1.1 h.2.1 h.1.2.2.2.2.2.2.1.1 (fun M1 hf => ⟨_, rfl, ?_⟩)
  have h1 := RR_c h (rG_c hf)
  refine q9_fits hp h.1.1 h1.2.2 h1.1.2.2.2.2.2.2.1 (fun M2 hg => ⟨?_, RR_r h1.1 hg⟩)
  rw [hDC h.1 (rG_c hf), aFits_x (rG_c hf)]
theorem st_day {z k : Int} (hz : xG z) (hk : xG k) (hR : RR M) : St 68 128 [xi z, xi k] M := by
  obtain ⟨w, h⟩ := hR
  refine q8_day hz hk h.1.1 h.2.1 (fun M1 v hv hf => ⟨_, rfl, ?_⟩) (fun hno => ⟨_, rfl, ?_⟩)
  · have h1 := RR_c h (rG_c hf)
    refine q9_day hz hk h.1.1 h1.2.2 (fun M2 hg => ⟨?_, RR_r h1.1 hg⟩)
    rw [hDC h.1 (rG_c hf), bDay_is h.1.1 hv]
  · refine q9_day hz hk h.1.1 h.2.2 (fun M2 hg => ⟨?_, RR_r h.1 hg⟩)
    unfold bDay
    rw [if_neg hno]
theorem st_platform {p k : Int} (hp : xG p) (hk : xG k) (hR : RR M) : St 49 98 [xi p, xi k] M := by
  obtain ⟨w, h⟩ := hR
  refine q8_platform hp hk h.1.1 h.2.1 ⟨_, rfl, ?_⟩
  refine q9_platform hp hk h.1.1 h.2.2.1 h.2.2.2.1 ⟨?_, w, h⟩
  rw [h.1.2.2.1.2.1]
theorem st_train {t : Int} (ht : xG t) (hR : RR M) : St 50 99 [xi t] M := by
  obtain ⟨w, h⟩ := hR
  exact q8_train ht h.1.1 h.2.1 ⟨_, rfl, q9_train ht h.1.1 h.2.2.1 ⟨rfl, w, h⟩⟩
theorem st_cell {x k : Int} (hx : xG x) (hk : xG k) (hR : RR M) : St 51 100 [xi x, xi k] M := by
  obtain ⟨w, h⟩ := hR
  exact q8_cell hx hk h.1.1 h.2.1 ⟨_, rfl, q9_cell hx hk h.1.1 h.2.2.1 h.2.2.2.1 ⟨rfl, w, h⟩⟩
theorem st_count {k : Int} (hk : xG k) (hR : RR M) : St 71 131 [xi k] M := by
  obtain ⟨w, h⟩ := hR
  refine q8_count hk ⟨_, rfl, q9_count hk ⟨?_, w, h⟩⟩
  obtain ⟨⟨hw, hT, hS, hL, hC, hK, hQ, h20, h22⟩, hB, hR⟩ := h
  have e : aCount M k = bCount M k := by
    unfold aCount bCount
    rw [hR.1.1, hR.1.2.1, hR.1.2.2.1, hT.1.1, hT.1.2.1, hT.1.2.2.1, hS.2.1, hS.2.2.1, xbc_on hS.2.2.2.2.1.2, xbc_on hS.2.2.2.2.2.2, hQ.2.1, hC.2.1, hK.2.1, hL.2.1]
  rw [e]
end STEPS
