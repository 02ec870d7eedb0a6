theorem wc0 {M : xM} {Q : Option xV → xM → Prop} {d0 : Nat} {a1 : Int} {a2 : Int} {a3 : Int} : Wc 0 [xr d0, xi a1, xi a2, xi a3] M Q = Wp 0 0 [xr d0, xi a1, xi a2, xi a3] [] M Q := rfl
theorem w0_0 {ls st : List xV} {M : xM} {Q : Option xV → xM → Prop} {d : Nat} : Wp 0 0 (xr d :: ls) (st) (M) Q = Wp 0 1 (xr d :: ls) (xr d :: st) (M) Q := wp_aload rfl rfl
theorem w0_1 {ls st : List xV} {M : xM} {Q : Option xV → xM → Prop} {d : Nat} (hc : x_c d = 0) : Wp 0 1 (ls) (xr d :: st) (M) Q = Wp 0 4 (ls) (xi (M d 3) :: st) (M) Q := wp_getf rfl hc
theorem w0_4 {ls st : List xV} {M : xM} {Q : Option xV → xM → Prop}  : Wp 0 4 (ls) (st) (M) Q = Wp 0 6 (ls) (xi 8 :: st) (M) Q := wp_const rfl
theorem w0_6 {ls st : List xV} {M : xM} {Q : Option xV → xM → Prop} {a : Int} {b : Int} (ha : xG a) (hb : xG b) : Wp 0 6 (ls) (xi b :: xi a :: st) (M) Q = ((a < b → Wp 0 13 (ls) (st) (M) Q) ∧ (¬ (a < b) → Wp 0 9 (ls) (st) (M) Q)) := wp_cmp_lt rfl ha hb
theorem w0_9 {ls st : List xV} {M : xM} {Q : Option xV → xM → Prop} {d : Nat} : Wp 0 9 (xr d :: ls) (st) (M) Q = Wp 0 10 (xr d :: ls) (xr d :: st) (M) Q := wp_aload rfl rfl
theorem w0_10 {ls : List xV} {M : xM} {Q : Option xV → xM → Prop} {d0 : Nat} (hc : x_c d0 = 0) : Wp 0 10 (ls) (xr d0 :: []) (M) Q = Wc 1 [xr d0] M (fun r M2 => Wp 0 13 (ls) (r.toList ++ ([])) M2 Q) := wp_cV rfl rfl hc (Nat.le_of_ble_eq_true rfl) (Nat.le_of_ble_eq_true rfl) rfl rfl
theorem w0_13 {ls st : List xV} {M : xM} {Q : Option xV → xM → Prop} {d : Nat} : Wp 0 13 (xr d :: ls) (st) (M) Q = Wp 0 14 (xr d :: ls) (xr d :: st) (M) Q := wp_aload rfl rfl
theorem w0_14 {ls st : List xV} {M : xM} {Q : Option xV → xM → Prop} {d : Nat} (hc : x_c d = 0) : Wp 0 14 (ls) (xr d :: st) (M) Q = Wp 0 17 (ls) (xr (x_r d 0) :: st) (M) Q := wp_getr rfl hc
theorem w0_17 {ls st : List xV} {M : xM} {Q : Option xV → xM → Prop} {d : Nat} : Wp 0 17 (xr d :: ls) (st) (M) Q = Wp 0 18 (xr d :: ls) (xr d :: st) (M) Q := wp_aload rfl rfl
theorem w0_18 {ls st : List xV} {M : xM} {Q : Option xV → xM → Prop} {d : Nat} (hc : x_c d = 0) : Wp 0 18 (ls) (xr d :: st) (M) Q = Wp 0 21 (ls) (xi (M d 3) :: st) (M) Q := wp_getf rfl hc
theorem w0_21 {ls st : List xV} {M : xM} {Q : Option xV → xM → Prop} {a : Int} {v0 : xV} : Wp 0 21 (v0 :: xi a :: ls) (st) (M) Q = Wp 0 22 (v0 :: xi a :: ls) (xi a :: st) (M) Q := wp_iload rfl rfl
theorem w0_22 {ls st : List xV} {M : xM} {Q : Option xV → xM → Prop} {a : Int} {d : Nat} {x : Int} (hc : x_c d = 20) (hn : x_n d = 8) (h1 : 0 ≤ a) (h2 : a < 8) : Wp 0 22 (ls) (xi x :: xi a :: xr d :: st) (M) Q = Wp 0 23 (ls) (st) (xup M d a x) Q := wp_iast rfl hc h1 (by rw [hn]; exact h2)
theorem w0_23 {ls st : List xV} {M : xM} {Q : Option xV → xM → Prop} {d : Nat} : Wp 0 23 (xr d :: ls) (st) (M) Q = Wp 0 24 (xr d :: ls) (xr d :: st) (M) Q := wp_aload rfl rfl
theorem w0_24 {ls st : List xV} {M : xM} {Q : Option xV → xM → Prop} {d : Nat} (hc : x_c d = 0) : Wp 0 24 (ls) (xr d :: st) (M) Q = Wp 0 27 (ls) (xr (x_r d 1) :: st) (M) Q := wp_getr rfl hc
theorem w0_27 {ls st : List xV} {M : xM} {Q : Option xV → xM → Prop} {d : Nat} : Wp 0 27 (xr d :: ls) (st) (M) Q = Wp 0 28 (xr d :: ls) (xr d :: st) (M) Q := wp_aload rfl rfl
theorem w0_28 {ls st : List xV} {M : xM} {Q : Option xV → xM → Prop} {d : Nat} (hc : x_c d = 0) : Wp 0 28 (ls) (xr d :: st) (M) Q = Wp 0 31 (ls) (xi (M d 3) :: st) (M) Q := wp_getf rfl hc
theorem w0_31 {ls st : List xV} {M : xM} {Q : Option xV → xM → Prop} {a : Int} {v0 : xV} {v1 : xV} : Wp 0 31 (v0 :: v1 :: xi a :: ls) (st) (M) Q = Wp 0 32 (v0 :: v1 :: xi a :: ls) (xi a :: st) (M) Q := wp_iload rfl rfl
theorem w0_32 {ls st : List xV} {M : xM} {Q : Option xV → xM → Prop} {a : Int} {d : Nat} {x : Int} (hc : x_c d = 20) (hn : x_n d = 8) (h1 : 0 ≤ a) (h2 : a < 8) : Wp 0 32 (ls) (xi x :: xi a :: xr d :: st) (M) Q = Wp 0 33 (ls) (st) (xup M d a x) Q := wp_iast rfl hc h1 (by rw [hn]; exact h2)
theorem w0_33 {ls st : List xV} {M : xM} {Q : Option xV → xM → Prop} {d : Nat} : Wp 0 33 (xr d :: ls) (st) (M) Q = Wp 0 34 (xr d :: ls) (xr d :: st) (M) Q := wp_aload rfl rfl
theorem w0_34 {ls st : List xV} {M : xM} {Q : Option xV → xM → Prop} {d : Nat} (hc : x_c d = 0) : Wp 0 34 (ls) (xr d :: st) (M) Q = Wp 0 37 (ls) (xr (x_r d 2) :: st) (M) Q := wp_getr rfl hc
theorem w0_37 {ls st : List xV} {M : xM} {Q : Option xV → xM → Prop} {d : Nat} : Wp 0 37 (xr d :: ls) (st) (M) Q = Wp 0 38 (xr d :: ls) (xr d :: st) (M) Q := wp_aload rfl rfl
theorem w0_38 {ls st : List xV} {M : xM} {Q : Option xV → xM → Prop} {d : Nat} (hc : x_c d = 0) : Wp 0 38 (ls) (xr d :: st) (M) Q = Wp 0 41 (ls) (xi (M d 3) :: st) (M) Q := wp_getf rfl hc
theorem w0_41 {ls st : List xV} {M : xM} {Q : Option xV → xM → Prop} {a : Int} {v0 : xV} {v1 : xV} {v2 : xV} : Wp 0 41 (v0 :: v1 :: v2 :: xi a :: ls) (st) (M) Q = Wp 0 42 (v0 :: v1 :: v2 :: xi a :: ls) (xi a :: st) (M) Q := wp_iload rfl rfl
theorem w0_42 {ls st : List xV} {M : xM} {Q : Option xV → xM → Prop} {a : Int} {d : Nat} {x : Int} (hc : x_c d = 20) (hn : x_n d = 8) (h1 : 0 ≤ a) (h2 : a < 8) : Wp 0 42 (ls) (xi x :: xi a :: xr d :: st) (M) Q = Wp 0 43 (ls) (st) (xup M d a x) Q := wp_iast rfl hc h1 (by rw [hn]; exact h2)
theorem w0_43 {ls st : List xV} {M : xM} {Q : Option xV → xM → Prop} {d : Nat} : Wp 0 43 (xr d :: ls) (st) (M) Q = Wp 0 44 (xr d :: ls) (xr d :: st) (M) Q := wp_aload rfl rfl
theorem w0_44 {ls st : List xV} {M : xM} {Q : Option xV → xM → Prop} {d : Nat} : Wp 0 44 (ls) (xr d :: st) (M) Q = Wp 0 45 (ls) (xr d :: xr d :: st) (M) Q := wp_dupA rfl
theorem w0_45 {ls st : List xV} {M : xM} {Q : Option xV → xM → Prop} {d : Nat} (hc : x_c d = 0) : Wp 0 45 (ls) (xr d :: st) (M) Q = Wp 0 48 (ls) (xi (M d 3) :: st) (M) Q := wp_getf rfl hc
theorem w0_48 {ls st : List xV} {M : xM} {Q : Option xV → xM → Prop}  : Wp 0 48 (ls) (st) (M) Q = Wp 0 49 (ls) (xi 1 :: st) (M) Q := wp_const rfl
theorem w0_49 {ls st : List xV} {M : xM} {Q : Option xV → xM → Prop} {a : Int} {b : Int} : Wp 0 49 (ls) (xi b :: xi a :: st) (M) Q = Wp 0 50 (ls) (xi (a + b) :: st) (M) Q := wp_bin (f := xadd) rfl
theorem w0_50 {ls st : List xV} {M : xM} {Q : Option xV → xM → Prop} {a : Int} {d : Nat} (hc : x_c d = 0) : Wp 0 50 (ls) (xi a :: xr d :: st) (M) Q = Wp 0 53 (ls) (st) (xup M d 3 a) Q := wp_putf rfl hc
theorem w0_53 {ls : List xV} {M : xM} {Q : Option xV → xM → Prop}  : Wp 0 53 (ls) ([]) (M) Q = Q none M := wp_vret rfl
theorem wc1 {M : xM} {Q : Option xV → xM → Prop} {d0 : Nat} : Wc 1 [xr d0] M Q = Wp 1 0 [xr d0, xj] [] M Q := rfl
theorem w1_0 {ls st : List xV} {M : xM} {Q : Option xV → xM → Prop}  : Wp 1 0 (ls) (st) (M) Q = Wp 1 1 (ls) (xi 1 :: st) (M) Q := wp_const rfl
theorem w1_1 {ls st : List xV} {M : xM} {Q : Option xV → xM → Prop} {a : Int} {v0 : xV} {w : xV} : Wp 1 1 (v0 :: w :: ls) (xi a :: st) (M) Q = Wp 1 2 (xjl v0 :: xi a :: ls) (st) (M) Q := wp_istore rfl rfl
theorem w1_2 {ls st : List xV} {M : xM} {Q : Option xV → xM → Prop} {a : Int} {v0 : xV} : Wp 1 2 (v0 :: xi a :: ls) (st) (M) Q = Wp 1 3 (v0 :: xi a :: ls) (xi a :: st) (M) Q := wp_iload rfl rfl
theorem w1_3 {ls st : List xV} {M : xM} {Q : Option xV → xM → Prop}  : Wp 1 3 (ls) (st) (M) Q = Wp 1 5 (ls) (xi 8 :: st) (M) Q := wp_const rfl
theorem w1_5 {ls st : List xV} {M : xM} {Q : Option xV → xM → Prop} {a : Int} {b : Int} (ha : xG a) (hb : xG b) : Wp 1 5 (ls) (xi b :: xi a :: st) (M) Q = ((b ≤ a → Wp 1 56 (ls) (st) (M) Q) ∧ (¬ (b ≤ a) → Wp 1 8 (ls) (st) (M) Q)) := wp_cmp_ge rfl ha hb
theorem w1_8 {ls st : List xV} {M : xM} {Q : Option xV → xM → Prop} {d : Nat} : Wp 1 8 (xr d :: ls) (st) (M) Q = Wp 1 9 (xr d :: ls) (xr d :: st) (M) Q := wp_aload rfl rfl
theorem w1_9 {ls st : List xV} {M : xM} {Q : Option xV → xM → Prop} {d : Nat} (hc : x_c d = 0) : Wp 1 9 (ls) (xr d :: st) (M) Q = Wp 1 12 (ls) (xr (x_r d 0) :: st) (M) Q := wp_getr rfl hc
theorem w1_12 {ls st : List xV} {M : xM} {Q : Option xV → xM → Prop} {a : Int} {v0 : xV} : Wp 1 12 (v0 :: xi a :: ls) (st) (M) Q = Wp 1 13 (v0 :: xi a :: ls) (xi a :: st) (M) Q := wp_iload rfl rfl
theorem w1_13 {ls st : List xV} {M : xM} {Q : Option xV → xM → Prop}  : Wp 1 13 (ls) (st) (M) Q = Wp 1 14 (ls) (xi 1 :: st) (M) Q := wp_const rfl
theorem w1_14 {ls st : List xV} {M : xM} {Q : Option xV → xM → Prop} {a : Int} {b : Int} : Wp 1 14 (ls) (xi b :: xi a :: st) (M) Q = Wp 1 15 (ls) (xi (a - b) :: st) (M) Q := wp_bin (f := xsub) rfl
theorem w1_15 {ls st : List xV} {M : xM} {Q : Option xV → xM → Prop} {d : Nat} : Wp 1 15 (xr d :: ls) (st) (M) Q = Wp 1 16 (xr d :: ls) (xr d :: st) (M) Q := wp_aload rfl rfl
theorem w1_16 {ls st : List xV} {M : xM} {Q : Option xV → xM → Prop} {d : Nat} (hc : x_c d = 0) : Wp 1 16 (ls) (xr d :: st) (M) Q = Wp 1 19 (ls) (xr (x_r d 0) :: st) (M) Q := wp_getr rfl hc
theorem w1_19 {ls st : List xV} {M : xM} {Q : Option xV → xM → Prop} {a : Int} {v0 : xV} : Wp 1 19 (v0 :: xi a :: ls) (st) (M) Q = Wp 1 20 (v0 :: xi a :: ls) (xi a :: st) (M) Q := wp_iload rfl rfl
theorem w1_20 {ls st : List xV} {M : xM} {Q : Option xV → xM → Prop} {a : Int} {d : Nat} (hc : x_c d = 20) (hn : x_n d = 8) (h1 : 0 ≤ a) (h2 : a < 8) : Wp 1 20 (ls) (xi a :: xr d :: st) (M) Q = Wp 1 21 (ls) (xi (M d a) :: st) (M) Q := wp_ald rfl hc h1 (by rw [hn]; exact h2)
theorem w1_21 {ls st : List xV} {M : xM} {Q : Option xV → xM → Prop} {a : Int} {d : Nat} {x : Int} (hc : x_c d = 20) (hn : x_n d = 8) (h1 : 0 ≤ a) (h2 : a < 8) : Wp 1 21 (ls) (xi x :: xi a :: xr d :: st) (M) Q = Wp 1 22 (ls) (st) (xup M d a x) Q := wp_iast rfl hc h1 (by rw [hn]; exact h2)
theorem w1_22 {ls st : List xV} {M : xM} {Q : Option xV → xM → Prop} {d : Nat} : Wp 1 22 (xr d :: ls) (st) (M) Q = Wp 1 23 (xr d :: ls) (xr d :: st) (M) Q := wp_aload rfl rfl
theorem w1_23 {ls st : List xV} {M : xM} {Q : Option xV → xM → Prop} {d : Nat} (hc : x_c d = 0) : Wp 1 23 (ls) (xr d :: st) (M) Q = Wp 1 26 (ls) (xr (x_r d 1) :: st) (M) Q := wp_getr rfl hc
theorem w1_26 {ls st : List xV} {M : xM} {Q : Option xV → xM → Prop} {a : Int} {v0 : xV} : Wp 1 26 (v0 :: xi a :: ls) (st) (M) Q = Wp 1 27 (v0 :: xi a :: ls) (xi a :: st) (M) Q := wp_iload rfl rfl
theorem w1_27 {ls st : List xV} {M : xM} {Q : Option xV → xM → Prop}  : Wp 1 27 (ls) (st) (M) Q = Wp 1 28 (ls) (xi 1 :: st) (M) Q := wp_const rfl
theorem w1_28 {ls st : List xV} {M : xM} {Q : Option xV → xM → Prop} {a : Int} {b : Int} : Wp 1 28 (ls) (xi b :: xi a :: st) (M) Q = Wp 1 29 (ls) (xi (a - b) :: st) (M) Q := wp_bin (f := xsub) rfl
theorem w1_29 {ls st : List xV} {M : xM} {Q : Option xV → xM → Prop} {d : Nat} : Wp 1 29 (xr d :: ls) (st) (M) Q = Wp 1 30 (xr d :: ls) (xr d :: st) (M) Q := wp_aload rfl rfl
theorem w1_30 {ls st : List xV} {M : xM} {Q : Option xV → xM → Prop} {d : Nat} (hc : x_c d = 0) : Wp 1 30 (ls) (xr d :: st) (M) Q = Wp 1 33 (ls) (xr (x_r d 1) :: st) (M) Q := wp_getr rfl hc
theorem w1_33 {ls st : List xV} {M : xM} {Q : Option xV → xM → Prop} {a : Int} {v0 : xV} : Wp 1 33 (v0 :: xi a :: ls) (st) (M) Q = Wp 1 34 (v0 :: xi a :: ls) (xi a :: st) (M) Q := wp_iload rfl rfl
theorem w1_34 {ls st : List xV} {M : xM} {Q : Option xV → xM → Prop} {a : Int} {d : Nat} (hc : x_c d = 20) (hn : x_n d = 8) (h1 : 0 ≤ a) (h2 : a < 8) : Wp 1 34 (ls) (xi a :: xr d :: st) (M) Q = Wp 1 35 (ls) (xi (M d a) :: st) (M) Q := wp_ald rfl hc h1 (by rw [hn]; exact h2)
theorem w1_35 {ls st : List xV} {M : xM} {Q : Option xV → xM → Prop} {a : Int} {d : Nat} {x : Int} (hc : x_c d = 20) (hn : x_n d = 8) (h1 : 0 ≤ a) (h2 : a < 8) : Wp 1 35 (ls) (xi x :: xi a :: xr d :: st) (M) Q = Wp 1 36 (ls) (st) (xup M d a x) Q := wp_iast rfl hc h1 (by rw [hn]; exact h2)
theorem w1_36 {ls st : List xV} {M : xM} {Q : Option xV → xM → Prop} {d : Nat} : Wp 1 36 (xr d :: ls) (st) (M) Q = Wp 1 37 (xr d :: ls) (xr d :: st) (M) Q := wp_aload rfl rfl
theorem w1_37 {ls st : List xV} {M : xM} {Q : Option xV → xM → Prop} {d : Nat} (hc : x_c d = 0) : Wp 1 37 (ls) (xr d :: st) (M) Q = Wp 1 40 (ls) (xr (x_r d 2) :: st) (M) Q := wp_getr rfl hc
theorem w1_40 {ls st : List xV} {M : xM} {Q : Option xV → xM → Prop} {a : Int} {v0 : xV} : Wp 1 40 (v0 :: xi a :: ls) (st) (M) Q = Wp 1 41 (v0 :: xi a :: ls) (xi a :: st) (M) Q := wp_iload rfl rfl
theorem w1_41 {ls st : List xV} {M : xM} {Q : Option xV → xM → Prop}  : Wp 1 41 (ls) (st) (M) Q = Wp 1 42 (ls) (xi 1 :: st) (M) Q := wp_const rfl
theorem w1_42 {ls st : List xV} {M : xM} {Q : Option xV → xM → Prop} {a : Int} {b : Int} : Wp 1 42 (ls) (xi b :: xi a :: st) (M) Q = Wp 1 43 (ls) (xi (a - b) :: st) (M) Q := wp_bin (f := xsub) rfl
theorem w1_43 {ls st : List xV} {M : xM} {Q : Option xV → xM → Prop} {d : Nat} : Wp 1 43 (xr d :: ls) (st) (M) Q = Wp 1 44 (xr d :: ls) (xr d :: st) (M) Q := wp_aload rfl rfl
theorem w1_44 {ls st : List xV} {M : xM} {Q : Option xV → xM → Prop} {d : Nat} (hc : x_c d = 0) : Wp 1 44 (ls) (xr d :: st) (M) Q = Wp 1 47 (ls) (xr (x_r d 2) :: st) (M) Q := wp_getr rfl hc
theorem w1_47 {ls st : List xV} {M : xM} {Q : Option xV → xM → Prop} {a : Int} {v0 : xV} : Wp 1 47 (v0 :: xi a :: ls) (st) (M) Q = Wp 1 48 (v0 :: xi a :: ls) (xi a :: st) (M) Q := wp_iload rfl rfl
theorem w1_48 {ls st : List xV} {M : xM} {Q : Option xV → xM → Prop} {a : Int} {d : Nat} (hc : x_c d = 20) (hn : x_n d = 8) (h1 : 0 ≤ a) (h2 : a < 8) : Wp 1 48 (ls) (xi a :: xr d :: st) (M) Q = Wp 1 49 (ls) (xi (M d a) :: st) (M) Q := wp_ald rfl hc h1 (by rw [hn]; exact h2)
theorem w1_49 {ls st : List xV} {M : xM} {Q : Option xV → xM → Prop} {a : Int} {d : Nat} {x : Int} (hc : x_c d = 20) (hn : x_n d = 8) (h1 : 0 ≤ a) (h2 : a < 8) : Wp 1 49 (ls) (xi x :: xi a :: xr d :: st) (M) Q = Wp 1 50 (ls) (st) (xup M d a x) Q := wp_iast rfl hc h1 (by rw [hn]; exact h2)
theorem w1_50 {ls st : List xV} {M : xM} {Q : Option xV → xM → Prop} {a : Int} {v0 : xV} : Wp 1 50 (v0 :: xi a :: ls) (st) (M) Q = Wp 1 53 (xjl v0 :: xi (a + 1) :: ls) (st) (M) Q := wp_iinc rfl rfl rfl
theorem w1_53 {ls st : List xV} {M : xM} {Q : Option xV → xM → Prop}  : Wp 1 53 (ls) (st) (M) Q = Wp 1 2 (ls) (st) (M) Q := wp_goto rfl
theorem w1_56 {ls st : List xV} {M : xM} {Q : Option xV → xM → Prop} {d : Nat} : Wp 1 56 (xr d :: ls) (st) (M) Q = Wp 1 57 (xr d :: ls) (xr d :: st) (M) Q := wp_aload rfl rfl
theorem w1_57 {ls st : List xV} {M : xM} {Q : Option xV → xM → Prop}  : Wp 1 57 (ls) (st) (M) Q = Wp 1 59 (ls) (xi 7 :: st) (M) Q := wp_const rfl
theorem w1_59 {ls st : List xV} {M : xM} {Q : Option xV → xM → Prop} {a : Int} {d : Nat} (hc : x_c d = 0) : Wp 1 59 (ls) (xi a :: xr d :: st) (M) Q = Wp 1 62 (ls) (st) (xup M d 3 a) Q := wp_putf rfl hc
theorem w1_62 {ls : List xV} {M : xM} {Q : Option xV → xM → Prop}  : Wp 1 62 (ls) ([]) (M) Q = Q none M := wp_vret rfl
theorem wc2 {M : xM} {Q : Option xV → xM → Prop} {d0 : Nat} {d1 : Nat} : Wc 2 [xr d0, xr d1] M Q = Wp 2 0 [xr d0, xr d1, xj] [] M Q := rfl
theorem w2_0 {ls st : List xV} {M : xM} {Q : Option xV → xM → Prop} {d : Nat} : Wp 2 0 (xr d :: ls) (st) (M) Q = Wp 2 1 (xr d :: ls) (xr d :: st) (M) Q := wp_aload rfl rfl
theorem w2_1 {ls st : List xV} {M : xM} {Q : Option xV → xM → Prop} {d : Nat} (hc : x_c d = 0) : Wp 2 1 (ls) (xr d :: st) (M) Q = Wp 2 4 (ls) (xi (M d 3) :: st) (M) Q := wp_getf rfl hc
theorem w2_4 {ls st : List xV} {M : xM} {Q : Option xV → xM → Prop}  : Wp 2 4 (ls) (st) (M) Q = Wp 2 5 (ls) (xi 1 :: st) (M) Q := wp_const rfl
theorem w2_5 {ls st : List xV} {M : xM} {Q : Option xV → xM → Prop} {a : Int} {b : Int} (ha : xG a) (hb : xG b) : Wp 2 5 (ls) (xi b :: xi a :: st) (M) Q = ((b ≤ a → Wp 2 10 (ls) (st) (M) Q) ∧ (¬ (b ≤ a) → Wp 2 8 (ls) (st) (M) Q)) := wp_cmp_ge rfl ha hb
theorem w2_8 {ls st : List xV} {M : xM} {Q : Option xV → xM → Prop}  : Wp 2 8 (ls) (st) (M) Q = Wp 2 9 (ls) (xi 0 :: st) (M) Q := wp_const rfl
theorem w2_9 {ls : List xV} {M : xM} {Q : Option xV → xM → Prop} {a : Int} (ha : a = 0 ∨ a = 1) : Wp 2 9 (ls) ([xi a]) (M) Q = Q (some (xi a)) M := wp_zret rfl ha
theorem w2_10 {ls st : List xV} {M : xM} {Q : Option xV → xM → Prop} {d : Nat} : Wp 2 10 (xr d :: ls) (st) (M) Q = Wp 2 11 (xr d :: ls) (xr d :: st) (M) Q := wp_aload rfl rfl
theorem w2_11 {ls st : List xV} {M : xM} {Q : Option xV → xM → Prop} {d : Nat} : Wp 2 11 (ls) (xr d :: st) (M) Q = Wp 2 12 (ls) (xr d :: xr d :: st) (M) Q := wp_dupA rfl
theorem w2_12 {ls st : List xV} {M : xM} {Q : Option xV → xM → Prop} {d : Nat} (hc : x_c d = 0) : Wp 2 12 (ls) (xr d :: st) (M) Q = Wp 2 15 (ls) (xi (M d 3) :: st) (M) Q := wp_getf rfl hc
theorem w2_15 {ls st : List xV} {M : xM} {Q : Option xV → xM → Prop}  : Wp 2 15 (ls) (st) (M) Q = Wp 2 16 (ls) (xi 1 :: st) (M) Q := wp_const rfl
theorem w2_16 {ls st : List xV} {M : xM} {Q : Option xV → xM → Prop} {a : Int} {b : Int} : Wp 2 16 (ls) (xi b :: xi a :: st) (M) Q = Wp 2 17 (ls) (xi (a - b) :: st) (M) Q := wp_bin (f := xsub) rfl
theorem w2_17 {ls st : List xV} {M : xM} {Q : Option xV → xM → Prop} {a : Int} {d : Nat} (hc : x_c d = 0) : Wp 2 17 (ls) (xi a :: xr d :: st) (M) Q = Wp 2 20 (ls) (st) (xup M d 3 a) Q := wp_putf rfl hc
theorem w2_20 {ls st : List xV} {M : xM} {Q : Option xV → xM → Prop} {d : Nat} : Wp 2 20 (xr d :: ls) (st) (M) Q = Wp 2 21 (xr d :: ls) (xr d :: st) (M) Q := wp_aload rfl rfl
theorem w2_21 {ls st : List xV} {M : xM} {Q : Option xV → xM → Prop} {d : Nat} (hc : x_c d = 0) : Wp 2 21 (ls) (xr d :: st) (M) Q = Wp 2 24 (ls) (xr (x_r d 1) :: st) (M) Q := wp_getr rfl hc
theorem w2_24 {ls st : List xV} {M : xM} {Q : Option xV → xM → Prop} {d : Nat} : Wp 2 24 (xr d :: ls) (st) (M) Q = Wp 2 25 (xr d :: ls) (xr d :: st) (M) Q := wp_aload rfl rfl
theorem w2_25 {ls st : List xV} {M : xM} {Q : Option xV → xM → Prop} {d : Nat} (hc : x_c d = 0) : Wp 2 25 (ls) (xr d :: st) (M) Q = Wp 2 28 (ls) (xi (M d 3) :: st) (M) Q := wp_getf rfl hc
theorem w2_28 {ls st : List xV} {M : xM} {Q : Option xV → xM → Prop} {a : Int} {d : Nat} (hc : x_c d = 20) (hn : x_n d = 8) (h1 : 0 ≤ a) (h2 : a < 8) : Wp 2 28 (ls) (xi a :: xr d :: st) (M) Q = Wp 2 29 (ls) (xi (M d a) :: st) (M) Q := wp_ald rfl hc h1 (by rw [hn]; exact h2)
theorem w2_29 {ls st : List xV} {M : xM} {Q : Option xV → xM → Prop} {a : Int} {v0 : xV} {v1 : xV} {w : xV} : Wp 2 29 (v0 :: v1 :: w :: ls) (xi a :: st) (M) Q = Wp 2 30 (v0 :: xjl v1 :: xi a :: ls) (st) (M) Q := wp_istore rfl rfl
theorem w2_30 {ls st : List xV} {M : xM} {Q : Option xV → xM → Prop} {d : Nat} : Wp 2 30 (xr d :: ls) (st) (M) Q = Wp 2 31 (xr d :: ls) (xr d :: st) (M) Q := wp_aload rfl rfl
theorem w2_31 {ls st : List xV} {M : xM} {Q : Option xV → xM → Prop} {d : Nat} (hc : x_c d = 0) : Wp 2 31 (ls) (xr d :: st) (M) Q = Wp 2 34 (ls) (xr (x_r d 0) :: st) (M) Q := wp_getr rfl hc
theorem w2_34 {ls st : List xV} {M : xM} {Q : Option xV → xM → Prop} {d : Nat} : Wp 2 34 (xr d :: ls) (st) (M) Q = Wp 2 35 (xr d :: ls) (xr d :: st) (M) Q := wp_aload rfl rfl
theorem w2_35 {ls st : List xV} {M : xM} {Q : Option xV → xM → Prop} {d : Nat} (hc : x_c d = 0) : Wp 2 35 (ls) (xr d :: st) (M) Q = Wp 2 38 (ls) (xi (M d 3) :: st) (M) Q := wp_getf rfl hc
theorem w2_38 {ls st : List xV} {M : xM} {Q : Option xV → xM → Prop} {a : Int} {d : Nat} (hc : x_c d = 20) (hn : x_n d = 8) (h1 : 0 ≤ a) (h2 : a < 8) : Wp 2 38 (ls) (xi a :: xr d :: st) (M) Q = Wp 2 39 (ls) (xi (M d a) :: st) (M) Q := wp_ald rfl hc h1 (by rw [hn]; exact h2)
theorem w2_39 {ls st : List xV} {M : xM} {Q : Option xV → xM → Prop} {a : Int} (ha : xG a) : Wp 2 39 (ls) (xi a :: st) (M) Q = Wp 2 (xlk 97 a [(0, 64), (1, 82)]) (ls) (st) (M) Q := wp_lsw rfl ha
theorem w2_64 {ls st : List xV} {M : xM} {Q : Option xV → xM → Prop} {d : Nat} {v0 : xV} : Wp 2 64 (v0 :: xr d :: ls) (st) (M) Q = Wp 2 65 (v0 :: xr d :: ls) (xr d :: st) (M) Q := wp_aload rfl rfl
theorem w2_65 {ls st : List xV} {M : xM} {Q : Option xV → xM → Prop} {d : Nat} (hc : x_c d = 6) : Wp 2 65 (ls) (xr d :: st) (M) Q = Wp 2 68 (ls) (xr (x_r d 0) :: st) (M) Q := wp_getr rfl hc
theorem w2_68 {ls st : List xV} {M : xM} {Q : Option xV → xM → Prop} {a : Int} {v0 : xV} {v1 : xV} : Wp 2 68 (v0 :: v1 :: xi a :: ls) (st) (M) Q = Wp 2 69 (v0 :: v1 :: xi a :: ls) (xi a :: st) (M) Q := wp_iload rfl rfl
theorem w2_69 {ls st : List xV} {M : xM} {Q : Option xV → xM → Prop} {d : Nat} : Wp 2 69 (xr d :: ls) (st) (M) Q = Wp 2 70 (xr d :: ls) (xr d :: st) (M) Q := wp_aload rfl rfl
theorem w2_70 {ls st : List xV} {M : xM} {Q : Option xV → xM → Prop} {d : Nat} (hc : x_c d = 0) : Wp 2 70 (ls) (xr d :: st) (M) Q = Wp 2 73 (ls) (xr (x_r d 2) :: st) (M) Q := wp_getr rfl hc
theorem w2_73 {ls st : List xV} {M : xM} {Q : Option xV → xM → Prop} {d : Nat} : Wp 2 73 (xr d :: ls) (st) (M) Q = Wp 2 74 (xr d :: ls) (xr d :: st) (M) Q := wp_aload rfl rfl
theorem w2_74 {ls st : List xV} {M : xM} {Q : Option xV → xM → Prop} {d : Nat} (hc : x_c d = 0) : Wp 2 74 (ls) (xr d :: st) (M) Q = Wp 2 77 (ls) (xi (M d 3) :: st) (M) Q := wp_getf rfl hc
theorem w2_77 {ls st : List xV} {M : xM} {Q : Option xV → xM → Prop} {a : Int} {d : Nat} (hc : x_c d = 20) (hn : x_n d = 8) (h1 : 0 ≤ a) (h2 : a < 8) : Wp 2 77 (ls) (xi a :: xr d :: st) (M) Q = Wp 2 78 (ls) (xi (M d a) :: st) (M) Q := wp_ald rfl hc h1 (by rw [hn]; exact h2)
theorem w2_78 {ls st : List xV} {M : xM} {Q : Option xV → xM → Prop} {a : Int} {d : Nat} {x : Int} (hc : x_c d = 20) (hn : x_n d = 5) (h1 : 0 ≤ a) (h2 : a < 5) : Wp 2 78 (ls) (xi x :: xi a :: xr d :: st) (M) Q = Wp 2 79 (ls) (st) (xup M d a x) Q := wp_iast rfl hc h1 (by rw [hn]; exact h2)
theorem w2_79 {ls st : List xV} {M : xM} {Q : Option xV → xM → Prop}  : Wp 2 79 (ls) (st) (M) Q = Wp 2 109 (ls) (st) (M) Q := wp_goto rfl
theorem w2_82 {ls st : List xV} {M : xM} {Q : Option xV → xM → Prop} {d : Nat} {v0 : xV} : Wp 2 82 (v0 :: xr d :: ls) (st) (M) Q = Wp 2 83 (v0 :: xr d :: ls) (xr d :: st) (M) Q := wp_aload rfl rfl
theorem w2_83 {ls st : List xV} {M : xM} {Q : Option xV → xM → Prop} {d : Nat} : Wp 2 83 (ls) (xr d :: st) (M) Q = Wp 2 84 (ls) (xr d :: xr d :: st) (M) Q := wp_dupA rfl
theorem w2_84 {ls st : List xV} {M : xM} {Q : Option xV → xM → Prop} {d : Nat} (hc : x_c d = 6) : Wp 2 84 (ls) (xr d :: st) (M) Q = Wp 2 87 (ls) (xi (M d 1) :: st) (M) Q := wp_getf rfl hc
theorem w2_87 {ls st : List xV} {M : xM} {Q : Option xV → xM → Prop}  : Wp 2 87 (ls) (st) (M) Q = Wp 2 88 (ls) (xi 1 :: st) (M) Q := wp_const rfl
theorem w2_88 {ls st : List xV} {M : xM} {Q : Option xV → xM → Prop} {a : Int} {v0 : xV} {v1 : xV} : Wp 2 88 (v0 :: v1 :: xi a :: ls) (st) (M) Q = Wp 2 89 (v0 :: v1 :: xi a :: ls) (xi a :: st) (M) Q := wp_iload rfl rfl
theorem w2_89 {ls st : List xV} {M : xM} {Q : Option xV → xM → Prop} {a : Int} {b : Int} : Wp 2 89 (ls) (xi b :: xi a :: st) (M) Q = Wp 2 90 (ls) (xi (xshl a b) :: st) (M) Q := wp_bin (f := xshl) rfl
theorem w2_90 {ls st : List xV} {M : xM} {Q : Option xV → xM → Prop} {a : Int} {b : Int} : Wp 2 90 (ls) (xi b :: xi a :: st) (M) Q = Wp 2 91 (ls) (xi (xxor a b) :: st) (M) Q := wp_bin (f := xxor) rfl
theorem w2_91 {ls st : List xV} {M : xM} {Q : Option xV → xM → Prop} {a : Int} {d : Nat} (hc : x_c d = 6) : Wp 2 91 (ls) (xi a :: xr d :: st) (M) Q = Wp 2 94 (ls) (st) (xup M d 1 a) Q := wp_putf rfl hc
theorem w2_94 {ls st : List xV} {M : xM} {Q : Option xV → xM → Prop}  : Wp 2 94 (ls) (st) (M) Q = Wp 2 109 (ls) (st) (M) Q := wp_goto rfl
theorem w2_97 {ls st : List xV} {M : xM} {Q : Option xV → xM → Prop} {d : Nat} {v0 : xV} : Wp 2 97 (v0 :: xr d :: ls) (st) (M) Q = Wp 2 98 (v0 :: xr d :: ls) (xr d :: st) (M) Q := wp_aload rfl rfl
theorem w2_98 {ls st : List xV} {M : xM} {Q : Option xV → xM → Prop} {d : Nat} : Wp 2 98 (ls) (xr d :: st) (M) Q = Wp 2 99 (ls) (xr d :: xr d :: st) (M) Q := wp_dupA rfl
theorem w2_99 {ls st : List xV} {M : xM} {Q : Option xV → xM → Prop} {d : Nat} (hc : x_c d = 6) : Wp 2 99 (ls) (xr d :: st) (M) Q = Wp 2 102 (ls) (xi (M d 2) :: st) (M) Q := wp_getf rfl hc
theorem w2_102 {ls st : List xV} {M : xM} {Q : Option xV → xM → Prop}  : Wp 2 102 (ls) (st) (M) Q = Wp 2 103 (ls) (xi 1 :: st) (M) Q := wp_const rfl
theorem w2_103 {ls st : List xV} {M : xM} {Q : Option xV → xM → Prop} {a : Int} {v0 : xV} {v1 : xV} : Wp 2 103 (v0 :: v1 :: xi a :: ls) (st) (M) Q = Wp 2 104 (v0 :: v1 :: xi a :: ls) (xi a :: st) (M) Q := wp_iload rfl rfl
theorem w2_104 {ls st : List xV} {M : xM} {Q : Option xV → xM → Prop} {a : Int} {b : Int} : Wp 2 104 (ls) (xi b :: xi a :: st) (M) Q = Wp 2 105 (ls) (xi (xshl a b) :: st) (M) Q := wp_bin (f := xshl) rfl
theorem w2_105 {ls st : List xV} {M : xM} {Q : Option xV → xM → Prop} {a : Int} {b : Int} : Wp 2 105 (ls) (xi b :: xi a :: st) (M) Q = Wp 2 106 (ls) (xi (xxor a b) :: st) (M) Q := wp_bin (f := xxor) rfl
theorem w2_106 {ls st : List xV} {M : xM} {Q : Option xV → xM → Prop} {a : Int} {d : Nat} (hc : x_c d = 6) : Wp 2 106 (ls) (xi a :: xr d :: st) (M) Q = Wp 2 109 (ls) (st) (xup M d 2 a) Q := wp_putf rfl hc
theorem w2_109 {ls st : List xV} {M : xM} {Q : Option xV → xM → Prop}  : Wp 2 109 (ls) (st) (M) Q = Wp 2 110 (ls) (xi 1 :: st) (M) Q := wp_const rfl
theorem w2_110 {ls : List xV} {M : xM} {Q : Option xV → xM → Prop} {a : Int} (ha : a = 0 ∨ a = 1) : Wp 2 110 (ls) ([xi a]) (M) Q = Q (some (xi a)) M := wp_zret rfl ha
theorem wc3 {M : xM} {Q : Option xV → xM → Prop} {d0 : Nat} {d1 : Nat} : Wc 3 [xr d0, xr d1] M Q = Wp 3 0 [xr d0, xr d1, xj] [] M Q := rfl
theorem w3_0 {ls st : List xV} {M : xM} {Q : Option xV → xM → Prop}  : Wp 3 0 (ls) (st) (M) Q = Wp 3 1 (ls) (xi 0 :: st) (M) Q := wp_const rfl
theorem w3_1 {ls st : List xV} {M : xM} {Q : Option xV → xM → Prop} {a : Int} {v0 : xV} {v1 : xV} {w : xV} : Wp 3 1 (v0 :: v1 :: w :: ls) (xi a :: st) (M) Q = Wp 3 2 (v0 :: xjl v1 :: xi a :: ls) (st) (M) Q := wp_istore rfl rfl
theorem w3_2 {ls st : List xV} {M : xM} {Q : Option xV → xM → Prop} {a : Int} {v0 : xV} {v1 : xV} : Wp 3 2 (v0 :: v1 :: xi a :: ls) (st) (M) Q = Wp 3 3 (v0 :: v1 :: xi a :: ls) (xi a :: st) (M) Q := wp_iload rfl rfl
theorem w3_3 {ls st : List xV} {M : xM} {Q : Option xV → xM → Prop}  : Wp 3 3 (ls) (st) (M) Q = Wp 3 4 (ls) (xi 5 :: st) (M) Q := wp_const rfl
theorem w3_4 {ls st : List xV} {M : xM} {Q : Option xV → xM → Prop} {a : Int} {b : Int} (ha : xG a) (hb : xG b) : Wp 3 4 (ls) (xi b :: xi a :: st) (M) Q = ((b ≤ a → Wp 3 25 (ls) (st) (M) Q) ∧ (¬ (b ≤ a) → Wp 3 7 (ls) (st) (M) Q)) := wp_cmp_ge rfl ha hb
theorem w3_7 {ls st : List xV} {M : xM} {Q : Option xV → xM → Prop} {d : Nat} : Wp 3 7 (xr d :: ls) (st) (M) Q = Wp 3 8 (xr d :: ls) (xr d :: st) (M) Q := wp_aload rfl rfl
theorem w3_8 {ls st : List xV} {M : xM} {Q : Option xV → xM → Prop} {d : Nat} (hc : x_c d = 6) : Wp 3 8 (ls) (xr d :: st) (M) Q = Wp 3 11 (ls) (xr (x_r d 0) :: st) (M) Q := wp_getr rfl hc
theorem w3_11 {ls st : List xV} {M : xM} {Q : Option xV → xM → Prop} {a : Int} {v0 : xV} {v1 : xV} : Wp 3 11 (v0 :: v1 :: xi a :: ls) (st) (M) Q = Wp 3 12 (v0 :: v1 :: xi a :: ls) (xi a :: st) (M) Q := wp_iload rfl rfl
theorem w3_12 {ls st : List xV} {M : xM} {Q : Option xV → xM → Prop} {d : Nat} {v0 : xV} : Wp 3 12 (v0 :: xr d :: ls) (st) (M) Q = Wp 3 13 (v0 :: xr d :: ls) (xr d :: st) (M) Q := wp_aload rfl rfl
theorem w3_13 {ls st : List xV} {M : xM} {Q : Option xV → xM → Prop} {d : Nat} (hc : x_c d = 6) : Wp 3 13 (ls) (xr d :: st) (M) Q = Wp 3 16 (ls) (xr (x_r d 0) :: st) (M) Q := wp_getr rfl hc
theorem w3_16 {ls st : List xV} {M : xM} {Q : Option xV → xM → Prop} {a : Int} {v0 : xV} {v1 : xV} : Wp 3 16 (v0 :: v1 :: xi a :: ls) (st) (M) Q = Wp 3 17 (v0 :: v1 :: xi a :: ls) (xi a :: st) (M) Q := wp_iload rfl rfl
theorem w3_17 {ls st : List xV} {M : xM} {Q : Option xV → xM → Prop} {a : Int} {d : Nat} (hc : x_c d = 20) (hn : x_n d = 5) (h1 : 0 ≤ a) (h2 : a < 5) : Wp 3 17 (ls) (xi a :: xr d :: st) (M) Q = Wp 3 18 (ls) (xi (M d a) :: st) (M) Q := wp_ald rfl hc h1 (by rw [hn]; exact h2)
theorem w3_18 {ls st : List xV} {M : xM} {Q : Option xV → xM → Prop} {a : Int} {d : Nat} {x : Int} (hc : x_c d = 20) (hn : x_n d = 5) (h1 : 0 ≤ a) (h2 : a < 5) : Wp 3 18 (ls) (xi x :: xi a :: xr d :: st) (M) Q = Wp 3 19 (ls) (st) (xup M d a x) Q := wp_iast rfl hc h1 (by rw [hn]; exact h2)
theorem w3_19 {ls st : List xV} {M : xM} {Q : Option xV → xM → Prop} {a : Int} {v0 : xV} {v1 : xV} : Wp 3 19 (v0 :: v1 :: xi a :: ls) (st) (M) Q = Wp 3 22 (v0 :: xjl v1 :: xi (a + 1) :: ls) (st) (M) Q := wp_iinc rfl rfl rfl
theorem w3_22 {ls st : List xV} {M : xM} {Q : Option xV → xM → Prop}  : Wp 3 22 (ls) (st) (M) Q = Wp 3 2 (ls) (st) (M) Q := wp_goto rfl
theorem w3_25 {ls st : List xV} {M : xM} {Q : Option xV → xM → Prop} {d : Nat} : Wp 3 25 (xr d :: ls) (st) (M) Q = Wp 3 26 (xr d :: ls) (xr d :: st) (M) Q := wp_aload rfl rfl
theorem w3_26 {ls st : List xV} {M : xM} {Q : Option xV → xM → Prop} {d : Nat} {v0 : xV} : Wp 3 26 (v0 :: xr d :: ls) (st) (M) Q = Wp 3 27 (v0 :: xr d :: ls) (xr d :: st) (M) Q := wp_aload rfl rfl
theorem w3_27 {ls st : List xV} {M : xM} {Q : Option xV → xM → Prop} {d : Nat} (hc : x_c d = 6) : Wp 3 27 (ls) (xr d :: st) (M) Q = Wp 3 30 (ls) (xi (M d 1) :: st) (M) Q := wp_getf rfl hc
theorem w3_30 {ls st : List xV} {M : xM} {Q : Option xV → xM → Prop} {a : Int} {d : Nat} (hc : x_c d = 6) : Wp 3 30 (ls) (xi a :: xr d :: st) (M) Q = Wp 3 33 (ls) (st) (xup M d 1 a) Q := wp_putf rfl hc
theorem w3_33 {ls st : List xV} {M : xM} {Q : Option xV → xM → Prop} {d : Nat} : Wp 3 33 (xr d :: ls) (st) (M) Q = Wp 3 34 (xr d :: ls) (xr d :: st) (M) Q := wp_aload rfl rfl
theorem w3_34 {ls st : List xV} {M : xM} {Q : Option xV → xM → Prop} {d : Nat} {v0 : xV} : Wp 3 34 (v0 :: xr d :: ls) (st) (M) Q = Wp 3 35 (v0 :: xr d :: ls) (xr d :: st) (M) Q := wp_aload rfl rfl
theorem w3_35 {ls st : List xV} {M : xM} {Q : Option xV → xM → Prop} {d : Nat} (hc : x_c d = 6) : Wp 3 35 (ls) (xr d :: st) (M) Q = Wp 3 38 (ls) (xi (M d 2) :: st) (M) Q := wp_getf rfl hc
theorem w3_38 {ls st : List xV} {M : xM} {Q : Option xV → xM → Prop} {a : Int} {d : Nat} (hc : x_c d = 6) : Wp 3 38 (ls) (xi a :: xr d :: st) (M) Q = Wp 3 41 (ls) (st) (xup M d 2 a) Q := wp_putf rfl hc
theorem w3_41 {ls : List xV} {M : xM} {Q : Option xV → xM → Prop}  : Wp 3 41 (ls) ([]) (M) Q = Q none M := wp_vret rfl
theorem wc4 {M : xM} {Q : Option xV → xM → Prop} {d0 : Nat} {d1 : Nat} : Wc 4 [xr d0, xr d1] M Q = Wp 4 0 [xr d0, xr d1] [] M Q := rfl
theorem w4_0 {ls st : List xV} {M : xM} {Q : Option xV → xM → Prop} {d : Nat} : Wp 4 0 (xr d :: ls) (st) (M) Q = Wp 4 1 (xr d :: ls) (xr d :: st) (M) Q := wp_aload rfl rfl
theorem w4_1 {ls st : List xV} {M : xM} {Q : Option xV → xM → Prop} {d : Nat} (hc : x_c d = 2) : Wp 4 1 (ls) (xr d :: st) (M) Q = Wp 4 4 (ls) (xi (M d 1) :: st) (M) Q := wp_getf rfl hc
theorem w4_4 {ls st : List xV} {M : xM} {Q : Option xV → xM → Prop}  : Wp 4 4 (ls) (st) (M) Q = Wp 4 5 (ls) (xi 2 :: st) (M) Q := wp_const rfl
theorem w4_5 {ls st : List xV} {M : xM} {Q : Option xV → xM → Prop} {a : Int} {b : Int} (ha : xG a) (hb : xG b) : Wp 4 5 (ls) (xi b :: xi a :: st) (M) Q = ((a < b → Wp 4 10 (ls) (st) (M) Q) ∧ (¬ (a < b) → Wp 4 8 (ls) (st) (M) Q)) := wp_cmp_lt rfl ha hb
theorem w4_8 {ls st : List xV} {M : xM} {Q : Option xV → xM → Prop}  : Wp 4 8 (ls) (st) (M) Q = Wp 4 9 (ls) (xi 0 :: st) (M) Q := wp_const rfl
theorem w4_9 {ls : List xV} {M : xM} {Q : Option xV → xM → Prop} {a : Int} (ha : a = 0 ∨ a = 1) : Wp 4 9 (ls) ([xi a]) (M) Q = Q (some (xi a)) M := wp_zret rfl ha
theorem w4_10 {ls st : List xV} {M : xM} {Q : Option xV → xM → Prop} {d : Nat} : Wp 4 10 (xr d :: ls) (st) (M) Q = Wp 4 11 (xr d :: ls) (xr d :: st) (M) Q := wp_aload rfl rfl
theorem w4_11 {ls st : List xV} {M : xM} {Q : Option xV → xM → Prop} {d : Nat} (hc : x_c d = 2) : Wp 4 11 (ls) (xr d :: st) (M) Q = Wp 4 14 (ls) (xr (x_r d 0) :: st) (M) Q := wp_getr rfl hc
theorem w4_14 {ls st : List xV} {M : xM} {Q : Option xV → xM → Prop} {d : Nat} : Wp 4 14 (xr d :: ls) (st) (M) Q = Wp 4 15 (xr d :: ls) (xr d :: st) (M) Q := wp_aload rfl rfl
theorem w4_15 {ls st : List xV} {M : xM} {Q : Option xV → xM → Prop} {d : Nat} (hc : x_c d = 2) : Wp 4 15 (ls) (xr d :: st) (M) Q = Wp 4 18 (ls) (xi (M d 1) :: st) (M) Q := wp_getf rfl hc
theorem w4_18 {ls st : List xV} {M : xM} {Q : Option xV → xM → Prop} {a : Int} {d : Nat} (hc : x_c d = 23) (hn : x_n d = 2) (h1 : 0 ≤ a) (h2 : a < 2) : Wp 4 18 (ls) (xi a :: xr d :: st) (M) Q = Wp 4 19 (ls) (xr (x_r d a.toNat) :: st) (M) Q := wp_aald rfl hc h1 (by rw [hn]; exact h2)
theorem w4_19 {ls st : List xV} {M : xM} {Q : Option xV → xM → Prop} {d : Nat} {v0 : xV} : Wp 4 19 (v0 :: xr d :: ls) (st) (M) Q = Wp 4 20 (v0 :: xr d :: ls) (xr d :: st) (M) Q := wp_aload rfl rfl
theorem w4_20 {ls : List xV} {M : xM} {Q : Option xV → xM → Prop} {d0 : Nat} {d1 : Nat} (hc : x_c d0 = 6) : Wp 4 20 (ls) (xr d1 :: xr d0 :: []) (M) Q = Wc 3 [xr d0, xr d1] M (fun r M2 => Wp 4 23 (ls) (r.toList ++ ([])) M2 Q) := wp_cV rfl rfl hc (Nat.le_of_ble_eq_true rfl) (Nat.le_of_ble_eq_true rfl) rfl rfl
theorem w4_23 {ls st : List xV} {M : xM} {Q : Option xV → xM → Prop} {d : Nat} : Wp 4 23 (xr d :: ls) (st) (M) Q = Wp 4 24 (xr d :: ls) (xr d :: st) (M) Q := wp_aload rfl rfl
theorem w4_24 {ls st : List xV} {M : xM} {Q : Option xV → xM → Prop} {d : Nat} : Wp 4 24 (ls) (xr d :: st) (M) Q = Wp 4 25 (ls) (xr d :: xr d :: st) (M) Q := wp_dupA rfl
theorem w4_25 {ls st : List xV} {M : xM} {Q : Option xV → xM → Prop} {d : Nat} (hc : x_c d = 2) : Wp 4 25 (ls) (xr d :: st) (M) Q = Wp 4 28 (ls) (xi (M d 1) :: st) (M) Q := wp_getf rfl hc
theorem w4_28 {ls st : List xV} {M : xM} {Q : Option xV → xM → Prop}  : Wp 4 28 (ls) (st) (M) Q = Wp 4 29 (ls) (xi 1 :: st) (M) Q := wp_const rfl
theorem w4_29 {ls st : List xV} {M : xM} {Q : Option xV → xM → Prop} {a : Int} {b : Int} : Wp 4 29 (ls) (xi b :: xi a :: st) (M) Q = Wp 4 30 (ls) (xi (a + b) :: st) (M) Q := wp_bin (f := xadd) rfl
theorem w4_30 {ls st : List xV} {M : xM} {Q : Option xV → xM → Prop} {a : Int} {d : Nat} (hc : x_c d = 2) : Wp 4 30 (ls) (xi a :: xr d :: st) (M) Q = Wp 4 33 (ls) (st) (xup M d 1 a) Q := wp_putf rfl hc
theorem w4_33 {ls st : List xV} {M : xM} {Q : Option xV → xM → Prop}  : Wp 4 33 (ls) (st) (M) Q = Wp 4 34 (ls) (xi 1 :: st) (M) Q := wp_const rfl
theorem w4_34 {ls : List xV} {M : xM} {Q : Option xV → xM → Prop} {a : Int} (ha : a = 0 ∨ a = 1) : Wp 4 34 (ls) ([xi a]) (M) Q = Q (some (xi a)) M := wp_zret rfl ha
theorem wc5 {M : xM} {Q : Option xV → xM → Prop} {d0 : Nat} {d1 : Nat} : Wc 5 [xr d0, xr d1] M Q = Wp 5 0 [xr d0, xr d1] [] M Q := rfl
theorem w5_0 {ls st : List xV} {M : xM} {Q : Option xV → xM → Prop} {d : Nat} : Wp 5 0 (xr d :: ls) (st) (M) Q = Wp 5 1 (xr d :: ls) (xr d :: st) (M) Q := wp_aload rfl rfl
theorem w5_1 {ls st : List xV} {M : xM} {Q : Option xV → xM → Prop} {d : Nat} (hc : x_c d = 2) : Wp 5 1 (ls) (xr d :: st) (M) Q = Wp 5 4 (ls) (xi (M d 1) :: st) (M) Q := wp_getf rfl hc
theorem w5_4 {ls st : List xV} {M : xM} {Q : Option xV → xM → Prop}  : Wp 5 4 (ls) (st) (M) Q = Wp 5 5 (ls) (xi 1 :: st) (M) Q := wp_const rfl
theorem w5_5 {ls st : List xV} {M : xM} {Q : Option xV → xM → Prop} {a : Int} {b : Int} (ha : xG a) (hb : xG b) : Wp 5 5 (ls) (xi b :: xi a :: st) (M) Q = ((b ≤ a → Wp 5 10 (ls) (st) (M) Q) ∧ (¬ (b ≤ a) → Wp 5 8 (ls) (st) (M) Q)) := wp_cmp_ge rfl ha hb
theorem w5_8 {ls st : List xV} {M : xM} {Q : Option xV → xM → Prop}  : Wp 5 8 (ls) (st) (M) Q = Wp 5 9 (ls) (xi 0 :: st) (M) Q := wp_const rfl
theorem w5_9 {ls : List xV} {M : xM} {Q : Option xV → xM → Prop} {a : Int} (ha : a = 0 ∨ a = 1) : Wp 5 9 (ls) ([xi a]) (M) Q = Q (some (xi a)) M := wp_zret rfl ha
theorem w5_10 {ls st : List xV} {M : xM} {Q : Option xV → xM → Prop} {d : Nat} : Wp 5 10 (xr d :: ls) (st) (M) Q = Wp 5 11 (xr d :: ls) (xr d :: st) (M) Q := wp_aload rfl rfl
theorem w5_11 {ls st : List xV} {M : xM} {Q : Option xV → xM → Prop} {d : Nat} : Wp 5 11 (ls) (xr d :: st) (M) Q = Wp 5 12 (ls) (xr d :: xr d :: st) (M) Q := wp_dupA rfl
theorem w5_12 {ls st : List xV} {M : xM} {Q : Option xV → xM → Prop} {d : Nat} (hc : x_c d = 2) : Wp 5 12 (ls) (xr d :: st) (M) Q = Wp 5 15 (ls) (xi (M d 1) :: st) (M) Q := wp_getf rfl hc
theorem w5_15 {ls st : List xV} {M : xM} {Q : Option xV → xM → Prop}  : Wp 5 15 (ls) (st) (M) Q = Wp 5 16 (ls) (xi 1 :: st) (M) Q := wp_const rfl
theorem w5_16 {ls st : List xV} {M : xM} {Q : Option xV → xM → Prop} {a : Int} {b : Int} : Wp 5 16 (ls) (xi b :: xi a :: st) (M) Q = Wp 5 17 (ls) (xi (a - b) :: st) (M) Q := wp_bin (f := xsub) rfl
theorem w5_17 {ls st : List xV} {M : xM} {Q : Option xV → xM → Prop} {a : Int} {d : Nat} (hc : x_c d = 2) : Wp 5 17 (ls) (xi a :: xr d :: st) (M) Q = Wp 5 20 (ls) (st) (xup M d 1 a) Q := wp_putf rfl hc
theorem w5_20 {ls st : List xV} {M : xM} {Q : Option xV → xM → Prop} {d : Nat} {v0 : xV} : Wp 5 20 (v0 :: xr d :: ls) (st) (M) Q = Wp 5 21 (v0 :: xr d :: ls) (xr d :: st) (M) Q := wp_aload rfl rfl
theorem w5_21 {ls st : List xV} {M : xM} {Q : Option xV → xM → Prop} {d : Nat} : Wp 5 21 (xr d :: ls) (st) (M) Q = Wp 5 22 (xr d :: ls) (xr d :: st) (M) Q := wp_aload rfl rfl
theorem w5_22 {ls st : List xV} {M : xM} {Q : Option xV → xM → Prop} {d : Nat} (hc : x_c d = 2) : Wp 5 22 (ls) (xr d :: st) (M) Q = Wp 5 25 (ls) (xr (x_r d 0) :: st) (M) Q := wp_getr rfl hc
theorem w5_25 {ls st : List xV} {M : xM} {Q : Option xV → xM → Prop} {d : Nat} : Wp 5 25 (xr d :: ls) (st) (M) Q = Wp 5 26 (xr d :: ls) (xr d :: st) (M) Q := wp_aload rfl rfl
theorem w5_26 {ls st : List xV} {M : xM} {Q : Option xV → xM → Prop} {d : Nat} (hc : x_c d = 2) : Wp 5 26 (ls) (xr d :: st) (M) Q = Wp 5 29 (ls) (xi (M d 1) :: st) (M) Q := wp_getf rfl hc
theorem w5_29 {ls st : List xV} {M : xM} {Q : Option xV → xM → Prop} {a : Int} {d : Nat} (hc : x_c d = 23) (hn : x_n d = 2) (h1 : 0 ≤ a) (h2 : a < 2) : Wp 5 29 (ls) (xi a :: xr d :: st) (M) Q = Wp 5 30 (ls) (xr (x_r d a.toNat) :: st) (M) Q := wp_aald rfl hc h1 (by rw [hn]; exact h2)
theorem w5_30 {ls : List xV} {M : xM} {Q : Option xV → xM → Prop} {d0 : Nat} {d1 : Nat} (hc : x_c d0 = 6) : Wp 5 30 (ls) (xr d1 :: xr d0 :: []) (M) Q = Wc 3 [xr d0, xr d1] M (fun r M2 => Wp 5 33 (ls) (r.toList ++ ([])) M2 Q) := wp_cV rfl rfl hc (Nat.le_of_ble_eq_true rfl) (Nat.le_of_ble_eq_true rfl) rfl rfl
theorem w5_33 {ls st : List xV} {M : xM} {Q : Option xV → xM → Prop}  : Wp 5 33 (ls) (st) (M) Q = Wp 5 34 (ls) (xi 1 :: st) (M) Q := wp_const rfl
theorem w5_34 {ls : List xV} {M : xM} {Q : Option xV → xM → Prop} {a : Int} (ha : a = 0 ∨ a = 1) : Wp 5 34 (ls) ([xi a]) (M) Q = Q (some (xi a)) M := wp_zret rfl ha
theorem wc6 {M : xM} {Q : Option xV → xM → Prop} {d0 : Nat} : Wc 6 [xr d0] M Q = Wp 6 0 [xr d0] [] M Q := rfl
theorem w6_0 {ls st : List xV} {M : xM} {Q : Option xV → xM → Prop} {d : Nat} : Wp 6 0 (xr d :: ls) (st) (M) Q = Wp 6 1 (xr d :: ls) (xr d :: st) (M) Q := wp_aload rfl rfl
theorem w6_1 {ls st : List xV} {M : xM} {Q : Option xV → xM → Prop}  : Wp 6 1 (ls) (st) (M) Q = Wp 6 3 (ls) (xi 12 :: st) (M) Q := wp_const rfl
theorem w6_3 {ls st : List xV} {M : xM} {Q : Option xV → xM → Prop} {a : Int} {d : Nat} (hc : x_c d = 3) : Wp 6 3 (ls) (xi a :: xr d :: st) (M) Q = Wp 6 6 (ls) (st) (xup M d 0 a) Q := wp_putf rfl hc
theorem w6_6 {ls st : List xV} {M : xM} {Q : Option xV → xM → Prop} {d : Nat} : Wp 6 6 (xr d :: ls) (st) (M) Q = Wp 6 7 (xr d :: ls) (xr d :: st) (M) Q := wp_aload rfl rfl
theorem w6_7 {ls st : List xV} {M : xM} {Q : Option xV → xM → Prop}  : Wp 6 7 (ls) (st) (M) Q = Wp 6 8 (ls) (xi 0 :: st) (M) Q := wp_const rfl
theorem w6_8 {ls st : List xV} {M : xM} {Q : Option xV → xM → Prop} {a : Int} {d : Nat} (hc : x_c d = 3) : Wp 6 8 (ls) (xi a :: xr d :: st) (M) Q = Wp 6 11 (ls) (st) (xup M d 1 a) Q := wp_putf rfl hc
theorem w6_11 {ls st : List xV} {M : xM} {Q : Option xV → xM → Prop} {d : Nat} : Wp 6 11 (xr d :: ls) (st) (M) Q = Wp 6 12 (xr d :: ls) (xr d :: st) (M) Q := wp_aload rfl rfl
theorem w6_12 {ls st : List xV} {M : xM} {Q : Option xV → xM → Prop}  : Wp 6 12 (ls) (st) (M) Q = Wp 6 13 (ls) (xi 0 :: st) (M) Q := wp_const rfl
theorem w6_13 {ls st : List xV} {M : xM} {Q : Option xV → xM → Prop} {a : Int} {d : Nat} (hc : x_c d = 3) : Wp 6 13 (ls) (xi a :: xr d :: st) (M) Q = Wp 6 16 (ls) (st) (xup M d 2 a) Q := wp_putf rfl hc
theorem w6_16 {ls st : List xV} {M : xM} {Q : Option xV → xM → Prop} {d : Nat} : Wp 6 16 (xr d :: ls) (st) (M) Q = Wp 6 17 (xr d :: ls) (xr d :: st) (M) Q := wp_aload rfl rfl
theorem w6_17 {ls st : List xV} {M : xM} {Q : Option xV → xM → Prop}  : Wp 6 17 (ls) (st) (M) Q = Wp 6 18 (ls) (xi 0 :: st) (M) Q := wp_const rfl
theorem w6_18 {ls st : List xV} {M : xM} {Q : Option xV → xM → Prop} {a : Int} {d : Nat} (hc : x_c d = 3) : Wp 6 18 (ls) (xi a :: xr d :: st) (M) Q = Wp 6 21 (ls) (st) (xup M d 3 a) Q := wp_putf rfl hc
theorem w6_21 {ls st : List xV} {M : xM} {Q : Option xV → xM → Prop} {d : Nat} : Wp 6 21 (xr d :: ls) (st) (M) Q = Wp 6 22 (xr d :: ls) (xr d :: st) (M) Q := wp_aload rfl rfl
theorem w6_22 {ls st : List xV} {M : xM} {Q : Option xV → xM → Prop}  : Wp 6 22 (ls) (st) (M) Q = Wp 6 23 (ls) (xi 0 :: st) (M) Q := wp_const rfl
theorem w6_23 {ls st : List xV} {M : xM} {Q : Option xV → xM → Prop} {a : Int} {d : Nat} (hc : x_c d = 3) : Wp 6 23 (ls) (xi a :: xr d :: st) (M) Q = Wp 6 26 (ls) (st) (xup M d 4 a) Q := wp_putf rfl hc
theorem w6_26 {ls st : List xV} {M : xM} {Q : Option xV → xM → Prop} {d : Nat} : Wp 6 26 (xr d :: ls) (st) (M) Q = Wp 6 27 (xr d :: ls) (xr d :: st) (M) Q := wp_aload rfl rfl
theorem w6_27 {ls st : List xV} {M : xM} {Q : Option xV → xM → Prop} {d : Nat} (hc : x_c d = 3) : Wp 6 27 (ls) (xr d :: st) (M) Q = Wp 6 30 (ls) (xr (x_r d 8) :: st) (M) Q := wp_getr rfl hc
theorem w6_30 {ls st : List xV} {M : xM} {Q : Option xV → xM → Prop}  : Wp 6 30 (ls) (st) (M) Q = Wp 6 31 (ls) (xi 0 :: st) (M) Q := wp_const rfl
theorem w6_31 {ls st : List xV} {M : xM} {Q : Option xV → xM → Prop} {a : Int} {d : Nat} (hc : x_c d = 6) : Wp 6 31 (ls) (xi a :: xr d :: st) (M) Q = Wp 6 34 (ls) (st) (xup M d 1 a) Q := wp_putf rfl hc
theorem w6_34 {ls st : List xV} {M : xM} {Q : Option xV → xM → Prop} {d : Nat} : Wp 6 34 (xr d :: ls) (st) (M) Q = Wp 6 35 (xr d :: ls) (xr d :: st) (M) Q := wp_aload rfl rfl
theorem w6_35 {ls st : List xV} {M : xM} {Q : Option xV → xM → Prop} {d : Nat} (hc : x_c d = 3) : Wp 6 35 (ls) (xr d :: st) (M) Q = Wp 6 38 (ls) (xr (x_r d 8) :: st) (M) Q := wp_getr rfl hc
theorem w6_38 {ls st : List xV} {M : xM} {Q : Option xV → xM → Prop}  : Wp 6 38 (ls) (st) (M) Q = Wp 6 39 (ls) (xi 0 :: st) (M) Q := wp_const rfl
theorem w6_39 {ls st : List xV} {M : xM} {Q : Option xV → xM → Prop} {a : Int} {d : Nat} (hc : x_c d = 6) : Wp 6 39 (ls) (xi a :: xr d :: st) (M) Q = Wp 6 42 (ls) (st) (xup M d 2 a) Q := wp_putf rfl hc
theorem w6_42 {ls : List xV} {M : xM} {Q : Option xV → xM → Prop}  : Wp 6 42 (ls) ([]) (M) Q = Q none M := wp_vret rfl
theorem wc7 {M : xM} {Q : Option xV → xM → Prop} {d0 : Nat} {a1 : Int} : Wc 7 [xr d0, xi a1] M Q = Wp 7 0 [xr d0, xi a1] [] M Q := rfl
theorem w7_0 {ls st : List xV} {M : xM} {Q : Option xV → xM → Prop} {a : Int} {v0 : xV} : Wp 7 0 (v0 :: xi a :: ls) (st) (M) Q = Wp 7 1 (v0 :: xi a :: ls) (xi a :: st) (M) Q := wp_iload rfl rfl
theorem w7_1 {ls st : List xV} {M : xM} {Q : Option xV → xM → Prop} {a : Int} (ha : xG a) : Wp 7 1 (ls) (xi a :: st) (M) Q = ((a < 0 → Wp 7 16 (ls) (st) (M) Q) ∧ (¬ (a < 0) → Wp 7 4 (ls) (st) (M) Q)) := wp_if_lt rfl ha
theorem w7_4 {ls st : List xV} {M : xM} {Q : Option xV → xM → Prop} {a : Int} {v0 : xV} : Wp 7 4 (v0 :: xi a :: ls) (st) (M) Q = Wp 7 5 (v0 :: xi a :: ls) (xi a :: st) (M) Q := wp_iload rfl rfl
theorem w7_5 {ls st : List xV} {M : xM} {Q : Option xV → xM → Prop} {d : Nat} : Wp 7 5 (xr d :: ls) (st) (M) Q = Wp 7 6 (xr d :: ls) (xr d :: st) (M) Q := wp_aload rfl rfl
theorem w7_6 {ls st : List xV} {M : xM} {Q : Option xV → xM → Prop} {d : Nat} (hc : x_c d = 3) : Wp 7 6 (ls) (xr d :: st) (M) Q = Wp 7 9 (ls) (xi (M d 0) :: st) (M) Q := wp_getf rfl hc
theorem w7_9 {ls st : List xV} {M : xM} {Q : Option xV → xM → Prop} {a : Int} {b : Int} (ha : xG a) (hb : xG b) : Wp 7 9 (ls) (xi b :: xi a :: st) (M) Q = ((b ≤ a → Wp 7 16 (ls) (st) (M) Q) ∧ (¬ (b ≤ a) → Wp 7 12 (ls) (st) (M) Q)) := wp_cmp_ge rfl ha hb
theorem w7_12 {ls st : List xV} {M : xM} {Q : Option xV → xM → Prop}  : Wp 7 12 (ls) (st) (M) Q = Wp 7 13 (ls) (xi 1 :: st) (M) Q := wp_const rfl
theorem w7_13 {ls st : List xV} {M : xM} {Q : Option xV → xM → Prop}  : Wp 7 13 (ls) (st) (M) Q = Wp 7 17 (ls) (st) (M) Q := wp_goto rfl
theorem w7_16 {ls st : List xV} {M : xM} {Q : Option xV → xM → Prop}  : Wp 7 16 (ls) (st) (M) Q = Wp 7 17 (ls) (xi 0 :: st) (M) Q := wp_const rfl
theorem w7_17 {ls : List xV} {M : xM} {Q : Option xV → xM → Prop} {a : Int} (ha : a = 0 ∨ a = 1) : Wp 7 17 (ls) ([xi a]) (M) Q = Q (some (xi a)) M := wp_zret rfl ha
theorem wc8 {M : xM} {Q : Option xV → xM → Prop} {d0 : Nat} {a1 : Int} : Wc 8 [xr d0, xi a1] M Q = Wp 8 0 [xr d0, xi a1] [] M Q := rfl
theorem w8_0 {ls st : List xV} {M : xM} {Q : Option xV → xM → Prop} {a : Int} {v0 : xV} : Wp 8 0 (v0 :: xi a :: ls) (st) (M) Q = Wp 8 1 (v0 :: xi a :: ls) (xi a :: st) (M) Q := wp_iload rfl rfl
theorem w8_1 {ls st : List xV} {M : xM} {Q : Option xV → xM → Prop} {a : Int} (ha : xG a) : Wp 8 1 (ls) (xi a :: st) (M) Q = ((a < 0 → Wp 8 16 (ls) (st) (M) Q) ∧ (¬ (a < 0) → Wp 8 4 (ls) (st) (M) Q)) := wp_if_lt rfl ha
theorem w8_4 {ls st : List xV} {M : xM} {Q : Option xV → xM → Prop} {a : Int} {v0 : xV} : Wp 8 4 (v0 :: xi a :: ls) (st) (M) Q = Wp 8 5 (v0 :: xi a :: ls) (xi a :: st) (M) Q := wp_iload rfl rfl
theorem w8_5 {ls st : List xV} {M : xM} {Q : Option xV → xM → Prop} {d : Nat} : Wp 8 5 (xr d :: ls) (st) (M) Q = Wp 8 6 (xr d :: ls) (xr d :: st) (M) Q := wp_aload rfl rfl
theorem w8_6 {ls st : List xV} {M : xM} {Q : Option xV → xM → Prop} {d : Nat} (hc : x_c d = 3) : Wp 8 6 (ls) (xr d :: st) (M) Q = Wp 8 9 (ls) (xi (M d 1) :: st) (M) Q := wp_getf rfl hc
theorem w8_9 {ls st : List xV} {M : xM} {Q : Option xV → xM → Prop} {a : Int} {b : Int} (ha : xG a) (hb : xG b) : Wp 8 9 (ls) (xi b :: xi a :: st) (M) Q = ((b ≤ a → Wp 8 16 (ls) (st) (M) Q) ∧ (¬ (b ≤ a) → Wp 8 12 (ls) (st) (M) Q)) := wp_cmp_ge rfl ha hb
theorem w8_12 {ls st : List xV} {M : xM} {Q : Option xV → xM → Prop}  : Wp 8 12 (ls) (st) (M) Q = Wp 8 13 (ls) (xi 1 :: st) (M) Q := wp_const rfl
theorem w8_13 {ls st : List xV} {M : xM} {Q : Option xV → xM → Prop}  : Wp 8 13 (ls) (st) (M) Q = Wp 8 17 (ls) (st) (M) Q := wp_goto rfl
theorem w8_16 {ls st : List xV} {M : xM} {Q : Option xV → xM → Prop}  : Wp 8 16 (ls) (st) (M) Q = Wp 8 17 (ls) (xi 0 :: st) (M) Q := wp_const rfl
theorem w8_17 {ls : List xV} {M : xM} {Q : Option xV → xM → Prop} {a : Int} (ha : a = 0 ∨ a = 1) : Wp 8 17 (ls) ([xi a]) (M) Q = Q (some (xi a)) M := wp_zret rfl ha
theorem wc9 {M : xM} {Q : Option xV → xM → Prop} {d0 : Nat} {a1 : Int} : Wc 9 [xr d0, xi a1] M Q = Wp 9 0 [xr d0, xi a1] [] M Q := rfl
theorem w9_0 {ls st : List xV} {M : xM} {Q : Option xV → xM → Prop} {a : Int} {v0 : xV} : Wp 9 0 (v0 :: xi a :: ls) (st) (M) Q = Wp 9 1 (v0 :: xi a :: ls) (xi a :: st) (M) Q := wp_iload rfl rfl
theorem w9_1 {ls st : List xV} {M : xM} {Q : Option xV → xM → Prop} {a : Int} (ha : xG a) : Wp 9 1 (ls) (xi a :: st) (M) Q = ((a < 0 → Wp 9 16 (ls) (st) (M) Q) ∧ (¬ (a < 0) → Wp 9 4 (ls) (st) (M) Q)) := wp_if_lt rfl ha
theorem w9_4 {ls st : List xV} {M : xM} {Q : Option xV → xM → Prop} {a : Int} {v0 : xV} : Wp 9 4 (v0 :: xi a :: ls) (st) (M) Q = Wp 9 5 (v0 :: xi a :: ls) (xi a :: st) (M) Q := wp_iload rfl rfl
theorem w9_5 {ls st : List xV} {M : xM} {Q : Option xV → xM → Prop} {d : Nat} : Wp 9 5 (xr d :: ls) (st) (M) Q = Wp 9 6 (xr d :: ls) (xr d :: st) (M) Q := wp_aload rfl rfl
theorem w9_6 {ls st : List xV} {M : xM} {Q : Option xV → xM → Prop} {d : Nat} (hc : x_c d = 3) : Wp 9 6 (ls) (xr d :: st) (M) Q = Wp 9 9 (ls) (xi (M d 2) :: st) (M) Q := wp_getf rfl hc
theorem w9_9 {ls st : List xV} {M : xM} {Q : Option xV → xM → Prop} {a : Int} {b : Int} (ha : xG a) (hb : xG b) : Wp 9 9 (ls) (xi b :: xi a :: st) (M) Q = ((b ≤ a → Wp 9 16 (ls) (st) (M) Q) ∧ (¬ (b ≤ a) → Wp 9 12 (ls) (st) (M) Q)) := wp_cmp_ge rfl ha hb
theorem w9_12 {ls st : List xV} {M : xM} {Q : Option xV → xM → Prop}  : Wp 9 12 (ls) (st) (M) Q = Wp 9 13 (ls) (xi 1 :: st) (M) Q := wp_const rfl
theorem w9_13 {ls st : List xV} {M : xM} {Q : Option xV → xM → Prop}  : Wp 9 13 (ls) (st) (M) Q = Wp 9 17 (ls) (st) (M) Q := wp_goto rfl
theorem w9_16 {ls st : List xV} {M : xM} {Q : Option xV → xM → Prop}  : Wp 9 16 (ls) (st) (M) Q = Wp 9 17 (ls) (xi 0 :: st) (M) Q := wp_const rfl
theorem w9_17 {ls : List xV} {M : xM} {Q : Option xV → xM → Prop} {a : Int} (ha : a = 0 ∨ a = 1) : Wp 9 17 (ls) ([xi a]) (M) Q = Q (some (xi a)) M := wp_zret rfl ha
theorem wc10 {M : xM} {Q : Option xV → xM → Prop} {d0 : Nat} {a1 : Int} : Wc 10 [xr d0, xi a1] M Q = Wp 10 0 [xr d0, xi a1, xj, xj] [] M Q := rfl
theorem w10_0 {ls st : List xV} {M : xM} {Q : Option xV → xM → Prop}  : Wp 10 0 (ls) (st) (M) Q = Wp 10 1 (ls) (xi 0 :: st) (M) Q := wp_const rfl
theorem w10_1 {ls st : List xV} {M : xM} {Q : Option xV → xM → Prop} {a : Int} {v0 : xV} {v1 : xV} {w : xV} : Wp 10 1 (v0 :: v1 :: w :: ls) (xi a :: st) (M) Q = Wp 10 2 (v0 :: xjl v1 :: xi a :: ls) (st) (M) Q := wp_istore rfl rfl
theorem w10_2 {ls st : List xV} {M : xM} {Q : Option xV → xM → Prop}  : Wp 10 2 (ls) (st) (M) Q = Wp 10 3 (ls) (xi 0 :: st) (M) Q := wp_const rfl
theorem w10_3 {ls st : List xV} {M : xM} {Q : Option xV → xM → Prop} {a : Int} {v0 : xV} {v1 : xV} {v2 : xV} {w : xV} : Wp 10 3 (v0 :: v1 :: v2 :: w :: ls) (xi a :: st) (M) Q = Wp 10 4 (v0 :: v1 :: xjl v2 :: xi a :: ls) (st) (M) Q := wp_istore rfl rfl
theorem w10_4 {ls st : List xV} {M : xM} {Q : Option xV → xM → Prop} {a : Int} {v0 : xV} {v1 : xV} {v2 : xV} : Wp 10 4 (v0 :: v1 :: v2 :: xi a :: ls) (st) (M) Q = Wp 10 5 (v0 :: v1 :: v2 :: xi a :: ls) (xi a :: st) (M) Q := wp_iload rfl rfl
theorem w10_5 {ls st : List xV} {M : xM} {Q : Option xV → xM → Prop} {d : Nat} : Wp 10 5 (xr d :: ls) (st) (M) Q = Wp 10 6 (xr d :: ls) (xr d :: st) (M) Q := wp_aload rfl rfl
theorem w10_6 {ls st : List xV} {M : xM} {Q : Option xV → xM → Prop} {d : Nat} (hc : x_c d = 3) : Wp 10 6 (ls) (xr d :: st) (M) Q = Wp 10 9 (ls) (xi (M d 2) :: st) (M) Q := wp_getf rfl hc
theorem w10_9 {ls st : List xV} {M : xM} {Q : Option xV → xM → Prop} {a : Int} {b : Int} (ha : xG a) (hb : xG b) : Wp 10 9 (ls) (xi b :: xi a :: st) (M) Q = ((b ≤ a → Wp 10 31 (ls) (st) (M) Q) ∧ (¬ (b ≤ a) → Wp 10 12 (ls) (st) (M) Q)) := wp_cmp_ge rfl ha hb
theorem w10_12 {ls st : List xV} {M : xM} {Q : Option xV → xM → Prop} {d : Nat} : Wp 10 12 (xr d :: ls) (st) (M) Q = Wp 10 13 (xr d :: ls) (xr d :: st) (M) Q := wp_aload rfl rfl
theorem w10_13 {ls st : List xV} {M : xM} {Q : Option xV → xM → Prop} {d : Nat} (hc : x_c d = 3) : Wp 10 13 (ls) (xr d :: st) (M) Q = Wp 10 16 (ls) (xr (x_r d 7) :: st) (M) Q := wp_getr rfl hc
theorem w10_16 {ls st : List xV} {M : xM} {Q : Option xV → xM → Prop} {a : Int} {v0 : xV} {v1 : xV} {v2 : xV} : Wp 10 16 (v0 :: v1 :: v2 :: xi a :: ls) (st) (M) Q = Wp 10 17 (v0 :: v1 :: v2 :: xi a :: ls) (xi a :: st) (M) Q := wp_iload rfl rfl
theorem w10_17 {ls st : List xV} {M : xM} {Q : Option xV → xM → Prop} {a : Int} {d : Nat} (hc : x_c d = 20) (hn : x_n d = 5) (h1 : 0 ≤ a) (h2 : a < 5) : Wp 10 17 (ls) (xi a :: xr d :: st) (M) Q = Wp 10 18 (ls) (xi (M d a) :: st) (M) Q := wp_ald rfl hc h1 (by rw [hn]; exact h2)
theorem w10_18 {ls st : List xV} {M : xM} {Q : Option xV → xM → Prop} {a : Int} {v0 : xV} : Wp 10 18 (v0 :: xi a :: ls) (st) (M) Q = Wp 10 19 (v0 :: xi a :: ls) (xi a :: st) (M) Q := wp_iload rfl rfl
theorem w10_19 {ls st : List xV} {M : xM} {Q : Option xV → xM → Prop} {a : Int} {b : Int} (ha : xG a) (hb : xG b) : Wp 10 19 (ls) (xi b :: xi a :: st) (M) Q = ((¬ a = b → Wp 10 25 (ls) (st) (M) Q) ∧ (¬ (¬ a = b) → Wp 10 22 (ls) (st) (M) Q)) := wp_cmp_ne rfl ha hb
theorem w10_22 {ls st : List xV} {M : xM} {Q : Option xV → xM → Prop} {a : Int} {v0 : xV} {v1 : xV} : Wp 10 22 (v0 :: v1 :: xi a :: ls) (st) (M) Q = Wp 10 25 (v0 :: xjl v1 :: xi (a + 1) :: ls) (st) (M) Q := wp_iinc rfl rfl rfl
theorem w10_25 {ls st : List xV} {M : xM} {Q : Option xV → xM → Prop} {a : Int} {v0 : xV} {v1 : xV} {v2 : xV} : Wp 10 25 (v0 :: v1 :: v2 :: xi a :: ls) (st) (M) Q = Wp 10 28 (v0 :: v1 :: xjl v2 :: xi (a + 1) :: ls) (st) (M) Q := wp_iinc rfl rfl rfl
theorem w10_28 {ls st : List xV} {M : xM} {Q : Option xV → xM → Prop}  : Wp 10 28 (ls) (st) (M) Q = Wp 10 4 (ls) (st) (M) Q := wp_goto rfl
theorem w10_31 {ls st : List xV} {M : xM} {Q : Option xV → xM → Prop} {a : Int} {v0 : xV} {v1 : xV} : Wp 10 31 (v0 :: v1 :: xi a :: ls) (st) (M) Q = Wp 10 32 (v0 :: v1 :: xi a :: ls) (xi a :: st) (M) Q := wp_iload rfl rfl
theorem w10_32 {ls : List xV} {M : xM} {Q : Option xV → xM → Prop} {a : Int} : Wp 10 32 (ls) ([xi a]) (M) Q = Q (some (xi a)) M := wp_iret rfl
theorem wc11 {M : xM} {Q : Option xV → xM → Prop} {d0 : Nat} {a1 : Int} : Wc 11 [xr d0, xi a1] M Q = Wp 11 0 [xr d0, xi a1, xj] [] M Q := rfl
theorem w11_0 {ls st : List xV} {M : xM} {Q : Option xV → xM → Prop}  : Wp 11 0 (ls) (st) (M) Q = Wp 11 1 (ls) (xi 0 :: st) (M) Q := wp_const rfl
theorem w11_1 {ls st : List xV} {M : xM} {Q : Option xV → xM → Prop} {a : Int} {v0 : xV} {v1 : xV} {w : xV} : Wp 11 1 (v0 :: v1 :: w :: ls) (xi a :: st) (M) Q = Wp 11 2 (v0 :: xjl v1 :: xi a :: ls) (st) (M) Q := wp_istore rfl rfl
theorem w11_2 {ls st : List xV} {M : xM} {Q : Option xV → xM → Prop} {a : Int} {v0 : xV} {v1 : xV} : Wp 11 2 (v0 :: v1 :: xi a :: ls) (st) (M) Q = Wp 11 3 (v0 :: v1 :: xi a :: ls) (xi a :: st) (M) Q := wp_iload rfl rfl
theorem w11_3 {ls st : List xV} {M : xM} {Q : Option xV → xM → Prop} {d : Nat} : Wp 11 3 (xr d :: ls) (st) (M) Q = Wp 11 4 (xr d :: ls) (xr d :: st) (M) Q := wp_aload rfl rfl
theorem w11_4 {ls st : List xV} {M : xM} {Q : Option xV → xM → Prop} {d : Nat} (hc : x_c d = 3) : Wp 11 4 (ls) (xr d :: st) (M) Q = Wp 11 7 (ls) (xi (M d 1) :: st) (M) Q := wp_getf rfl hc
theorem w11_7 {ls st : List xV} {M : xM} {Q : Option xV → xM → Prop} {a : Int} {b : Int} (ha : xG a) (hb : xG b) : Wp 11 7 (ls) (xi b :: xi a :: st) (M) Q = ((b ≤ a → Wp 11 28 (ls) (st) (M) Q) ∧ (¬ (b ≤ a) → Wp 11 10 (ls) (st) (M) Q)) := wp_cmp_ge rfl ha hb
theorem w11_10 {ls st : List xV} {M : xM} {Q : Option xV → xM → Prop} {d : Nat} : Wp 11 10 (xr d :: ls) (st) (M) Q = Wp 11 11 (xr d :: ls) (xr d :: st) (M) Q := wp_aload rfl rfl
theorem w11_11 {ls st : List xV} {M : xM} {Q : Option xV → xM → Prop} {d : Nat} (hc : x_c d = 3) : Wp 11 11 (ls) (xr d :: st) (M) Q = Wp 11 14 (ls) (xr (x_r d 5) :: st) (M) Q := wp_getr rfl hc
theorem w11_14 {ls st : List xV} {M : xM} {Q : Option xV → xM → Prop} {a : Int} {v0 : xV} {v1 : xV} : Wp 11 14 (v0 :: v1 :: xi a :: ls) (st) (M) Q = Wp 11 15 (v0 :: v1 :: xi a :: ls) (xi a :: st) (M) Q := wp_iload rfl rfl
theorem w11_15 {ls st : List xV} {M : xM} {Q : Option xV → xM → Prop} {a : Int} {d : Nat} (hc : x_c d = 20) (hn : x_n d = 5) (h1 : 0 ≤ a) (h2 : a < 5) : Wp 11 15 (ls) (xi a :: xr d :: st) (M) Q = Wp 11 16 (ls) (xi (M d a) :: st) (M) Q := wp_ald rfl hc h1 (by rw [hn]; exact h2)
theorem w11_16 {ls st : List xV} {M : xM} {Q : Option xV → xM → Prop} {a : Int} {v0 : xV} : Wp 11 16 (v0 :: xi a :: ls) (st) (M) Q = Wp 11 17 (v0 :: xi a :: ls) (xi a :: st) (M) Q := wp_iload rfl rfl
theorem w11_17 {ls st : List xV} {M : xM} {Q : Option xV → xM → Prop} {a : Int} {b : Int} (ha : xG a) (hb : xG b) : Wp 11 17 (ls) (xi b :: xi a :: st) (M) Q = ((¬ a = b → Wp 11 22 (ls) (st) (M) Q) ∧ (¬ (¬ a = b) → Wp 11 20 (ls) (st) (M) Q)) := wp_cmp_ne rfl ha hb
theorem w11_20 {ls st : List xV} {M : xM} {Q : Option xV → xM → Prop}  : Wp 11 20 (ls) (st) (M) Q = Wp 11 21 (ls) (xi 1 :: st) (M) Q := wp_const rfl
theorem w11_21 {ls : List xV} {M : xM} {Q : Option xV → xM → Prop} {a : Int} (ha : a = 0 ∨ a = 1) : Wp 11 21 (ls) ([xi a]) (M) Q = Q (some (xi a)) M := wp_zret rfl ha
theorem w11_22 {ls st : List xV} {M : xM} {Q : Option xV → xM → Prop} {a : Int} {v0 : xV} {v1 : xV} : Wp 11 22 (v0 :: v1 :: xi a :: ls) (st) (M) Q = Wp 11 25 (v0 :: xjl v1 :: xi (a + 1) :: ls) (st) (M) Q := wp_iinc rfl rfl rfl
theorem w11_25 {ls st : List xV} {M : xM} {Q : Option xV → xM → Prop}  : Wp 11 25 (ls) (st) (M) Q = Wp 11 2 (ls) (st) (M) Q := wp_goto rfl
theorem w11_28 {ls st : List xV} {M : xM} {Q : Option xV → xM → Prop}  : Wp 11 28 (ls) (st) (M) Q = Wp 11 29 (ls) (xi 0 :: st) (M) Q := wp_const rfl
theorem w11_29 {ls : List xV} {M : xM} {Q : Option xV → xM → Prop} {a : Int} (ha : a = 0 ∨ a = 1) : Wp 11 29 (ls) ([xi a]) (M) Q = Q (some (xi a)) M := wp_zret rfl ha
theorem wc12 {M : xM} {Q : Option xV → xM → Prop} {d0 : Nat} {a1 : Int} : Wc 12 [xr d0, xi a1] M Q = Wp 12 0 [xr d0, xi a1] [] M Q := rfl
theorem w12_0 {ls st : List xV} {M : xM} {Q : Option xV → xM → Prop} {a : Int} {v0 : xV} : Wp 12 0 (v0 :: xi a :: ls) (st) (M) Q = Wp 12 1 (v0 :: xi a :: ls) (xi a :: st) (M) Q := wp_iload rfl rfl
theorem w12_1 {ls st : List xV} {M : xM} {Q : Option xV → xM → Prop}  : Wp 12 1 (ls) (st) (M) Q = Wp 12 2 (ls) (xi 4 :: st) (M) Q := wp_const rfl
theorem w12_2 {ls st : List xV} {M : xM} {Q : Option xV → xM → Prop} {a : Int} {b : Int} (ha : xG a) (hb : xG b) : Wp 12 2 (ls) (xi b :: xi a :: st) (M) Q = ((a < b → Wp 12 11 (ls) (st) (M) Q) ∧ (¬ (a < b) → Wp 12 5 (ls) (st) (M) Q)) := wp_cmp_lt rfl ha hb
theorem w12_5 {ls st : List xV} {M : xM} {Q : Option xV → xM → Prop} {a : Int} {v0 : xV} : Wp 12 5 (v0 :: xi a :: ls) (st) (M) Q = Wp 12 6 (v0 :: xi a :: ls) (xi a :: st) (M) Q := wp_iload rfl rfl
theorem w12_6 {ls st : List xV} {M : xM} {Q : Option xV → xM → Prop}  : Wp 12 6 (ls) (st) (M) Q = Wp 12 8 (ls) (xi 24 :: st) (M) Q := wp_const rfl
theorem w12_8 {ls st : List xV} {M : xM} {Q : Option xV → xM → Prop} {a : Int} {b : Int} (ha : xG a) (hb : xG b) : Wp 12 8 (ls) (xi b :: xi a :: st) (M) Q = ((a ≤ b → Wp 12 13 (ls) (st) (M) Q) ∧ (¬ (a ≤ b) → Wp 12 11 (ls) (st) (M) Q)) := wp_cmp_le rfl ha hb
theorem w12_11 {ls st : List xV} {M : xM} {Q : Option xV → xM → Prop}  : Wp 12 11 (ls) (st) (M) Q = Wp 12 12 (ls) (xi 0 :: st) (M) Q := wp_const rfl
theorem w12_12 {ls : List xV} {M : xM} {Q : Option xV → xM → Prop} {a : Int} (ha : a = 0 ∨ a = 1) : Wp 12 12 (ls) ([xi a]) (M) Q = Q (some (xi a)) M := wp_zret rfl ha
theorem w12_13 {ls st : List xV} {M : xM} {Q : Option xV → xM → Prop} {d : Nat} : Wp 12 13 (xr d :: ls) (st) (M) Q = Wp 12 14 (xr d :: ls) (xr d :: st) (M) Q := wp_aload rfl rfl
theorem w12_14 {ls st : List xV} {M : xM} {Q : Option xV → xM → Prop} {a : Int} {v0 : xV} : Wp 12 14 (v0 :: xi a :: ls) (st) (M) Q = Wp 12 15 (v0 :: xi a :: ls) (xi a :: st) (M) Q := wp_iload rfl rfl
theorem w12_15 {ls st : List xV} {M : xM} {Q : Option xV → xM → Prop} {a : Int} {d : Nat} (hc : x_c d = 3) : Wp 12 15 (ls) (xi a :: xr d :: st) (M) Q = Wp 12 18 (ls) (st) (xup M d 0 a) Q := wp_putf rfl hc
theorem w12_18 {ls st : List xV} {M : xM} {Q : Option xV → xM → Prop}  : Wp 12 18 (ls) (st) (M) Q = Wp 12 19 (ls) (xi 1 :: st) (M) Q := wp_const rfl
theorem w12_19 {ls : List xV} {M : xM} {Q : Option xV → xM → Prop} {a : Int} (ha : a = 0 ∨ a = 1) : Wp 12 19 (ls) ([xi a]) (M) Q = Q (some (xi a)) M := wp_zret rfl ha
theorem wc13 {M : xM} {Q : Option xV → xM → Prop} {d0 : Nat} {a1 : Int} : Wc 13 [xr d0, xi a1] M Q = Wp 13 0 [xr d0, xi a1] [] M Q := rfl
theorem w13_0 {ls st : List xV} {M : xM} {Q : Option xV → xM → Prop} {d : Nat} : Wp 13 0 (xr d :: ls) (st) (M) Q = Wp 13 1 (xr d :: ls) (xr d :: st) (M) Q := wp_aload rfl rfl
theorem w13_1 {ls st : List xV} {M : xM} {Q : Option xV → xM → Prop} {d : Nat} (hc : x_c d = 3) : Wp 13 1 (ls) (xr d :: st) (M) Q = Wp 13 4 (ls) (xi (M d 1) :: st) (M) Q := wp_getf rfl hc
theorem w13_4 {ls st : List xV} {M : xM} {Q : Option xV → xM → Prop}  : Wp 13 4 (ls) (st) (M) Q = Wp 13 5 (ls) (xi 5 :: st) (M) Q := wp_const rfl
theorem w13_5 {ls st : List xV} {M : xM} {Q : Option xV → xM → Prop} {a : Int} {b : Int} (ha : xG a) (hb : xG b) : Wp 13 5 (ls) (xi b :: xi a :: st) (M) Q = ((b ≤ a → Wp 13 16 (ls) (st) (M) Q) ∧ (¬ (b ≤ a) → Wp 13 8 (ls) (st) (M) Q)) := wp_cmp_ge rfl ha hb
theorem w13_8 {ls st : List xV} {M : xM} {Q : Option xV → xM → Prop} {d : Nat} : Wp 13 8 (xr d :: ls) (st) (M) Q = Wp 13 9 (xr d :: ls) (xr d :: st) (M) Q := wp_aload rfl rfl
theorem w13_9 {ls st : List xV} {M : xM} {Q : Option xV → xM → Prop} {a : Int} {v0 : xV} : Wp 13 9 (v0 :: xi a :: ls) (st) (M) Q = Wp 13 10 (v0 :: xi a :: ls) (xi a :: st) (M) Q := wp_iload rfl rfl
theorem w13_10 {ls : List xV} {M : xM} {Q : Option xV → xM → Prop} {a1 : Int} {d0 : Nat} (hc : x_c d0 = 3) : Wp 13 10 (ls) (xi a1 :: xr d0 :: []) (M) Q = Wc 7 [xr d0, xi a1] M (fun r M2 => Wp 13 13 (ls) (r.toList ++ ([])) M2 Q) := wp_cV rfl rfl hc (Nat.le_of_ble_eq_true rfl) (Nat.le_of_ble_eq_true rfl) rfl rfl
theorem w13_13 {ls st : List xV} {M : xM} {Q : Option xV → xM → Prop} {a : Int} (ha : xG a) : Wp 13 13 (ls) (xi a :: st) (M) Q = ((¬ a = 0 → Wp 13 18 (ls) (st) (M) Q) ∧ (¬ (¬ a = 0) → Wp 13 16 (ls) (st) (M) Q)) := wp_if_ne rfl ha
theorem w13_16 {ls st : List xV} {M : xM} {Q : Option xV → xM → Prop}  : Wp 13 16 (ls) (st) (M) Q = Wp 13 17 (ls) (xi 0 :: st) (M) Q := wp_const rfl
theorem w13_17 {ls : List xV} {M : xM} {Q : Option xV → xM → Prop} {a : Int} (ha : a = 0 ∨ a = 1) : Wp 13 17 (ls) ([xi a]) (M) Q = Q (some (xi a)) M := wp_zret rfl ha
theorem w13_18 {ls st : List xV} {M : xM} {Q : Option xV → xM → Prop} {d : Nat} : Wp 13 18 (xr d :: ls) (st) (M) Q = Wp 13 19 (xr d :: ls) (xr d :: st) (M) Q := wp_aload rfl rfl
theorem w13_19 {ls st : List xV} {M : xM} {Q : Option xV → xM → Prop} {d : Nat} (hc : x_c d = 3) : Wp 13 19 (ls) (xr d :: st) (M) Q = Wp 13 22 (ls) (xr (x_r d 5) :: st) (M) Q := wp_getr rfl hc
theorem w13_22 {ls st : List xV} {M : xM} {Q : Option xV → xM → Prop} {d : Nat} : Wp 13 22 (xr d :: ls) (st) (M) Q = Wp 13 23 (xr d :: ls) (xr d :: st) (M) Q := wp_aload rfl rfl
theorem w13_23 {ls st : List xV} {M : xM} {Q : Option xV → xM → Prop} {d : Nat} (hc : x_c d = 3) : Wp 13 23 (ls) (xr d :: st) (M) Q = Wp 13 26 (ls) (xi (M d 1) :: st) (M) Q := wp_getf rfl hc
theorem w13_26 {ls st : List xV} {M : xM} {Q : Option xV → xM → Prop} {a : Int} {v0 : xV} : Wp 13 26 (v0 :: xi a :: ls) (st) (M) Q = Wp 13 27 (v0 :: xi a :: ls) (xi a :: st) (M) Q := wp_iload rfl rfl
theorem w13_27 {ls st : List xV} {M : xM} {Q : Option xV → xM → Prop} {a : Int} {d : Nat} {x : Int} (hc : x_c d = 20) (hn : x_n d = 5) (h1 : 0 ≤ a) (h2 : a < 5) : Wp 13 27 (ls) (xi x :: xi a :: xr d :: st) (M) Q = Wp 13 28 (ls) (st) (xup M d a x) Q := wp_iast rfl hc h1 (by rw [hn]; exact h2)
theorem w13_28 {ls st : List xV} {M : xM} {Q : Option xV → xM → Prop} {d : Nat} : Wp 13 28 (xr d :: ls) (st) (M) Q = Wp 13 29 (xr d :: ls) (xr d :: st) (M) Q := wp_aload rfl rfl
theorem w13_29 {ls st : List xV} {M : xM} {Q : Option xV → xM → Prop} {d : Nat} : Wp 13 29 (ls) (xr d :: st) (M) Q = Wp 13 30 (ls) (xr d :: xr d :: st) (M) Q := wp_dupA rfl
theorem w13_30 {ls st : List xV} {M : xM} {Q : Option xV → xM → Prop} {d : Nat} (hc : x_c d = 3) : Wp 13 30 (ls) (xr d :: st) (M) Q = Wp 13 33 (ls) (xi (M d 1) :: st) (M) Q := wp_getf rfl hc
theorem w13_33 {ls st : List xV} {M : xM} {Q : Option xV → xM → Prop}  : Wp 13 33 (ls) (st) (M) Q = Wp 13 34 (ls) (xi 1 :: st) (M) Q := wp_const rfl
theorem w13_34 {ls st : List xV} {M : xM} {Q : Option xV → xM → Prop} {a : Int} {b : Int} : Wp 13 34 (ls) (xi b :: xi a :: st) (M) Q = Wp 13 35 (ls) (xi (a + b) :: st) (M) Q := wp_bin (f := xadd) rfl
theorem w13_35 {ls st : List xV} {M : xM} {Q : Option xV → xM → Prop} {a : Int} {d : Nat} (hc : x_c d = 3) : Wp 13 35 (ls) (xi a :: xr d :: st) (M) Q = Wp 13 38 (ls) (st) (xup M d 1 a) Q := wp_putf rfl hc
theorem w13_38 {ls st : List xV} {M : xM} {Q : Option xV → xM → Prop}  : Wp 13 38 (ls) (st) (M) Q = Wp 13 39 (ls) (xi 1 :: st) (M) Q := wp_const rfl
theorem w13_39 {ls : List xV} {M : xM} {Q : Option xV → xM → Prop} {a : Int} (ha : a = 0 ∨ a = 1) : Wp 13 39 (ls) ([xi a]) (M) Q = Q (some (xi a)) M := wp_zret rfl ha
theorem wc14 {M : xM} {Q : Option xV → xM → Prop} {d0 : Nat} {a1 : Int} {a2 : Int} {a3 : Int} {a4 : Int} : Wc 14 [xr d0, xi a1, xi a2, xi a3, xi a4] M Q = Wp 14 0 [xr d0, xi a1, xi a2, xi a3, xi a4] [] M Q := rfl
theorem w14_0 {ls st : List xV} {M : xM} {Q : Option xV → xM → Prop} {d : Nat} : Wp 14 0 (xr d :: ls) (st) (M) Q = Wp 14 1 (xr d :: ls) (xr d :: st) (M) Q := wp_aload rfl rfl
theorem w14_1 {ls st : List xV} {M : xM} {Q : Option xV → xM → Prop} {d : Nat} (hc : x_c d = 3) : Wp 14 1 (ls) (xr d :: st) (M) Q = Wp 14 4 (ls) (xi (M d 2) :: st) (M) Q := wp_getf rfl hc
theorem w14_4 {ls st : List xV} {M : xM} {Q : Option xV → xM → Prop}  : Wp 14 4 (ls) (st) (M) Q = Wp 14 5 (ls) (xi 5 :: st) (M) Q := wp_const rfl
theorem w14_5 {ls st : List xV} {M : xM} {Q : Option xV → xM → Prop} {a : Int} {b : Int} (ha : xG a) (hb : xG b) : Wp 14 5 (ls) (xi b :: xi a :: st) (M) Q = ((b ≤ a → Wp 14 21 (ls) (st) (M) Q) ∧ (¬ (b ≤ a) → Wp 14 8 (ls) (st) (M) Q)) := wp_cmp_ge rfl ha hb
theorem w14_8 {ls st : List xV} {M : xM} {Q : Option xV → xM → Prop} {a : Int} {v0 : xV} : Wp 14 8 (v0 :: xi a :: ls) (st) (M) Q = Wp 14 9 (v0 :: xi a :: ls) (xi a :: st) (M) Q := wp_iload rfl rfl
theorem w14_9 {ls st : List xV} {M : xM} {Q : Option xV → xM → Prop}  : Wp 14 9 (ls) (st) (M) Q = Wp 14 10 (ls) (xi 4 :: st) (M) Q := wp_const rfl
theorem w14_10 {ls st : List xV} {M : xM} {Q : Option xV → xM → Prop} {a : Int} {b : Int} (ha : xG a) (hb : xG b) : Wp 14 10 (ls) (xi b :: xi a :: st) (M) Q = ((b < a → Wp 14 21 (ls) (st) (M) Q) ∧ (¬ (b < a) → Wp 14 13 (ls) (st) (M) Q)) := wp_cmp_gt rfl ha hb
theorem w14_13 {ls st : List xV} {M : xM} {Q : Option xV → xM → Prop} {d : Nat} : Wp 14 13 (xr d :: ls) (st) (M) Q = Wp 14 14 (xr d :: ls) (xr d :: st) (M) Q := wp_aload rfl rfl
theorem w14_14 {ls st : List xV} {M : xM} {Q : Option xV → xM → Prop} {a : Int} {v0 : xV} {v1 : xV} : Wp 14 14 (v0 :: v1 :: xi a :: ls) (st) (M) Q = Wp 14 15 (v0 :: v1 :: xi a :: ls) (xi a :: st) (M) Q := wp_iload rfl rfl
theorem w14_15 {ls : List xV} {M : xM} {Q : Option xV → xM → Prop} {a1 : Int} {d0 : Nat} (hc : x_c d0 = 3) : Wp 14 15 (ls) (xi a1 :: xr d0 :: []) (M) Q = Wc 7 [xr d0, xi a1] M (fun r M2 => Wp 14 18 (ls) (r.toList ++ ([])) M2 Q) := wp_cV rfl rfl hc (Nat.le_of_ble_eq_true rfl) (Nat.le_of_ble_eq_true rfl) rfl rfl
theorem w14_18 {ls st : List xV} {M : xM} {Q : Option xV → xM → Prop} {a : Int} (ha : xG a) : Wp 14 18 (ls) (xi a :: st) (M) Q = ((¬ a = 0 → Wp 14 23 (ls) (st) (M) Q) ∧ (¬ (¬ a = 0) → Wp 14 21 (ls) (st) (M) Q)) := wp_if_ne rfl ha
theorem w14_21 {ls st : List xV} {M : xM} {Q : Option xV → xM → Prop}  : Wp 14 21 (ls) (st) (M) Q = Wp 14 22 (ls) (xi 0 :: st) (M) Q := wp_const rfl
theorem w14_22 {ls : List xV} {M : xM} {Q : Option xV → xM → Prop} {a : Int} (ha : a = 0 ∨ a = 1) : Wp 14 22 (ls) ([xi a]) (M) Q = Q (some (xi a)) M := wp_zret rfl ha
theorem w14_23 {ls st : List xV} {M : xM} {Q : Option xV → xM → Prop} {a : Int} {v0 : xV} {v1 : xV} {v2 : xV} : Wp 14 23 (v0 :: v1 :: v2 :: xi a :: ls) (st) (M) Q = Wp 14 24 (v0 :: v1 :: v2 :: xi a :: ls) (xi a :: st) (M) Q := wp_iload rfl rfl
theorem w14_24 {ls st : List xV} {M : xM} {Q : Option xV → xM → Prop}  : Wp 14 24 (ls) (st) (M) Q = Wp 14 25 (ls) (xi 1 :: st) (M) Q := wp_const rfl
theorem w14_25 {ls st : List xV} {M : xM} {Q : Option xV → xM → Prop} {a : Int} {b : Int} (ha : xG a) (hb : xG b) : Wp 14 25 (ls) (xi b :: xi a :: st) (M) Q = ((b < a → Wp 14 35 (ls) (st) (M) Q) ∧ (¬ (b < a) → Wp 14 28 (ls) (st) (M) Q)) := wp_cmp_gt rfl ha hb
theorem w14_28 {ls st : List xV} {M : xM} {Q : Option xV → xM → Prop} {a : Int} {v0 : xV} {v1 : xV} {v2 : xV} {v3 : xV} : Wp 14 28 (v0 :: v1 :: v2 :: v3 :: xi a :: ls) (st) (M) Q = Wp 14 30 (v0 :: v1 :: v2 :: v3 :: xi a :: ls) (xi a :: st) (M) Q := wp_iload rfl rfl
theorem w14_30 {ls st : List xV} {M : xM} {Q : Option xV → xM → Prop}  : Wp 14 30 (ls) (st) (M) Q = Wp 14 32 (ls) (xi 30 :: st) (M) Q := wp_const rfl
theorem w14_32 {ls st : List xV} {M : xM} {Q : Option xV → xM → Prop} {a : Int} {b : Int} (ha : xG a) (hb : xG b) : Wp 14 32 (ls) (xi b :: xi a :: st) (M) Q = ((a ≤ b → Wp 14 37 (ls) (st) (M) Q) ∧ (¬ (a ≤ b) → Wp 14 35 (ls) (st) (M) Q)) := wp_cmp_le rfl ha hb
theorem w14_35 {ls st : List xV} {M : xM} {Q : Option xV → xM → Prop}  : Wp 14 35 (ls) (st) (M) Q = Wp 14 36 (ls) (xi 0 :: st) (M) Q := wp_const rfl
theorem w14_36 {ls : List xV} {M : xM} {Q : Option xV → xM → Prop} {a : Int} (ha : a = 0 ∨ a = 1) : Wp 14 36 (ls) ([xi a]) (M) Q = Q (some (xi a)) M := wp_zret rfl ha
theorem w14_37 {ls st : List xV} {M : xM} {Q : Option xV → xM → Prop} {d : Nat} : Wp 14 37 (xr d :: ls) (st) (M) Q = Wp 14 38 (xr d :: ls) (xr d :: st) (M) Q := wp_aload rfl rfl
theorem w14_38 {ls st : List xV} {M : xM} {Q : Option xV → xM → Prop} {a : Int} {v0 : xV} {v1 : xV} : Wp 14 38 (v0 :: v1 :: xi a :: ls) (st) (M) Q = Wp 14 39 (v0 :: v1 :: xi a :: ls) (xi a :: st) (M) Q := wp_iload rfl rfl
theorem w14_39 {ls : List xV} {M : xM} {Q : Option xV → xM → Prop} {a1 : Int} {d0 : Nat} (hc : x_c d0 = 3) : Wp 14 39 (ls) (xi a1 :: xr d0 :: []) (M) Q = Wc 10 [xr d0, xi a1] M (fun r M2 => Wp 14 42 (ls) (r.toList ++ ([])) M2 Q) := wp_cV rfl rfl hc (Nat.le_of_ble_eq_true rfl) (Nat.le_of_ble_eq_true rfl) rfl rfl
theorem w14_42 {ls st : List xV} {M : xM} {Q : Option xV → xM → Prop} {d : Nat} : Wp 14 42 (xr d :: ls) (st) (M) Q = Wp 14 43 (xr d :: ls) (xr d :: st) (M) Q := wp_aload rfl rfl
theorem w14_43 {ls st : List xV} {M : xM} {Q : Option xV → xM → Prop} {d : Nat} (hc : x_c d = 3) : Wp 14 43 (ls) (xr d :: st) (M) Q = Wp 14 46 (ls) (xr (x_r d 8) :: st) (M) Q := wp_getr rfl hc
theorem w14_46 {ls st : List xV} {M : xM} {Q : Option xV → xM → Prop} {d : Nat} (hc : x_c d = 6) : Wp 14 46 (ls) (xr d :: st) (M) Q = Wp 14 49 (ls) (xi (M d 2) :: st) (M) Q := wp_getf rfl hc
theorem w14_49 {ls st : List xV} {M : xM} {Q : Option xV → xM → Prop} {a : Int} {v0 : xV} {v1 : xV} : Wp 14 49 (v0 :: v1 :: xi a :: ls) (st) (M) Q = Wp 14 50 (v0 :: v1 :: xi a :: ls) (xi a :: st) (M) Q := wp_iload rfl rfl
theorem w14_50 {ls : List xV} {M : xM} {Q : Option xV → xM → Prop} {a0 : Int} {a1 : Int} {s0 : xV} : Wp 14 50 (ls) (xi a1 :: xi a0 :: s0 :: []) (M) Q = Wc 73 [xi a0, xi a1] M (fun r M2 => Wp 14 53 (ls) (r.toList ++ (s0 :: [])) M2 Q) := wp_cS rfl rfl (Nat.le_of_ble_eq_true rfl) (Nat.le_of_ble_eq_true rfl) rfl rfl
theorem w14_53 {ls st : List xV} {M : xM} {Q : Option xV → xM → Prop} {a : Int} {b : Int} (ha : xG a) (hb : xG b) : Wp 14 53 (ls) (xi b :: xi a :: st) (M) Q = ((a ≤ b → Wp 14 58 (ls) (st) (M) Q) ∧ (¬ (a ≤ b) → Wp 14 56 (ls) (st) (M) Q)) := wp_cmp_le rfl ha hb
theorem w14_56 {ls st : List xV} {M : xM} {Q : Option xV → xM → Prop}  : Wp 14 56 (ls) (st) (M) Q = Wp 14 57 (ls) (xi 0 :: st) (M) Q := wp_const rfl
theorem w14_57 {ls : List xV} {M : xM} {Q : Option xV → xM → Prop} {a : Int} (ha : a = 0 ∨ a = 1) : Wp 14 57 (ls) ([xi a]) (M) Q = Q (some (xi a)) M := wp_zret rfl ha
theorem w14_58 {ls st : List xV} {M : xM} {Q : Option xV → xM → Prop} {d : Nat} : Wp 14 58 (xr d :: ls) (st) (M) Q = Wp 14 59 (xr d :: ls) (xr d :: st) (M) Q := wp_aload rfl rfl
theorem w14_59 {ls st : List xV} {M : xM} {Q : Option xV → xM → Prop} {d : Nat} (hc : x_c d = 3) : Wp 14 59 (ls) (xr d :: st) (M) Q = Wp 14 62 (ls) (xr (x_r d 6) :: st) (M) Q := wp_getr rfl hc
theorem w14_62 {ls st : List xV} {M : xM} {Q : Option xV → xM → Prop} {d : Nat} : Wp 14 62 (xr d :: ls) (st) (M) Q = Wp 14 63 (xr d :: ls) (xr d :: st) (M) Q := wp_aload rfl rfl
theorem w14_63 {ls st : List xV} {M : xM} {Q : Option xV → xM → Prop} {d : Nat} (hc : x_c d = 3) : Wp 14 63 (ls) (xr d :: st) (M) Q = Wp 14 66 (ls) (xi (M d 2) :: st) (M) Q := wp_getf rfl hc
theorem w14_66 {ls st : List xV} {M : xM} {Q : Option xV → xM → Prop} {a : Int} {v0 : xV} : Wp 14 66 (v0 :: xi a :: ls) (st) (M) Q = Wp 14 67 (v0 :: xi a :: ls) (xi a :: st) (M) Q := wp_iload rfl rfl
theorem w14_67 {ls st : List xV} {M : xM} {Q : Option xV → xM → Prop} {a : Int} {d : Nat} {x : Int} (hc : x_c d = 20) (hn : x_n d = 5) (h1 : 0 ≤ a) (h2 : a < 5) : Wp 14 67 (ls) (xi x :: xi a :: xr d :: st) (M) Q = Wp 14 68 (ls) (st) (xup M d a x) Q := wp_iast rfl hc h1 (by rw [hn]; exact h2)
theorem w14_68 {ls st : List xV} {M : xM} {Q : Option xV → xM → Prop} {d : Nat} : Wp 14 68 (xr d :: ls) (st) (M) Q = Wp 14 69 (xr d :: ls) (xr d :: st) (M) Q := wp_aload rfl rfl
theorem w14_69 {ls st : List xV} {M : xM} {Q : Option xV → xM → Prop} {d : Nat} (hc : x_c d = 3) : Wp 14 69 (ls) (xr d :: st) (M) Q = Wp 14 72 (ls) (xr (x_r d 7) :: st) (M) Q := wp_getr rfl hc
theorem w14_72 {ls st : List xV} {M : xM} {Q : Option xV → xM → Prop} {d : Nat} : Wp 14 72 (xr d :: ls) (st) (M) Q = Wp 14 73 (xr d :: ls) (xr d :: st) (M) Q := wp_aload rfl rfl
theorem w14_73 {ls st : List xV} {M : xM} {Q : Option xV → xM → Prop} {d : Nat} (hc : x_c d = 3) : Wp 14 73 (ls) (xr d :: st) (M) Q = Wp 14 76 (ls) (xi (M d 2) :: st) (M) Q := wp_getf rfl hc
theorem w14_76 {ls st : List xV} {M : xM} {Q : Option xV → xM → Prop} {a : Int} {v0 : xV} {v1 : xV} : Wp 14 76 (v0 :: v1 :: xi a :: ls) (st) (M) Q = Wp 14 77 (v0 :: v1 :: xi a :: ls) (xi a :: st) (M) Q := wp_iload rfl rfl
theorem w14_77 {ls st : List xV} {M : xM} {Q : Option xV → xM → Prop} {a : Int} {d : Nat} {x : Int} (hc : x_c d = 20) (hn : x_n d = 5) (h1 : 0 ≤ a) (h2 : a < 5) : Wp 14 77 (ls) (xi x :: xi a :: xr d :: st) (M) Q = Wp 14 78 (ls) (st) (xup M d a x) Q := wp_iast rfl hc h1 (by rw [hn]; exact h2)
theorem w14_78 {ls st : List xV} {M : xM} {Q : Option xV → xM → Prop} {d : Nat} : Wp 14 78 (xr d :: ls) (st) (M) Q = Wp 14 79 (xr d :: ls) (xr d :: st) (M) Q := wp_aload rfl rfl
theorem w14_79 {ls st : List xV} {M : xM} {Q : Option xV → xM → Prop} {d : Nat} : Wp 14 79 (ls) (xr d :: st) (M) Q = Wp 14 80 (ls) (xr d :: xr d :: st) (M) Q := wp_dupA rfl
theorem w14_80 {ls st : List xV} {M : xM} {Q : Option xV → xM → Prop} {d : Nat} (hc : x_c d = 3) : Wp 14 80 (ls) (xr d :: st) (M) Q = Wp 14 83 (ls) (xi (M d 3) :: st) (M) Q := wp_getf rfl hc
theorem w14_83 {ls st : List xV} {M : xM} {Q : Option xV → xM → Prop} {a : Int} {v0 : xV} {v1 : xV} {v2 : xV} : Wp 14 83 (v0 :: v1 :: v2 :: xi a :: ls) (st) (M) Q = Wp 14 84 (v0 :: v1 :: v2 :: xi a :: ls) (xi a :: st) (M) Q := wp_iload rfl rfl
theorem w14_84 {ls st : List xV} {M : xM} {Q : Option xV → xM → Prop} {d : Nat} : Wp 14 84 (xr d :: ls) (st) (M) Q = Wp 14 85 (xr d :: ls) (xr d :: st) (M) Q := wp_aload rfl rfl
theorem w14_85 {ls st : List xV} {M : xM} {Q : Option xV → xM → Prop} {d : Nat} (hc : x_c d = 3) : Wp 14 85 (ls) (xr d :: st) (M) Q = Wp 14 88 (ls) (xi (M d 2) :: st) (M) Q := wp_getf rfl hc
theorem w14_88 {ls st : List xV} {M : xM} {Q : Option xV → xM → Prop} {a : Int} {b : Int} : Wp 14 88 (ls) (xi b :: xi a :: st) (M) Q = Wp 14 89 (ls) (xi (xshl a b) :: st) (M) Q := wp_bin (f := xshl) rfl
theorem w14_89 {ls st : List xV} {M : xM} {Q : Option xV → xM → Prop} {a : Int} {b : Int} : Wp 14 89 (ls) (xi b :: xi a :: st) (M) Q = Wp 14 90 (ls) (xi (xor_ a b) :: st) (M) Q := wp_bin (f := xor_) rfl
theorem w14_90 {ls st : List xV} {M : xM} {Q : Option xV → xM → Prop} {a : Int} {d : Nat} (hc : x_c d = 3) : Wp 14 90 (ls) (xi a :: xr d :: st) (M) Q = Wp 14 93 (ls) (st) (xup M d 3 a) Q := wp_putf rfl hc
theorem w14_93 {ls st : List xV} {M : xM} {Q : Option xV → xM → Prop} {d : Nat} : Wp 14 93 (xr d :: ls) (st) (M) Q = Wp 14 94 (xr d :: ls) (xr d :: st) (M) Q := wp_aload rfl rfl
theorem w14_94 {ls st : List xV} {M : xM} {Q : Option xV → xM → Prop} {d : Nat} (hc : x_c d = 3) : Wp 14 94 (ls) (xr d :: st) (M) Q = Wp 14 97 (ls) (xr (x_r d 8) :: st) (M) Q := wp_getr rfl hc
theorem w14_97 {ls st : List xV} {M : xM} {Q : Option xV → xM → Prop} {d : Nat} (hc : x_c d = 6) : Wp 14 97 (ls) (xr d :: st) (M) Q = Wp 14 100 (ls) (xr (x_r d 0) :: st) (M) Q := wp_getr rfl hc
theorem w14_100 {ls st : List xV} {M : xM} {Q : Option xV → xM → Prop} {d : Nat} : Wp 14 100 (xr d :: ls) (st) (M) Q = Wp 14 101 (xr d :: ls) (xr d :: st) (M) Q := wp_aload rfl rfl
theorem w14_101 {ls st : List xV} {M : xM} {Q : Option xV → xM → Prop} {d : Nat} (hc : x_c d = 3) : Wp 14 101 (ls) (xr d :: st) (M) Q = Wp 14 104 (ls) (xi (M d 2) :: st) (M) Q := wp_getf rfl hc
theorem w14_104 {ls st : List xV} {M : xM} {Q : Option xV → xM → Prop} {a : Int} {v0 : xV} {v1 : xV} {v2 : xV} {v3 : xV} : Wp 14 104 (v0 :: v1 :: v2 :: v3 :: xi a :: ls) (st) (M) Q = Wp 14 106 (v0 :: v1 :: v2 :: v3 :: xi a :: ls) (xi a :: st) (M) Q := wp_iload rfl rfl
theorem w14_106 {ls st : List xV} {M : xM} {Q : Option xV → xM → Prop} {a : Int} {d : Nat} {x : Int} (hc : x_c d = 20) (hn : x_n d = 5) (h1 : 0 ≤ a) (h2 : a < 5) : Wp 14 106 (ls) (xi x :: xi a :: xr d :: st) (M) Q = Wp 14 107 (ls) (st) (xup M d a x) Q := wp_iast rfl hc h1 (by rw [hn]; exact h2)
theorem w14_107 {ls st : List xV} {M : xM} {Q : Option xV → xM → Prop} {d : Nat} : Wp 14 107 (xr d :: ls) (st) (M) Q = Wp 14 108 (xr d :: ls) (xr d :: st) (M) Q := wp_aload rfl rfl
theorem w14_108 {ls st : List xV} {M : xM} {Q : Option xV → xM → Prop} {d : Nat} : Wp 14 108 (ls) (xr d :: st) (M) Q = Wp 14 109 (ls) (xr d :: xr d :: st) (M) Q := wp_dupA rfl
theorem w14_109 {ls st : List xV} {M : xM} {Q : Option xV → xM → Prop} {d : Nat} (hc : x_c d = 3) : Wp 14 109 (ls) (xr d :: st) (M) Q = Wp 14 112 (ls) (xi (M d 2) :: st) (M) Q := wp_getf rfl hc
theorem w14_112 {ls st : List xV} {M : xM} {Q : Option xV → xM → Prop}  : Wp 14 112 (ls) (st) (M) Q = Wp 14 113 (ls) (xi 1 :: st) (M) Q := wp_const rfl
theorem w14_113 {ls st : List xV} {M : xM} {Q : Option xV → xM → Prop} {a : Int} {b : Int} : Wp 14 113 (ls) (xi b :: xi a :: st) (M) Q = Wp 14 114 (ls) (xi (a + b) :: st) (M) Q := wp_bin (f := xadd) rfl
theorem w14_114 {ls st : List xV} {M : xM} {Q : Option xV → xM → Prop} {a : Int} {d : Nat} (hc : x_c d = 3) : Wp 14 114 (ls) (xi a :: xr d :: st) (M) Q = Wp 14 117 (ls) (st) (xup M d 2 a) Q := wp_putf rfl hc
theorem w14_117 {ls st : List xV} {M : xM} {Q : Option xV → xM → Prop}  : Wp 14 117 (ls) (st) (M) Q = Wp 14 118 (ls) (xi 1 :: st) (M) Q := wp_const rfl
theorem w14_118 {ls : List xV} {M : xM} {Q : Option xV → xM → Prop} {a : Int} (ha : a = 0 ∨ a = 1) : Wp 14 118 (ls) ([xi a]) (M) Q = Q (some (xi a)) M := wp_zret rfl ha
theorem wc15 {M : xM} {Q : Option xV → xM → Prop} {d0 : Nat} {a1 : Int} : Wc 15 [xr d0, xi a1] M Q = Wp 15 0 [xr d0, xi a1] [] M Q := rfl
theorem w15_0 {ls st : List xV} {M : xM} {Q : Option xV → xM → Prop} {d : Nat} : Wp 15 0 (xr d :: ls) (st) (M) Q = Wp 15 1 (xr d :: ls) (xr d :: st) (M) Q := wp_aload rfl rfl
theorem w15_1 {ls st : List xV} {M : xM} {Q : Option xV → xM → Prop} {a : Int} {v0 : xV} : Wp 15 1 (v0 :: xi a :: ls) (st) (M) Q = Wp 15 2 (v0 :: xi a :: ls) (xi a :: st) (M) Q := wp_iload rfl rfl
theorem w15_2 {ls : List xV} {M : xM} {Q : Option xV → xM → Prop} {a1 : Int} {d0 : Nat} (hc : x_c d0 = 3) : Wp 15 2 (ls) (xi a1 :: xr d0 :: []) (M) Q = Wc 7 [xr d0, xi a1] M (fun r M2 => Wp 15 5 (ls) (r.toList ++ ([])) M2 Q) := wp_cV rfl rfl hc (Nat.le_of_ble_eq_true rfl) (Nat.le_of_ble_eq_true rfl) rfl rfl
theorem w15_5 {ls st : List xV} {M : xM} {Q : Option xV → xM → Prop} {a : Int} (ha : xG a) : Wp 15 5 (ls) (xi a :: st) (M) Q = ((¬ a = 0 → Wp 15 10 (ls) (st) (M) Q) ∧ (¬ (¬ a = 0) → Wp 15 8 (ls) (st) (M) Q)) := wp_if_ne rfl ha
theorem w15_8 {ls st : List xV} {M : xM} {Q : Option xV → xM → Prop}  : Wp 15 8 (ls) (st) (M) Q = Wp 15 9 (ls) (xi 0 :: st) (M) Q := wp_const rfl
theorem w15_9 {ls : List xV} {M : xM} {Q : Option xV → xM → Prop} {a : Int} (ha : a = 0 ∨ a = 1) : Wp 15 9 (ls) ([xi a]) (M) Q = Q (some (xi a)) M := wp_zret rfl ha
theorem w15_10 {ls st : List xV} {M : xM} {Q : Option xV → xM → Prop} {d : Nat} : Wp 15 10 (xr d :: ls) (st) (M) Q = Wp 15 11 (xr d :: ls) (xr d :: st) (M) Q := wp_aload rfl rfl
theorem w15_11 {ls st : List xV} {M : xM} {Q : Option xV → xM → Prop} {d : Nat} (hc : x_c d = 3) : Wp 15 11 (ls) (xr d :: st) (M) Q = Wp 15 14 (ls) (xr (x_r d 8) :: st) (M) Q := wp_getr rfl hc
theorem w15_14 {ls st : List xV} {M : xM} {Q : Option xV → xM → Prop} {d : Nat} : Wp 15 14 (ls) (xr d :: st) (M) Q = Wp 15 15 (ls) (xr d :: xr d :: st) (M) Q := wp_dupA rfl
theorem w15_15 {ls st : List xV} {M : xM} {Q : Option xV → xM → Prop} {d : Nat} (hc : x_c d = 6) : Wp 15 15 (ls) (xr d :: st) (M) Q = Wp 15 18 (ls) (xi (M d 2) :: st) (M) Q := wp_getf rfl hc
theorem w15_18 {ls st : List xV} {M : xM} {Q : Option xV → xM → Prop}  : Wp 15 18 (ls) (st) (M) Q = Wp 15 19 (ls) (xi 1 :: st) (M) Q := wp_const rfl
theorem w15_19 {ls st : List xV} {M : xM} {Q : Option xV → xM → Prop} {a : Int} {v0 : xV} : Wp 15 19 (v0 :: xi a :: ls) (st) (M) Q = Wp 15 20 (v0 :: xi a :: ls) (xi a :: st) (M) Q := wp_iload rfl rfl
theorem w15_20 {ls st : List xV} {M : xM} {Q : Option xV → xM → Prop} {a : Int} {b : Int} : Wp 15 20 (ls) (xi b :: xi a :: st) (M) Q = Wp 15 21 (ls) (xi (xshl a b) :: st) (M) Q := wp_bin (f := xshl) rfl
theorem w15_21 {ls st : List xV} {M : xM} {Q : Option xV → xM → Prop} {a : Int} {b : Int} : Wp 15 21 (ls) (xi b :: xi a :: st) (M) Q = Wp 15 22 (ls) (xi (xor_ a b) :: st) (M) Q := wp_bin (f := xor_) rfl
theorem w15_22 {ls st : List xV} {M : xM} {Q : Option xV → xM → Prop} {a : Int} {d : Nat} (hc : x_c d = 6) : Wp 15 22 (ls) (xi a :: xr d :: st) (M) Q = Wp 15 25 (ls) (st) (xup M d 2 a) Q := wp_putf rfl hc
theorem w15_25 {ls st : List xV} {M : xM} {Q : Option xV → xM → Prop}  : Wp 15 25 (ls) (st) (M) Q = Wp 15 26 (ls) (xi 1 :: st) (M) Q := wp_const rfl
theorem w15_26 {ls : List xV} {M : xM} {Q : Option xV → xM → Prop} {a : Int} (ha : a = 0 ∨ a = 1) : Wp 15 26 (ls) ([xi a]) (M) Q = Q (some (xi a)) M := wp_zret rfl ha
theorem wc16 {M : xM} {Q : Option xV → xM → Prop} {d0 : Nat} {a1 : Int} : Wc 16 [xr d0, xi a1] M Q = Wp 16 0 [xr d0, xi a1] [] M Q := rfl
theorem w16_0 {ls st : List xV} {M : xM} {Q : Option xV → xM → Prop} {d : Nat} : Wp 16 0 (xr d :: ls) (st) (M) Q = Wp 16 1 (xr d :: ls) (xr d :: st) (M) Q := wp_aload rfl rfl
theorem w16_1 {ls st : List xV} {M : xM} {Q : Option xV → xM → Prop} {a : Int} {v0 : xV} : Wp 16 1 (v0 :: xi a :: ls) (st) (M) Q = Wp 16 2 (v0 :: xi a :: ls) (xi a :: st) (M) Q := wp_iload rfl rfl
theorem w16_2 {ls : List xV} {M : xM} {Q : Option xV → xM → Prop} {a1 : Int} {d0 : Nat} (hc : x_c d0 = 3) : Wp 16 2 (ls) (xi a1 :: xr d0 :: []) (M) Q = Wc 7 [xr d0, xi a1] M (fun r M2 => Wp 16 5 (ls) (r.toList ++ ([])) M2 Q) := wp_cV rfl rfl hc (Nat.le_of_ble_eq_true rfl) (Nat.le_of_ble_eq_true rfl) rfl rfl
theorem w16_5 {ls st : List xV} {M : xM} {Q : Option xV → xM → Prop} {a : Int} (ha : xG a) : Wp 16 5 (ls) (xi a :: st) (M) Q = ((¬ a = 0 → Wp 16 10 (ls) (st) (M) Q) ∧ (¬ (¬ a = 0) → Wp 16 8 (ls) (st) (M) Q)) := wp_if_ne rfl ha
theorem w16_8 {ls st : List xV} {M : xM} {Q : Option xV → xM → Prop}  : Wp 16 8 (ls) (st) (M) Q = Wp 16 9 (ls) (xi 0 :: st) (M) Q := wp_const rfl
theorem w16_9 {ls : List xV} {M : xM} {Q : Option xV → xM → Prop} {a : Int} (ha : a = 0 ∨ a = 1) : Wp 16 9 (ls) ([xi a]) (M) Q = Q (some (xi a)) M := wp_zret rfl ha
theorem w16_10 {ls st : List xV} {M : xM} {Q : Option xV → xM → Prop} {d : Nat} : Wp 16 10 (xr d :: ls) (st) (M) Q = Wp 16 11 (xr d :: ls) (xr d :: st) (M) Q := wp_aload rfl rfl
theorem w16_11 {ls st : List xV} {M : xM} {Q : Option xV → xM → Prop} {d : Nat} : Wp 16 11 (ls) (xr d :: st) (M) Q = Wp 16 12 (ls) (xr d :: xr d :: st) (M) Q := wp_dupA rfl
theorem w16_12 {ls st : List xV} {M : xM} {Q : Option xV → xM → Prop} {d : Nat} (hc : x_c d = 3) : Wp 16 12 (ls) (xr d :: st) (M) Q = Wp 16 15 (ls) (xi (M d 4) :: st) (M) Q := wp_getf rfl hc
theorem w16_15 {ls st : List xV} {M : xM} {Q : Option xV → xM → Prop}  : Wp 16 15 (ls) (st) (M) Q = Wp 16 16 (ls) (xi 1 :: st) (M) Q := wp_const rfl
theorem w16_16 {ls st : List xV} {M : xM} {Q : Option xV → xM → Prop} {a : Int} {v0 : xV} : Wp 16 16 (v0 :: xi a :: ls) (st) (M) Q = Wp 16 17 (v0 :: xi a :: ls) (xi a :: st) (M) Q := wp_iload rfl rfl
theorem w16_17 {ls st : List xV} {M : xM} {Q : Option xV → xM → Prop} {a : Int} {b : Int} : Wp 16 17 (ls) (xi b :: xi a :: st) (M) Q = Wp 16 18 (ls) (xi (xshl a b) :: st) (M) Q := wp_bin (f := xshl) rfl
theorem w16_18 {ls st : List xV} {M : xM} {Q : Option xV → xM → Prop} {a : Int} {b : Int} : Wp 16 18 (ls) (xi b :: xi a :: st) (M) Q = Wp 16 19 (ls) (xi (xor_ a b) :: st) (M) Q := wp_bin (f := xor_) rfl
theorem w16_19 {ls st : List xV} {M : xM} {Q : Option xV → xM → Prop} {a : Int} {d : Nat} (hc : x_c d = 3) : Wp 16 19 (ls) (xi a :: xr d :: st) (M) Q = Wp 16 22 (ls) (st) (xup M d 4 a) Q := wp_putf rfl hc
theorem w16_22 {ls st : List xV} {M : xM} {Q : Option xV → xM → Prop}  : Wp 16 22 (ls) (st) (M) Q = Wp 16 23 (ls) (xi 1 :: st) (M) Q := wp_const rfl
theorem w16_23 {ls : List xV} {M : xM} {Q : Option xV → xM → Prop} {a : Int} (ha : a = 0 ∨ a = 1) : Wp 16 23 (ls) ([xi a]) (M) Q = Q (some (xi a)) M := wp_zret rfl ha
theorem wc17 {M : xM} {Q : Option xV → xM → Prop} {d0 : Nat} {a1 : Int} {a2 : Int} : Wc 17 [xr d0, xi a1, xi a2] M Q = Wp 17 0 [xr d0, xi a1, xi a2] [] M Q := rfl
theorem w17_0 {ls st : List xV} {M : xM} {Q : Option xV → xM → Prop} {a : Int} {v0 : xV} {v1 : xV} : Wp 17 0 (v0 :: v1 :: xi a :: ls) (st) (M) Q = Wp 17 1 (v0 :: v1 :: xi a :: ls) (xi a :: st) (M) Q := wp_iload rfl rfl
theorem w17_1 {ls st : List xV} {M : xM} {Q : Option xV → xM → Prop} {a : Int} (ha : xG a) : Wp 17 1 (ls) (xi a :: st) (M) Q = ((a = 0 → Wp 17 21 (ls) (st) (M) Q) ∧ (¬ (a = 0) → Wp 17 4 (ls) (st) (M) Q)) := wp_if_eq rfl ha
theorem w17_4 {ls st : List xV} {M : xM} {Q : Option xV → xM → Prop} {a : Int} {v0 : xV} : Wp 17 4 (v0 :: xi a :: ls) (st) (M) Q = Wp 17 5 (v0 :: xi a :: ls) (xi a :: st) (M) Q := wp_iload rfl rfl
theorem w17_5 {ls st : List xV} {M : xM} {Q : Option xV → xM → Prop} {a : Int} (ha : xG a) : Wp 17 5 (ls) (xi a :: st) (M) Q = ((a ≤ 0 → Wp 17 14 (ls) (st) (M) Q) ∧ (¬ (a ≤ 0) → Wp 17 8 (ls) (st) (M) Q)) := wp_if_le rfl ha
theorem w17_8 {ls st : List xV} {M : xM} {Q : Option xV → xM → Prop} {a : Int} {v0 : xV} : Wp 17 8 (v0 :: xi a :: ls) (st) (M) Q = Wp 17 9 (v0 :: xi a :: ls) (xi a :: st) (M) Q := wp_iload rfl rfl
theorem w17_9 {ls st : List xV} {M : xM} {Q : Option xV → xM → Prop}  : Wp 17 9 (ls) (st) (M) Q = Wp 17 10 (ls) (xi 1 :: st) (M) Q := wp_const rfl
theorem w17_10 {ls st : List xV} {M : xM} {Q : Option xV → xM → Prop} {a : Int} {b : Int} : Wp 17 10 (ls) (xi b :: xi a :: st) (M) Q = Wp 17 11 (ls) (xi (a - b) :: st) (M) Q := wp_bin (f := xsub) rfl
theorem w17_11 {ls st : List xV} {M : xM} {Q : Option xV → xM → Prop}  : Wp 17 11 (ls) (st) (M) Q = Wp 17 20 (ls) (st) (M) Q := wp_goto rfl
theorem w17_14 {ls st : List xV} {M : xM} {Q : Option xV → xM → Prop} {d : Nat} : Wp 17 14 (xr d :: ls) (st) (M) Q = Wp 17 15 (xr d :: ls) (xr d :: st) (M) Q := wp_aload rfl rfl
theorem w17_15 {ls st : List xV} {M : xM} {Q : Option xV → xM → Prop} {d : Nat} (hc : x_c d = 3) : Wp 17 15 (ls) (xr d :: st) (M) Q = Wp 17 18 (ls) (xi (M d 0) :: st) (M) Q := wp_getf rfl hc
theorem w17_18 {ls st : List xV} {M : xM} {Q : Option xV → xM → Prop}  : Wp 17 18 (ls) (st) (M) Q = Wp 17 19 (ls) (xi 1 :: st) (M) Q := wp_const rfl
theorem w17_19 {ls st : List xV} {M : xM} {Q : Option xV → xM → Prop} {a : Int} {b : Int} : Wp 17 19 (ls) (xi b :: xi a :: st) (M) Q = Wp 17 20 (ls) (xi (a - b) :: st) (M) Q := wp_bin (f := xsub) rfl
theorem w17_20 {ls : List xV} {M : xM} {Q : Option xV → xM → Prop} {a : Int} : Wp 17 20 (ls) ([xi a]) (M) Q = Q (some (xi a)) M := wp_iret rfl
theorem w17_21 {ls st : List xV} {M : xM} {Q : Option xV → xM → Prop} {a : Int} {v0 : xV} : Wp 17 21 (v0 :: xi a :: ls) (st) (M) Q = Wp 17 22 (v0 :: xi a :: ls) (xi a :: st) (M) Q := wp_iload rfl rfl
theorem w17_22 {ls st : List xV} {M : xM} {Q : Option xV → xM → Prop}  : Wp 17 22 (ls) (st) (M) Q = Wp 17 23 (ls) (xi 1 :: st) (M) Q := wp_const rfl
theorem w17_23 {ls st : List xV} {M : xM} {Q : Option xV → xM → Prop} {a : Int} {b : Int} : Wp 17 23 (ls) (xi b :: xi a :: st) (M) Q = Wp 17 24 (ls) (xi (a + b) :: st) (M) Q := wp_bin (f := xadd) rfl
theorem w17_24 {ls st : List xV} {M : xM} {Q : Option xV → xM → Prop} {d : Nat} : Wp 17 24 (xr d :: ls) (st) (M) Q = Wp 17 25 (xr d :: ls) (xr d :: st) (M) Q := wp_aload rfl rfl
theorem w17_25 {ls st : List xV} {M : xM} {Q : Option xV → xM → Prop} {d : Nat} (hc : x_c d = 3) : Wp 17 25 (ls) (xr d :: st) (M) Q = Wp 17 28 (ls) (xi (M d 0) :: st) (M) Q := wp_getf rfl hc
theorem w17_28 {ls st : List xV} {M : xM} {Q : Option xV → xM → Prop} {a : Int} {b : Int} (ha : xG a) (hb : xG b) : Wp 17 28 (ls) (xi b :: xi a :: st) (M) Q = ((b ≤ a → Wp 17 37 (ls) (st) (M) Q) ∧ (¬ (b ≤ a) → Wp 17 31 (ls) (st) (M) Q)) := wp_cmp_ge rfl ha hb
theorem w17_31 {ls st : List xV} {M : xM} {Q : Option xV → xM → Prop} {a : Int} {v0 : xV} : Wp 17 31 (v0 :: xi a :: ls) (st) (M) Q = Wp 17 32 (v0 :: xi a :: ls) (xi a :: st) (M) Q := wp_iload rfl rfl
theorem w17_32 {ls st : List xV} {M : xM} {Q : Option xV → xM → Prop}  : Wp 17 32 (ls) (st) (M) Q = Wp 17 33 (ls) (xi 1 :: st) (M) Q := wp_const rfl
theorem w17_33 {ls st : List xV} {M : xM} {Q : Option xV → xM → Prop} {a : Int} {b : Int} : Wp 17 33 (ls) (xi b :: xi a :: st) (M) Q = Wp 17 34 (ls) (xi (a + b) :: st) (M) Q := wp_bin (f := xadd) rfl
theorem w17_34 {ls st : List xV} {M : xM} {Q : Option xV → xM → Prop}  : Wp 17 34 (ls) (st) (M) Q = Wp 17 38 (ls) (st) (M) Q := wp_goto rfl
theorem w17_37 {ls st : List xV} {M : xM} {Q : Option xV → xM → Prop}  : Wp 17 37 (ls) (st) (M) Q = Wp 17 38 (ls) (xi 0 :: st) (M) Q := wp_const rfl
theorem w17_38 {ls : List xV} {M : xM} {Q : Option xV → xM → Prop} {a : Int} : Wp 17 38 (ls) ([xi a]) (M) Q = Q (some (xi a)) M := wp_iret rfl
theorem wc18 {M : xM} {Q : Option xV → xM → Prop} {d0 : Nat} {a1 : Int} : Wc 18 [xr d0, xi a1] M Q = Wp 18 0 [xr d0, xi a1] [] M Q := rfl
theorem w18_0 {ls st : List xV} {M : xM} {Q : Option xV → xM → Prop}  : Wp 18 0 (ls) (st) (M) Q = Wp 18 1 (ls) (xi 2 :: st) (M) Q := wp_const rfl
theorem w18_1 {ls st : List xV} {M : xM} {Q : Option xV → xM → Prop} {a : Int} {v0 : xV} : Wp 18 1 (v0 :: xi a :: ls) (st) (M) Q = Wp 18 2 (v0 :: xi a :: ls) (xi a :: st) (M) Q := wp_iload rfl rfl
theorem w18_2 {ls st : List xV} {M : xM} {Q : Option xV → xM → Prop} {a : Int} {b : Int} : Wp 18 2 (ls) (xi b :: xi a :: st) (M) Q = Wp 18 3 (ls) (xi (a * b) :: st) (M) Q := wp_bin (f := xmul) rfl
theorem w18_3 {ls st : List xV} {M : xM} {Q : Option xV → xM → Prop} {d : Nat} : Wp 18 3 (xr d :: ls) (st) (M) Q = Wp 18 4 (xr d :: ls) (xr d :: st) (M) Q := wp_aload rfl rfl
theorem w18_4 {ls st : List xV} {M : xM} {Q : Option xV → xM → Prop} {d : Nat} (hc : x_c d = 3) : Wp 18 4 (ls) (xr d :: st) (M) Q = Wp 18 7 (ls) (xi (M d 0) :: st) (M) Q := wp_getf rfl hc
theorem w18_7 {ls st : List xV} {M : xM} {Q : Option xV → xM → Prop} {a : Int} {b : Int} (ha : xG a) (hb : xG b) : Wp 18 7 (ls) (xi b :: xi a :: st) (M) Q = ((a ≤ b → Wp 18 17 (ls) (st) (M) Q) ∧ (¬ (a ≤ b) → Wp 18 10 (ls) (st) (M) Q)) := wp_cmp_le rfl ha hb
theorem w18_10 {ls st : List xV} {M : xM} {Q : Option xV → xM → Prop} {a : Int} {v0 : xV} : Wp 18 10 (v0 :: xi a :: ls) (st) (M) Q = Wp 18 11 (v0 :: xi a :: ls) (xi a :: st) (M) Q := wp_iload rfl rfl
theorem w18_11 {ls st : List xV} {M : xM} {Q : Option xV → xM → Prop} {d : Nat} : Wp 18 11 (xr d :: ls) (st) (M) Q = Wp 18 12 (xr d :: ls) (xr d :: st) (M) Q := wp_aload rfl rfl
theorem w18_12 {ls st : List xV} {M : xM} {Q : Option xV → xM → Prop} {d : Nat} (hc : x_c d = 3) : Wp 18 12 (ls) (xr d :: st) (M) Q = Wp 18 15 (ls) (xi (M d 0) :: st) (M) Q := wp_getf rfl hc
theorem w18_15 {ls st : List xV} {M : xM} {Q : Option xV → xM → Prop} {a : Int} {b : Int} : Wp 18 15 (ls) (xi b :: xi a :: st) (M) Q = Wp 18 16 (ls) (xi (a - b) :: st) (M) Q := wp_bin (f := xsub) rfl
theorem w18_16 {ls : List xV} {M : xM} {Q : Option xV → xM → Prop} {a : Int} : Wp 18 16 (ls) ([xi a]) (M) Q = Q (some (xi a)) M := wp_iret rfl
theorem w18_17 {ls st : List xV} {M : xM} {Q : Option xV → xM → Prop}  : Wp 18 17 (ls) (st) (M) Q = Wp 18 18 (ls) (xi 2 :: st) (M) Q := wp_const rfl
theorem w18_18 {ls st : List xV} {M : xM} {Q : Option xV → xM → Prop} {a : Int} {v0 : xV} : Wp 18 18 (v0 :: xi a :: ls) (st) (M) Q = Wp 18 19 (v0 :: xi a :: ls) (xi a :: st) (M) Q := wp_iload rfl rfl
theorem w18_19 {ls st : List xV} {M : xM} {Q : Option xV → xM → Prop} {a : Int} {b : Int} : Wp 18 19 (ls) (xi b :: xi a :: st) (M) Q = Wp 18 20 (ls) (xi (a * b) :: st) (M) Q := wp_bin (f := xmul) rfl
theorem w18_20 {ls st : List xV} {M : xM} {Q : Option xV → xM → Prop} {d : Nat} : Wp 18 20 (xr d :: ls) (st) (M) Q = Wp 18 21 (xr d :: ls) (xr d :: st) (M) Q := wp_aload rfl rfl
theorem w18_21 {ls st : List xV} {M : xM} {Q : Option xV → xM → Prop} {d : Nat} (hc : x_c d = 3) : Wp 18 21 (ls) (xr d :: st) (M) Q = Wp 18 24 (ls) (xi (M d 0) :: st) (M) Q := wp_getf rfl hc
theorem w18_24 {ls st : List xV} {M : xM} {Q : Option xV → xM → Prop} {a : Int} : Wp 18 24 (ls) (xi a :: st) (M) Q = Wp 18 25 (ls) (xi (-a) :: st) (M) Q := wp_neg rfl
theorem w18_25 {ls st : List xV} {M : xM} {Q : Option xV → xM → Prop} {a : Int} {b : Int} (ha : xG a) (hb : xG b) : Wp 18 25 (ls) (xi b :: xi a :: st) (M) Q = ((b < a → Wp 18 37 (ls) (st) (M) Q) ∧ (¬ (b < a) → Wp 18 28 (ls) (st) (M) Q)) := wp_cmp_gt rfl ha hb
theorem w18_28 {ls st : List xV} {M : xM} {Q : Option xV → xM → Prop} {a : Int} {v0 : xV} : Wp 18 28 (v0 :: xi a :: ls) (st) (M) Q = Wp 18 29 (v0 :: xi a :: ls) (xi a :: st) (M) Q := wp_iload rfl rfl
theorem w18_29 {ls st : List xV} {M : xM} {Q : Option xV → xM → Prop} {d : Nat} : Wp 18 29 (xr d :: ls) (st) (M) Q = Wp 18 30 (xr d :: ls) (xr d :: st) (M) Q := wp_aload rfl rfl
theorem w18_30 {ls st : List xV} {M : xM} {Q : Option xV → xM → Prop} {d : Nat} (hc : x_c d = 3) : Wp 18 30 (ls) (xr d :: st) (M) Q = Wp 18 33 (ls) (xi (M d 0) :: st) (M) Q := wp_getf rfl hc
theorem w18_33 {ls st : List xV} {M : xM} {Q : Option xV → xM → Prop} {a : Int} {b : Int} : Wp 18 33 (ls) (xi b :: xi a :: st) (M) Q = Wp 18 34 (ls) (xi (a + b) :: st) (M) Q := wp_bin (f := xadd) rfl
theorem w18_34 {ls st : List xV} {M : xM} {Q : Option xV → xM → Prop}  : Wp 18 34 (ls) (st) (M) Q = Wp 18 38 (ls) (st) (M) Q := wp_goto rfl
theorem w18_37 {ls st : List xV} {M : xM} {Q : Option xV → xM → Prop} {a : Int} {v0 : xV} : Wp 18 37 (v0 :: xi a :: ls) (st) (M) Q = Wp 18 38 (v0 :: xi a :: ls) (xi a :: st) (M) Q := wp_iload rfl rfl
theorem w18_38 {ls : List xV} {M : xM} {Q : Option xV → xM → Prop} {a : Int} : Wp 18 38 (ls) ([xi a]) (M) Q = Q (some (xi a)) M := wp_iret rfl
theorem wc19 {M : xM} {Q : Option xV → xM → Prop} {d0 : Nat} {a1 : Int} : Wc 19 [xr d0, xi a1] M Q = Wp 19 0 [xr d0, xi a1] [] M Q := rfl
theorem w19_0 {ls st : List xV} {M : xM} {Q : Option xV → xM → Prop} {d : Nat} : Wp 19 0 (xr d :: ls) (st) (M) Q = Wp 19 1 (xr d :: ls) (xr d :: st) (M) Q := wp_aload rfl rfl
theorem w19_1 {ls st : List xV} {M : xM} {Q : Option xV → xM → Prop} {d : Nat} (hc : x_c d = 7) : Wp 19 1 (ls) (xr d :: st) (M) Q = Wp 19 4 (ls) (xi (M d 2) :: st) (M) Q := wp_getf rfl hc
theorem w19_4 {ls st : List xV} {M : xM} {Q : Option xV → xM → Prop}  : Wp 19 4 (ls) (st) (M) Q = Wp 19 7 (ls) (xi 200 :: st) (M) Q := wp_const rfl
theorem w19_7 {ls st : List xV} {M : xM} {Q : Option xV → xM → Prop} {a : Int} {b : Int} (ha : xG a) (hb : xG b) : Wp 19 7 (ls) (xi b :: xi a :: st) (M) Q = ((a < b → Wp 19 12 (ls) (st) (M) Q) ∧ (¬ (a < b) → Wp 19 10 (ls) (st) (M) Q)) := wp_cmp_lt rfl ha hb
theorem w19_10 {ls st : List xV} {M : xM} {Q : Option xV → xM → Prop}  : Wp 19 10 (ls) (st) (M) Q = Wp 19 11 (ls) (xi 0 :: st) (M) Q := wp_const rfl
theorem w19_11 {ls : List xV} {M : xM} {Q : Option xV → xM → Prop} {a : Int} (ha : a = 0 ∨ a = 1) : Wp 19 11 (ls) ([xi a]) (M) Q = Q (some (xi a)) M := wp_zret rfl ha
theorem w19_12 {ls st : List xV} {M : xM} {Q : Option xV → xM → Prop} {d : Nat} : Wp 19 12 (xr d :: ls) (st) (M) Q = Wp 19 13 (xr d :: ls) (xr d :: st) (M) Q := wp_aload rfl rfl
theorem w19_13 {ls st : List xV} {M : xM} {Q : Option xV → xM → Prop} {d : Nat} (hc : x_c d = 7) : Wp 19 13 (ls) (xr d :: st) (M) Q = Wp 19 16 (ls) (xr (x_r d 0) :: st) (M) Q := wp_getr rfl hc
theorem w19_16 {ls st : List xV} {M : xM} {Q : Option xV → xM → Prop} {d : Nat} : Wp 19 16 (xr d :: ls) (st) (M) Q = Wp 19 17 (xr d :: ls) (xr d :: st) (M) Q := wp_aload rfl rfl
theorem w19_17 {ls st : List xV} {M : xM} {Q : Option xV → xM → Prop} {d : Nat} (hc : x_c d = 7) : Wp 19 17 (ls) (xr d :: st) (M) Q = Wp 19 20 (ls) (xi (M d 2) :: st) (M) Q := wp_getf rfl hc
theorem w19_20 {ls st : List xV} {M : xM} {Q : Option xV → xM → Prop} {a : Int} {v0 : xV} : Wp 19 20 (v0 :: xi a :: ls) (st) (M) Q = Wp 19 21 (v0 :: xi a :: ls) (xi a :: st) (M) Q := wp_iload rfl rfl
theorem w19_21 {ls st : List xV} {M : xM} {Q : Option xV → xM → Prop} {a : Int} {d : Nat} {x : Int} (hc : x_c d = 22) (hn : x_n d = 200) (h1 : 0 ≤ a) (h2 : a < 200) (hv : 0 ≤ x ∧ x < 65536) : Wp 19 21 (ls) (xi x :: xi a :: xr d :: st) (M) Q = Wp 19 22 (ls) (st) (xup M d a x) Q := wp_cast rfl hc h1 (by rw [hn]; exact h2) hv
theorem w19_22 {ls st : List xV} {M : xM} {Q : Option xV → xM → Prop} {d : Nat} : Wp 19 22 (xr d :: ls) (st) (M) Q = Wp 19 23 (xr d :: ls) (xr d :: st) (M) Q := wp_aload rfl rfl
theorem w19_23 {ls st : List xV} {M : xM} {Q : Option xV → xM → Prop} {d : Nat} : Wp 19 23 (ls) (xr d :: st) (M) Q = Wp 19 24 (ls) (xr d :: xr d :: st) (M) Q := wp_dupA rfl
theorem w19_24 {ls st : List xV} {M : xM} {Q : Option xV → xM → Prop} {d : Nat} (hc : x_c d = 7) : Wp 19 24 (ls) (xr d :: st) (M) Q = Wp 19 27 (ls) (xi (M d 2) :: st) (M) Q := wp_getf rfl hc
theorem w19_27 {ls st : List xV} {M : xM} {Q : Option xV → xM → Prop}  : Wp 19 27 (ls) (st) (M) Q = Wp 19 28 (ls) (xi 1 :: st) (M) Q := wp_const rfl
theorem w19_28 {ls st : List xV} {M : xM} {Q : Option xV → xM → Prop} {a : Int} {b : Int} : Wp 19 28 (ls) (xi b :: xi a :: st) (M) Q = Wp 19 29 (ls) (xi (a + b) :: st) (M) Q := wp_bin (f := xadd) rfl
theorem w19_29 {ls st : List xV} {M : xM} {Q : Option xV → xM → Prop} {a : Int} {d : Nat} (hc : x_c d = 7) : Wp 19 29 (ls) (xi a :: xr d :: st) (M) Q = Wp 19 32 (ls) (st) (xup M d 2 a) Q := wp_putf rfl hc
theorem w19_32 {ls st : List xV} {M : xM} {Q : Option xV → xM → Prop}  : Wp 19 32 (ls) (st) (M) Q = Wp 19 33 (ls) (xi 1 :: st) (M) Q := wp_const rfl
theorem w19_33 {ls : List xV} {M : xM} {Q : Option xV → xM → Prop} {a : Int} (ha : a = 0 ∨ a = 1) : Wp 19 33 (ls) ([xi a]) (M) Q = Q (some (xi a)) M := wp_zret rfl ha
theorem wc20 {M : xM} {Q : Option xV → xM → Prop} {d0 : Nat} {d1 : Nat} : Wc 20 [xr d0, xr d1] M Q = Wp 20 0 [xr d0, xr d1, xj, xj] [] M Q := rfl
theorem w20_0 {ls st : List xV} {M : xM} {Q : Option xV → xM → Prop} {d : Nat} {v0 : xV} : Wp 20 0 (v0 :: xr d :: ls) (st) (M) Q = Wp 20 1 (v0 :: xr d :: ls) (xr d :: st) (M) Q := wp_aload rfl rfl
theorem w20_1 {ls : List xV} {M : xM} {Q : Option xV → xM → Prop} {d0 : Nat} (hc : x_c d0 = 3) : Wp 20 1 (ls) (xr d0 :: []) (M) Q = Wc 6 [xr d0] M (fun r M2 => Wp 20 4 (ls) (r.toList ++ ([])) M2 Q) := wp_cV rfl rfl hc (Nat.le_of_ble_eq_true rfl) (Nat.le_of_ble_eq_true rfl) rfl rfl
theorem w20_4 {ls st : List xV} {M : xM} {Q : Option xV → xM → Prop} {d : Nat} : Wp 20 4 (xr d :: ls) (st) (M) Q = Wp 20 5 (xr d :: ls) (xr d :: st) (M) Q := wp_aload rfl rfl
theorem w20_5 {ls st : List xV} {M : xM} {Q : Option xV → xM → Prop}  : Wp 20 5 (ls) (st) (M) Q = Wp 20 6 (ls) (xi 0 :: st) (M) Q := wp_const rfl
theorem w20_6 {ls st : List xV} {M : xM} {Q : Option xV → xM → Prop} {a : Int} {d : Nat} (hc : x_c d = 7) : Wp 20 6 (ls) (xi a :: xr d :: st) (M) Q = Wp 20 9 (ls) (st) (xup M d 3 a) Q := wp_putf rfl hc
theorem w20_9 {ls st : List xV} {M : xM} {Q : Option xV → xM → Prop} {d : Nat} : Wp 20 9 (xr d :: ls) (st) (M) Q = Wp 20 10 (xr d :: ls) (xr d :: st) (M) Q := wp_aload rfl rfl
theorem w20_10 {ls st : List xV} {M : xM} {Q : Option xV → xM → Prop}  : Wp 20 10 (ls) (st) (M) Q = Wp 20 11 (ls) (xi 1 :: st) (M) Q := wp_const rfl
theorem w20_11 {ls st : List xV} {M : xM} {Q : Option xV → xM → Prop} {a : Int} {d : Nat} (hc : x_c d = 7) (ha : a = 0 ∨ a = 1) : Wp 20 11 (ls) (xi a :: xr d :: st) (M) Q = Wp 20 14 (ls) (st) (xup M d 4 a) Q := wp_putb rfl hc ha
theorem w20_14 {ls st : List xV} {M : xM} {Q : Option xV → xM → Prop}  : Wp 20 14 (ls) (st) (M) Q = Wp 20 15 (ls) (xi 0 :: st) (M) Q := wp_const rfl
theorem w20_15 {ls st : List xV} {M : xM} {Q : Option xV → xM → Prop} {a : Int} {v0 : xV} {v1 : xV} {w : xV} : Wp 20 15 (v0 :: v1 :: w :: ls) (xi a :: st) (M) Q = Wp 20 16 (v0 :: xjl v1 :: xi a :: ls) (st) (M) Q := wp_istore rfl rfl
theorem w20_16 {ls st : List xV} {M : xM} {Q : Option xV → xM → Prop} {a : Int} {v0 : xV} {v1 : xV} : Wp 20 16 (v0 :: v1 :: xi a :: ls) (st) (M) Q = Wp 20 17 (v0 :: v1 :: xi a :: ls) (xi a :: st) (M) Q := wp_iload rfl rfl
theorem w20_17 {ls st : List xV} {M : xM} {Q : Option xV → xM → Prop}  : Wp 20 17 (ls) (st) (M) Q = Wp 20 20 (ls) (xi 200 :: st) (M) Q := wp_const rfl
theorem w20_20 {ls st : List xV} {M : xM} {Q : Option xV → xM → Prop} {a : Int} {b : Int} (ha : xG a) (hb : xG b) : Wp 20 20 (ls) (xi b :: xi a :: st) (M) Q = ((b ≤ a → Wp 20 55 (ls) (st) (M) Q) ∧ (¬ (b ≤ a) → Wp 20 23 (ls) (st) (M) Q)) := wp_cmp_ge rfl ha hb
theorem w20_23 {ls st : List xV} {M : xM} {Q : Option xV → xM → Prop} {d : Nat} : Wp 20 23 (xr d :: ls) (st) (M) Q = Wp 20 24 (xr d :: ls) (xr d :: st) (M) Q := wp_aload rfl rfl
theorem w20_24 {ls st : List xV} {M : xM} {Q : Option xV → xM → Prop} {d : Nat} (hc : x_c d = 7) : Wp 20 24 (ls) (xr d :: st) (M) Q = Wp 20 27 (ls) (xi (M d 3) :: st) (M) Q := wp_getf rfl hc
theorem w20_27 {ls st : List xV} {M : xM} {Q : Option xV → xM → Prop} {d : Nat} : Wp 20 27 (xr d :: ls) (st) (M) Q = Wp 20 28 (xr d :: ls) (xr d :: st) (M) Q := wp_aload rfl rfl
theorem w20_28 {ls st : List xV} {M : xM} {Q : Option xV → xM → Prop} {d : Nat} (hc : x_c d = 7) : Wp 20 28 (ls) (xr d :: st) (M) Q = Wp 20 31 (ls) (xi (M d 2) :: st) (M) Q := wp_getf rfl hc
theorem w20_31 {ls st : List xV} {M : xM} {Q : Option xV → xM → Prop} {a : Int} {b : Int} (ha : xG a) (hb : xG b) : Wp 20 31 (ls) (xi b :: xi a :: st) (M) Q = ((b ≤ a → Wp 20 55 (ls) (st) (M) Q) ∧ (¬ (b ≤ a) → Wp 20 34 (ls) (st) (M) Q)) := wp_cmp_ge rfl ha hb
theorem w20_34 {ls st : List xV} {M : xM} {Q : Option xV → xM → Prop} {d : Nat} : Wp 20 34 (xr d :: ls) (st) (M) Q = Wp 20 35 (xr d :: ls) (xr d :: st) (M) Q := wp_aload rfl rfl
theorem w20_35 {ls st : List xV} {M : xM} {Q : Option xV → xM → Prop} {d : Nat} (hc : x_c d = 7) : Wp 20 35 (ls) (xr d :: st) (M) Q = Wp 20 38 (ls) (xi (M d 3) :: st) (M) Q := wp_getf rfl hc
theorem w20_38 {ls st : List xV} {M : xM} {Q : Option xV → xM → Prop} {a : Int} {v0 : xV} {v1 : xV} {v2 : xV} {w : xV} : Wp 20 38 (v0 :: v1 :: v2 :: w :: ls) (xi a :: st) (M) Q = Wp 20 39 (v0 :: v1 :: xjl v2 :: xi a :: ls) (st) (M) Q := wp_istore rfl rfl
theorem w20_39 {ls st : List xV} {M : xM} {Q : Option xV → xM → Prop} {d : Nat} : Wp 20 39 (xr d :: ls) (st) (M) Q = Wp 20 40 (xr d :: ls) (xr d :: st) (M) Q := wp_aload rfl rfl
theorem w20_40 {ls st : List xV} {M : xM} {Q : Option xV → xM → Prop} {d : Nat} {v0 : xV} : Wp 20 40 (v0 :: xr d :: ls) (st) (M) Q = Wp 20 41 (v0 :: xr d :: ls) (xr d :: st) (M) Q := wp_aload rfl rfl
theorem w20_41 {ls : List xV} {M : xM} {Q : Option xV → xM → Prop} {d0 : Nat} {d1 : Nat} (hc : x_c d0 = 7) : Wp 20 41 (ls) (xr d1 :: xr d0 :: []) (M) Q = Wc 21 [xr d0, xr d1] M (fun r M2 => Wp 20 44 (ls) (r.toList ++ ([])) M2 Q) := wp_cV rfl rfl hc (Nat.le_of_ble_eq_true rfl) (Nat.le_of_ble_eq_true rfl) rfl rfl
theorem w20_44 {ls st : List xV} {M : xM} {Q : Option xV → xM → Prop} {a : Int} (ha : xG a) : Wp 20 44 (ls) (xi a :: st) (M) Q = ((¬ a = 0 → Wp 20 49 (ls) (st) (M) Q) ∧ (¬ (¬ a = 0) → Wp 20 47 (ls) (st) (M) Q)) := wp_if_ne rfl ha
theorem w20_47 {ls st : List xV} {M : xM} {Q : Option xV → xM → Prop} {a : Int} {v0 : xV} {v1 : xV} {v2 : xV} : Wp 20 47 (v0 :: v1 :: v2 :: xi a :: ls) (st) (M) Q = Wp 20 48 (v0 :: v1 :: v2 :: xi a :: ls) (xi a :: st) (M) Q := wp_iload rfl rfl
theorem w20_48 {ls : List xV} {M : xM} {Q : Option xV → xM → Prop} {a : Int} : Wp 20 48 (ls) ([xi a]) (M) Q = Q (some (xi a)) M := wp_iret rfl
theorem w20_49 {ls st : List xV} {M : xM} {Q : Option xV → xM → Prop} {a : Int} {v0 : xV} {v1 : xV} : Wp 20 49 (v0 :: v1 :: xi a :: ls) (st) (M) Q = Wp 20 52 (v0 :: xjl v1 :: xi (a + 1) :: ls) (st) (M) Q := wp_iinc rfl rfl rfl
theorem w20_52 {ls st : List xV} {M : xM} {Q : Option xV → xM → Prop}  : Wp 20 52 (ls) (st) (M) Q = Wp 20 16 (ls) (st) (M) Q := wp_goto rfl
theorem w20_55 {ls st : List xV} {M : xM} {Q : Option xV → xM → Prop}  : Wp 20 55 (ls) (st) (M) Q = Wp 20 57 (ls) (xi (-4) :: st) (M) Q := wp_const rfl
theorem w20_57 {ls : List xV} {M : xM} {Q : Option xV → xM → Prop} {a : Int} : Wp 20 57 (ls) ([xi a]) (M) Q = Q (some (xi a)) M := wp_iret rfl
theorem wc21 {M : xM} {Q : Option xV → xM → Prop} {d0 : Nat} {d1 : Nat} : Wc 21 [xr d0, xr d1] M Q = Wp 21 0 [xr d0, xr d1, xj, xj, xj] [] M Q := rfl
theorem w21_0 {ls st : List xV} {M : xM} {Q : Option xV → xM → Prop} {d : Nat} : Wp 21 0 (xr d :: ls) (st) (M) Q = Wp 21 1 (xr d :: ls) (xr d :: st) (M) Q := wp_aload rfl rfl
theorem w21_1 {ls st : List xV} {M : xM} {Q : Option xV → xM → Prop} {d : Nat} (hc : x_c d = 7) : Wp 21 1 (ls) (xr d :: st) (M) Q = Wp 21 4 (ls) (xi (M d 3) :: st) (M) Q := wp_getf rfl hc
theorem w21_4 {ls st : List xV} {M : xM} {Q : Option xV → xM → Prop} {d : Nat} : Wp 21 4 (xr d :: ls) (st) (M) Q = Wp 21 5 (xr d :: ls) (xr d :: st) (M) Q := wp_aload rfl rfl
theorem w21_5 {ls st : List xV} {M : xM} {Q : Option xV → xM → Prop} {d : Nat} (hc : x_c d = 7) : Wp 21 5 (ls) (xr d :: st) (M) Q = Wp 21 8 (ls) (xi (M d 2) :: st) (M) Q := wp_getf rfl hc
theorem w21_8 {ls st : List xV} {M : xM} {Q : Option xV → xM → Prop} {a : Int} {b : Int} (ha : xG a) (hb : xG b) : Wp 21 8 (ls) (xi b :: xi a :: st) (M) Q = ((a < b → Wp 21 13 (ls) (st) (M) Q) ∧ (¬ (a < b) → Wp 21 11 (ls) (st) (M) Q)) := wp_cmp_lt rfl ha hb
theorem w21_11 {ls st : List xV} {M : xM} {Q : Option xV → xM → Prop}  : Wp 21 11 (ls) (st) (M) Q = Wp 21 12 (ls) (xi 0 :: st) (M) Q := wp_const rfl
theorem w21_12 {ls : List xV} {M : xM} {Q : Option xV → xM → Prop} {a : Int} (ha : a = 0 ∨ a = 1) : Wp 21 12 (ls) ([xi a]) (M) Q = Q (some (xi a)) M := wp_zret rfl ha
theorem w21_13 {ls st : List xV} {M : xM} {Q : Option xV → xM → Prop} {d : Nat} : Wp 21 13 (xr d :: ls) (st) (M) Q = Wp 21 14 (xr d :: ls) (xr d :: st) (M) Q := wp_aload rfl rfl
theorem w21_14 {ls st : List xV} {M : xM} {Q : Option xV → xM → Prop} {d : Nat} (hc : x_c d = 7) : Wp 21 14 (ls) (xr d :: st) (M) Q = Wp 21 17 (ls) (xr (x_r d 0) :: st) (M) Q := wp_getr rfl hc
theorem w21_17 {ls st : List xV} {M : xM} {Q : Option xV → xM → Prop} {d : Nat} : Wp 21 17 (xr d :: ls) (st) (M) Q = Wp 21 18 (xr d :: ls) (xr d :: st) (M) Q := wp_aload rfl rfl
theorem w21_18 {ls st : List xV} {M : xM} {Q : Option xV → xM → Prop} {d : Nat} (hc : x_c d = 7) : Wp 21 18 (ls) (xr d :: st) (M) Q = Wp 21 21 (ls) (xi (M d 3) :: st) (M) Q := wp_getf rfl hc
theorem w21_21 {ls st : List xV} {M : xM} {Q : Option xV → xM → Prop} {a : Int} {d : Nat} (hc : x_c d = 22) (hn : x_n d = 200) (h1 : 0 ≤ a) (h2 : a < 200) : Wp 21 21 (ls) (xi a :: xr d :: st) (M) Q = Wp 21 22 (ls) (xi (M d a) :: st) (M) Q := wp_ald rfl hc h1 (by rw [hn]; exact h2)
theorem w21_22 {ls st : List xV} {M : xM} {Q : Option xV → xM → Prop} {a : Int} {v0 : xV} {v1 : xV} {w : xV} : Wp 21 22 (v0 :: v1 :: w :: ls) (xi a :: st) (M) Q = Wp 21 23 (v0 :: xjl v1 :: xi a :: ls) (st) (M) Q := wp_istore rfl rfl
theorem w21_23 {ls st : List xV} {M : xM} {Q : Option xV → xM → Prop} {d : Nat} : Wp 21 23 (xr d :: ls) (st) (M) Q = Wp 21 24 (xr d :: ls) (xr d :: st) (M) Q := wp_aload rfl rfl
theorem w21_24 {ls st : List xV} {M : xM} {Q : Option xV → xM → Prop} {d : Nat} : Wp 21 24 (ls) (xr d :: st) (M) Q = Wp 21 25 (ls) (xr d :: xr d :: st) (M) Q := wp_dupA rfl
theorem w21_25 {ls st : List xV} {M : xM} {Q : Option xV → xM → Prop} {d : Nat} (hc : x_c d = 7) : Wp 21 25 (ls) (xr d :: st) (M) Q = Wp 21 28 (ls) (xi (M d 3) :: st) (M) Q := wp_getf rfl hc
theorem w21_28 {ls st : List xV} {M : xM} {Q : Option xV → xM → Prop}  : Wp 21 28 (ls) (st) (M) Q = Wp 21 29 (ls) (xi 1 :: st) (M) Q := wp_const rfl
theorem w21_29 {ls st : List xV} {M : xM} {Q : Option xV → xM → Prop} {a : Int} {b : Int} : Wp 21 29 (ls) (xi b :: xi a :: st) (M) Q = Wp 21 30 (ls) (xi (a + b) :: st) (M) Q := wp_bin (f := xadd) rfl
theorem w21_30 {ls st : List xV} {M : xM} {Q : Option xV → xM → Prop} {a : Int} {d : Nat} (hc : x_c d = 7) : Wp 21 30 (ls) (xi a :: xr d :: st) (M) Q = Wp 21 33 (ls) (st) (xup M d 3 a) Q := wp_putf rfl hc
theorem w21_33 {ls st : List xV} {M : xM} {Q : Option xV → xM → Prop} {a : Int} {v0 : xV} {v1 : xV} : Wp 21 33 (v0 :: v1 :: xi a :: ls) (st) (M) Q = Wp 21 34 (v0 :: v1 :: xi a :: ls) (xi a :: st) (M) Q := wp_iload rfl rfl
theorem w21_34 {ls st : List xV} {M : xM} {Q : Option xV → xM → Prop}  : Wp 21 34 (ls) (st) (M) Q = Wp 21 36 (ls) (xi 112 :: st) (M) Q := wp_const rfl
theorem w21_36 {ls st : List xV} {M : xM} {Q : Option xV → xM → Prop} {a : Int} {b : Int} (ha : xG a) (hb : xG b) : Wp 21 36 (ls) (xi b :: xi a :: st) (M) Q = ((¬ a = b → Wp 21 43 (ls) (st) (M) Q) ∧ (¬ (¬ a = b) → Wp 21 39 (ls) (st) (M) Q)) := wp_cmp_ne rfl ha hb
theorem w21_39 {ls st : List xV} {M : xM} {Q : Option xV → xM → Prop}  : Wp 21 39 (ls) (st) (M) Q = Wp 21 40 (ls) (xi 3 :: st) (M) Q := wp_const rfl
theorem w21_40 {ls st : List xV} {M : xM} {Q : Option xV → xM → Prop}  : Wp 21 40 (ls) (st) (M) Q = Wp 21 44 (ls) (st) (M) Q := wp_goto rfl
theorem w21_43 {ls st : List xV} {M : xM} {Q : Option xV → xM → Prop}  : Wp 21 43 (ls) (st) (M) Q = Wp 21 44 (ls) (xi 0 :: st) (M) Q := wp_const rfl
theorem w21_44 {ls st : List xV} {M : xM} {Q : Option xV → xM → Prop} {a : Int} {v0 : xV} {v1 : xV} {v2 : xV} {w : xV} : Wp 21 44 (v0 :: v1 :: v2 :: w :: ls) (xi a :: st) (M) Q = Wp 21 45 (v0 :: v1 :: xjl v2 :: xi a :: ls) (st) (M) Q := wp_istore rfl rfl
theorem w21_45 {ls st : List xV} {M : xM} {Q : Option xV → xM → Prop}  : Wp 21 45 (ls) (st) (M) Q = Wp 21 46 (ls) (xi 0 :: st) (M) Q := wp_const rfl
theorem w21_46 {ls st : List xV} {M : xM} {Q : Option xV → xM → Prop} {a : Int} {v0 : xV} {v1 : xV} {v2 : xV} {v3 : xV} {w : xV} : Wp 21 46 (v0 :: v1 :: v2 :: v3 :: w :: ls) (xi a :: st) (M) Q = Wp 21 48 (v0 :: v1 :: v2 :: xjl v3 :: xi a :: ls) (st) (M) Q := wp_istore rfl rfl
theorem w21_48 {ls st : List xV} {M : xM} {Q : Option xV → xM → Prop} {a : Int} {v0 : xV} {v1 : xV} {v2 : xV} {v3 : xV} : Wp 21 48 (v0 :: v1 :: v2 :: v3 :: xi a :: ls) (st) (M) Q = Wp 21 50 (v0 :: v1 :: v2 :: v3 :: xi a :: ls) (xi a :: st) (M) Q := wp_iload rfl rfl
theorem w21_50 {ls st : List xV} {M : xM} {Q : Option xV → xM → Prop} {a : Int} {v0 : xV} {v1 : xV} {v2 : xV} : Wp 21 50 (v0 :: v1 :: v2 :: xi a :: ls) (st) (M) Q = Wp 21 51 (v0 :: v1 :: v2 :: xi a :: ls) (xi a :: st) (M) Q := wp_iload rfl rfl
theorem w21_51 {ls st : List xV} {M : xM} {Q : Option xV → xM → Prop} {a : Int} {b : Int} (ha : xG a) (hb : xG b) : Wp 21 51 (ls) (xi b :: xi a :: st) (M) Q = ((b < a → Wp 21 84 (ls) (st) (M) Q) ∧ (¬ (b < a) → Wp 21 54 (ls) (st) (M) Q)) := wp_cmp_gt rfl ha hb
theorem w21_54 {ls st : List xV} {M : xM} {Q : Option xV → xM → Prop} {d : Nat} : Wp 21 54 (xr d :: ls) (st) (M) Q = Wp 21 55 (xr d :: ls) (xr d :: st) (M) Q := wp_aload rfl rfl
theorem w21_55 {ls st : List xV} {M : xM} {Q : Option xV → xM → Prop} {a : Int} {v0 : xV} {v1 : xV} {v2 : xV} {v3 : xV} : Wp 21 55 (v0 :: v1 :: v2 :: v3 :: xi a :: ls) (st) (M) Q = Wp 21 57 (v0 :: v1 :: v2 :: v3 :: xi a :: ls) (xi a :: st) (M) Q := wp_iload rfl rfl
theorem w21_57 {ls st : List xV} {M : xM} {Q : Option xV → xM → Prop} {a : Int} {v0 : xV} {v1 : xV} {v2 : xV} {v3 : xV} : Wp 21 57 (v0 :: v1 :: v2 :: v3 :: xi a :: ls) (st) (M) Q = Wp 21 59 (v0 :: v1 :: v2 :: v3 :: xi a :: ls) (xi a :: st) (M) Q := wp_iload rfl rfl
theorem w21_59 {ls st : List xV} {M : xM} {Q : Option xV → xM → Prop} {a : Int} {v0 : xV} {v1 : xV} {v2 : xV} : Wp 21 59 (v0 :: v1 :: v2 :: xi a :: ls) (st) (M) Q = Wp 21 60 (v0 :: v1 :: v2 :: xi a :: ls) (xi a :: st) (M) Q := wp_iload rfl rfl
theorem w21_60 {ls st : List xV} {M : xM} {Q : Option xV → xM → Prop} {a : Int} {b : Int} (ha : xG a) (hb : xG b) : Wp 21 60 (ls) (xi b :: xi a :: st) (M) Q = ((b ≤ a → Wp 21 68 (ls) (st) (M) Q) ∧ (¬ (b ≤ a) → Wp 21 63 (ls) (st) (M) Q)) := wp_cmp_ge rfl ha hb
theorem w21_63 {ls st : List xV} {M : xM} {Q : Option xV → xM → Prop}  : Wp 21 63 (ls) (st) (M) Q = Wp 21 65 (ls) (xi 44 :: st) (M) Q := wp_const rfl
theorem w21_65 {ls st : List xV} {M : xM} {Q : Option xV → xM → Prop}  : Wp 21 65 (ls) (st) (M) Q = Wp 21 70 (ls) (st) (M) Q := wp_goto rfl
theorem w21_68 {ls st : List xV} {M : xM} {Q : Option xV → xM → Prop}  : Wp 21 68 (ls) (st) (M) Q = Wp 21 70 (ls) (xi 59 :: st) (M) Q := wp_const rfl
theorem w21_70 {ls : List xV} {M : xM} {Q : Option xV → xM → Prop} {a1 : Int} {a2 : Int} {d0 : Nat} (hc : x_c d0 = 7) : Wp 21 70 (ls) (xi a2 :: xi a1 :: xr d0 :: []) (M) Q = Wc 22 [xr d0, xi a1, xi a2] M (fun r M2 => Wp 21 73 (ls) (r.toList ++ ([])) M2 Q) := wp_cV rfl rfl hc (Nat.le_of_ble_eq_true rfl) (Nat.le_of_ble_eq_true rfl) rfl rfl
theorem w21_73 {ls st : List xV} {M : xM} {Q : Option xV → xM → Prop} {a : Int} (ha : xG a) : Wp 21 73 (ls) (xi a :: st) (M) Q = ((¬ a = 0 → Wp 21 78 (ls) (st) (M) Q) ∧ (¬ (¬ a = 0) → Wp 21 76 (ls) (st) (M) Q)) := wp_if_ne rfl ha
theorem w21_76 {ls st : List xV} {M : xM} {Q : Option xV → xM → Prop}  : Wp 21 76 (ls) (st) (M) Q = Wp 21 77 (ls) (xi 0 :: st) (M) Q := wp_const rfl
theorem w21_77 {ls : List xV} {M : xM} {Q : Option xV → xM → Prop} {a : Int} (ha : a = 0 ∨ a = 1) : Wp 21 77 (ls) ([xi a]) (M) Q = Q (some (xi a)) M := wp_zret rfl ha
theorem w21_78 {ls st : List xV} {M : xM} {Q : Option xV → xM → Prop} {a : Int} {v0 : xV} {v1 : xV} {v2 : xV} {v3 : xV} : Wp 21 78 (v0 :: v1 :: v2 :: v3 :: xi a :: ls) (st) (M) Q = Wp 21 81 (v0 :: v1 :: v2 :: xjl v3 :: xi (a + 1) :: ls) (st) (M) Q := wp_iinc rfl rfl rfl
theorem w21_81 {ls st : List xV} {M : xM} {Q : Option xV → xM → Prop}  : Wp 21 81 (ls) (st) (M) Q = Wp 21 48 (ls) (st) (M) Q := wp_goto rfl
theorem w21_84 {ls st : List xV} {M : xM} {Q : Option xV → xM → Prop} {a : Int} {v0 : xV} {v1 : xV} : Wp 21 84 (v0 :: v1 :: xi a :: ls) (st) (M) Q = Wp 21 85 (v0 :: v1 :: xi a :: ls) (xi a :: st) (M) Q := wp_iload rfl rfl
theorem w21_85 {ls st : List xV} {M : xM} {Q : Option xV → xM → Prop}  : Wp 21 85 (ls) (st) (M) Q = Wp 21 87 (ls) (xi 110 :: st) (M) Q := wp_const rfl
theorem w21_87 {ls st : List xV} {M : xM} {Q : Option xV → xM → Prop} {a : Int} {b : Int} (ha : xG a) (hb : xG b) : Wp 21 87 (ls) (xi b :: xi a :: st) (M) Q = ((¬ a = b → Wp 21 116 (ls) (st) (M) Q) ∧ (¬ (¬ a = b) → Wp 21 90 (ls) (st) (M) Q)) := wp_cmp_ne rfl ha hb
theorem w21_90 {ls st : List xV} {M : xM} {Q : Option xV → xM → Prop} {d : Nat} : Wp 21 90 (xr d :: ls) (st) (M) Q = Wp 21 91 (xr d :: ls) (xr d :: st) (M) Q := wp_aload rfl rfl
theorem w21_91 {ls st : List xV} {M : xM} {Q : Option xV → xM → Prop} {d : Nat} (hc : x_c d = 7) : Wp 21 91 (ls) (xr d :: st) (M) Q = Wp 21 94 (ls) (xi (M d 4) :: st) (M) Q := wp_getf rfl hc
theorem w21_94 {ls st : List xV} {M : xM} {Q : Option xV → xM → Prop} {a : Int} (ha : xG a) : Wp 21 94 (ls) (xi a :: st) (M) Q = ((a = 0 → Wp 21 114 (ls) (st) (M) Q) ∧ (¬ (a = 0) → Wp 21 97 (ls) (st) (M) Q)) := wp_if_eq rfl ha
theorem w21_97 {ls st : List xV} {M : xM} {Q : Option xV → xM → Prop} {d : Nat} {v0 : xV} : Wp 21 97 (v0 :: xr d :: ls) (st) (M) Q = Wp 21 98 (v0 :: xr d :: ls) (xr d :: st) (M) Q := wp_aload rfl rfl
theorem w21_98 {ls st : List xV} {M : xM} {Q : Option xV → xM → Prop} {d : Nat} : Wp 21 98 (xr d :: ls) (st) (M) Q = Wp 21 99 (xr d :: ls) (xr d :: st) (M) Q := wp_aload rfl rfl
theorem w21_99 {ls st : List xV} {M : xM} {Q : Option xV → xM → Prop} {d : Nat} (hc : x_c d = 7) : Wp 21 99 (ls) (xr d :: st) (M) Q = Wp 21 102 (ls) (xr (x_r d 1) :: st) (M) Q := wp_getr rfl hc
theorem w21_102 {ls st : List xV} {M : xM} {Q : Option xV → xM → Prop}  : Wp 21 102 (ls) (st) (M) Q = Wp 21 103 (ls) (xi 0 :: st) (M) Q := wp_const rfl
theorem w21_103 {ls st : List xV} {M : xM} {Q : Option xV → xM → Prop} {a : Int} {d : Nat} (hc : x_c d = 20) (hn : x_n d = 4) (h1 : 0 ≤ a) (h2 : a < 4) : Wp 21 103 (ls) (xi a :: xr d :: st) (M) Q = Wp 21 104 (ls) (xi (M d a) :: st) (M) Q := wp_ald rfl hc h1 (by rw [hn]; exact h2)
theorem w21_104 {ls : List xV} {M : xM} {Q : Option xV → xM → Prop} {a1 : Int} {d0 : Nat} (hc : x_c d0 = 3) : Wp 21 104 (ls) (xi a1 :: xr d0 :: []) (M) Q = Wc 12 [xr d0, xi a1] M (fun r M2 => Wp 21 107 (ls) (r.toList ++ ([])) M2 Q) := wp_cV rfl rfl hc (Nat.le_of_ble_eq_true rfl) (Nat.le_of_ble_eq_true rfl) rfl rfl
theorem w21_107 {ls st : List xV} {M : xM} {Q : Option xV → xM → Prop} {a : Int} (ha : xG a) : Wp 21 107 (ls) (xi a :: st) (M) Q = ((a = 0 → Wp 21 114 (ls) (st) (M) Q) ∧ (¬ (a = 0) → Wp 21 110 (ls) (st) (M) Q)) := wp_if_eq rfl ha
theorem w21_110 {ls st : List xV} {M : xM} {Q : Option xV → xM → Prop}  : Wp 21 110 (ls) (st) (M) Q = Wp 21 111 (ls) (xi 1 :: st) (M) Q := wp_const rfl
theorem w21_111 {ls st : List xV} {M : xM} {Q : Option xV → xM → Prop}  : Wp 21 111 (ls) (st) (M) Q = Wp 21 115 (ls) (st) (M) Q := wp_goto rfl
theorem w21_114 {ls st : List xV} {M : xM} {Q : Option xV → xM → Prop}  : Wp 21 114 (ls) (st) (M) Q = Wp 21 115 (ls) (xi 0 :: st) (M) Q := wp_const rfl
theorem w21_115 {ls : List xV} {M : xM} {Q : Option xV → xM → Prop} {a : Int} (ha : a = 0 ∨ a = 1) : Wp 21 115 (ls) ([xi a]) (M) Q = Q (some (xi a)) M := wp_zret rfl ha
theorem w21_116 {ls st : List xV} {M : xM} {Q : Option xV → xM → Prop} {d : Nat} : Wp 21 116 (xr d :: ls) (st) (M) Q = Wp 21 117 (xr d :: ls) (xr d :: st) (M) Q := wp_aload rfl rfl
theorem w21_117 {ls st : List xV} {M : xM} {Q : Option xV → xM → Prop}  : Wp 21 117 (ls) (st) (M) Q = Wp 21 118 (ls) (xi 0 :: st) (M) Q := wp_const rfl
theorem w21_118 {ls st : List xV} {M : xM} {Q : Option xV → xM → Prop} {a : Int} {d : Nat} (hc : x_c d = 7) (ha : a = 0 ∨ a = 1) : Wp 21 118 (ls) (xi a :: xr d :: st) (M) Q = Wp 21 121 (ls) (st) (xup M d 4 a) Q := wp_putb rfl hc ha
theorem w21_121 {ls st : List xV} {M : xM} {Q : Option xV → xM → Prop} {a : Int} {v0 : xV} {v1 : xV} : Wp 21 121 (v0 :: v1 :: xi a :: ls) (st) (M) Q = Wp 21 122 (v0 :: v1 :: xi a :: ls) (xi a :: st) (M) Q := wp_iload rfl rfl
theorem w21_122 {ls st : List xV} {M : xM} {Q : Option xV → xM → Prop} {a : Int} (ha : xG a) : Wp 21 122 (ls) (xi a :: st) (M) Q = Wp 21 (xlk 226 a [(97, 204), (112, 175), (116, 164), (119, 215)]) (ls) (st) (M) Q := wp_lsw rfl ha
theorem w21_164 {ls st : List xV} {M : xM} {Q : Option xV → xM → Prop} {d : Nat} {v0 : xV} : Wp 21 164 (v0 :: xr d :: ls) (st) (M) Q = Wp 21 165 (v0 :: xr d :: ls) (xr d :: st) (M) Q := wp_aload rfl rfl
theorem w21_165 {ls st : List xV} {M : xM} {Q : Option xV → xM → Prop} {d : Nat} : Wp 21 165 (xr d :: ls) (st) (M) Q = Wp 21 166 (xr d :: ls) (xr d :: st) (M) Q := wp_aload rfl rfl
theorem w21_166 {ls st : List xV} {M : xM} {Q : Option xV → xM → Prop} {d : Nat} (hc : x_c d = 7) : Wp 21 166 (ls) (xr d :: st) (M) Q = Wp 21 169 (ls) (xr (x_r d 1) :: st) (M) Q := wp_getr rfl hc
theorem w21_169 {ls st : List xV} {M : xM} {Q : Option xV → xM → Prop}  : Wp 21 169 (ls) (st) (M) Q = Wp 21 170 (ls) (xi 0 :: st) (M) Q := wp_const rfl
theorem w21_170 {ls st : List xV} {M : xM} {Q : Option xV → xM → Prop} {a : Int} {d : Nat} (hc : x_c d = 20) (hn : x_n d = 4) (h1 : 0 ≤ a) (h2 : a < 4) : Wp 21 170 (ls) (xi a :: xr d :: st) (M) Q = Wp 21 171 (ls) (xi (M d a) :: st) (M) Q := wp_ald rfl hc h1 (by rw [hn]; exact h2)
theorem w21_171 {ls : List xV} {M : xM} {Q : Option xV → xM → Prop} {a1 : Int} {d0 : Nat} (hc : x_c d0 = 3) : Wp 21 171 (ls) (xi a1 :: xr d0 :: []) (M) Q = Wc 13 [xr d0, xi a1] M (fun r M2 => Wp 21 174 (ls) (r.toList ++ ([])) M2 Q) := wp_cV rfl rfl hc (Nat.le_of_ble_eq_true rfl) (Nat.le_of_ble_eq_true rfl) rfl rfl
theorem w21_174 {ls : List xV} {M : xM} {Q : Option xV → xM → Prop} {a : Int} (ha : a = 0 ∨ a = 1) : Wp 21 174 (ls) ([xi a]) (M) Q = Q (some (xi a)) M := wp_zret rfl ha
theorem w21_175 {ls st : List xV} {M : xM} {Q : Option xV → xM → Prop} {d : Nat} {v0 : xV} : Wp 21 175 (v0 :: xr d :: ls) (st) (M) Q = Wp 21 176 (v0 :: xr d :: ls) (xr d :: st) (M) Q := wp_aload rfl rfl
theorem w21_176 {ls st : List xV} {M : xM} {Q : Option xV → xM → Prop} {d : Nat} : Wp 21 176 (xr d :: ls) (st) (M) Q = Wp 21 177 (xr d :: ls) (xr d :: st) (M) Q := wp_aload rfl rfl
theorem w21_177 {ls st : List xV} {M : xM} {Q : Option xV → xM → Prop} {d : Nat} (hc : x_c d = 7) : Wp 21 177 (ls) (xr d :: st) (M) Q = Wp 21 180 (ls) (xr (x_r d 1) :: st) (M) Q := wp_getr rfl hc
theorem w21_180 {ls st : List xV} {M : xM} {Q : Option xV → xM → Prop}  : Wp 21 180 (ls) (st) (M) Q = Wp 21 181 (ls) (xi 0 :: st) (M) Q := wp_const rfl
theorem w21_181 {ls st : List xV} {M : xM} {Q : Option xV → xM → Prop} {a : Int} {d : Nat} (hc : x_c d = 20) (hn : x_n d = 4) (h1 : 0 ≤ a) (h2 : a < 4) : Wp 21 181 (ls) (xi a :: xr d :: st) (M) Q = Wp 21 182 (ls) (xi (M d a) :: st) (M) Q := wp_ald rfl hc h1 (by rw [hn]; exact h2)
theorem w21_182 {ls st : List xV} {M : xM} {Q : Option xV → xM → Prop} {d : Nat} : Wp 21 182 (xr d :: ls) (st) (M) Q = Wp 21 183 (xr d :: ls) (xr d :: st) (M) Q := wp_aload rfl rfl
theorem w21_183 {ls st : List xV} {M : xM} {Q : Option xV → xM → Prop} {d : Nat} (hc : x_c d = 7) : Wp 21 183 (ls) (xr d :: st) (M) Q = Wp 21 186 (ls) (xr (x_r d 1) :: st) (M) Q := wp_getr rfl hc
theorem w21_186 {ls st : List xV} {M : xM} {Q : Option xV → xM → Prop}  : Wp 21 186 (ls) (st) (M) Q = Wp 21 187 (ls) (xi 1 :: st) (M) Q := wp_const rfl
theorem w21_187 {ls st : List xV} {M : xM} {Q : Option xV → xM → Prop} {a : Int} {d : Nat} (hc : x_c d = 20) (hn : x_n d = 4) (h1 : 0 ≤ a) (h2 : a < 4) : Wp 21 187 (ls) (xi a :: xr d :: st) (M) Q = Wp 21 188 (ls) (xi (M d a) :: st) (M) Q := wp_ald rfl hc h1 (by rw [hn]; exact h2)
theorem w21_188 {ls st : List xV} {M : xM} {Q : Option xV → xM → Prop} {d : Nat} : Wp 21 188 (xr d :: ls) (st) (M) Q = Wp 21 189 (xr d :: ls) (xr d :: st) (M) Q := wp_aload rfl rfl
theorem w21_189 {ls st : List xV} {M : xM} {Q : Option xV → xM → Prop} {d : Nat} (hc : x_c d = 7) : Wp 21 189 (ls) (xr d :: st) (M) Q = Wp 21 192 (ls) (xr (x_r d 1) :: st) (M) Q := wp_getr rfl hc
theorem w21_192 {ls st : List xV} {M : xM} {Q : Option xV → xM → Prop}  : Wp 21 192 (ls) (st) (M) Q = Wp 21 193 (ls) (xi 2 :: st) (M) Q := wp_const rfl
theorem w21_193 {ls st : List xV} {M : xM} {Q : Option xV → xM → Prop} {a : Int} {d : Nat} (hc : x_c d = 20) (hn : x_n d = 4) (h1 : 0 ≤ a) (h2 : a < 4) : Wp 21 193 (ls) (xi a :: xr d :: st) (M) Q = Wp 21 194 (ls) (xi (M d a) :: st) (M) Q := wp_ald rfl hc h1 (by rw [hn]; exact h2)
theorem w21_194 {ls st : List xV} {M : xM} {Q : Option xV → xM → Prop} {d : Nat} : Wp 21 194 (xr d :: ls) (st) (M) Q = Wp 21 195 (xr d :: ls) (xr d :: st) (M) Q := wp_aload rfl rfl
theorem w21_195 {ls st : List xV} {M : xM} {Q : Option xV → xM → Prop} {d : Nat} (hc : x_c d = 7) : Wp 21 195 (ls) (xr d :: st) (M) Q = Wp 21 198 (ls) (xr (x_r d 1) :: st) (M) Q := wp_getr rfl hc
theorem w21_198 {ls st : List xV} {M : xM} {Q : Option xV → xM → Prop}  : Wp 21 198 (ls) (st) (M) Q = Wp 21 199 (ls) (xi 3 :: st) (M) Q := wp_const rfl
theorem w21_199 {ls st : List xV} {M : xM} {Q : Option xV → xM → Prop} {a : Int} {d : Nat} (hc : x_c d = 20) (hn : x_n d = 4) (h1 : 0 ≤ a) (h2 : a < 4) : Wp 21 199 (ls) (xi a :: xr d :: st) (M) Q = Wp 21 200 (ls) (xi (M d a) :: st) (M) Q := wp_ald rfl hc h1 (by rw [hn]; exact h2)
set_option maxRecDepth 20000 in
theorem w21_200 {ls : List xV} {M : xM} {Q : Option xV → xM → Prop} {a1 : Int} {a2 : Int} {a3 : Int} {a4 : Int} {d0 : Nat} (hc : x_c d0 = 3) : Wp 21 200 (ls) (xi a4 :: xi a3 :: xi a2 :: xi a1 :: xr d0 :: []) (M) Q = Wc 14 [xr d0, xi a1, xi a2, xi a3, xi a4] M (fun r M2 => Wp 21 203 (ls) (r.toList ++ ([])) M2 Q) := wp_cV rfl rfl hc (Nat.le_of_ble_eq_true rfl) (Nat.le_of_ble_eq_true rfl) rfl rfl
set_option maxRecDepth 20000 in
theorem w21_203 {ls : List xV} {M : xM} {Q : Option xV → xM → Prop} {a : Int} (ha : a = 0 ∨ a = 1) : Wp 21 203 (ls) ([xi a]) (M) Q = Q (some (xi a)) M := wp_zret rfl ha
set_option maxRecDepth 20000 in
theorem w21_204 {ls st : List xV} {M : xM} {Q : Option xV → xM → Prop} {d : Nat} {v0 : xV} : Wp 21 204 (v0 :: xr d :: ls) (st) (M) Q = Wp 21 205 (v0 :: xr d :: ls) (xr d :: st) (M) Q := wp_aload rfl rfl
set_option maxRecDepth 20000 in
theorem w21_205 {ls st : List xV} {M : xM} {Q : Option xV → xM → Prop} {d : Nat} : Wp 21 205 (xr d :: ls) (st) (M) Q = Wp 21 206 (xr d :: ls) (xr d :: st) (M) Q := wp_aload rfl rfl
set_option maxRecDepth 20000 in
theorem w21_206 {ls st : List xV} {M : xM} {Q : Option xV → xM → Prop} {d : Nat} (hc : x_c d = 7) : Wp 21 206 (ls) (xr d :: st) (M) Q = Wp 21 209 (ls) (xr (x_r d 1) :: st) (M) Q := wp_getr rfl hc
set_option maxRecDepth 20000 in
theorem w21_209 {ls st : List xV} {M : xM} {Q : Option xV → xM → Prop}  : Wp 21 209 (ls) (st) (M) Q = Wp 21 210 (ls) (xi 0 :: st) (M) Q := wp_const rfl
set_option maxRecDepth 20000 in
theorem w21_210 {ls st : List xV} {M : xM} {Q : Option xV → xM → Prop} {a : Int} {d : Nat} (hc : x_c d = 20) (hn : x_n d = 4) (h1 : 0 ≤ a) (h2 : a < 4) : Wp 21 210 (ls) (xi a :: xr d :: st) (M) Q = Wp 21 211 (ls) (xi (M d a) :: st) (M) Q := wp_ald rfl hc h1 (by rw [hn]; exact h2)
set_option maxRecDepth 20000 in
theorem w21_211 {ls : List xV} {M : xM} {Q : Option xV → xM → Prop} {a1 : Int} {d0 : Nat} (hc : x_c d0 = 3) : Wp 21 211 (ls) (xi a1 :: xr d0 :: []) (M) Q = Wc 15 [xr d0, xi a1] M (fun r M2 => Wp 21 214 (ls) (r.toList ++ ([])) M2 Q) := wp_cV rfl rfl hc (Nat.le_of_ble_eq_true rfl) (Nat.le_of_ble_eq_true rfl) rfl rfl
set_option maxRecDepth 20000 in
theorem w21_214 {ls : List xV} {M : xM} {Q : Option xV → xM → Prop} {a : Int} (ha : a = 0 ∨ a = 1) : Wp 21 214 (ls) ([xi a]) (M) Q = Q (some (xi a)) M := wp_zret rfl ha
set_option maxRecDepth 20000 in
theorem w21_215 {ls st : List xV} {M : xM} {Q : Option xV → xM → Prop} {d : Nat} {v0 : xV} : Wp 21 215 (v0 :: xr d :: ls) (st) (M) Q = Wp 21 216 (v0 :: xr d :: ls) (xr d :: st) (M) Q := wp_aload rfl rfl
set_option maxRecDepth 20000 in
theorem w21_216 {ls st : List xV} {M : xM} {Q : Option xV → xM → Prop} {d : Nat} : Wp 21 216 (xr d :: ls) (st) (M) Q = Wp 21 217 (xr d :: ls) (xr d :: st) (M) Q := wp_aload rfl rfl
set_option maxRecDepth 20000 in
theorem w21_217 {ls st : List xV} {M : xM} {Q : Option xV → xM → Prop} {d : Nat} (hc : x_c d = 7) : Wp 21 217 (ls) (xr d :: st) (M) Q = Wp 21 220 (ls) (xr (x_r d 1) :: st) (M) Q := wp_getr rfl hc
set_option maxRecDepth 20000 in
theorem w21_220 {ls st : List xV} {M : xM} {Q : Option xV → xM → Prop}  : Wp 21 220 (ls) (st) (M) Q = Wp 21 221 (ls) (xi 0 :: st) (M) Q := wp_const rfl
set_option maxRecDepth 20000 in
theorem w21_221 {ls st : List xV} {M : xM} {Q : Option xV → xM → Prop} {a : Int} {d : Nat} (hc : x_c d = 20) (hn : x_n d = 4) (h1 : 0 ≤ a) (h2 : a < 4) : Wp 21 221 (ls) (xi a :: xr d :: st) (M) Q = Wp 21 222 (ls) (xi (M d a) :: st) (M) Q := wp_ald rfl hc h1 (by rw [hn]; exact h2)
set_option maxRecDepth 20000 in
theorem w21_222 {ls : List xV} {M : xM} {Q : Option xV → xM → Prop} {a1 : Int} {d0 : Nat} (hc : x_c d0 = 3) : Wp 21 222 (ls) (xi a1 :: xr d0 :: []) (M) Q = Wc 16 [xr d0, xi a1] M (fun r M2 => Wp 21 225 (ls) (r.toList ++ ([])) M2 Q) := wp_cV rfl rfl hc (Nat.le_of_ble_eq_true rfl) (Nat.le_of_ble_eq_true rfl) rfl rfl
set_option maxRecDepth 20000 in
theorem w21_225 {ls : List xV} {M : xM} {Q : Option xV → xM → Prop} {a : Int} (ha : a = 0 ∨ a = 1) : Wp 21 225 (ls) ([xi a]) (M) Q = Q (some (xi a)) M := wp_zret rfl ha
set_option maxRecDepth 20000 in
theorem w21_226 {ls st : List xV} {M : xM} {Q : Option xV → xM → Prop}  : Wp 21 226 (ls) (st) (M) Q = Wp 21 227 (ls) (xi 0 :: st) (M) Q := wp_const rfl
set_option maxRecDepth 20000 in
theorem w21_227 {ls : List xV} {M : xM} {Q : Option xV → xM → Prop} {a : Int} (ha : a = 0 ∨ a = 1) : Wp 21 227 (ls) ([xi a]) (M) Q = Q (some (xi a)) M := wp_zret rfl ha
theorem wc22 {M : xM} {Q : Option xV → xM → Prop} {d0 : Nat} {a1 : Int} {a2 : Int} : Wc 22 [xr d0, xi a1, xi a2] M Q = Wp 22 0 [xr d0, xi a1, xi a2, xj, xj] [] M Q := rfl
theorem w22_0 {ls st : List xV} {M : xM} {Q : Option xV → xM → Prop}  : Wp 22 0 (ls) (st) (M) Q = Wp 22 1 (ls) (xi 0 :: st) (M) Q := wp_const rfl
theorem w22_1 {ls st : List xV} {M : xM} {Q : Option xV → xM → Prop} {a : Int} {v0 : xV} {v1 : xV} {v2 : xV} {w : xV} : Wp 22 1 (v0 :: v1 :: v2 :: w :: ls) (xi a :: st) (M) Q = Wp 22 2 (v0 :: v1 :: xjl v2 :: xi a :: ls) (st) (M) Q := wp_istore rfl rfl
theorem w22_2 {ls st : List xV} {M : xM} {Q : Option xV → xM → Prop}  : Wp 22 2 (ls) (st) (M) Q = Wp 22 3 (ls) (xi 0 :: st) (M) Q := wp_const rfl
theorem w22_3 {ls st : List xV} {M : xM} {Q : Option xV → xM → Prop} {a : Int} {v0 : xV} {v1 : xV} {v2 : xV} {v3 : xV} {w : xV} : Wp 22 3 (v0 :: v1 :: v2 :: v3 :: w :: ls) (xi a :: st) (M) Q = Wp 22 5 (v0 :: v1 :: v2 :: xjl v3 :: xi a :: ls) (st) (M) Q := wp_istore rfl rfl
theorem w22_5 {ls st : List xV} {M : xM} {Q : Option xV → xM → Prop} {a : Int} {v0 : xV} {v1 : xV} {v2 : xV} {v3 : xV} : Wp 22 5 (v0 :: v1 :: v2 :: v3 :: xi a :: ls) (st) (M) Q = Wp 22 7 (v0 :: v1 :: v2 :: v3 :: xi a :: ls) (xi a :: st) (M) Q := wp_iload rfl rfl
theorem w22_7 {ls st : List xV} {M : xM} {Q : Option xV → xM → Prop}  : Wp 22 7 (ls) (st) (M) Q = Wp 22 8 (ls) (xi 2 :: st) (M) Q := wp_const rfl
theorem w22_8 {ls st : List xV} {M : xM} {Q : Option xV → xM → Prop} {a : Int} {b : Int} (ha : xG a) (hb : xG b) : Wp 22 8 (ls) (xi b :: xi a :: st) (M) Q = ((b ≤ a → Wp 22 71 (ls) (st) (M) Q) ∧ (¬ (b ≤ a) → Wp 22 11 (ls) (st) (M) Q)) := wp_cmp_ge rfl ha hb
theorem w22_11 {ls st : List xV} {M : xM} {Q : Option xV → xM → Prop} {d : Nat} : Wp 22 11 (xr d :: ls) (st) (M) Q = Wp 22 12 (xr d :: ls) (xr d :: st) (M) Q := wp_aload rfl rfl
theorem w22_12 {ls st : List xV} {M : xM} {Q : Option xV → xM → Prop} {d : Nat} (hc : x_c d = 7) : Wp 22 12 (ls) (xr d :: st) (M) Q = Wp 22 15 (ls) (xi (M d 3) :: st) (M) Q := wp_getf rfl hc
theorem w22_15 {ls st : List xV} {M : xM} {Q : Option xV → xM → Prop} {d : Nat} : Wp 22 15 (xr d :: ls) (st) (M) Q = Wp 22 16 (xr d :: ls) (xr d :: st) (M) Q := wp_aload rfl rfl
theorem w22_16 {ls st : List xV} {M : xM} {Q : Option xV → xM → Prop} {d : Nat} (hc : x_c d = 7) : Wp 22 16 (ls) (xr d :: st) (M) Q = Wp 22 19 (ls) (xi (M d 2) :: st) (M) Q := wp_getf rfl hc
theorem w22_19 {ls st : List xV} {M : xM} {Q : Option xV → xM → Prop} {a : Int} {b : Int} (ha : xG a) (hb : xG b) : Wp 22 19 (ls) (xi b :: xi a :: st) (M) Q = ((b ≤ a → Wp 22 71 (ls) (st) (M) Q) ∧ (¬ (b ≤ a) → Wp 22 22 (ls) (st) (M) Q)) := wp_cmp_ge rfl ha hb
theorem w22_22 {ls st : List xV} {M : xM} {Q : Option xV → xM → Prop} {d : Nat} : Wp 22 22 (xr d :: ls) (st) (M) Q = Wp 22 23 (xr d :: ls) (xr d :: st) (M) Q := wp_aload rfl rfl
theorem w22_23 {ls st : List xV} {M : xM} {Q : Option xV → xM → Prop} {d : Nat} (hc : x_c d = 7) : Wp 22 23 (ls) (xr d :: st) (M) Q = Wp 22 26 (ls) (xr (x_r d 0) :: st) (M) Q := wp_getr rfl hc
theorem w22_26 {ls st : List xV} {M : xM} {Q : Option xV → xM → Prop} {d : Nat} : Wp 22 26 (xr d :: ls) (st) (M) Q = Wp 22 27 (xr d :: ls) (xr d :: st) (M) Q := wp_aload rfl rfl
theorem w22_27 {ls st : List xV} {M : xM} {Q : Option xV → xM → Prop} {d : Nat} (hc : x_c d = 7) : Wp 22 27 (ls) (xr d :: st) (M) Q = Wp 22 30 (ls) (xi (M d 3) :: st) (M) Q := wp_getf rfl hc
theorem w22_30 {ls st : List xV} {M : xM} {Q : Option xV → xM → Prop} {a : Int} {d : Nat} (hc : x_c d = 22) (hn : x_n d = 200) (h1 : 0 ≤ a) (h2 : a < 200) : Wp 22 30 (ls) (xi a :: xr d :: st) (M) Q = Wp 22 31 (ls) (xi (M d a) :: st) (M) Q := wp_ald rfl hc h1 (by rw [hn]; exact h2)
theorem w22_31 {ls : List xV} {M : xM} {Q : Option xV → xM → Prop} {a0 : Int} : Wp 22 31 (ls) (xi a0 :: []) (M) Q = Wc 23 [xi a0] M (fun r M2 => Wp 22 34 (ls) (r.toList ++ ([])) M2 Q) := wp_cS rfl rfl (Nat.le_of_ble_eq_true rfl) (Nat.le_of_ble_eq_true rfl) rfl rfl
theorem w22_34 {ls st : List xV} {M : xM} {Q : Option xV → xM → Prop} {a : Int} (ha : xG a) : Wp 22 34 (ls) (xi a :: st) (M) Q = ((a = 0 → Wp 22 71 (ls) (st) (M) Q) ∧ (¬ (a = 0) → Wp 22 37 (ls) (st) (M) Q)) := wp_if_eq rfl ha
theorem w22_37 {ls st : List xV} {M : xM} {Q : Option xV → xM → Prop}  : Wp 22 37 (ls) (st) (M) Q = Wp 22 39 (ls) (xi 10 :: st) (M) Q := wp_const rfl
theorem w22_39 {ls st : List xV} {M : xM} {Q : Option xV → xM → Prop} {a : Int} {v0 : xV} {v1 : xV} {v2 : xV} : Wp 22 39 (v0 :: v1 :: v2 :: xi a :: ls) (st) (M) Q = Wp 22 40 (v0 :: v1 :: v2 :: xi a :: ls) (xi a :: st) (M) Q := wp_iload rfl rfl
theorem w22_40 {ls st : List xV} {M : xM} {Q : Option xV → xM → Prop} {a : Int} {b : Int} : Wp 22 40 (ls) (xi b :: xi a :: st) (M) Q = Wp 22 41 (ls) (xi (a * b) :: st) (M) Q := wp_bin (f := xmul) rfl
theorem w22_41 {ls st : List xV} {M : xM} {Q : Option xV → xM → Prop} {d : Nat} : Wp 22 41 (xr d :: ls) (st) (M) Q = Wp 22 42 (xr d :: ls) (xr d :: st) (M) Q := wp_aload rfl rfl
theorem w22_42 {ls st : List xV} {M : xM} {Q : Option xV → xM → Prop} {d : Nat} (hc : x_c d = 7) : Wp 22 42 (ls) (xr d :: st) (M) Q = Wp 22 45 (ls) (xr (x_r d 0) :: st) (M) Q := wp_getr rfl hc
theorem w22_45 {ls st : List xV} {M : xM} {Q : Option xV → xM → Prop} {d : Nat} : Wp 22 45 (xr d :: ls) (st) (M) Q = Wp 22 46 (xr d :: ls) (xr d :: st) (M) Q := wp_aload rfl rfl
theorem w22_46 {ls st : List xV} {M : xM} {Q : Option xV → xM → Prop} {d : Nat} (hc : x_c d = 7) : Wp 22 46 (ls) (xr d :: st) (M) Q = Wp 22 49 (ls) (xi (M d 3) :: st) (M) Q := wp_getf rfl hc
theorem w22_49 {ls st : List xV} {M : xM} {Q : Option xV → xM → Prop} {a : Int} {d : Nat} (hc : x_c d = 22) (hn : x_n d = 200) (h1 : 0 ≤ a) (h2 : a < 200) : Wp 22 49 (ls) (xi a :: xr d :: st) (M) Q = Wp 22 50 (ls) (xi (M d a) :: st) (M) Q := wp_ald rfl hc h1 (by rw [hn]; exact h2)
theorem w22_50 {ls st : List xV} {M : xM} {Q : Option xV → xM → Prop} {a : Int} {b : Int} : Wp 22 50 (ls) (xi b :: xi a :: st) (M) Q = Wp 22 51 (ls) (xi (a + b) :: st) (M) Q := wp_bin (f := xadd) rfl
theorem w22_51 {ls st : List xV} {M : xM} {Q : Option xV → xM → Prop}  : Wp 22 51 (ls) (st) (M) Q = Wp 22 53 (ls) (xi 48 :: st) (M) Q := wp_const rfl
theorem w22_53 {ls st : List xV} {M : xM} {Q : Option xV → xM → Prop} {a : Int} {b : Int} : Wp 22 53 (ls) (xi b :: xi a :: st) (M) Q = Wp 22 54 (ls) (xi (a - b) :: st) (M) Q := wp_bin (f := xsub) rfl
theorem w22_54 {ls st : List xV} {M : xM} {Q : Option xV → xM → Prop} {a : Int} {v0 : xV} {v1 : xV} {v2 : xV} {w : xV} : Wp 22 54 (v0 :: v1 :: v2 :: w :: ls) (xi a :: st) (M) Q = Wp 22 55 (v0 :: v1 :: xjl v2 :: xi a :: ls) (st) (M) Q := wp_istore rfl rfl
theorem w22_55 {ls st : List xV} {M : xM} {Q : Option xV → xM → Prop} {d : Nat} : Wp 22 55 (xr d :: ls) (st) (M) Q = Wp 22 56 (xr d :: ls) (xr d :: st) (M) Q := wp_aload rfl rfl
theorem w22_56 {ls st : List xV} {M : xM} {Q : Option xV → xM → Prop} {d : Nat} : Wp 22 56 (ls) (xr d :: st) (M) Q = Wp 22 57 (ls) (xr d :: xr d :: st) (M) Q := wp_dupA rfl
theorem w22_57 {ls st : List xV} {M : xM} {Q : Option xV → xM → Prop} {d : Nat} (hc : x_c d = 7) : Wp 22 57 (ls) (xr d :: st) (M) Q = Wp 22 60 (ls) (xi (M d 3) :: st) (M) Q := wp_getf rfl hc
theorem w22_60 {ls st : List xV} {M : xM} {Q : Option xV → xM → Prop}  : Wp 22 60 (ls) (st) (M) Q = Wp 22 61 (ls) (xi 1 :: st) (M) Q := wp_const rfl
theorem w22_61 {ls st : List xV} {M : xM} {Q : Option xV → xM → Prop} {a : Int} {b : Int} : Wp 22 61 (ls) (xi b :: xi a :: st) (M) Q = Wp 22 62 (ls) (xi (a + b) :: st) (M) Q := wp_bin (f := xadd) rfl
theorem w22_62 {ls st : List xV} {M : xM} {Q : Option xV → xM → Prop} {a : Int} {d : Nat} (hc : x_c d = 7) : Wp 22 62 (ls) (xi a :: xr d :: st) (M) Q = Wp 22 65 (ls) (st) (xup M d 3 a) Q := wp_putf rfl hc
theorem w22_65 {ls st : List xV} {M : xM} {Q : Option xV → xM → Prop} {a : Int} {v0 : xV} {v1 : xV} {v2 : xV} {v3 : xV} : Wp 22 65 (v0 :: v1 :: v2 :: v3 :: xi a :: ls) (st) (M) Q = Wp 22 68 (v0 :: v1 :: v2 :: xjl v3 :: xi (a + 1) :: ls) (st) (M) Q := wp_iinc rfl rfl rfl
theorem w22_68 {ls st : List xV} {M : xM} {Q : Option xV → xM → Prop}  : Wp 22 68 (ls) (st) (M) Q = Wp 22 5 (ls) (st) (M) Q := wp_goto rfl
theorem w22_71 {ls st : List xV} {M : xM} {Q : Option xV → xM → Prop} {a : Int} {v0 : xV} {v1 : xV} {v2 : xV} {v3 : xV} : Wp 22 71 (v0 :: v1 :: v2 :: v3 :: xi a :: ls) (st) (M) Q = Wp 22 73 (v0 :: v1 :: v2 :: v3 :: xi a :: ls) (xi a :: st) (M) Q := wp_iload rfl rfl
theorem w22_73 {ls st : List xV} {M : xM} {Q : Option xV → xM → Prop} {a : Int} (ha : xG a) : Wp 22 73 (ls) (xi a :: st) (M) Q = ((a = 0 → Wp 22 100 (ls) (st) (M) Q) ∧ (¬ (a = 0) → Wp 22 76 (ls) (st) (M) Q)) := wp_if_eq rfl ha
theorem w22_76 {ls st : List xV} {M : xM} {Q : Option xV → xM → Prop} {d : Nat} : Wp 22 76 (xr d :: ls) (st) (M) Q = Wp 22 77 (xr d :: ls) (xr d :: st) (M) Q := wp_aload rfl rfl
theorem w22_77 {ls st : List xV} {M : xM} {Q : Option xV → xM → Prop} {d : Nat} (hc : x_c d = 7) : Wp 22 77 (ls) (xr d :: st) (M) Q = Wp 22 80 (ls) (xi (M d 3) :: st) (M) Q := wp_getf rfl hc
theorem w22_80 {ls st : List xV} {M : xM} {Q : Option xV → xM → Prop} {d : Nat} : Wp 22 80 (xr d :: ls) (st) (M) Q = Wp 22 81 (xr d :: ls) (xr d :: st) (M) Q := wp_aload rfl rfl
theorem w22_81 {ls st : List xV} {M : xM} {Q : Option xV → xM → Prop} {d : Nat} (hc : x_c d = 7) : Wp 22 81 (ls) (xr d :: st) (M) Q = Wp 22 84 (ls) (xi (M d 2) :: st) (M) Q := wp_getf rfl hc
theorem w22_84 {ls st : List xV} {M : xM} {Q : Option xV → xM → Prop} {a : Int} {b : Int} (ha : xG a) (hb : xG b) : Wp 22 84 (ls) (xi b :: xi a :: st) (M) Q = ((b ≤ a → Wp 22 100 (ls) (st) (M) Q) ∧ (¬ (b ≤ a) → Wp 22 87 (ls) (st) (M) Q)) := wp_cmp_ge rfl ha hb
theorem w22_87 {ls st : List xV} {M : xM} {Q : Option xV → xM → Prop} {d : Nat} : Wp 22 87 (xr d :: ls) (st) (M) Q = Wp 22 88 (xr d :: ls) (xr d :: st) (M) Q := wp_aload rfl rfl
theorem w22_88 {ls st : List xV} {M : xM} {Q : Option xV → xM → Prop} {d : Nat} (hc : x_c d = 7) : Wp 22 88 (ls) (xr d :: st) (M) Q = Wp 22 91 (ls) (xr (x_r d 0) :: st) (M) Q := wp_getr rfl hc
theorem w22_91 {ls st : List xV} {M : xM} {Q : Option xV → xM → Prop} {d : Nat} : Wp 22 91 (xr d :: ls) (st) (M) Q = Wp 22 92 (xr d :: ls) (xr d :: st) (M) Q := wp_aload rfl rfl
theorem w22_92 {ls st : List xV} {M : xM} {Q : Option xV → xM → Prop} {d : Nat} (hc : x_c d = 7) : Wp 22 92 (ls) (xr d :: st) (M) Q = Wp 22 95 (ls) (xi (M d 3) :: st) (M) Q := wp_getf rfl hc
theorem w22_95 {ls st : List xV} {M : xM} {Q : Option xV → xM → Prop} {a : Int} {d : Nat} (hc : x_c d = 22) (hn : x_n d = 200) (h1 : 0 ≤ a) (h2 : a < 200) : Wp 22 95 (ls) (xi a :: xr d :: st) (M) Q = Wp 22 96 (ls) (xi (M d a) :: st) (M) Q := wp_ald rfl hc h1 (by rw [hn]; exact h2)
theorem w22_96 {ls st : List xV} {M : xM} {Q : Option xV → xM → Prop} {a : Int} {v0 : xV} {v1 : xV} : Wp 22 96 (v0 :: v1 :: xi a :: ls) (st) (M) Q = Wp 22 97 (v0 :: v1 :: xi a :: ls) (xi a :: st) (M) Q := wp_iload rfl rfl
theorem w22_97 {ls st : List xV} {M : xM} {Q : Option xV → xM → Prop} {a : Int} {b : Int} (ha : xG a) (hb : xG b) : Wp 22 97 (ls) (xi b :: xi a :: st) (M) Q = ((a = b → Wp 22 102 (ls) (st) (M) Q) ∧ (¬ (a = b) → Wp 22 100 (ls) (st) (M) Q)) := wp_cmp_eq rfl ha hb
theorem w22_100 {ls st : List xV} {M : xM} {Q : Option xV → xM → Prop}  : Wp 22 100 (ls) (st) (M) Q = Wp 22 101 (ls) (xi 0 :: st) (M) Q := wp_const rfl
theorem w22_101 {ls : List xV} {M : xM} {Q : Option xV → xM → Prop} {a : Int} (ha : a = 0 ∨ a = 1) : Wp 22 101 (ls) ([xi a]) (M) Q = Q (some (xi a)) M := wp_zret rfl ha
theorem w22_102 {ls st : List xV} {M : xM} {Q : Option xV → xM → Prop} {d : Nat} : Wp 22 102 (xr d :: ls) (st) (M) Q = Wp 22 103 (xr d :: ls) (xr d :: st) (M) Q := wp_aload rfl rfl
theorem w22_103 {ls st : List xV} {M : xM} {Q : Option xV → xM → Prop} {d : Nat} : Wp 22 103 (ls) (xr d :: st) (M) Q = Wp 22 104 (ls) (xr d :: xr d :: st) (M) Q := wp_dupA rfl
theorem w22_104 {ls st : List xV} {M : xM} {Q : Option xV → xM → Prop} {d : Nat} (hc : x_c d = 7) : Wp 22 104 (ls) (xr d :: st) (M) Q = Wp 22 107 (ls) (xi (M d 3) :: st) (M) Q := wp_getf rfl hc
theorem w22_107 {ls st : List xV} {M : xM} {Q : Option xV → xM → Prop}  : Wp 22 107 (ls) (st) (M) Q = Wp 22 108 (ls) (xi 1 :: st) (M) Q := wp_const rfl
theorem w22_108 {ls st : List xV} {M : xM} {Q : Option xV → xM → Prop} {a : Int} {b : Int} : Wp 22 108 (ls) (xi b :: xi a :: st) (M) Q = Wp 22 109 (ls) (xi (a + b) :: st) (M) Q := wp_bin (f := xadd) rfl
theorem w22_109 {ls st : List xV} {M : xM} {Q : Option xV → xM → Prop} {a : Int} {d : Nat} (hc : x_c d = 7) : Wp 22 109 (ls) (xi a :: xr d :: st) (M) Q = Wp 22 112 (ls) (st) (xup M d 3 a) Q := wp_putf rfl hc
theorem w22_112 {ls st : List xV} {M : xM} {Q : Option xV → xM → Prop} {d : Nat} : Wp 22 112 (xr d :: ls) (st) (M) Q = Wp 22 113 (xr d :: ls) (xr d :: st) (M) Q := wp_aload rfl rfl
theorem w22_113 {ls st : List xV} {M : xM} {Q : Option xV → xM → Prop} {d : Nat} (hc : x_c d = 7) : Wp 22 113 (ls) (xr d :: st) (M) Q = Wp 22 116 (ls) (xr (x_r d 1) :: st) (M) Q := wp_getr rfl hc
theorem w22_116 {ls st : List xV} {M : xM} {Q : Option xV → xM → Prop} {a : Int} {v0 : xV} : Wp 22 116 (v0 :: xi a :: ls) (st) (M) Q = Wp 22 117 (v0 :: xi a :: ls) (xi a :: st) (M) Q := wp_iload rfl rfl
theorem w22_117 {ls st : List xV} {M : xM} {Q : Option xV → xM → Prop} {a : Int} {v0 : xV} {v1 : xV} {v2 : xV} : Wp 22 117 (v0 :: v1 :: v2 :: xi a :: ls) (st) (M) Q = Wp 22 118 (v0 :: v1 :: v2 :: xi a :: ls) (xi a :: st) (M) Q := wp_iload rfl rfl
theorem w22_118 {ls st : List xV} {M : xM} {Q : Option xV → xM → Prop} {a : Int} {d : Nat} {x : Int} (hc : x_c d = 20) (hn : x_n d = 4) (h1 : 0 ≤ a) (h2 : a < 4) : Wp 22 118 (ls) (xi x :: xi a :: xr d :: st) (M) Q = Wp 22 119 (ls) (st) (xup M d a x) Q := wp_iast rfl hc h1 (by rw [hn]; exact h2)
theorem w22_119 {ls st : List xV} {M : xM} {Q : Option xV → xM → Prop}  : Wp 22 119 (ls) (st) (M) Q = Wp 22 120 (ls) (xi 1 :: st) (M) Q := wp_const rfl
theorem w22_120 {ls : List xV} {M : xM} {Q : Option xV → xM → Prop} {a : Int} (ha : a = 0 ∨ a = 1) : Wp 22 120 (ls) ([xi a]) (M) Q = Q (some (xi a)) M := wp_zret rfl ha
theorem wc23 {M : xM} {Q : Option xV → xM → Prop} {a0 : Int} : Wc 23 [xi a0] M Q = Wp 23 0 [xi a0] [] M Q := rfl
theorem w23_0 {ls st : List xV} {M : xM} {Q : Option xV → xM → Prop} {a : Int} : Wp 23 0 (xi a :: ls) (st) (M) Q = Wp 23 1 (xi a :: ls) (xi a :: st) (M) Q := wp_iload rfl rfl
theorem w23_1 {ls st : List xV} {M : xM} {Q : Option xV → xM → Prop}  : Wp 23 1 (ls) (st) (M) Q = Wp 23 3 (ls) (xi 48 :: st) (M) Q := wp_const rfl
theorem w23_3 {ls st : List xV} {M : xM} {Q : Option xV → xM → Prop} {a : Int} {b : Int} (ha : xG a) (hb : xG b) : Wp 23 3 (ls) (xi b :: xi a :: st) (M) Q = ((a < b → Wp 23 16 (ls) (st) (M) Q) ∧ (¬ (a < b) → Wp 23 6 (ls) (st) (M) Q)) := wp_cmp_lt rfl ha hb
theorem w23_6 {ls st : List xV} {M : xM} {Q : Option xV → xM → Prop} {a : Int} : Wp 23 6 (xi a :: ls) (st) (M) Q = Wp 23 7 (xi a :: ls) (xi a :: st) (M) Q := wp_iload rfl rfl
theorem w23_7 {ls st : List xV} {M : xM} {Q : Option xV → xM → Prop}  : Wp 23 7 (ls) (st) (M) Q = Wp 23 9 (ls) (xi 57 :: st) (M) Q := wp_const rfl
theorem w23_9 {ls st : List xV} {M : xM} {Q : Option xV → xM → Prop} {a : Int} {b : Int} (ha : xG a) (hb : xG b) : Wp 23 9 (ls) (xi b :: xi a :: st) (M) Q = ((b < a → Wp 23 16 (ls) (st) (M) Q) ∧ (¬ (b < a) → Wp 23 12 (ls) (st) (M) Q)) := wp_cmp_gt rfl ha hb
theorem w23_12 {ls st : List xV} {M : xM} {Q : Option xV → xM → Prop}  : Wp 23 12 (ls) (st) (M) Q = Wp 23 13 (ls) (xi 1 :: st) (M) Q := wp_const rfl
theorem w23_13 {ls st : List xV} {M : xM} {Q : Option xV → xM → Prop}  : Wp 23 13 (ls) (st) (M) Q = Wp 23 17 (ls) (st) (M) Q := wp_goto rfl
theorem w23_16 {ls st : List xV} {M : xM} {Q : Option xV → xM → Prop}  : Wp 23 16 (ls) (st) (M) Q = Wp 23 17 (ls) (xi 0 :: st) (M) Q := wp_const rfl
theorem w23_17 {ls : List xV} {M : xM} {Q : Option xV → xM → Prop} {a : Int} (ha : a = 0 ∨ a = 1) : Wp 23 17 (ls) ([xi a]) (M) Q = Q (some (xi a)) M := wp_zret rfl ha
theorem wc24 {M : xM} {Q : Option xV → xM → Prop} {d0 : Nat} : Wc 24 [xr d0] M Q = Wp 24 0 [xr d0, xj] [] M Q := rfl
theorem w24_0 {ls st : List xV} {M : xM} {Q : Option xV → xM → Prop} {d : Nat} : Wp 24 0 (xr d :: ls) (st) (M) Q = Wp 24 1 (xr d :: ls) (xr d :: st) (M) Q := wp_aload rfl rfl
theorem w24_1 {ls st : List xV} {M : xM} {Q : Option xV → xM → Prop} {d : Nat} (hc : x_c d = 5) : Wp 24 1 (ls) (xr d :: st) (M) Q = Wp 24 4 (ls) (xr (x_r d 1) :: st) (M) Q := wp_getr rfl hc
theorem w24_4 {ls st : List xV} {M : xM} {Q : Option xV → xM → Prop} {d : Nat} : Wp 24 4 (xr d :: ls) (st) (M) Q = Wp 24 5 (xr d :: ls) (xr d :: st) (M) Q := wp_aload rfl rfl
theorem w24_5 {ls st : List xV} {M : xM} {Q : Option xV → xM → Prop} {d : Nat} (hc : x_c d = 5) : Wp 24 5 (ls) (xr d :: st) (M) Q = Wp 24 8 (ls) (xr (x_r d 0) :: st) (M) Q := wp_getr rfl hc
theorem w24_8 {ls st : List xV} {M : xM} {Q : Option xV → xM → Prop} {d : Nat} (hc : x_c d = 3) : Wp 24 8 (ls) (xr d :: st) (M) Q = Wp 24 11 (ls) (xr (x_r d 8) :: st) (M) Q := wp_getr rfl hc
theorem w24_11 {ls : List xV} {M : xM} {Q : Option xV → xM → Prop} {d0 : Nat} {d1 : Nat} (hc : x_c d0 = 6) : Wp 24 11 (ls) (xr d1 :: xr d0 :: []) (M) Q = Wc 3 [xr d0, xr d1] M (fun r M2 => Wp 24 14 (ls) (r.toList ++ ([])) M2 Q) := wp_cV rfl rfl hc (Nat.le_of_ble_eq_true rfl) (Nat.le_of_ble_eq_true rfl) rfl rfl
theorem w24_14 {ls st : List xV} {M : xM} {Q : Option xV → xM → Prop} {d : Nat} : Wp 24 14 (xr d :: ls) (st) (M) Q = Wp 24 15 (xr d :: ls) (xr d :: st) (M) Q := wp_aload rfl rfl
theorem w24_15 {ls st : List xV} {M : xM} {Q : Option xV → xM → Prop} {d : Nat} : Wp 24 15 (xr d :: ls) (st) (M) Q = Wp 24 16 (xr d :: ls) (xr d :: st) (M) Q := wp_aload rfl rfl
theorem w24_16 {ls st : List xV} {M : xM} {Q : Option xV → xM → Prop} {d : Nat} (hc : x_c d = 5) : Wp 24 16 (ls) (xr d :: st) (M) Q = Wp 24 19 (ls) (xr (x_r d 0) :: st) (M) Q := wp_getr rfl hc
theorem w24_19 {ls st : List xV} {M : xM} {Q : Option xV → xM → Prop} {d : Nat} (hc : x_c d = 3) : Wp 24 19 (ls) (xr d :: st) (M) Q = Wp 24 22 (ls) (xi (M d 3) :: st) (M) Q := wp_getf rfl hc
theorem w24_22 {ls st : List xV} {M : xM} {Q : Option xV → xM → Prop} {a : Int} {d : Nat} (hc : x_c d = 5) : Wp 24 22 (ls) (xi a :: xr d :: st) (M) Q = Wp 24 25 (ls) (st) (xup M d 8 a) Q := wp_putf rfl hc
theorem w24_25 {ls st : List xV} {M : xM} {Q : Option xV → xM → Prop} {d : Nat} : Wp 24 25 (xr d :: ls) (st) (M) Q = Wp 24 26 (xr d :: ls) (xr d :: st) (M) Q := wp_aload rfl rfl
theorem w24_26 {ls st : List xV} {M : xM} {Q : Option xV → xM → Prop}  : Wp 24 26 (ls) (st) (M) Q = Wp 24 27 (ls) (xi 0 :: st) (M) Q := wp_const rfl
theorem w24_27 {ls st : List xV} {M : xM} {Q : Option xV → xM → Prop} {a : Int} {d : Nat} (hc : x_c d = 5) : Wp 24 27 (ls) (xi a :: xr d :: st) (M) Q = Wp 24 30 (ls) (st) (xup M d 9 a) Q := wp_putf rfl hc
theorem w24_30 {ls st : List xV} {M : xM} {Q : Option xV → xM → Prop} {d : Nat} : Wp 24 30 (xr d :: ls) (st) (M) Q = Wp 24 31 (xr d :: ls) (xr d :: st) (M) Q := wp_aload rfl rfl
theorem w24_31 {ls st : List xV} {M : xM} {Q : Option xV → xM → Prop}  : Wp 24 31 (ls) (st) (M) Q = Wp 24 32 (ls) (xi 0 :: st) (M) Q := wp_const rfl
theorem w24_32 {ls st : List xV} {M : xM} {Q : Option xV → xM → Prop} {a : Int} {d : Nat} (hc : x_c d = 5) : Wp 24 32 (ls) (xi a :: xr d :: st) (M) Q = Wp 24 35 (ls) (st) (xup M d 10 a) Q := wp_putf rfl hc
theorem w24_35 {ls st : List xV} {M : xM} {Q : Option xV → xM → Prop} {d : Nat} : Wp 24 35 (xr d :: ls) (st) (M) Q = Wp 24 36 (xr d :: ls) (xr d :: st) (M) Q := wp_aload rfl rfl
theorem w24_36 {ls st : List xV} {M : xM} {Q : Option xV → xM → Prop}  : Wp 24 36 (ls) (st) (M) Q = Wp 24 37 (ls) (xi 0 :: st) (M) Q := wp_const rfl
theorem w24_37 {ls st : List xV} {M : xM} {Q : Option xV → xM → Prop} {a : Int} {d : Nat} (hc : x_c d = 5) : Wp 24 37 (ls) (xi a :: xr d :: st) (M) Q = Wp 24 40 (ls) (st) (xup M d 11 a) Q := wp_putf rfl hc
theorem w24_40 {ls st : List xV} {M : xM} {Q : Option xV → xM → Prop}  : Wp 24 40 (ls) (st) (M) Q = Wp 24 41 (ls) (xi 0 :: st) (M) Q := wp_const rfl
theorem w24_41 {ls st : List xV} {M : xM} {Q : Option xV → xM → Prop} {a : Int} {v0 : xV} {w : xV} : Wp 24 41 (v0 :: w :: ls) (xi a :: st) (M) Q = Wp 24 42 (xjl v0 :: xi a :: ls) (st) (M) Q := wp_istore rfl rfl
theorem w24_42 {ls st : List xV} {M : xM} {Q : Option xV → xM → Prop} {a : Int} {v0 : xV} : Wp 24 42 (v0 :: xi a :: ls) (st) (M) Q = Wp 24 43 (v0 :: xi a :: ls) (xi a :: st) (M) Q := wp_iload rfl rfl
theorem w24_43 {ls st : List xV} {M : xM} {Q : Option xV → xM → Prop}  : Wp 24 43 (ls) (st) (M) Q = Wp 24 45 (ls) (xi 24 :: st) (M) Q := wp_const rfl
theorem w24_45 {ls st : List xV} {M : xM} {Q : Option xV → xM → Prop} {a : Int} {b : Int} (ha : xG a) (hb : xG b) : Wp 24 45 (ls) (xi b :: xi a :: st) (M) Q = ((b ≤ a → Wp 24 61 (ls) (st) (M) Q) ∧ (¬ (b ≤ a) → Wp 24 48 (ls) (st) (M) Q)) := wp_cmp_ge rfl ha hb
theorem w24_48 {ls st : List xV} {M : xM} {Q : Option xV → xM → Prop} {d : Nat} : Wp 24 48 (xr d :: ls) (st) (M) Q = Wp 24 49 (xr d :: ls) (xr d :: st) (M) Q := wp_aload rfl rfl
theorem w24_49 {ls st : List xV} {M : xM} {Q : Option xV → xM → Prop} {d : Nat} (hc : x_c d = 5) : Wp 24 49 (ls) (xr d :: st) (M) Q = Wp 24 52 (ls) (xr (x_r d 7) :: st) (M) Q := wp_getr rfl hc
theorem w24_52 {ls st : List xV} {M : xM} {Q : Option xV → xM → Prop} {a : Int} {v0 : xV} : Wp 24 52 (v0 :: xi a :: ls) (st) (M) Q = Wp 24 53 (v0 :: xi a :: ls) (xi a :: st) (M) Q := wp_iload rfl rfl
theorem w24_53 {ls st : List xV} {M : xM} {Q : Option xV → xM → Prop}  : Wp 24 53 (ls) (st) (M) Q = Wp 24 54 (ls) (xi 0 :: st) (M) Q := wp_const rfl
theorem w24_54 {ls st : List xV} {M : xM} {Q : Option xV → xM → Prop} {a : Int} {d : Nat} {x : Int} (hc : x_c d = 20) (hn : x_n d = 24) (h1 : 0 ≤ a) (h2 : a < 24) : Wp 24 54 (ls) (xi x :: xi a :: xr d :: st) (M) Q = Wp 24 55 (ls) (st) (xup M d a x) Q := wp_iast rfl hc h1 (by rw [hn]; exact h2)
theorem w24_55 {ls st : List xV} {M : xM} {Q : Option xV → xM → Prop} {a : Int} {v0 : xV} : Wp 24 55 (v0 :: xi a :: ls) (st) (M) Q = Wp 24 58 (xjl v0 :: xi (a + 1) :: ls) (st) (M) Q := wp_iinc rfl rfl rfl
theorem w24_58 {ls st : List xV} {M : xM} {Q : Option xV → xM → Prop}  : Wp 24 58 (ls) (st) (M) Q = Wp 24 42 (ls) (st) (M) Q := wp_goto rfl
theorem w24_61 {ls st : List xV} {M : xM} {Q : Option xV → xM → Prop}  : Wp 24 61 (ls) (st) (M) Q = Wp 24 62 (ls) (xi 0 :: st) (M) Q := wp_const rfl
theorem w24_62 {ls st : List xV} {M : xM} {Q : Option xV → xM → Prop} {a : Int} {v0 : xV} {w : xV} : Wp 24 62 (v0 :: w :: ls) (xi a :: st) (M) Q = Wp 24 63 (xjl v0 :: xi a :: ls) (st) (M) Q := wp_istore rfl rfl
theorem w24_63 {ls st : List xV} {M : xM} {Q : Option xV → xM → Prop} {a : Int} {v0 : xV} : Wp 24 63 (v0 :: xi a :: ls) (st) (M) Q = Wp 24 64 (v0 :: xi a :: ls) (xi a :: st) (M) Q := wp_iload rfl rfl
theorem w24_64 {ls st : List xV} {M : xM} {Q : Option xV → xM → Prop} {d : Nat} : Wp 24 64 (xr d :: ls) (st) (M) Q = Wp 24 65 (xr d :: ls) (xr d :: st) (M) Q := wp_aload rfl rfl
theorem w24_65 {ls st : List xV} {M : xM} {Q : Option xV → xM → Prop} {d : Nat} (hc : x_c d = 5) : Wp 24 65 (ls) (xr d :: st) (M) Q = Wp 24 68 (ls) (xr (x_r d 0) :: st) (M) Q := wp_getr rfl hc
theorem w24_68 {ls st : List xV} {M : xM} {Q : Option xV → xM → Prop} {d : Nat} (hc : x_c d = 3) : Wp 24 68 (ls) (xr d :: st) (M) Q = Wp 24 71 (ls) (xi (M d 2) :: st) (M) Q := wp_getf rfl hc
theorem w24_71 {ls st : List xV} {M : xM} {Q : Option xV → xM → Prop} {a : Int} {b : Int} (ha : xG a) (hb : xG b) : Wp 24 71 (ls) (xi b :: xi a :: st) (M) Q = ((b ≤ a → Wp 24 140 (ls) (st) (M) Q) ∧ (¬ (b ≤ a) → Wp 24 74 (ls) (st) (M) Q)) := wp_cmp_ge rfl ha hb
theorem w24_74 {ls st : List xV} {M : xM} {Q : Option xV → xM → Prop} {d : Nat} : Wp 24 74 (xr d :: ls) (st) (M) Q = Wp 24 75 (xr d :: ls) (xr d :: st) (M) Q := wp_aload rfl rfl
theorem w24_75 {ls st : List xV} {M : xM} {Q : Option xV → xM → Prop} {d : Nat} (hc : x_c d = 5) : Wp 24 75 (ls) (xr d :: st) (M) Q = Wp 24 78 (ls) (xr (x_r d 2) :: st) (M) Q := wp_getr rfl hc
theorem w24_78 {ls st : List xV} {M : xM} {Q : Option xV → xM → Prop} {a : Int} {v0 : xV} : Wp 24 78 (v0 :: xi a :: ls) (st) (M) Q = Wp 24 79 (v0 :: xi a :: ls) (xi a :: st) (M) Q := wp_iload rfl rfl
theorem w24_79 {ls st : List xV} {M : xM} {Q : Option xV → xM → Prop} {d : Nat} : Wp 24 79 (xr d :: ls) (st) (M) Q = Wp 24 80 (xr d :: ls) (xr d :: st) (M) Q := wp_aload rfl rfl
theorem w24_80 {ls st : List xV} {M : xM} {Q : Option xV → xM → Prop} {d : Nat} (hc : x_c d = 5) : Wp 24 80 (ls) (xr d :: st) (M) Q = Wp 24 83 (ls) (xr (x_r d 0) :: st) (M) Q := wp_getr rfl hc
theorem w24_83 {ls st : List xV} {M : xM} {Q : Option xV → xM → Prop} {d : Nat} (hc : x_c d = 3) : Wp 24 83 (ls) (xr d :: st) (M) Q = Wp 24 86 (ls) (xr (x_r d 7) :: st) (M) Q := wp_getr rfl hc
theorem w24_86 {ls st : List xV} {M : xM} {Q : Option xV → xM → Prop} {a : Int} {v0 : xV} : Wp 24 86 (v0 :: xi a :: ls) (st) (M) Q = Wp 24 87 (v0 :: xi a :: ls) (xi a :: st) (M) Q := wp_iload rfl rfl
theorem w24_87 {ls st : List xV} {M : xM} {Q : Option xV → xM → Prop} {a : Int} {d : Nat} (hc : x_c d = 20) (hn : x_n d = 5) (h1 : 0 ≤ a) (h2 : a < 5) : Wp 24 87 (ls) (xi a :: xr d :: st) (M) Q = Wp 24 88 (ls) (xi (M d a) :: st) (M) Q := wp_ald rfl hc h1 (by rw [hn]; exact h2)
theorem w24_88 {ls st : List xV} {M : xM} {Q : Option xV → xM → Prop} {a : Int} {d : Nat} {x : Int} (hc : x_c d = 20) (hn : x_n d = 5) (h1 : 0 ≤ a) (h2 : a < 5) : Wp 24 88 (ls) (xi x :: xi a :: xr d :: st) (M) Q = Wp 24 89 (ls) (st) (xup M d a x) Q := wp_iast rfl hc h1 (by rw [hn]; exact h2)
theorem w24_89 {ls st : List xV} {M : xM} {Q : Option xV → xM → Prop} {d : Nat} : Wp 24 89 (xr d :: ls) (st) (M) Q = Wp 24 90 (xr d :: ls) (xr d :: st) (M) Q := wp_aload rfl rfl
theorem w24_90 {ls st : List xV} {M : xM} {Q : Option xV → xM → Prop} {d : Nat} (hc : x_c d = 5) : Wp 24 90 (ls) (xr d :: st) (M) Q = Wp 24 93 (ls) (xr (x_r d 3) :: st) (M) Q := wp_getr rfl hc
theorem w24_93 {ls st : List xV} {M : xM} {Q : Option xV → xM → Prop} {a : Int} {v0 : xV} : Wp 24 93 (v0 :: xi a :: ls) (st) (M) Q = Wp 24 94 (v0 :: xi a :: ls) (xi a :: st) (M) Q := wp_iload rfl rfl
theorem w24_94 {ls st : List xV} {M : xM} {Q : Option xV → xM → Prop}  : Wp 24 94 (ls) (st) (M) Q = Wp 24 95 (ls) (xi 0 :: st) (M) Q := wp_const rfl
theorem w24_95 {ls st : List xV} {M : xM} {Q : Option xV → xM → Prop} {a : Int} {d : Nat} {x : Int} (hc : x_c d = 20) (hn : x_n d = 5) (h1 : 0 ≤ a) (h2 : a < 5) : Wp 24 95 (ls) (xi x :: xi a :: xr d :: st) (M) Q = Wp 24 96 (ls) (st) (xup M d a x) Q := wp_iast rfl hc h1 (by rw [hn]; exact h2)
theorem w24_96 {ls st : List xV} {M : xM} {Q : Option xV → xM → Prop} {d : Nat} : Wp 24 96 (xr d :: ls) (st) (M) Q = Wp 24 97 (xr d :: ls) (xr d :: st) (M) Q := wp_aload rfl rfl
theorem w24_97 {ls st : List xV} {M : xM} {Q : Option xV → xM → Prop} {d : Nat} (hc : x_c d = 5) : Wp 24 97 (ls) (xr d :: st) (M) Q = Wp 24 100 (ls) (xr (x_r d 4) :: st) (M) Q := wp_getr rfl hc
theorem w24_100 {ls st : List xV} {M : xM} {Q : Option xV → xM → Prop} {a : Int} {v0 : xV} : Wp 24 100 (v0 :: xi a :: ls) (st) (M) Q = Wp 24 101 (v0 :: xi a :: ls) (xi a :: st) (M) Q := wp_iload rfl rfl
theorem w24_101 {ls st : List xV} {M : xM} {Q : Option xV → xM → Prop}  : Wp 24 101 (ls) (st) (M) Q = Wp 24 102 (ls) (xi 0 :: st) (M) Q := wp_const rfl
theorem w24_102 {ls st : List xV} {M : xM} {Q : Option xV → xM → Prop} {a : Int} {d : Nat} {x : Int} (hc : x_c d = 20) (hn : x_n d = 5) (h1 : 0 ≤ a) (h2 : a < 5) : Wp 24 102 (ls) (xi x :: xi a :: xr d :: st) (M) Q = Wp 24 103 (ls) (st) (xup M d a x) Q := wp_iast rfl hc h1 (by rw [hn]; exact h2)
theorem w24_103 {ls st : List xV} {M : xM} {Q : Option xV → xM → Prop} {d : Nat} : Wp 24 103 (xr d :: ls) (st) (M) Q = Wp 24 104 (xr d :: ls) (xr d :: st) (M) Q := wp_aload rfl rfl
theorem w24_104 {ls st : List xV} {M : xM} {Q : Option xV → xM → Prop} {d : Nat} (hc : x_c d = 5) : Wp 24 104 (ls) (xr d :: st) (M) Q = Wp 24 107 (ls) (xr (x_r d 5) :: st) (M) Q := wp_getr rfl hc
theorem w24_107 {ls st : List xV} {M : xM} {Q : Option xV → xM → Prop} {a : Int} {v0 : xV} : Wp 24 107 (v0 :: xi a :: ls) (st) (M) Q = Wp 24 108 (v0 :: xi a :: ls) (xi a :: st) (M) Q := wp_iload rfl rfl
theorem w24_108 {ls st : List xV} {M : xM} {Q : Option xV → xM → Prop}  : Wp 24 108 (ls) (st) (M) Q = Wp 24 110 (ls) (xi (-4) :: st) (M) Q := wp_const rfl
theorem w24_110 {ls st : List xV} {M : xM} {Q : Option xV → xM → Prop} {a : Int} {d : Nat} {x : Int} (hc : x_c d = 20) (hn : x_n d = 5) (h1 : 0 ≤ a) (h2 : a < 5) : Wp 24 110 (ls) (xi x :: xi a :: xr d :: st) (M) Q = Wp 24 111 (ls) (st) (xup M d a x) Q := wp_iast rfl hc h1 (by rw [hn]; exact h2)
theorem w24_111 {ls st : List xV} {M : xM} {Q : Option xV → xM → Prop} {d : Nat} : Wp 24 111 (xr d :: ls) (st) (M) Q = Wp 24 112 (xr d :: ls) (xr d :: st) (M) Q := wp_aload rfl rfl
theorem w24_112 {ls st : List xV} {M : xM} {Q : Option xV → xM → Prop} {d : Nat} (hc : x_c d = 5) : Wp 24 112 (ls) (xr d :: st) (M) Q = Wp 24 115 (ls) (xr (x_r d 6) :: st) (M) Q := wp_getr rfl hc
theorem w24_115 {ls st : List xV} {M : xM} {Q : Option xV → xM → Prop} {a : Int} {v0 : xV} : Wp 24 115 (v0 :: xi a :: ls) (st) (M) Q = Wp 24 116 (v0 :: xi a :: ls) (xi a :: st) (M) Q := wp_iload rfl rfl
theorem w24_116 {ls st : List xV} {M : xM} {Q : Option xV → xM → Prop}  : Wp 24 116 (ls) (st) (M) Q = Wp 24 118 (ls) (xi (-4) :: st) (M) Q := wp_const rfl
theorem w24_118 {ls st : List xV} {M : xM} {Q : Option xV → xM → Prop} {a : Int} {d : Nat} {x : Int} (hc : x_c d = 20) (hn : x_n d = 5) (h1 : 0 ≤ a) (h2 : a < 5) : Wp 24 118 (ls) (xi x :: xi a :: xr d :: st) (M) Q = Wp 24 119 (ls) (st) (xup M d a x) Q := wp_iast rfl hc h1 (by rw [hn]; exact h2)
theorem w24_119 {ls st : List xV} {M : xM} {Q : Option xV → xM → Prop} {d : Nat} : Wp 24 119 (xr d :: ls) (st) (M) Q = Wp 24 120 (xr d :: ls) (xr d :: st) (M) Q := wp_aload rfl rfl
theorem w24_120 {ls st : List xV} {M : xM} {Q : Option xV → xM → Prop} {d : Nat} (hc : x_c d = 5) : Wp 24 120 (ls) (xr d :: st) (M) Q = Wp 24 123 (ls) (xr (x_r d 7) :: st) (M) Q := wp_getr rfl hc
theorem w24_123 {ls st : List xV} {M : xM} {Q : Option xV → xM → Prop} {d : Nat} : Wp 24 123 (xr d :: ls) (st) (M) Q = Wp 24 124 (xr d :: ls) (xr d :: st) (M) Q := wp_aload rfl rfl
theorem w24_124 {ls st : List xV} {M : xM} {Q : Option xV → xM → Prop} {d : Nat} (hc : x_c d = 5) : Wp 24 124 (ls) (xr d :: st) (M) Q = Wp 24 127 (ls) (xr (x_r d 2) :: st) (M) Q := wp_getr rfl hc
theorem w24_127 {ls st : List xV} {M : xM} {Q : Option xV → xM → Prop} {a : Int} {v0 : xV} : Wp 24 127 (v0 :: xi a :: ls) (st) (M) Q = Wp 24 128 (v0 :: xi a :: ls) (xi a :: st) (M) Q := wp_iload rfl rfl
theorem w24_128 {ls st : List xV} {M : xM} {Q : Option xV → xM → Prop} {a : Int} {d : Nat} (hc : x_c d = 20) (hn : x_n d = 5) (h1 : 0 ≤ a) (h2 : a < 5) : Wp 24 128 (ls) (xi a :: xr d :: st) (M) Q = Wp 24 129 (ls) (xi (M d a) :: st) (M) Q := wp_ald rfl hc h1 (by rw [hn]; exact h2)
theorem w24_129 {ls st : List xV} {M : xM} {Q : Option xV → xM → Prop} {a : Int} {d : Nat} : Wp 24 129 (ls) (xi a :: xr d :: st) (M) Q = Wp 24 130 (ls) (xi a :: xr d :: xi a :: xr d :: st) (M) Q := wp_dup2 rfl
theorem w24_130 {ls st : List xV} {M : xM} {Q : Option xV → xM → Prop} {a : Int} {d : Nat} (hc : x_c d = 20) (hn : x_n d = 24) (h1 : 0 ≤ a) (h2 : a < 24) : Wp 24 130 (ls) (xi a :: xr d :: st) (M) Q = Wp 24 131 (ls) (xi (M d a) :: st) (M) Q := wp_ald rfl hc h1 (by rw [hn]; exact h2)
theorem w24_131 {ls st : List xV} {M : xM} {Q : Option xV → xM → Prop}  : Wp 24 131 (ls) (st) (M) Q = Wp 24 132 (ls) (xi 1 :: st) (M) Q := wp_const rfl
theorem w24_132 {ls st : List xV} {M : xM} {Q : Option xV → xM → Prop} {a : Int} {b : Int} : Wp 24 132 (ls) (xi b :: xi a :: st) (M) Q = Wp 24 133 (ls) (xi (a + b) :: st) (M) Q := wp_bin (f := xadd) rfl
theorem w24_133 {ls st : List xV} {M : xM} {Q : Option xV → xM → Prop} {a : Int} {d : Nat} {x : Int} (hc : x_c d = 20) (hn : x_n d = 24) (h1 : 0 ≤ a) (h2 : a < 24) : Wp 24 133 (ls) (xi x :: xi a :: xr d :: st) (M) Q = Wp 24 134 (ls) (st) (xup M d a x) Q := wp_iast rfl hc h1 (by rw [hn]; exact h2)
theorem w24_134 {ls st : List xV} {M : xM} {Q : Option xV → xM → Prop} {a : Int} {v0 : xV} : Wp 24 134 (v0 :: xi a :: ls) (st) (M) Q = Wp 24 137 (xjl v0 :: xi (a + 1) :: ls) (st) (M) Q := wp_iinc rfl rfl rfl
theorem w24_137 {ls st : List xV} {M : xM} {Q : Option xV → xM → Prop}  : Wp 24 137 (ls) (st) (M) Q = Wp 24 63 (ls) (st) (M) Q := wp_goto rfl
theorem w24_140 {ls : List xV} {M : xM} {Q : Option xV → xM → Prop}  : Wp 24 140 (ls) ([]) (M) Q = Q none M := wp_vret rfl
theorem wc25 {M : xM} {Q : Option xV → xM → Prop} {d0 : Nat} {a1 : Int} : Wc 25 [xr d0, xi a1] M Q = Wp 25 0 [xr d0, xi a1, xj] [] M Q := rfl
theorem w25_0 {ls st : List xV} {M : xM} {Q : Option xV → xM → Prop} {d : Nat} : Wp 25 0 (xr d :: ls) (st) (M) Q = Wp 25 1 (xr d :: ls) (xr d :: st) (M) Q := wp_aload rfl rfl
theorem w25_1 {ls st : List xV} {M : xM} {Q : Option xV → xM → Prop} {d : Nat} (hc : x_c d = 5) : Wp 25 1 (ls) (xr d :: st) (M) Q = Wp 25 4 (ls) (xi (M d 9) :: st) (M) Q := wp_getf rfl hc
theorem w25_4 {ls st : List xV} {M : xM} {Q : Option xV → xM → Prop} {a : Int} {v0 : xV} {v1 : xV} {w : xV} : Wp 25 4 (v0 :: v1 :: w :: ls) (xi a :: st) (M) Q = Wp 25 5 (v0 :: xjl v1 :: xi a :: ls) (st) (M) Q := wp_istore rfl rfl
theorem w25_5 {ls st : List xV} {M : xM} {Q : Option xV → xM → Prop} {a : Int} {v0 : xV} {v1 : xV} : Wp 25 5 (v0 :: v1 :: xi a :: ls) (st) (M) Q = Wp 25 6 (v0 :: v1 :: xi a :: ls) (xi a :: st) (M) Q := wp_iload rfl rfl
theorem w25_6 {ls st : List xV} {M : xM} {Q : Option xV → xM → Prop} {a : Int} {v0 : xV} : Wp 25 6 (v0 :: xi a :: ls) (st) (M) Q = Wp 25 7 (v0 :: xi a :: ls) (xi a :: st) (M) Q := wp_iload rfl rfl
theorem w25_7 {ls st : List xV} {M : xM} {Q : Option xV → xM → Prop} {a : Int} {b : Int} (ha : xG a) (hb : xG b) : Wp 25 7 (ls) (xi b :: xi a :: st) (M) Q = ((b ≤ a → Wp 25 20 (ls) (st) (M) Q) ∧ (¬ (b ≤ a) → Wp 25 10 (ls) (st) (M) Q)) := wp_cmp_ge rfl ha hb
theorem w25_10 {ls st : List xV} {M : xM} {Q : Option xV → xM → Prop} {d : Nat} : Wp 25 10 (xr d :: ls) (st) (M) Q = Wp 25 11 (xr d :: ls) (xr d :: st) (M) Q := wp_aload rfl rfl
theorem w25_11 {ls : List xV} {M : xM} {Q : Option xV → xM → Prop} {d0 : Nat} (hc : x_c d0 = 5) : Wp 25 11 (ls) (xr d0 :: []) (M) Q = Wc 26 [xr d0] M (fun r M2 => Wp 25 14 (ls) (r.toList ++ ([])) M2 Q) := wp_cV rfl rfl hc (Nat.le_of_ble_eq_true rfl) (Nat.le_of_ble_eq_true rfl) rfl rfl
theorem w25_14 {ls st : List xV} {M : xM} {Q : Option xV → xM → Prop} {a : Int} {v0 : xV} {v1 : xV} : Wp 25 14 (v0 :: v1 :: xi a :: ls) (st) (M) Q = Wp 25 17 (v0 :: xjl v1 :: xi (a + 1) :: ls) (st) (M) Q := wp_iinc rfl rfl rfl
theorem w25_17 {ls st : List xV} {M : xM} {Q : Option xV → xM → Prop}  : Wp 25 17 (ls) (st) (M) Q = Wp 25 5 (ls) (st) (M) Q := wp_goto rfl
theorem w25_20 {ls : List xV} {M : xM} {Q : Option xV → xM → Prop}  : Wp 25 20 (ls) ([]) (M) Q = Q none M := wp_vret rfl
theorem wc26 {M : xM} {Q : Option xV → xM → Prop} {d0 : Nat} : Wc 26 [xr d0] M Q = Wp 26 0 [xr d0, xj] [] M Q := rfl
theorem w26_0 {ls st : List xV} {M : xM} {Q : Option xV → xM → Prop} {d : Nat} : Wp 26 0 (xr d :: ls) (st) (M) Q = Wp 26 1 (xr d :: ls) (xr d :: st) (M) Q := wp_aload rfl rfl
theorem w26_1 {ls st : List xV} {M : xM} {Q : Option xV → xM → Prop} {d : Nat} : Wp 26 1 (ls) (xr d :: st) (M) Q = Wp 26 2 (ls) (xr d :: xr d :: st) (M) Q := wp_dupA rfl
theorem w26_2 {ls st : List xV} {M : xM} {Q : Option xV → xM → Prop} {d : Nat} (hc : x_c d = 5) : Wp 26 2 (ls) (xr d :: st) (M) Q = Wp 26 5 (ls) (xi (M d 9) :: st) (M) Q := wp_getf rfl hc
theorem w26_5 {ls st : List xV} {M : xM} {Q : Option xV → xM → Prop}  : Wp 26 5 (ls) (st) (M) Q = Wp 26 6 (ls) (xi 1 :: st) (M) Q := wp_const rfl
theorem w26_6 {ls st : List xV} {M : xM} {Q : Option xV → xM → Prop} {a : Int} {b : Int} : Wp 26 6 (ls) (xi b :: xi a :: st) (M) Q = Wp 26 7 (ls) (xi (a + b) :: st) (M) Q := wp_bin (f := xadd) rfl
theorem w26_7 {ls st : List xV} {M : xM} {Q : Option xV → xM → Prop} {a : Int} {d : Nat} (hc : x_c d = 5) : Wp 26 7 (ls) (xi a :: xr d :: st) (M) Q = Wp 26 10 (ls) (st) (xup M d 9 a) Q := wp_putf rfl hc
theorem w26_10 {ls st : List xV} {M : xM} {Q : Option xV → xM → Prop}  : Wp 26 10 (ls) (st) (M) Q = Wp 26 11 (ls) (xi 0 :: st) (M) Q := wp_const rfl
theorem w26_11 {ls st : List xV} {M : xM} {Q : Option xV → xM → Prop} {a : Int} {v0 : xV} {w : xV} : Wp 26 11 (v0 :: w :: ls) (xi a :: st) (M) Q = Wp 26 12 (xjl v0 :: xi a :: ls) (st) (M) Q := wp_istore rfl rfl
theorem w26_12 {ls st : List xV} {M : xM} {Q : Option xV → xM → Prop} {a : Int} {v0 : xV} : Wp 26 12 (v0 :: xi a :: ls) (st) (M) Q = Wp 26 13 (v0 :: xi a :: ls) (xi a :: st) (M) Q := wp_iload rfl rfl
theorem w26_13 {ls st : List xV} {M : xM} {Q : Option xV → xM → Prop} {d : Nat} : Wp 26 13 (xr d :: ls) (st) (M) Q = Wp 26 14 (xr d :: ls) (xr d :: st) (M) Q := wp_aload rfl rfl
theorem w26_14 {ls st : List xV} {M : xM} {Q : Option xV → xM → Prop} {d : Nat} (hc : x_c d = 5) : Wp 26 14 (ls) (xr d :: st) (M) Q = Wp 26 17 (ls) (xr (x_r d 0) :: st) (M) Q := wp_getr rfl hc
theorem w26_17 {ls st : List xV} {M : xM} {Q : Option xV → xM → Prop} {d : Nat} (hc : x_c d = 3) : Wp 26 17 (ls) (xr d :: st) (M) Q = Wp 26 20 (ls) (xi (M d 2) :: st) (M) Q := wp_getf rfl hc
theorem w26_20 {ls st : List xV} {M : xM} {Q : Option xV → xM → Prop} {a : Int} {b : Int} (ha : xG a) (hb : xG b) : Wp 26 20 (ls) (xi b :: xi a :: st) (M) Q = ((b ≤ a → Wp 26 42 (ls) (st) (M) Q) ∧ (¬ (b ≤ a) → Wp 26 23 (ls) (st) (M) Q)) := wp_cmp_ge rfl ha hb
theorem w26_23 {ls st : List xV} {M : xM} {Q : Option xV → xM → Prop} {d : Nat} : Wp 26 23 (xr d :: ls) (st) (M) Q = Wp 26 24 (xr d :: ls) (xr d :: st) (M) Q := wp_aload rfl rfl
theorem w26_24 {ls st : List xV} {M : xM} {Q : Option xV → xM → Prop} {a : Int} {v0 : xV} : Wp 26 24 (v0 :: xi a :: ls) (st) (M) Q = Wp 26 25 (v0 :: xi a :: ls) (xi a :: st) (M) Q := wp_iload rfl rfl
theorem w26_25 {ls : List xV} {M : xM} {Q : Option xV → xM → Prop} {a1 : Int} {d0 : Nat} (hc : x_c d0 = 5) : Wp 26 25 (ls) (xi a1 :: xr d0 :: []) (M) Q = Wc 27 [xr d0, xi a1] M (fun r M2 => Wp 26 28 (ls) (r.toList ++ ([])) M2 Q) := wp_cV rfl rfl hc (Nat.le_of_ble_eq_true rfl) (Nat.le_of_ble_eq_true rfl) rfl rfl
theorem w26_28 {ls st : List xV} {M : xM} {Q : Option xV → xM → Prop} {a : Int} (ha : xG a) : Wp 26 28 (ls) (xi a :: st) (M) Q = ((a = 0 → Wp 26 36 (ls) (st) (M) Q) ∧ (¬ (a = 0) → Wp 26 31 (ls) (st) (M) Q)) := wp_if_eq rfl ha
theorem w26_31 {ls st : List xV} {M : xM} {Q : Option xV → xM → Prop} {d : Nat} : Wp 26 31 (xr d :: ls) (st) (M) Q = Wp 26 32 (xr d :: ls) (xr d :: st) (M) Q := wp_aload rfl rfl
theorem w26_32 {ls st : List xV} {M : xM} {Q : Option xV → xM → Prop} {a : Int} {v0 : xV} : Wp 26 32 (v0 :: xi a :: ls) (st) (M) Q = Wp 26 33 (v0 :: xi a :: ls) (xi a :: st) (M) Q := wp_iload rfl rfl
theorem w26_33 {ls : List xV} {M : xM} {Q : Option xV → xM → Prop} {a1 : Int} {d0 : Nat} (hc : x_c d0 = 5) : Wp 26 33 (ls) (xi a1 :: xr d0 :: []) (M) Q = Wc 28 [xr d0, xi a1] M (fun r M2 => Wp 26 36 (ls) (r.toList ++ ([])) M2 Q) := wp_cV rfl rfl hc (Nat.le_of_ble_eq_true rfl) (Nat.le_of_ble_eq_true rfl) rfl rfl
theorem w26_36 {ls st : List xV} {M : xM} {Q : Option xV → xM → Prop} {a : Int} {v0 : xV} : Wp 26 36 (v0 :: xi a :: ls) (st) (M) Q = Wp 26 39 (xjl v0 :: xi (a + 1) :: ls) (st) (M) Q := wp_iinc rfl rfl rfl
theorem w26_39 {ls st : List xV} {M : xM} {Q : Option xV → xM → Prop}  : Wp 26 39 (ls) (st) (M) Q = Wp 26 12 (ls) (st) (M) Q := wp_goto rfl
theorem w26_42 {ls st : List xV} {M : xM} {Q : Option xV → xM → Prop}  : Wp 26 42 (ls) (st) (M) Q = Wp 26 43 (ls) (xi 0 :: st) (M) Q := wp_const rfl
theorem w26_43 {ls st : List xV} {M : xM} {Q : Option xV → xM → Prop} {a : Int} {v0 : xV} {w : xV} : Wp 26 43 (v0 :: w :: ls) (xi a :: st) (M) Q = Wp 26 44 (xjl v0 :: xi a :: ls) (st) (M) Q := wp_istore rfl rfl
theorem w26_44 {ls st : List xV} {M : xM} {Q : Option xV → xM → Prop} {a : Int} {v0 : xV} : Wp 26 44 (v0 :: xi a :: ls) (st) (M) Q = Wp 26 45 (v0 :: xi a :: ls) (xi a :: st) (M) Q := wp_iload rfl rfl
theorem w26_45 {ls st : List xV} {M : xM} {Q : Option xV → xM → Prop} {d : Nat} : Wp 26 45 (xr d :: ls) (st) (M) Q = Wp 26 46 (xr d :: ls) (xr d :: st) (M) Q := wp_aload rfl rfl
theorem w26_46 {ls st : List xV} {M : xM} {Q : Option xV → xM → Prop} {d : Nat} (hc : x_c d = 5) : Wp 26 46 (ls) (xr d :: st) (M) Q = Wp 26 49 (ls) (xr (x_r d 0) :: st) (M) Q := wp_getr rfl hc
theorem w26_49 {ls st : List xV} {M : xM} {Q : Option xV → xM → Prop} {d : Nat} (hc : x_c d = 3) : Wp 26 49 (ls) (xr d :: st) (M) Q = Wp 26 52 (ls) (xi (M d 2) :: st) (M) Q := wp_getf rfl hc
theorem w26_52 {ls st : List xV} {M : xM} {Q : Option xV → xM → Prop} {a : Int} {b : Int} (ha : xG a) (hb : xG b) : Wp 26 52 (ls) (xi b :: xi a :: st) (M) Q = ((b ≤ a → Wp 26 106 (ls) (st) (M) Q) ∧ (¬ (b ≤ a) → Wp 26 55 (ls) (st) (M) Q)) := wp_cmp_ge rfl ha hb
theorem w26_55 {ls st : List xV} {M : xM} {Q : Option xV → xM → Prop} {d : Nat} : Wp 26 55 (xr d :: ls) (st) (M) Q = Wp 26 56 (xr d :: ls) (xr d :: st) (M) Q := wp_aload rfl rfl
theorem w26_56 {ls st : List xV} {M : xM} {Q : Option xV → xM → Prop} {d : Nat} (hc : x_c d = 5) : Wp 26 56 (ls) (xr d :: st) (M) Q = Wp 26 59 (ls) (xr (x_r d 0) :: st) (M) Q := wp_getr rfl hc
theorem w26_59 {ls st : List xV} {M : xM} {Q : Option xV → xM → Prop} {d : Nat} (hc : x_c d = 3) : Wp 26 59 (ls) (xr d :: st) (M) Q = Wp 26 62 (ls) (xi (M d 4) :: st) (M) Q := wp_getf rfl hc
theorem w26_62 {ls st : List xV} {M : xM} {Q : Option xV → xM → Prop} {d : Nat} : Wp 26 62 (xr d :: ls) (st) (M) Q = Wp 26 63 (xr d :: ls) (xr d :: st) (M) Q := wp_aload rfl rfl
theorem w26_63 {ls st : List xV} {M : xM} {Q : Option xV → xM → Prop} {d : Nat} (hc : x_c d = 5) : Wp 26 63 (ls) (xr d :: st) (M) Q = Wp 26 66 (ls) (xr (x_r d 2) :: st) (M) Q := wp_getr rfl hc
theorem w26_66 {ls st : List xV} {M : xM} {Q : Option xV → xM → Prop} {a : Int} {v0 : xV} : Wp 26 66 (v0 :: xi a :: ls) (st) (M) Q = Wp 26 67 (v0 :: xi a :: ls) (xi a :: st) (M) Q := wp_iload rfl rfl
theorem w26_67 {ls st : List xV} {M : xM} {Q : Option xV → xM → Prop} {a : Int} {d : Nat} (hc : x_c d = 20) (hn : x_n d = 5) (h1 : 0 ≤ a) (h2 : a < 5) : Wp 26 67 (ls) (xi a :: xr d :: st) (M) Q = Wp 26 68 (ls) (xi (M d a) :: st) (M) Q := wp_ald rfl hc h1 (by rw [hn]; exact h2)
theorem w26_68 {ls : List xV} {M : xM} {Q : Option xV → xM → Prop} {a0 : Int} {a1 : Int} : Wp 26 68 (ls) (xi a1 :: xi a0 :: []) (M) Q = Wc 73 [xi a0, xi a1] M (fun r M2 => Wp 26 71 (ls) (r.toList ++ ([])) M2 Q) := wp_cS rfl rfl (Nat.le_of_ble_eq_true rfl) (Nat.le_of_ble_eq_true rfl) rfl rfl
theorem w26_71 {ls st : List xV} {M : xM} {Q : Option xV → xM → Prop}  : Wp 26 71 (ls) (st) (M) Q = Wp 26 72 (ls) (xi 1 :: st) (M) Q := wp_const rfl
theorem w26_72 {ls st : List xV} {M : xM} {Q : Option xV → xM → Prop} {a : Int} {b : Int} (ha : xG a) (hb : xG b) : Wp 26 72 (ls) (xi b :: xi a :: st) (M) Q = ((¬ a = b → Wp 26 100 (ls) (st) (M) Q) ∧ (¬ (¬ a = b) → Wp 26 75 (ls) (st) (M) Q)) := wp_cmp_ne rfl ha hb
theorem w26_75 {ls st : List xV} {M : xM} {Q : Option xV → xM → Prop} {d : Nat} : Wp 26 75 (xr d :: ls) (st) (M) Q = Wp 26 76 (xr d :: ls) (xr d :: st) (M) Q := wp_aload rfl rfl
theorem w26_76 {ls st : List xV} {M : xM} {Q : Option xV → xM → Prop} {d : Nat} (hc : x_c d = 5) : Wp 26 76 (ls) (xr d :: st) (M) Q = Wp 26 79 (ls) (xr (x_r d 7) :: st) (M) Q := wp_getr rfl hc
theorem w26_79 {ls st : List xV} {M : xM} {Q : Option xV → xM → Prop} {d : Nat} : Wp 26 79 (xr d :: ls) (st) (M) Q = Wp 26 80 (xr d :: ls) (xr d :: st) (M) Q := wp_aload rfl rfl
theorem w26_80 {ls st : List xV} {M : xM} {Q : Option xV → xM → Prop} {d : Nat} (hc : x_c d = 5) : Wp 26 80 (ls) (xr d :: st) (M) Q = Wp 26 83 (ls) (xr (x_r d 2) :: st) (M) Q := wp_getr rfl hc
theorem w26_83 {ls st : List xV} {M : xM} {Q : Option xV → xM → Prop} {a : Int} {v0 : xV} : Wp 26 83 (v0 :: xi a :: ls) (st) (M) Q = Wp 26 84 (v0 :: xi a :: ls) (xi a :: st) (M) Q := wp_iload rfl rfl
theorem w26_84 {ls st : List xV} {M : xM} {Q : Option xV → xM → Prop} {a : Int} {d : Nat} (hc : x_c d = 20) (hn : x_n d = 5) (h1 : 0 ≤ a) (h2 : a < 5) : Wp 26 84 (ls) (xi a :: xr d :: st) (M) Q = Wp 26 85 (ls) (xi (M d a) :: st) (M) Q := wp_ald rfl hc h1 (by rw [hn]; exact h2)
theorem w26_85 {ls st : List xV} {M : xM} {Q : Option xV → xM → Prop} {a : Int} {d : Nat} (hc : x_c d = 20) (hn : x_n d = 24) (h1 : 0 ≤ a) (h2 : a < 24) : Wp 26 85 (ls) (xi a :: xr d :: st) (M) Q = Wp 26 86 (ls) (xi (M d a) :: st) (M) Q := wp_ald rfl hc h1 (by rw [hn]; exact h2)
theorem w26_86 {ls st : List xV} {M : xM} {Q : Option xV → xM → Prop}  : Wp 26 86 (ls) (st) (M) Q = Wp 26 87 (ls) (xi 1 :: st) (M) Q := wp_const rfl
theorem w26_87 {ls st : List xV} {M : xM} {Q : Option xV → xM → Prop} {a : Int} {b : Int} (ha : xG a) (hb : xG b) : Wp 26 87 (ls) (xi b :: xi a :: st) (M) Q = ((¬ a = b → Wp 26 100 (ls) (st) (M) Q) ∧ (¬ (¬ a = b) → Wp 26 90 (ls) (st) (M) Q)) := wp_cmp_ne rfl ha hb
theorem w26_90 {ls st : List xV} {M : xM} {Q : Option xV → xM → Prop} {d : Nat} : Wp 26 90 (xr d :: ls) (st) (M) Q = Wp 26 91 (xr d :: ls) (xr d :: st) (M) Q := wp_aload rfl rfl
theorem w26_91 {ls st : List xV} {M : xM} {Q : Option xV → xM → Prop} {d : Nat} (hc : x_c d = 5) : Wp 26 91 (ls) (xr d :: st) (M) Q = Wp 26 94 (ls) (xr (x_r d 4) :: st) (M) Q := wp_getr rfl hc
theorem w26_94 {ls st : List xV} {M : xM} {Q : Option xV → xM → Prop} {a : Int} {v0 : xV} : Wp 26 94 (v0 :: xi a :: ls) (st) (M) Q = Wp 26 95 (v0 :: xi a :: ls) (xi a :: st) (M) Q := wp_iload rfl rfl
theorem w26_95 {ls st : List xV} {M : xM} {Q : Option xV → xM → Prop} {a : Int} {d : Nat} : Wp 26 95 (ls) (xi a :: xr d :: st) (M) Q = Wp 26 96 (ls) (xi a :: xr d :: xi a :: xr d :: st) (M) Q := wp_dup2 rfl
theorem w26_96 {ls st : List xV} {M : xM} {Q : Option xV → xM → Prop} {a : Int} {d : Nat} (hc : x_c d = 20) (hn : x_n d = 5) (h1 : 0 ≤ a) (h2 : a < 5) : Wp 26 96 (ls) (xi a :: xr d :: st) (M) Q = Wp 26 97 (ls) (xi (M d a) :: st) (M) Q := wp_ald rfl hc h1 (by rw [hn]; exact h2)
theorem w26_97 {ls st : List xV} {M : xM} {Q : Option xV → xM → Prop}  : Wp 26 97 (ls) (st) (M) Q = Wp 26 98 (ls) (xi 1 :: st) (M) Q := wp_const rfl
theorem w26_98 {ls st : List xV} {M : xM} {Q : Option xV → xM → Prop} {a : Int} {b : Int} : Wp 26 98 (ls) (xi b :: xi a :: st) (M) Q = Wp 26 99 (ls) (xi (a + b) :: st) (M) Q := wp_bin (f := xadd) rfl
theorem w26_99 {ls st : List xV} {M : xM} {Q : Option xV → xM → Prop} {a : Int} {d : Nat} {x : Int} (hc : x_c d = 20) (hn : x_n d = 5) (h1 : 0 ≤ a) (h2 : a < 5) : Wp 26 99 (ls) (xi x :: xi a :: xr d :: st) (M) Q = Wp 26 100 (ls) (st) (xup M d a x) Q := wp_iast rfl hc h1 (by rw [hn]; exact h2)
theorem w26_100 {ls st : List xV} {M : xM} {Q : Option xV → xM → Prop} {a : Int} {v0 : xV} : Wp 26 100 (v0 :: xi a :: ls) (st) (M) Q = Wp 26 103 (xjl v0 :: xi (a + 1) :: ls) (st) (M) Q := wp_iinc rfl rfl rfl
theorem w26_103 {ls st : List xV} {M : xM} {Q : Option xV → xM → Prop}  : Wp 26 103 (ls) (st) (M) Q = Wp 26 44 (ls) (st) (M) Q := wp_goto rfl
theorem w26_106 {ls : List xV} {M : xM} {Q : Option xV → xM → Prop}  : Wp 26 106 (ls) ([]) (M) Q = Q none M := wp_vret rfl
theorem wc27 {M : xM} {Q : Option xV → xM → Prop} {d0 : Nat} {a1 : Int} : Wc 27 [xr d0, xi a1] M Q = Wp 27 0 [xr d0, xi a1] [] M Q := rfl
theorem w27_0 {ls st : List xV} {M : xM} {Q : Option xV → xM → Prop} {d : Nat} : Wp 27 0 (xr d :: ls) (st) (M) Q = Wp 27 1 (xr d :: ls) (xr d :: st) (M) Q := wp_aload rfl rfl
theorem w27_1 {ls st : List xV} {M : xM} {Q : Option xV → xM → Prop} {d : Nat} (hc : x_c d = 5) : Wp 27 1 (ls) (xr d :: st) (M) Q = Wp 27 4 (ls) (xr (x_r d 1) :: st) (M) Q := wp_getr rfl hc
theorem w27_4 {ls st : List xV} {M : xM} {Q : Option xV → xM → Prop} {d : Nat} (hc : x_c d = 6) : Wp 27 4 (ls) (xr d :: st) (M) Q = Wp 27 7 (ls) (xi (M d 1) :: st) (M) Q := wp_getf rfl hc
theorem w27_7 {ls st : List xV} {M : xM} {Q : Option xV → xM → Prop} {a : Int} {v0 : xV} : Wp 27 7 (v0 :: xi a :: ls) (st) (M) Q = Wp 27 8 (v0 :: xi a :: ls) (xi a :: st) (M) Q := wp_iload rfl rfl
theorem w27_8 {ls : List xV} {M : xM} {Q : Option xV → xM → Prop} {a0 : Int} {a1 : Int} : Wp 27 8 (ls) (xi a1 :: xi a0 :: []) (M) Q = Wc 73 [xi a0, xi a1] M (fun r M2 => Wp 27 11 (ls) (r.toList ++ ([])) M2 Q) := wp_cS rfl rfl (Nat.le_of_ble_eq_true rfl) (Nat.le_of_ble_eq_true rfl) rfl rfl
theorem w27_11 {ls st : List xV} {M : xM} {Q : Option xV → xM → Prop}  : Wp 27 11 (ls) (st) (M) Q = Wp 27 12 (ls) (xi 1 :: st) (M) Q := wp_const rfl
theorem w27_12 {ls st : List xV} {M : xM} {Q : Option xV → xM → Prop} {a : Int} {b : Int} (ha : xG a) (hb : xG b) : Wp 27 12 (ls) (xi b :: xi a :: st) (M) Q = ((a = b → Wp 27 31 (ls) (st) (M) Q) ∧ (¬ (a = b) → Wp 27 15 (ls) (st) (M) Q)) := wp_cmp_eq rfl ha hb
theorem w27_15 {ls st : List xV} {M : xM} {Q : Option xV → xM → Prop} {d : Nat} : Wp 27 15 (xr d :: ls) (st) (M) Q = Wp 27 16 (xr d :: ls) (xr d :: st) (M) Q := wp_aload rfl rfl
theorem w27_16 {ls st : List xV} {M : xM} {Q : Option xV → xM → Prop} {d : Nat} (hc : x_c d = 5) : Wp 27 16 (ls) (xr d :: st) (M) Q = Wp 27 19 (ls) (xi (M d 9) :: st) (M) Q := wp_getf rfl hc
theorem w27_19 {ls st : List xV} {M : xM} {Q : Option xV → xM → Prop} {d : Nat} : Wp 27 19 (xr d :: ls) (st) (M) Q = Wp 27 20 (xr d :: ls) (xr d :: st) (M) Q := wp_aload rfl rfl
theorem w27_20 {ls st : List xV} {M : xM} {Q : Option xV → xM → Prop} {d : Nat} (hc : x_c d = 5) : Wp 27 20 (ls) (xr d :: st) (M) Q = Wp 27 23 (ls) (xr (x_r d 1) :: st) (M) Q := wp_getr rfl hc
theorem w27_23 {ls st : List xV} {M : xM} {Q : Option xV → xM → Prop} {d : Nat} (hc : x_c d = 6) : Wp 27 23 (ls) (xr d :: st) (M) Q = Wp 27 26 (ls) (xr (x_r d 0) :: st) (M) Q := wp_getr rfl hc
theorem w27_26 {ls st : List xV} {M : xM} {Q : Option xV → xM → Prop} {a : Int} {v0 : xV} : Wp 27 26 (v0 :: xi a :: ls) (st) (M) Q = Wp 27 27 (v0 :: xi a :: ls) (xi a :: st) (M) Q := wp_iload rfl rfl
theorem w27_27 {ls st : List xV} {M : xM} {Q : Option xV → xM → Prop} {a : Int} {d : Nat} (hc : x_c d = 20) (hn : x_n d = 5) (h1 : 0 ≤ a) (h2 : a < 5) : Wp 27 27 (ls) (xi a :: xr d :: st) (M) Q = Wp 27 28 (ls) (xi (M d a) :: st) (M) Q := wp_ald rfl hc h1 (by rw [hn]; exact h2)
theorem w27_28 {ls st : List xV} {M : xM} {Q : Option xV → xM → Prop} {a : Int} {b : Int} (ha : xG a) (hb : xG b) : Wp 27 28 (ls) (xi b :: xi a :: st) (M) Q = ((b ≤ a → Wp 27 33 (ls) (st) (M) Q) ∧ (¬ (b ≤ a) → Wp 27 31 (ls) (st) (M) Q)) := wp_cmp_ge rfl ha hb
theorem w27_31 {ls st : List xV} {M : xM} {Q : Option xV → xM → Prop}  : Wp 27 31 (ls) (st) (M) Q = Wp 27 32 (ls) (xi 0 :: st) (M) Q := wp_const rfl
theorem w27_32 {ls : List xV} {M : xM} {Q : Option xV → xM → Prop} {a : Int} (ha : a = 0 ∨ a = 1) : Wp 27 32 (ls) ([xi a]) (M) Q = Q (some (xi a)) M := wp_zret rfl ha
theorem w27_33 {ls st : List xV} {M : xM} {Q : Option xV → xM → Prop} {d : Nat} : Wp 27 33 (xr d :: ls) (st) (M) Q = Wp 27 34 (xr d :: ls) (xr d :: st) (M) Q := wp_aload rfl rfl
theorem w27_34 {ls st : List xV} {M : xM} {Q : Option xV → xM → Prop} {d : Nat} (hc : x_c d = 5) : Wp 27 34 (ls) (xr d :: st) (M) Q = Wp 27 37 (ls) (xr (x_r d 0) :: st) (M) Q := wp_getr rfl hc
theorem w27_37 {ls st : List xV} {M : xM} {Q : Option xV → xM → Prop} {d : Nat} (hc : x_c d = 3) : Wp 27 37 (ls) (xr d :: st) (M) Q = Wp 27 40 (ls) (xr (x_r d 6) :: st) (M) Q := wp_getr rfl hc
theorem w27_40 {ls st : List xV} {M : xM} {Q : Option xV → xM → Prop} {a : Int} {v0 : xV} : Wp 27 40 (v0 :: xi a :: ls) (st) (M) Q = Wp 27 41 (v0 :: xi a :: ls) (xi a :: st) (M) Q := wp_iload rfl rfl
theorem w27_41 {ls st : List xV} {M : xM} {Q : Option xV → xM → Prop} {a : Int} {d : Nat} (hc : x_c d = 20) (hn : x_n d = 5) (h1 : 0 ≤ a) (h2 : a < 5) : Wp 27 41 (ls) (xi a :: xr d :: st) (M) Q = Wp 27 42 (ls) (xi (M d a) :: st) (M) Q := wp_ald rfl hc h1 (by rw [hn]; exact h2)
theorem w27_42 {ls st : List xV} {M : xM} {Q : Option xV → xM → Prop} {a : Int} (ha : xG a) : Wp 27 42 (ls) (xi a :: st) (M) Q = Wp 27 (xlk 104 a [(1, 68), (2, 83)]) (ls) (st) (M) Q := wp_lsw rfl ha
theorem w27_68 {ls st : List xV} {M : xM} {Q : Option xV → xM → Prop} {d : Nat} : Wp 27 68 (xr d :: ls) (st) (M) Q = Wp 27 69 (xr d :: ls) (xr d :: st) (M) Q := wp_aload rfl rfl
theorem w27_69 {ls st : List xV} {M : xM} {Q : Option xV → xM → Prop} {d : Nat} (hc : x_c d = 5) : Wp 27 69 (ls) (xr d :: st) (M) Q = Wp 27 72 (ls) (xi (M d 9) :: st) (M) Q := wp_getf rfl hc
theorem w27_72 {ls st : List xV} {M : xM} {Q : Option xV → xM → Prop}  : Wp 27 72 (ls) (st) (M) Q = Wp 27 73 (ls) (xi 1 :: st) (M) Q := wp_const rfl
theorem w27_73 {ls st : List xV} {M : xM} {Q : Option xV → xM → Prop} {a : Int} {b : Int} : Wp 27 73 (ls) (xi b :: xi a :: st) (M) Q = Wp 27 74 (ls) (xi (xand a b) :: st) (M) Q := wp_bin (f := xand) rfl
theorem w27_74 {ls st : List xV} {M : xM} {Q : Option xV → xM → Prop} {a : Int} (ha : xG a) : Wp 27 74 (ls) (xi a :: st) (M) Q = ((¬ a = 0 → Wp 27 81 (ls) (st) (M) Q) ∧ (¬ (¬ a = 0) → Wp 27 77 (ls) (st) (M) Q)) := wp_if_ne rfl ha
theorem w27_77 {ls st : List xV} {M : xM} {Q : Option xV → xM → Prop}  : Wp 27 77 (ls) (st) (M) Q = Wp 27 78 (ls) (xi 1 :: st) (M) Q := wp_const rfl
theorem w27_78 {ls st : List xV} {M : xM} {Q : Option xV → xM → Prop}  : Wp 27 78 (ls) (st) (M) Q = Wp 27 82 (ls) (st) (M) Q := wp_goto rfl
theorem w27_81 {ls st : List xV} {M : xM} {Q : Option xV → xM → Prop}  : Wp 27 81 (ls) (st) (M) Q = Wp 27 82 (ls) (xi 0 :: st) (M) Q := wp_const rfl
theorem w27_82 {ls : List xV} {M : xM} {Q : Option xV → xM → Prop} {a : Int} (ha : a = 0 ∨ a = 1) : Wp 27 82 (ls) ([xi a]) (M) Q = Q (some (xi a)) M := wp_zret rfl ha
theorem w27_83 {ls st : List xV} {M : xM} {Q : Option xV → xM → Prop} {d : Nat} : Wp 27 83 (xr d :: ls) (st) (M) Q = Wp 27 84 (xr d :: ls) (xr d :: st) (M) Q := wp_aload rfl rfl
theorem w27_84 {ls st : List xV} {M : xM} {Q : Option xV → xM → Prop} {d : Nat} (hc : x_c d = 5) : Wp 27 84 (ls) (xr d :: st) (M) Q = Wp 27 87 (ls) (xr (x_r d 6) :: st) (M) Q := wp_getr rfl hc
theorem w27_87 {ls st : List xV} {M : xM} {Q : Option xV → xM → Prop} {a : Int} {v0 : xV} : Wp 27 87 (v0 :: xi a :: ls) (st) (M) Q = Wp 27 88 (v0 :: xi a :: ls) (xi a :: st) (M) Q := wp_iload rfl rfl
theorem w27_88 {ls st : List xV} {M : xM} {Q : Option xV → xM → Prop} {a : Int} {d : Nat} (hc : x_c d = 20) (hn : x_n d = 5) (h1 : 0 ≤ a) (h2 : a < 5) : Wp 27 88 (ls) (xi a :: xr d :: st) (M) Q = Wp 27 89 (ls) (xi (M d a) :: st) (M) Q := wp_ald rfl hc h1 (by rw [hn]; exact h2)
theorem w27_89 {ls st : List xV} {M : xM} {Q : Option xV → xM → Prop} {d : Nat} : Wp 27 89 (xr d :: ls) (st) (M) Q = Wp 27 90 (xr d :: ls) (xr d :: st) (M) Q := wp_aload rfl rfl
theorem w27_90 {ls st : List xV} {M : xM} {Q : Option xV → xM → Prop} {d : Nat} (hc : x_c d = 5) : Wp 27 90 (ls) (xr d :: st) (M) Q = Wp 27 93 (ls) (xi (M d 9) :: st) (M) Q := wp_getf rfl hc
theorem w27_93 {ls st : List xV} {M : xM} {Q : Option xV → xM → Prop}  : Wp 27 93 (ls) (st) (M) Q = Wp 27 94 (ls) (xi 1 :: st) (M) Q := wp_const rfl
theorem w27_94 {ls st : List xV} {M : xM} {Q : Option xV → xM → Prop} {a : Int} {b : Int} : Wp 27 94 (ls) (xi b :: xi a :: st) (M) Q = Wp 27 95 (ls) (xi (a - b) :: st) (M) Q := wp_bin (f := xsub) rfl
theorem w27_95 {ls st : List xV} {M : xM} {Q : Option xV → xM → Prop} {a : Int} {b : Int} (ha : xG a) (hb : xG b) : Wp 27 95 (ls) (xi b :: xi a :: st) (M) Q = ((a = b → Wp 27 102 (ls) (st) (M) Q) ∧ (¬ (a = b) → Wp 27 98 (ls) (st) (M) Q)) := wp_cmp_eq rfl ha hb
theorem w27_98 {ls st : List xV} {M : xM} {Q : Option xV → xM → Prop}  : Wp 27 98 (ls) (st) (M) Q = Wp 27 99 (ls) (xi 1 :: st) (M) Q := wp_const rfl
theorem w27_99 {ls st : List xV} {M : xM} {Q : Option xV → xM → Prop}  : Wp 27 99 (ls) (st) (M) Q = Wp 27 103 (ls) (st) (M) Q := wp_goto rfl
theorem w27_102 {ls st : List xV} {M : xM} {Q : Option xV → xM → Prop}  : Wp 27 102 (ls) (st) (M) Q = Wp 27 103 (ls) (xi 0 :: st) (M) Q := wp_const rfl
theorem w27_103 {ls : List xV} {M : xM} {Q : Option xV → xM → Prop} {a : Int} (ha : a = 0 ∨ a = 1) : Wp 27 103 (ls) ([xi a]) (M) Q = Q (some (xi a)) M := wp_zret rfl ha
theorem w27_104 {ls st : List xV} {M : xM} {Q : Option xV → xM → Prop}  : Wp 27 104 (ls) (st) (M) Q = Wp 27 105 (ls) (xi 1 :: st) (M) Q := wp_const rfl
theorem w27_105 {ls : List xV} {M : xM} {Q : Option xV → xM → Prop} {a : Int} (ha : a = 0 ∨ a = 1) : Wp 27 105 (ls) ([xi a]) (M) Q = Q (some (xi a)) M := wp_zret rfl ha
theorem wc28 {M : xM} {Q : Option xV → xM → Prop} {d0 : Nat} {a1 : Int} : Wc 28 [xr d0, xi a1] M Q = Wp 28 0 [xr d0, xi a1, xj] [] M Q := rfl
theorem w28_0 {ls st : List xV} {M : xM} {Q : Option xV → xM → Prop} {d : Nat} : Wp 28 0 (xr d :: ls) (st) (M) Q = Wp 28 1 (xr d :: ls) (xr d :: st) (M) Q := wp_aload rfl rfl
theorem w28_1 {ls st : List xV} {M : xM} {Q : Option xV → xM → Prop} {a : Int} {v0 : xV} : Wp 28 1 (v0 :: xi a :: ls) (st) (M) Q = Wp 28 2 (v0 :: xi a :: ls) (xi a :: st) (M) Q := wp_iload rfl rfl
theorem w28_2 {ls : List xV} {M : xM} {Q : Option xV → xM → Prop} {a1 : Int} {d0 : Nat} (hc : x_c d0 = 5) : Wp 28 2 (ls) (xi a1 :: xr d0 :: []) (M) Q = Wc 29 [xr d0, xi a1] M (fun r M2 => Wp 28 5 (ls) (r.toList ++ ([])) M2 Q) := wp_cV rfl rfl hc (Nat.le_of_ble_eq_true rfl) (Nat.le_of_ble_eq_true rfl) rfl rfl
theorem w28_5 {ls st : List xV} {M : xM} {Q : Option xV → xM → Prop} {a : Int} {v0 : xV} {v1 : xV} {w : xV} : Wp 28 5 (v0 :: v1 :: w :: ls) (xi a :: st) (M) Q = Wp 28 6 (v0 :: xjl v1 :: xi a :: ls) (st) (M) Q := wp_istore rfl rfl
theorem w28_6 {ls st : List xV} {M : xM} {Q : Option xV → xM → Prop} {a : Int} {v0 : xV} {v1 : xV} : Wp 28 6 (v0 :: v1 :: xi a :: ls) (st) (M) Q = Wp 28 7 (v0 :: v1 :: xi a :: ls) (xi a :: st) (M) Q := wp_iload rfl rfl
theorem w28_7 {ls st : List xV} {M : xM} {Q : Option xV → xM → Prop} {a : Int} (ha : xG a) : Wp 28 7 (ls) (xi a :: st) (M) Q = ((a = 0 → Wp 28 29 (ls) (st) (M) Q) ∧ (¬ (a = 0) → Wp 28 10 (ls) (st) (M) Q)) := wp_if_eq rfl ha
theorem w28_10 {ls st : List xV} {M : xM} {Q : Option xV → xM → Prop} {d : Nat} : Wp 28 10 (xr d :: ls) (st) (M) Q = Wp 28 11 (xr d :: ls) (xr d :: st) (M) Q := wp_aload rfl rfl
theorem w28_11 {ls st : List xV} {M : xM} {Q : Option xV → xM → Prop} {d : Nat} (hc : x_c d = 5) : Wp 28 11 (ls) (xr d :: st) (M) Q = Wp 28 14 (ls) (xr (x_r d 0) :: st) (M) Q := wp_getr rfl hc
theorem w28_14 {ls st : List xV} {M : xM} {Q : Option xV → xM → Prop} {d : Nat} (hc : x_c d = 3) : Wp 28 14 (ls) (xr d :: st) (M) Q = Wp 28 17 (ls) (xr (x_r d 6) :: st) (M) Q := wp_getr rfl hc
theorem w28_17 {ls st : List xV} {M : xM} {Q : Option xV → xM → Prop} {a : Int} {v0 : xV} : Wp 28 17 (v0 :: xi a :: ls) (st) (M) Q = Wp 28 18 (v0 :: xi a :: ls) (xi a :: st) (M) Q := wp_iload rfl rfl
theorem w28_18 {ls st : List xV} {M : xM} {Q : Option xV → xM → Prop} {a : Int} {d : Nat} (hc : x_c d = 20) (hn : x_n d = 5) (h1 : 0 ≤ a) (h2 : a < 5) : Wp 28 18 (ls) (xi a :: xr d :: st) (M) Q = Wp 28 19 (ls) (xi (M d a) :: st) (M) Q := wp_ald rfl hc h1 (by rw [hn]; exact h2)
theorem w28_19 {ls st : List xV} {M : xM} {Q : Option xV → xM → Prop}  : Wp 28 19 (ls) (st) (M) Q = Wp 28 20 (ls) (xi 4 :: st) (M) Q := wp_const rfl
theorem w28_20 {ls st : List xV} {M : xM} {Q : Option xV → xM → Prop} {a : Int} {b : Int} (ha : xG a) (hb : xG b) : Wp 28 20 (ls) (xi b :: xi a :: st) (M) Q = ((¬ a = b → Wp 28 29 (ls) (st) (M) Q) ∧ (¬ (¬ a = b) → Wp 28 23 (ls) (st) (M) Q)) := wp_cmp_ne rfl ha hb
theorem w28_23 {ls st : List xV} {M : xM} {Q : Option xV → xM → Prop} {d : Nat} : Wp 28 23 (xr d :: ls) (st) (M) Q = Wp 28 24 (xr d :: ls) (xr d :: st) (M) Q := wp_aload rfl rfl
theorem w28_24 {ls st : List xV} {M : xM} {Q : Option xV → xM → Prop} {a : Int} {v0 : xV} : Wp 28 24 (v0 :: xi a :: ls) (st) (M) Q = Wp 28 25 (v0 :: xi a :: ls) (xi a :: st) (M) Q := wp_iload rfl rfl
theorem w28_25 {ls : List xV} {M : xM} {Q : Option xV → xM → Prop} {a1 : Int} {d0 : Nat} (hc : x_c d0 = 5) : Wp 28 25 (ls) (xi a1 :: xr d0 :: []) (M) Q = Wc 29 [xr d0, xi a1] M (fun r M2 => Wp 28 28 (ls) (r.toList ++ ([])) M2 Q) := wp_cV rfl rfl hc (Nat.le_of_ble_eq_true rfl) (Nat.le_of_ble_eq_true rfl) rfl rfl
theorem w28_28 {ls st : List xV} {M : xM} {Q : Option xV → xM → Prop} {a : Int} {v0 : xV} {v1 : xV} {w : xV} : Wp 28 28 (v0 :: v1 :: w :: ls) (xi a :: st) (M) Q = Wp 28 29 (v0 :: xjl v1 :: xi a :: ls) (st) (M) Q := wp_istore rfl rfl
theorem w28_29 {ls st : List xV} {M : xM} {Q : Option xV → xM → Prop} {a : Int} {v0 : xV} {v1 : xV} : Wp 28 29 (v0 :: v1 :: xi a :: ls) (st) (M) Q = Wp 28 30 (v0 :: v1 :: xi a :: ls) (xi a :: st) (M) Q := wp_iload rfl rfl
theorem w28_30 {ls st : List xV} {M : xM} {Q : Option xV → xM → Prop} {a : Int} (ha : xG a) : Wp 28 30 (ls) (xi a :: st) (M) Q = ((a = 0 → Wp 28 34 (ls) (st) (M) Q) ∧ (¬ (a = 0) → Wp 28 33 (ls) (st) (M) Q)) := wp_if_eq rfl ha
theorem w28_33 {ls : List xV} {M : xM} {Q : Option xV → xM → Prop}  : Wp 28 33 (ls) ([]) (M) Q = Q none M := wp_vret rfl
theorem w28_34 {ls st : List xV} {M : xM} {Q : Option xV → xM → Prop} {d : Nat} : Wp 28 34 (xr d :: ls) (st) (M) Q = Wp 28 35 (xr d :: ls) (xr d :: st) (M) Q := wp_aload rfl rfl
theorem w28_35 {ls st : List xV} {M : xM} {Q : Option xV → xM → Prop} {d : Nat} (hc : x_c d = 5) : Wp 28 35 (ls) (xr d :: st) (M) Q = Wp 28 38 (ls) (xr (x_r d 3) :: st) (M) Q := wp_getr rfl hc
theorem w28_38 {ls st : List xV} {M : xM} {Q : Option xV → xM → Prop} {a : Int} {v0 : xV} : Wp 28 38 (v0 :: xi a :: ls) (st) (M) Q = Wp 28 39 (v0 :: xi a :: ls) (xi a :: st) (M) Q := wp_iload rfl rfl
theorem w28_39 {ls st : List xV} {M : xM} {Q : Option xV → xM → Prop} {a : Int} {d : Nat} : Wp 28 39 (ls) (xi a :: xr d :: st) (M) Q = Wp 28 40 (ls) (xi a :: xr d :: xi a :: xr d :: st) (M) Q := wp_dup2 rfl
theorem w28_40 {ls st : List xV} {M : xM} {Q : Option xV → xM → Prop} {a : Int} {d : Nat} (hc : x_c d = 20) (hn : x_n d = 5) (h1 : 0 ≤ a) (h2 : a < 5) : Wp 28 40 (ls) (xi a :: xr d :: st) (M) Q = Wp 28 41 (ls) (xi (M d a) :: st) (M) Q := wp_ald rfl hc h1 (by rw [hn]; exact h2)
theorem w28_41 {ls st : List xV} {M : xM} {Q : Option xV → xM → Prop}  : Wp 28 41 (ls) (st) (M) Q = Wp 28 42 (ls) (xi 1 :: st) (M) Q := wp_const rfl
theorem w28_42 {ls st : List xV} {M : xM} {Q : Option xV → xM → Prop} {a : Int} {b : Int} : Wp 28 42 (ls) (xi b :: xi a :: st) (M) Q = Wp 28 43 (ls) (xi (a + b) :: st) (M) Q := wp_bin (f := xadd) rfl
theorem w28_43 {ls st : List xV} {M : xM} {Q : Option xV → xM → Prop} {a : Int} {d : Nat} {x : Int} (hc : x_c d = 20) (hn : x_n d = 5) (h1 : 0 ≤ a) (h2 : a < 5) : Wp 28 43 (ls) (xi x :: xi a :: xr d :: st) (M) Q = Wp 28 44 (ls) (st) (xup M d a x) Q := wp_iast rfl hc h1 (by rw [hn]; exact h2)
theorem w28_44 {ls st : List xV} {M : xM} {Q : Option xV → xM → Prop} {d : Nat} : Wp 28 44 (xr d :: ls) (st) (M) Q = Wp 28 45 (xr d :: ls) (xr d :: st) (M) Q := wp_aload rfl rfl
theorem w28_45 {ls st : List xV} {M : xM} {Q : Option xV → xM → Prop} {d : Nat} : Wp 28 45 (ls) (xr d :: st) (M) Q = Wp 28 46 (ls) (xr d :: xr d :: st) (M) Q := wp_dupA rfl
theorem w28_46 {ls st : List xV} {M : xM} {Q : Option xV → xM → Prop} {d : Nat} (hc : x_c d = 5) : Wp 28 46 (ls) (xr d :: st) (M) Q = Wp 28 49 (ls) (xi (M d 10) :: st) (M) Q := wp_getf rfl hc
theorem w28_49 {ls st : List xV} {M : xM} {Q : Option xV → xM → Prop}  : Wp 28 49 (ls) (st) (M) Q = Wp 28 50 (ls) (xi 1 :: st) (M) Q := wp_const rfl
theorem w28_50 {ls st : List xV} {M : xM} {Q : Option xV → xM → Prop} {a : Int} {b : Int} : Wp 28 50 (ls) (xi b :: xi a :: st) (M) Q = Wp 28 51 (ls) (xi (a + b) :: st) (M) Q := wp_bin (f := xadd) rfl
theorem w28_51 {ls st : List xV} {M : xM} {Q : Option xV → xM → Prop} {a : Int} {d : Nat} (hc : x_c d = 5) : Wp 28 51 (ls) (xi a :: xr d :: st) (M) Q = Wp 28 54 (ls) (st) (xup M d 10 a) Q := wp_putf rfl hc
theorem w28_54 {ls st : List xV} {M : xM} {Q : Option xV → xM → Prop} {d : Nat} : Wp 28 54 (xr d :: ls) (st) (M) Q = Wp 28 55 (xr d :: ls) (xr d :: st) (M) Q := wp_aload rfl rfl
theorem w28_55 {ls st : List xV} {M : xM} {Q : Option xV → xM → Prop} {d : Nat} (hc : x_c d = 5) : Wp 28 55 (ls) (xr d :: st) (M) Q = Wp 28 58 (ls) (xr (x_r d 0) :: st) (M) Q := wp_getr rfl hc
theorem w28_58 {ls st : List xV} {M : xM} {Q : Option xV → xM → Prop} {d : Nat} (hc : x_c d = 3) : Wp 28 58 (ls) (xr d :: st) (M) Q = Wp 28 61 (ls) (xr (x_r d 6) :: st) (M) Q := wp_getr rfl hc
theorem w28_61 {ls st : List xV} {M : xM} {Q : Option xV → xM → Prop} {a : Int} {v0 : xV} : Wp 28 61 (v0 :: xi a :: ls) (st) (M) Q = Wp 28 62 (v0 :: xi a :: ls) (xi a :: st) (M) Q := wp_iload rfl rfl
theorem w28_62 {ls st : List xV} {M : xM} {Q : Option xV → xM → Prop} {a : Int} {d : Nat} (hc : x_c d = 20) (hn : x_n d = 5) (h1 : 0 ≤ a) (h2 : a < 5) : Wp 28 62 (ls) (xi a :: xr d :: st) (M) Q = Wp 28 63 (ls) (xi (M d a) :: st) (M) Q := wp_ald rfl hc h1 (by rw [hn]; exact h2)
theorem w28_63 {ls st : List xV} {M : xM} {Q : Option xV → xM → Prop}  : Wp 28 63 (ls) (st) (M) Q = Wp 28 64 (ls) (xi 3 :: st) (M) Q := wp_const rfl
theorem w28_64 {ls st : List xV} {M : xM} {Q : Option xV → xM → Prop} {a : Int} {b : Int} (ha : xG a) (hb : xG b) : Wp 28 64 (ls) (xi b :: xi a :: st) (M) Q = ((¬ a = b → Wp 28 79 (ls) (st) (M) Q) ∧ (¬ (¬ a = b) → Wp 28 67 (ls) (st) (M) Q)) := wp_cmp_ne rfl ha hb
theorem w28_67 {ls st : List xV} {M : xM} {Q : Option xV → xM → Prop} {d : Nat} : Wp 28 67 (xr d :: ls) (st) (M) Q = Wp 28 68 (xr d :: ls) (xr d :: st) (M) Q := wp_aload rfl rfl
theorem w28_68 {ls st : List xV} {M : xM} {Q : Option xV → xM → Prop} {d : Nat} : Wp 28 68 (ls) (xr d :: st) (M) Q = Wp 28 69 (ls) (xr d :: xr d :: st) (M) Q := wp_dupA rfl
theorem w28_69 {ls st : List xV} {M : xM} {Q : Option xV → xM → Prop} {d : Nat} (hc : x_c d = 5) : Wp 28 69 (ls) (xr d :: st) (M) Q = Wp 28 72 (ls) (xi (M d 8) :: st) (M) Q := wp_getf rfl hc
theorem w28_72 {ls st : List xV} {M : xM} {Q : Option xV → xM → Prop}  : Wp 28 72 (ls) (st) (M) Q = Wp 28 73 (ls) (xi 1 :: st) (M) Q := wp_const rfl
theorem w28_73 {ls st : List xV} {M : xM} {Q : Option xV → xM → Prop} {a : Int} {v0 : xV} : Wp 28 73 (v0 :: xi a :: ls) (st) (M) Q = Wp 28 74 (v0 :: xi a :: ls) (xi a :: st) (M) Q := wp_iload rfl rfl
theorem w28_74 {ls st : List xV} {M : xM} {Q : Option xV → xM → Prop} {a : Int} {b : Int} : Wp 28 74 (ls) (xi b :: xi a :: st) (M) Q = Wp 28 75 (ls) (xi (xshl a b) :: st) (M) Q := wp_bin (f := xshl) rfl
theorem w28_75 {ls st : List xV} {M : xM} {Q : Option xV → xM → Prop} {a : Int} {b : Int} : Wp 28 75 (ls) (xi b :: xi a :: st) (M) Q = Wp 28 76 (ls) (xi (xxor a b) :: st) (M) Q := wp_bin (f := xxor) rfl
theorem w28_76 {ls st : List xV} {M : xM} {Q : Option xV → xM → Prop} {a : Int} {d : Nat} (hc : x_c d = 5) : Wp 28 76 (ls) (xi a :: xr d :: st) (M) Q = Wp 28 79 (ls) (st) (xup M d 8 a) Q := wp_putf rfl hc
theorem w28_79 {ls : List xV} {M : xM} {Q : Option xV → xM → Prop}  : Wp 28 79 (ls) ([]) (M) Q = Q none M := wp_vret rfl
theorem wc29 {M : xM} {Q : Option xV → xM → Prop} {d0 : Nat} {a1 : Int} : Wc 29 [xr d0, xi a1] M Q = Wp 29 0 [xr d0, xi a1, xj] [] M Q := rfl
theorem w29_0 {ls st : List xV} {M : xM} {Q : Option xV → xM → Prop} {d : Nat} : Wp 29 0 (xr d :: ls) (st) (M) Q = Wp 29 1 (xr d :: ls) (xr d :: st) (M) Q := wp_aload rfl rfl
theorem w29_1 {ls st : List xV} {M : xM} {Q : Option xV → xM → Prop} {d : Nat} (hc : x_c d = 5) : Wp 29 1 (ls) (xr d :: st) (M) Q = Wp 29 4 (ls) (xr (x_r d 0) :: st) (M) Q := wp_getr rfl hc
theorem w29_4 {ls st : List xV} {M : xM} {Q : Option xV → xM → Prop} {d : Nat} : Wp 29 4 (xr d :: ls) (st) (M) Q = Wp 29 5 (xr d :: ls) (xr d :: st) (M) Q := wp_aload rfl rfl
theorem w29_5 {ls st : List xV} {M : xM} {Q : Option xV → xM → Prop} {d : Nat} (hc : x_c d = 5) : Wp 29 5 (ls) (xr d :: st) (M) Q = Wp 29 8 (ls) (xr (x_r d 2) :: st) (M) Q := wp_getr rfl hc
theorem w29_8 {ls st : List xV} {M : xM} {Q : Option xV → xM → Prop} {a : Int} {v0 : xV} : Wp 29 8 (v0 :: xi a :: ls) (st) (M) Q = Wp 29 9 (v0 :: xi a :: ls) (xi a :: st) (M) Q := wp_iload rfl rfl
theorem w29_9 {ls st : List xV} {M : xM} {Q : Option xV → xM → Prop} {a : Int} {d : Nat} (hc : x_c d = 20) (hn : x_n d = 5) (h1 : 0 ≤ a) (h2 : a < 5) : Wp 29 9 (ls) (xi a :: xr d :: st) (M) Q = Wp 29 10 (ls) (xi (M d a) :: st) (M) Q := wp_ald rfl hc h1 (by rw [hn]; exact h2)
theorem w29_10 {ls st : List xV} {M : xM} {Q : Option xV → xM → Prop} {d : Nat} : Wp 29 10 (xr d :: ls) (st) (M) Q = Wp 29 11 (xr d :: ls) (xr d :: st) (M) Q := wp_aload rfl rfl
theorem w29_11 {ls st : List xV} {M : xM} {Q : Option xV → xM → Prop} {d : Nat} (hc : x_c d = 5) : Wp 29 11 (ls) (xr d :: st) (M) Q = Wp 29 14 (ls) (xi (M d 8) :: st) (M) Q := wp_getf rfl hc
theorem w29_14 {ls st : List xV} {M : xM} {Q : Option xV → xM → Prop} {a : Int} {v0 : xV} : Wp 29 14 (v0 :: xi a :: ls) (st) (M) Q = Wp 29 15 (v0 :: xi a :: ls) (xi a :: st) (M) Q := wp_iload rfl rfl
theorem w29_15 {ls : List xV} {M : xM} {Q : Option xV → xM → Prop} {a0 : Int} {a1 : Int} {s0 : xV} {s1 : xV} : Wp 29 15 (ls) (xi a1 :: xi a0 :: s0 :: s1 :: []) (M) Q = Wc 73 [xi a0, xi a1] M (fun r M2 => Wp 29 18 (ls) (r.toList ++ (s0 :: s1 :: [])) M2 Q) := wp_cS rfl rfl (Nat.le_of_ble_eq_true rfl) (Nat.le_of_ble_eq_true rfl) rfl rfl
theorem w29_18 {ls st : List xV} {M : xM} {Q : Option xV → xM → Prop}  : Wp 29 18 (ls) (st) (M) Q = Wp 29 19 (ls) (xi 1 :: st) (M) Q := wp_const rfl
theorem w29_19 {ls st : List xV} {M : xM} {Q : Option xV → xM → Prop} {a : Int} {b : Int} (ha : xG a) (hb : xG b) : Wp 29 19 (ls) (xi b :: xi a :: st) (M) Q = ((¬ a = b → Wp 29 26 (ls) (st) (M) Q) ∧ (¬ (¬ a = b) → Wp 29 22 (ls) (st) (M) Q)) := wp_cmp_ne rfl ha hb
theorem w29_22 {ls st : List xV} {M : xM} {Q : Option xV → xM → Prop}  : Wp 29 22 (ls) (st) (M) Q = Wp 29 23 (ls) (xi 1 :: st) (M) Q := wp_const rfl
theorem w29_23 {ls st : List xV} {M : xM} {Q : Option xV → xM → Prop}  : Wp 29 23 (ls) (st) (M) Q = Wp 29 27 (ls) (st) (M) Q := wp_goto rfl
theorem w29_26 {ls st : List xV} {M : xM} {Q : Option xV → xM → Prop}  : Wp 29 26 (ls) (st) (M) Q = Wp 29 27 (ls) (xi 0 :: st) (M) Q := wp_const rfl
theorem w29_27 {ls : List xV} {M : xM} {Q : Option xV → xM → Prop} {a1 : Int} {a2 : Int} {d0 : Nat} (hc : x_c d0 = 3) : Wp 29 27 (ls) (xi a2 :: xi a1 :: xr d0 :: []) (M) Q = Wc 17 [xr d0, xi a1, xi a2] M (fun r M2 => Wp 29 30 (ls) (r.toList ++ ([])) M2 Q) := wp_cV rfl rfl hc (Nat.le_of_ble_eq_true rfl) (Nat.le_of_ble_eq_true rfl) rfl rfl
theorem w29_30 {ls st : List xV} {M : xM} {Q : Option xV → xM → Prop} {a : Int} {v0 : xV} {v1 : xV} {w : xV} : Wp 29 30 (v0 :: v1 :: w :: ls) (xi a :: st) (M) Q = Wp 29 31 (v0 :: xjl v1 :: xi a :: ls) (st) (M) Q := wp_istore rfl rfl
theorem w29_31 {ls st : List xV} {M : xM} {Q : Option xV → xM → Prop} {d : Nat} : Wp 29 31 (xr d :: ls) (st) (M) Q = Wp 29 32 (xr d :: ls) (xr d :: st) (M) Q := wp_aload rfl rfl
theorem w29_32 {ls st : List xV} {M : xM} {Q : Option xV → xM → Prop} {d : Nat} (hc : x_c d = 5) : Wp 29 32 (ls) (xr d :: st) (M) Q = Wp 29 35 (ls) (xr (x_r d 7) :: st) (M) Q := wp_getr rfl hc
theorem w29_35 {ls st : List xV} {M : xM} {Q : Option xV → xM → Prop} {a : Int} {v0 : xV} {v1 : xV} : Wp 29 35 (v0 :: v1 :: xi a :: ls) (st) (M) Q = Wp 29 36 (v0 :: v1 :: xi a :: ls) (xi a :: st) (M) Q := wp_iload rfl rfl
theorem w29_36 {ls st : List xV} {M : xM} {Q : Option xV → xM → Prop} {a : Int} {d : Nat} (hc : x_c d = 20) (hn : x_n d = 24) (h1 : 0 ≤ a) (h2 : a < 24) : Wp 29 36 (ls) (xi a :: xr d :: st) (M) Q = Wp 29 37 (ls) (xi (M d a) :: st) (M) Q := wp_ald rfl hc h1 (by rw [hn]; exact h2)
theorem w29_37 {ls st : List xV} {M : xM} {Q : Option xV → xM → Prop} {d : Nat} : Wp 29 37 (xr d :: ls) (st) (M) Q = Wp 29 38 (xr d :: ls) (xr d :: st) (M) Q := wp_aload rfl rfl
theorem w29_38 {ls st : List xV} {M : xM} {Q : Option xV → xM → Prop} {d : Nat} (hc : x_c d = 5) : Wp 29 38 (ls) (xr d :: st) (M) Q = Wp 29 41 (ls) (xr (x_r d 1) :: st) (M) Q := wp_getr rfl hc
theorem w29_41 {ls st : List xV} {M : xM} {Q : Option xV → xM → Prop} {d : Nat} (hc : x_c d = 6) : Wp 29 41 (ls) (xr d :: st) (M) Q = Wp 29 44 (ls) (xi (M d 2) :: st) (M) Q := wp_getf rfl hc
theorem w29_44 {ls st : List xV} {M : xM} {Q : Option xV → xM → Prop} {a : Int} {v0 : xV} {v1 : xV} : Wp 29 44 (v0 :: v1 :: xi a :: ls) (st) (M) Q = Wp 29 45 (v0 :: v1 :: xi a :: ls) (xi a :: st) (M) Q := wp_iload rfl rfl
theorem w29_45 {ls : List xV} {M : xM} {Q : Option xV → xM → Prop} {a0 : Int} {a1 : Int} {s0 : xV} : Wp 29 45 (ls) (xi a1 :: xi a0 :: s0 :: []) (M) Q = Wc 73 [xi a0, xi a1] M (fun r M2 => Wp 29 48 (ls) (r.toList ++ (s0 :: [])) M2 Q) := wp_cS rfl rfl (Nat.le_of_ble_eq_true rfl) (Nat.le_of_ble_eq_true rfl) rfl rfl
theorem w29_48 {ls st : List xV} {M : xM} {Q : Option xV → xM → Prop} {a : Int} {b : Int} (ha : xG a) (hb : xG b) : Wp 29 48 (ls) (xi b :: xi a :: st) (M) Q = ((a ≤ b → Wp 29 65 (ls) (st) (M) Q) ∧ (¬ (a ≤ b) → Wp 29 51 (ls) (st) (M) Q)) := wp_cmp_le rfl ha hb
theorem w29_51 {ls st : List xV} {M : xM} {Q : Option xV → xM → Prop} {d : Nat} : Wp 29 51 (xr d :: ls) (st) (M) Q = Wp 29 52 (xr d :: ls) (xr d :: st) (M) Q := wp_aload rfl rfl
theorem w29_52 {ls st : List xV} {M : xM} {Q : Option xV → xM → Prop} {d : Nat} (hc : x_c d = 5) : Wp 29 52 (ls) (xr d :: st) (M) Q = Wp 29 55 (ls) (xi (M d 10) :: st) (M) Q := wp_getf rfl hc
theorem w29_55 {ls st : List xV} {M : xM} {Q : Option xV → xM → Prop} {a : Int} (ha : xG a) : Wp 29 55 (ls) (xi a :: st) (M) Q = ((¬ a = 0 → Wp 29 63 (ls) (st) (M) Q) ∧ (¬ (¬ a = 0) → Wp 29 58 (ls) (st) (M) Q)) := wp_if_ne rfl ha
theorem w29_58 {ls st : List xV} {M : xM} {Q : Option xV → xM → Prop} {d : Nat} : Wp 29 58 (xr d :: ls) (st) (M) Q = Wp 29 59 (xr d :: ls) (xr d :: st) (M) Q := wp_aload rfl rfl
theorem w29_59 {ls st : List xV} {M : xM} {Q : Option xV → xM → Prop} {a : Int} {v0 : xV} {v1 : xV} : Wp 29 59 (v0 :: v1 :: xi a :: ls) (st) (M) Q = Wp 29 60 (v0 :: v1 :: xi a :: ls) (xi a :: st) (M) Q := wp_iload rfl rfl
theorem w29_60 {ls st : List xV} {M : xM} {Q : Option xV → xM → Prop} {a : Int} {d : Nat} (hc : x_c d = 5) : Wp 29 60 (ls) (xi a :: xr d :: st) (M) Q = Wp 29 63 (ls) (st) (xup M d 11 a) Q := wp_putf rfl hc
theorem w29_63 {ls st : List xV} {M : xM} {Q : Option xV → xM → Prop}  : Wp 29 63 (ls) (st) (M) Q = Wp 29 64 (ls) (xi 0 :: st) (M) Q := wp_const rfl
theorem w29_64 {ls : List xV} {M : xM} {Q : Option xV → xM → Prop} {a : Int} (ha : a = 0 ∨ a = 1) : Wp 29 64 (ls) ([xi a]) (M) Q = Q (some (xi a)) M := wp_zret rfl ha
theorem w29_65 {ls st : List xV} {M : xM} {Q : Option xV → xM → Prop} {d : Nat} : Wp 29 65 (xr d :: ls) (st) (M) Q = Wp 29 66 (xr d :: ls) (xr d :: st) (M) Q := wp_aload rfl rfl
theorem w29_66 {ls st : List xV} {M : xM} {Q : Option xV → xM → Prop} {d : Nat} (hc : x_c d = 5) : Wp 29 66 (ls) (xr d :: st) (M) Q = Wp 29 69 (ls) (xr (x_r d 7) :: st) (M) Q := wp_getr rfl hc
theorem w29_69 {ls st : List xV} {M : xM} {Q : Option xV → xM → Prop} {d : Nat} : Wp 29 69 (xr d :: ls) (st) (M) Q = Wp 29 70 (xr d :: ls) (xr d :: st) (M) Q := wp_aload rfl rfl
theorem w29_70 {ls st : List xV} {M : xM} {Q : Option xV → xM → Prop} {d : Nat} (hc : x_c d = 5) : Wp 29 70 (ls) (xr d :: st) (M) Q = Wp 29 73 (ls) (xr (x_r d 2) :: st) (M) Q := wp_getr rfl hc
theorem w29_73 {ls st : List xV} {M : xM} {Q : Option xV → xM → Prop} {a : Int} {v0 : xV} : Wp 29 73 (v0 :: xi a :: ls) (st) (M) Q = Wp 29 74 (v0 :: xi a :: ls) (xi a :: st) (M) Q := wp_iload rfl rfl
theorem w29_74 {ls st : List xV} {M : xM} {Q : Option xV → xM → Prop} {a : Int} {d : Nat} (hc : x_c d = 20) (hn : x_n d = 5) (h1 : 0 ≤ a) (h2 : a < 5) : Wp 29 74 (ls) (xi a :: xr d :: st) (M) Q = Wp 29 75 (ls) (xi (M d a) :: st) (M) Q := wp_ald rfl hc h1 (by rw [hn]; exact h2)
theorem w29_75 {ls st : List xV} {M : xM} {Q : Option xV → xM → Prop} {a : Int} {d : Nat} : Wp 29 75 (ls) (xi a :: xr d :: st) (M) Q = Wp 29 76 (ls) (xi a :: xr d :: xi a :: xr d :: st) (M) Q := wp_dup2 rfl
theorem w29_76 {ls st : List xV} {M : xM} {Q : Option xV → xM → Prop} {a : Int} {d : Nat} (hc : x_c d = 20) (hn : x_n d = 24) (h1 : 0 ≤ a) (h2 : a < 24) : Wp 29 76 (ls) (xi a :: xr d :: st) (M) Q = Wp 29 77 (ls) (xi (M d a) :: st) (M) Q := wp_ald rfl hc h1 (by rw [hn]; exact h2)
theorem w29_77 {ls st : List xV} {M : xM} {Q : Option xV → xM → Prop}  : Wp 29 77 (ls) (st) (M) Q = Wp 29 78 (ls) (xi 1 :: st) (M) Q := wp_const rfl
theorem w29_78 {ls st : List xV} {M : xM} {Q : Option xV → xM → Prop} {a : Int} {b : Int} : Wp 29 78 (ls) (xi b :: xi a :: st) (M) Q = Wp 29 79 (ls) (xi (a - b) :: st) (M) Q := wp_bin (f := xsub) rfl
theorem w29_79 {ls st : List xV} {M : xM} {Q : Option xV → xM → Prop} {a : Int} {d : Nat} {x : Int} (hc : x_c d = 20) (hn : x_n d = 24) (h1 : 0 ≤ a) (h2 : a < 24) : Wp 29 79 (ls) (xi x :: xi a :: xr d :: st) (M) Q = Wp 29 80 (ls) (st) (xup M d a x) Q := wp_iast rfl hc h1 (by rw [hn]; exact h2)
theorem w29_80 {ls st : List xV} {M : xM} {Q : Option xV → xM → Prop} {d : Nat} : Wp 29 80 (xr d :: ls) (st) (M) Q = Wp 29 81 (xr d :: ls) (xr d :: st) (M) Q := wp_aload rfl rfl
theorem w29_81 {ls st : List xV} {M : xM} {Q : Option xV → xM → Prop} {d : Nat} (hc : x_c d = 5) : Wp 29 81 (ls) (xr d :: st) (M) Q = Wp 29 84 (ls) (xr (x_r d 7) :: st) (M) Q := wp_getr rfl hc
theorem w29_84 {ls st : List xV} {M : xM} {Q : Option xV → xM → Prop} {a : Int} {v0 : xV} {v1 : xV} : Wp 29 84 (v0 :: v1 :: xi a :: ls) (st) (M) Q = Wp 29 85 (v0 :: v1 :: xi a :: ls) (xi a :: st) (M) Q := wp_iload rfl rfl
theorem w29_85 {ls st : List xV} {M : xM} {Q : Option xV → xM → Prop} {a : Int} {d : Nat} : Wp 29 85 (ls) (xi a :: xr d :: st) (M) Q = Wp 29 86 (ls) (xi a :: xr d :: xi a :: xr d :: st) (M) Q := wp_dup2 rfl
theorem w29_86 {ls st : List xV} {M : xM} {Q : Option xV → xM → Prop} {a : Int} {d : Nat} (hc : x_c d = 20) (hn : x_n d = 24) (h1 : 0 ≤ a) (h2 : a < 24) : Wp 29 86 (ls) (xi a :: xr d :: st) (M) Q = Wp 29 87 (ls) (xi (M d a) :: st) (M) Q := wp_ald rfl hc h1 (by rw [hn]; exact h2)
theorem w29_87 {ls st : List xV} {M : xM} {Q : Option xV → xM → Prop}  : Wp 29 87 (ls) (st) (M) Q = Wp 29 88 (ls) (xi 1 :: st) (M) Q := wp_const rfl
theorem w29_88 {ls st : List xV} {M : xM} {Q : Option xV → xM → Prop} {a : Int} {b : Int} : Wp 29 88 (ls) (xi b :: xi a :: st) (M) Q = Wp 29 89 (ls) (xi (a + b) :: st) (M) Q := wp_bin (f := xadd) rfl
theorem w29_89 {ls st : List xV} {M : xM} {Q : Option xV → xM → Prop} {a : Int} {d : Nat} {x : Int} (hc : x_c d = 20) (hn : x_n d = 24) (h1 : 0 ≤ a) (h2 : a < 24) : Wp 29 89 (ls) (xi x :: xi a :: xr d :: st) (M) Q = Wp 29 90 (ls) (st) (xup M d a x) Q := wp_iast rfl hc h1 (by rw [hn]; exact h2)
theorem w29_90 {ls st : List xV} {M : xM} {Q : Option xV → xM → Prop} {d : Nat} : Wp 29 90 (xr d :: ls) (st) (M) Q = Wp 29 91 (xr d :: ls) (xr d :: st) (M) Q := wp_aload rfl rfl
theorem w29_91 {ls st : List xV} {M : xM} {Q : Option xV → xM → Prop} {d : Nat} (hc : x_c d = 5) : Wp 29 91 (ls) (xr d :: st) (M) Q = Wp 29 94 (ls) (xr (x_r d 2) :: st) (M) Q := wp_getr rfl hc
theorem w29_94 {ls st : List xV} {M : xM} {Q : Option xV → xM → Prop} {a : Int} {v0 : xV} : Wp 29 94 (v0 :: xi a :: ls) (st) (M) Q = Wp 29 95 (v0 :: xi a :: ls) (xi a :: st) (M) Q := wp_iload rfl rfl
theorem w29_95 {ls st : List xV} {M : xM} {Q : Option xV → xM → Prop} {a : Int} {v0 : xV} {v1 : xV} : Wp 29 95 (v0 :: v1 :: xi a :: ls) (st) (M) Q = Wp 29 96 (v0 :: v1 :: xi a :: ls) (xi a :: st) (M) Q := wp_iload rfl rfl
theorem w29_96 {ls st : List xV} {M : xM} {Q : Option xV → xM → Prop} {a : Int} {d : Nat} {x : Int} (hc : x_c d = 20) (hn : x_n d = 5) (h1 : 0 ≤ a) (h2 : a < 5) : Wp 29 96 (ls) (xi x :: xi a :: xr d :: st) (M) Q = Wp 29 97 (ls) (st) (xup M d a x) Q := wp_iast rfl hc h1 (by rw [hn]; exact h2)
theorem w29_97 {ls st : List xV} {M : xM} {Q : Option xV → xM → Prop} {d : Nat} : Wp 29 97 (xr d :: ls) (st) (M) Q = Wp 29 98 (xr d :: ls) (xr d :: st) (M) Q := wp_aload rfl rfl
theorem w29_98 {ls st : List xV} {M : xM} {Q : Option xV → xM → Prop} {d : Nat} (hc : x_c d = 5) : Wp 29 98 (ls) (xr d :: st) (M) Q = Wp 29 101 (ls) (xr (x_r d 5) :: st) (M) Q := wp_getr rfl hc
theorem w29_101 {ls st : List xV} {M : xM} {Q : Option xV → xM → Prop} {a : Int} {v0 : xV} : Wp 29 101 (v0 :: xi a :: ls) (st) (M) Q = Wp 29 102 (v0 :: xi a :: ls) (xi a :: st) (M) Q := wp_iload rfl rfl
theorem w29_102 {ls st : List xV} {M : xM} {Q : Option xV → xM → Prop} {d : Nat} : Wp 29 102 (xr d :: ls) (st) (M) Q = Wp 29 103 (xr d :: ls) (xr d :: st) (M) Q := wp_aload rfl rfl
theorem w29_103 {ls st : List xV} {M : xM} {Q : Option xV → xM → Prop} {d : Nat} (hc : x_c d = 5) : Wp 29 103 (ls) (xr d :: st) (M) Q = Wp 29 106 (ls) (xi (M d 9) :: st) (M) Q := wp_getf rfl hc
theorem w29_106 {ls st : List xV} {M : xM} {Q : Option xV → xM → Prop} {a : Int} {d : Nat} {x : Int} (hc : x_c d = 20) (hn : x_n d = 5) (h1 : 0 ≤ a) (h2 : a < 5) : Wp 29 106 (ls) (xi x :: xi a :: xr d :: st) (M) Q = Wp 29 107 (ls) (st) (xup M d a x) Q := wp_iast rfl hc h1 (by rw [hn]; exact h2)
theorem w29_107 {ls st : List xV} {M : xM} {Q : Option xV → xM → Prop} {d : Nat} : Wp 29 107 (xr d :: ls) (st) (M) Q = Wp 29 108 (xr d :: ls) (xr d :: st) (M) Q := wp_aload rfl rfl
theorem w29_108 {ls st : List xV} {M : xM} {Q : Option xV → xM → Prop} {d : Nat} (hc : x_c d = 5) : Wp 29 108 (ls) (xr d :: st) (M) Q = Wp 29 111 (ls) (xr (x_r d 0) :: st) (M) Q := wp_getr rfl hc
theorem w29_111 {ls st : List xV} {M : xM} {Q : Option xV → xM → Prop} {a : Int} {v0 : xV} {v1 : xV} : Wp 29 111 (v0 :: v1 :: xi a :: ls) (st) (M) Q = Wp 29 112 (v0 :: v1 :: xi a :: ls) (xi a :: st) (M) Q := wp_iload rfl rfl
theorem w29_112 {ls : List xV} {M : xM} {Q : Option xV → xM → Prop} {a1 : Int} {d0 : Nat} (hc : x_c d0 = 3) : Wp 29 112 (ls) (xi a1 :: xr d0 :: []) (M) Q = Wc 11 [xr d0, xi a1] M (fun r M2 => Wp 29 115 (ls) (r.toList ++ ([])) M2 Q) := wp_cV rfl rfl hc (Nat.le_of_ble_eq_true rfl) (Nat.le_of_ble_eq_true rfl) rfl rfl
theorem w29_115 {ls st : List xV} {M : xM} {Q : Option xV → xM → Prop} {a : Int} (ha : xG a) : Wp 29 115 (ls) (xi a :: st) (M) Q = ((a = 0 → Wp 29 128 (ls) (st) (M) Q) ∧ (¬ (a = 0) → Wp 29 118 (ls) (st) (M) Q)) := wp_if_eq rfl ha
theorem w29_118 {ls st : List xV} {M : xM} {Q : Option xV → xM → Prop} {d : Nat} : Wp 29 118 (xr d :: ls) (st) (M) Q = Wp 29 119 (xr d :: ls) (xr d :: st) (M) Q := wp_aload rfl rfl
theorem w29_119 {ls st : List xV} {M : xM} {Q : Option xV → xM → Prop} {d : Nat} (hc : x_c d = 5) : Wp 29 119 (ls) (xr d :: st) (M) Q = Wp 29 122 (ls) (xr (x_r d 6) :: st) (M) Q := wp_getr rfl hc
theorem w29_122 {ls st : List xV} {M : xM} {Q : Option xV → xM → Prop} {a : Int} {v0 : xV} : Wp 29 122 (v0 :: xi a :: ls) (st) (M) Q = Wp 29 123 (v0 :: xi a :: ls) (xi a :: st) (M) Q := wp_iload rfl rfl
theorem w29_123 {ls st : List xV} {M : xM} {Q : Option xV → xM → Prop} {d : Nat} : Wp 29 123 (xr d :: ls) (st) (M) Q = Wp 29 124 (xr d :: ls) (xr d :: st) (M) Q := wp_aload rfl rfl
theorem w29_124 {ls st : List xV} {M : xM} {Q : Option xV → xM → Prop} {d : Nat} (hc : x_c d = 5) : Wp 29 124 (ls) (xr d :: st) (M) Q = Wp 29 127 (ls) (xi (M d 9) :: st) (M) Q := wp_getf rfl hc
theorem w29_127 {ls st : List xV} {M : xM} {Q : Option xV → xM → Prop} {a : Int} {d : Nat} {x : Int} (hc : x_c d = 20) (hn : x_n d = 5) (h1 : 0 ≤ a) (h2 : a < 5) : Wp 29 127 (ls) (xi x :: xi a :: xr d :: st) (M) Q = Wp 29 128 (ls) (st) (xup M d a x) Q := wp_iast rfl hc h1 (by rw [hn]; exact h2)
theorem w29_128 {ls st : List xV} {M : xM} {Q : Option xV → xM → Prop}  : Wp 29 128 (ls) (st) (M) Q = Wp 29 129 (ls) (xi 1 :: st) (M) Q := wp_const rfl
theorem w29_129 {ls : List xV} {M : xM} {Q : Option xV → xM → Prop} {a : Int} (ha : a = 0 ∨ a = 1) : Wp 29 129 (ls) ([xi a]) (M) Q = Q (some (xi a)) M := wp_zret rfl ha
