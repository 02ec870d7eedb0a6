theorem wc99 {M : xM} {Q : Option xV → xM → Prop} {d0 : Nat} {a1 : Int} : Wc 99 [xr d0, xi a1] M Q = Wp 99 0 [xr d0, xi a1] [] M Q := rfl
theorem w99_0 {ls st : List xV} {M : xM} {Q : Option xV → xM → Prop} {d : Nat} : Wp 99 0 (xr d :: ls) (st) (M) Q = Wp 99 1 (xr d :: ls) (xr d :: st) (M) Q := wp_aload rfl rfl
theorem w99_1 {ls st : List xV} {M : xM} {Q : Option xV → xM → Prop} {a : Int} {v0 : xV} : Wp 99 1 (v0 :: xi a :: ls) (st) (M) Q = Wp 99 2 (v0 :: xi a :: ls) (xi a :: st) (M) Q := wp_iload rfl rfl
theorem w99_2 {ls : List xV} {M : xM} {Q : Option xV → xM → Prop} {a1 : Int} {d0 : Nat} (hc : x_c d0 = 9) : Wp 99 2 (ls) (xi a1 :: xr d0 :: []) (M) Q = Wc 80 [xr d0, xi a1] M (fun r M2 => Wp 99 5 (ls) (r.toList ++ ([])) M2 Q) := wp_cV rfl rfl hc (Nat.le_of_ble_eq_true rfl) (Nat.le_of_ble_eq_true rfl) rfl rfl
theorem w99_5 {ls st : List xV} {M : xM} {Q : Option xV → xM → Prop} {a : Int} (ha : xG a) : Wp 99 5 (ls) (xi a :: st) (M) Q = ((a = 0 → Wp 99 19 (ls) (st) (M) Q) ∧ (¬ (a = 0) → Wp 99 8 (ls) (st) (M) Q)) := wp_if_eq rfl ha
theorem w99_8 {ls st : List xV} {M : xM} {Q : Option xV → xM → Prop} {d : Nat} : Wp 99 8 (xr d :: ls) (st) (M) Q = Wp 99 9 (xr d :: ls) (xr d :: st) (M) Q := wp_aload rfl rfl
theorem w99_9 {ls st : List xV} {M : xM} {Q : Option xV → xM → Prop} {d : Nat} (hc : x_c d = 9) : Wp 99 9 (ls) (xr d :: st) (M) Q = Wp 99 12 (ls) (xr (x_r d 2) :: st) (M) Q := wp_getr rfl hc
theorem w99_12 {ls st : List xV} {M : xM} {Q : Option xV → xM → Prop}  : Wp 99 12 (ls) (st) (M) Q = Wp 99 13 (ls) (xi 5 :: st) (M) Q := wp_const rfl
theorem w99_13 {ls st : List xV} {M : xM} {Q : Option xV → xM → Prop} {a : Int} {v0 : xV} : Wp 99 13 (v0 :: xi a :: ls) (st) (M) Q = Wp 99 14 (v0 :: xi a :: ls) (xi a :: st) (M) Q := wp_iload rfl rfl
theorem w99_14 {ls st : List xV} {M : xM} {Q : Option xV → xM → Prop} {a : Int} {b : Int} : Wp 99 14 (ls) (xi b :: xi a :: st) (M) Q = Wp 99 15 (ls) (xi (a + b) :: st) (M) Q := wp_bin (f := xadd) rfl
theorem w99_15 {ls st : List xV} {M : xM} {Q : Option xV → xM → Prop} {a : Int} {d : Nat} (hc : x_c d = 20) (hn : x_n d = 25) (h1 : 0 ≤ a) (h2 : a < 25) : Wp 99 15 (ls) (xi a :: xr d :: st) (M) Q = Wp 99 16 (ls) (xi (M d a) :: st) (M) Q := wp_ald rfl hc h1 (by rw [hn]; exact h2)
theorem w99_16 {ls st : List xV} {M : xM} {Q : Option xV → xM → Prop}  : Wp 99 16 (ls) (st) (M) Q = Wp 99 20 (ls) (st) (M) Q := wp_goto rfl
theorem w99_19 {ls st : List xV} {M : xM} {Q : Option xV → xM → Prop}  : Wp 99 19 (ls) (st) (M) Q = Wp 99 20 (ls) (xi (-1) :: st) (M) Q := wp_const rfl
theorem w99_20 {ls : List xV} {M : xM} {Q : Option xV → xM → Prop} {a : Int} : Wp 99 20 (ls) ([xi a]) (M) Q = Q (some (xi a)) M := wp_iret rfl
theorem wc100 {M : xM} {Q : Option xV → xM → Prop} {d0 : Nat} {a1 : Int} {a2 : Int} : Wc 100 [xr d0, xi a1, xi a2] M Q = Wp 100 0 [xr d0, xi a1, xi a2] [] M Q := rfl
theorem w100_0 {ls st : List xV} {M : xM} {Q : Option xV → xM → Prop} {d : Nat} : Wp 100 0 (xr d :: ls) (st) (M) Q = Wp 100 1 (xr d :: ls) (xr d :: st) (M) Q := wp_aload rfl rfl
theorem w100_1 {ls st : List xV} {M : xM} {Q : Option xV → xM → Prop} {a : Int} {v0 : xV} : Wp 100 1 (v0 :: xi a :: ls) (st) (M) Q = Wp 100 2 (v0 :: xi a :: ls) (xi a :: st) (M) Q := wp_iload rfl rfl
theorem w100_2 {ls : List xV} {M : xM} {Q : Option xV → xM → Prop} {a1 : Int} {d0 : Nat} (hc : x_c d0 = 9) : Wp 100 2 (ls) (xi a1 :: xr d0 :: []) (M) Q = Wc 82 [xr d0, xi a1] M (fun r M2 => Wp 100 5 (ls) (r.toList ++ ([])) M2 Q) := wp_cV rfl rfl hc (Nat.le_of_ble_eq_true rfl) (Nat.le_of_ble_eq_true rfl) rfl rfl
theorem w100_5 {ls st : List xV} {M : xM} {Q : Option xV → xM → Prop} {a : Int} (ha : xG a) : Wp 100 5 (ls) (xi a :: st) (M) Q = ((a = 0 → Wp 100 17 (ls) (st) (M) Q) ∧ (¬ (a = 0) → Wp 100 8 (ls) (st) (M) Q)) := wp_if_eq rfl ha
theorem w100_8 {ls st : List xV} {M : xM} {Q : Option xV → xM → Prop} {a : Int} {v0 : xV} {v1 : xV} : Wp 100 8 (v0 :: v1 :: xi a :: ls) (st) (M) Q = Wp 100 9 (v0 :: v1 :: xi a :: ls) (xi a :: st) (M) Q := wp_iload rfl rfl
theorem w100_9 {ls st : List xV} {M : xM} {Q : Option xV → xM → Prop}  : Wp 100 9 (ls) (st) (M) Q = Wp 100 10 (ls) (xi 0 :: st) (M) Q := wp_const rfl
theorem w100_10 {ls st : List xV} {M : xM} {Q : Option xV → xM → Prop}  : Wp 100 10 (ls) (st) (M) Q = Wp 100 11 (ls) (xi 1 :: st) (M) Q := wp_const rfl
theorem w100_11 {ls : List xV} {M : xM} {Q : Option xV → xM → Prop} {a0 : Int} {a1 : Int} {a2 : Int} : Wp 100 11 (ls) (xi a2 :: xi a1 :: xi a0 :: []) (M) Q = Wc 79 [xi a0, xi a1, xi a2] M (fun r M2 => Wp 100 14 (ls) (r.toList ++ ([])) M2 Q) := wp_cS rfl rfl (Nat.le_of_ble_eq_true rfl) (Nat.le_of_ble_eq_true rfl) rfl rfl
theorem w100_14 {ls st : List xV} {M : xM} {Q : Option xV → xM → Prop} {a : Int} (ha : xG a) : Wp 100 14 (ls) (xi a :: st) (M) Q = ((¬ a = 0 → Wp 100 19 (ls) (st) (M) Q) ∧ (¬ (¬ a = 0) → Wp 100 17 (ls) (st) (M) Q)) := wp_if_ne rfl ha
theorem w100_17 {ls st : List xV} {M : xM} {Q : Option xV → xM → Prop}  : Wp 100 17 (ls) (st) (M) Q = Wp 100 18 (ls) (xi (-1) :: st) (M) Q := wp_const rfl
theorem w100_18 {ls : List xV} {M : xM} {Q : Option xV → xM → Prop} {a : Int} : Wp 100 18 (ls) ([xi a]) (M) Q = Q (some (xi a)) M := wp_iret rfl
theorem w100_19 {ls st : List xV} {M : xM} {Q : Option xV → xM → Prop} {a : Int} {v0 : xV} {v1 : xV} : Wp 100 19 (v0 :: v1 :: xi a :: ls) (st) (M) Q = Wp 100 20 (v0 :: v1 :: xi a :: ls) (xi a :: st) (M) Q := wp_iload rfl rfl
theorem w100_20 {ls st : List xV} {M : xM} {Q : Option xV → xM → Prop} {a : Int} (ha : xG a) : Wp 100 20 (ls) (xi a :: st) (M) Q = ((¬ a = 0 → Wp 100 33 (ls) (st) (M) Q) ∧ (¬ (¬ a = 0) → Wp 100 23 (ls) (st) (M) Q)) := wp_if_ne rfl ha
theorem w100_23 {ls st : List xV} {M : xM} {Q : Option xV → xM → Prop} {d : Nat} : Wp 100 23 (xr d :: ls) (st) (M) Q = Wp 100 24 (xr d :: ls) (xr d :: st) (M) Q := wp_aload rfl rfl
theorem w100_24 {ls st : List xV} {M : xM} {Q : Option xV → xM → Prop} {d : Nat} (hc : x_c d = 9) : Wp 100 24 (ls) (xr d :: st) (M) Q = Wp 100 27 (ls) (xr (x_r d 5) :: st) (M) Q := wp_getr rfl hc
theorem w100_27 {ls st : List xV} {M : xM} {Q : Option xV → xM → Prop}  : Wp 100 27 (ls) (st) (M) Q = Wp 100 29 (ls) (xi 6 :: st) (M) Q := wp_const rfl
theorem w100_29 {ls st : List xV} {M : xM} {Q : Option xV → xM → Prop} {a : Int} {d : Nat} (hc : x_c d = 20) (hn : x_n d = 7) (h1 : 0 ≤ a) (h2 : a < 7) : Wp 100 29 (ls) (xi a :: xr d :: st) (M) Q = Wp 100 30 (ls) (xi (M d a) :: st) (M) Q := wp_ald rfl hc h1 (by rw [hn]; exact h2)
theorem w100_30 {ls st : List xV} {M : xM} {Q : Option xV → xM → Prop}  : Wp 100 30 (ls) (st) (M) Q = Wp 100 39 (ls) (st) (M) Q := wp_goto rfl
theorem w100_33 {ls st : List xV} {M : xM} {Q : Option xV → xM → Prop} {d : Nat} : Wp 100 33 (xr d :: ls) (st) (M) Q = Wp 100 34 (xr d :: ls) (xr d :: st) (M) Q := wp_aload rfl rfl
theorem w100_34 {ls st : List xV} {M : xM} {Q : Option xV → xM → Prop} {d : Nat} (hc : x_c d = 9) : Wp 100 34 (ls) (xr d :: st) (M) Q = Wp 100 37 (ls) (xr (x_r d 2) :: st) (M) Q := wp_getr rfl hc
theorem w100_37 {ls st : List xV} {M : xM} {Q : Option xV → xM → Prop}  : Wp 100 37 (ls) (st) (M) Q = Wp 100 38 (ls) (xi 3 :: st) (M) Q := wp_const rfl
theorem w100_38 {ls st : List xV} {M : xM} {Q : Option xV → xM → Prop} {a : Int} {d : Nat} (hc : x_c d = 20) (hn : x_n d = 25) (h1 : 0 ≤ a) (h2 : a < 25) : Wp 100 38 (ls) (xi a :: xr d :: st) (M) Q = Wp 100 39 (ls) (xi (M d a) :: st) (M) Q := wp_ald rfl hc h1 (by rw [hn]; exact h2)
theorem w100_39 {ls st : List xV} {M : xM} {Q : Option xV → xM → Prop} {a : Int} {v0 : xV} : Wp 100 39 (v0 :: xi a :: ls) (st) (M) Q = Wp 100 40 (v0 :: xi a :: ls) (xi a :: st) (M) Q := wp_iload rfl rfl
theorem w100_40 {ls st : List xV} {M : xM} {Q : Option xV → xM → Prop} {a : Int} {b : Int} : Wp 100 40 (ls) (xi b :: xi a :: st) (M) Q = Wp 100 41 (ls) (xi (xshr a b) :: st) (M) Q := wp_bin (f := xshr) rfl
theorem w100_41 {ls st : List xV} {M : xM} {Q : Option xV → xM → Prop}  : Wp 100 41 (ls) (st) (M) Q = Wp 100 42 (ls) (xi 1 :: st) (M) Q := wp_const rfl
theorem w100_42 {ls st : List xV} {M : xM} {Q : Option xV → xM → Prop} {a : Int} {b : Int} : Wp 100 42 (ls) (xi b :: xi a :: st) (M) Q = Wp 100 43 (ls) (xi (xand a b) :: st) (M) Q := wp_bin (f := xand) rfl
theorem w100_43 {ls : List xV} {M : xM} {Q : Option xV → xM → Prop} {a : Int} : Wp 100 43 (ls) ([xi a]) (M) Q = Q (some (xi a)) M := wp_iret rfl
theorem wc101 {M : xM} {Q : Option xV → xM → Prop} {d0 : Nat} : Wc 101 [xr d0] M Q = Wp 101 0 [xr d0, xj] [] M Q := rfl
theorem w101_0 {ls st : List xV} {M : xM} {Q : Option xV → xM → Prop} {d : Nat} : Wp 101 0 (xr d :: ls) (st) (M) Q = Wp 101 1 (xr d :: ls) (xr d :: st) (M) Q := wp_aload rfl rfl
theorem w101_1 {ls st : List xV} {M : xM} {Q : Option xV → xM → Prop} {d : Nat} (hc : x_c d = 9) : Wp 101 1 (ls) (xr d :: st) (M) Q = Wp 101 4 (ls) (xi (M d 7) :: st) (M) Q := wp_getf rfl hc
theorem w101_4 {ls st : List xV} {M : xM} {Q : Option xV → xM → Prop}  : Wp 101 4 (ls) (st) (M) Q = Wp 101 6 (ls) (xi 8 :: st) (M) Q := wp_const rfl
theorem w101_6 {ls st : List xV} {M : xM} {Q : Option xV → xM → Prop} {a : Int} {b : Int} (ha : xG a) (hb : xG b) : Wp 101 6 (ls) (xi b :: xi a :: st) (M) Q = ((¬ a = b → Wp 101 48 (ls) (st) (M) Q) ∧ (¬ (¬ a = b) → Wp 101 9 (ls) (st) (M) Q)) := wp_cmp_ne rfl ha hb
theorem w101_9 {ls st : List xV} {M : xM} {Q : Option xV → xM → Prop}  : Wp 101 9 (ls) (st) (M) Q = Wp 101 10 (ls) (xi 0 :: st) (M) Q := wp_const rfl
theorem w101_10 {ls st : List xV} {M : xM} {Q : Option xV → xM → Prop} {a : Int} {v0 : xV} {w : xV} : Wp 101 10 (v0 :: w :: ls) (xi a :: st) (M) Q = Wp 101 11 (xjl v0 :: xi a :: ls) (st) (M) Q := wp_istore rfl rfl
theorem w101_11 {ls st : List xV} {M : xM} {Q : Option xV → xM → Prop} {a : Int} {v0 : xV} : Wp 101 11 (v0 :: xi a :: ls) (st) (M) Q = Wp 101 12 (v0 :: xi a :: ls) (xi a :: st) (M) Q := wp_iload rfl rfl
theorem w101_12 {ls st : List xV} {M : xM} {Q : Option xV → xM → Prop}  : Wp 101 12 (ls) (st) (M) Q = Wp 101 14 (ls) (xi 49 :: st) (M) Q := wp_const rfl
theorem w101_14 {ls st : List xV} {M : xM} {Q : Option xV → xM → Prop} {a : Int} {b : Int} (ha : xG a) (hb : xG b) : Wp 101 14 (ls) (xi b :: xi a :: st) (M) Q = ((b ≤ a → Wp 101 38 (ls) (st) (M) Q) ∧ (¬ (b ≤ a) → Wp 101 17 (ls) (st) (M) Q)) := wp_cmp_ge rfl ha hb
theorem w101_17 {ls st : List xV} {M : xM} {Q : Option xV → xM → Prop} {d : Nat} : Wp 101 17 (xr d :: ls) (st) (M) Q = Wp 101 18 (xr d :: ls) (xr d :: st) (M) Q := wp_aload rfl rfl
theorem w101_18 {ls st : List xV} {M : xM} {Q : Option xV → xM → Prop} {d : Nat} (hc : x_c d = 9) : Wp 101 18 (ls) (xr d :: st) (M) Q = Wp 101 21 (ls) (xr (x_r d 6) :: st) (M) Q := wp_getr rfl hc
theorem w101_21 {ls st : List xV} {M : xM} {Q : Option xV → xM → Prop} {a : Int} {v0 : xV} : Wp 101 21 (v0 :: xi a :: ls) (st) (M) Q = Wp 101 22 (v0 :: xi a :: ls) (xi a :: st) (M) Q := wp_iload rfl rfl
theorem w101_22 {ls st : List xV} {M : xM} {Q : Option xV → xM → Prop} {d : Nat} : Wp 101 22 (xr d :: ls) (st) (M) Q = Wp 101 23 (xr d :: ls) (xr d :: st) (M) Q := wp_aload rfl rfl
theorem w101_23 {ls st : List xV} {M : xM} {Q : Option xV → xM → Prop} {d : Nat} (hc : x_c d = 9) : Wp 101 23 (ls) (xr d :: st) (M) Q = Wp 101 26 (ls) (xr (x_r d 6) :: st) (M) Q := wp_getr rfl hc
theorem w101_26 {ls st : List xV} {M : xM} {Q : Option xV → xM → Prop} {a : Int} {v0 : xV} : Wp 101 26 (v0 :: xi a :: ls) (st) (M) Q = Wp 101 27 (v0 :: xi a :: ls) (xi a :: st) (M) Q := wp_iload rfl rfl
theorem w101_27 {ls st : List xV} {M : xM} {Q : Option xV → xM → Prop}  : Wp 101 27 (ls) (st) (M) Q = Wp 101 29 (ls) (xi 7 :: st) (M) Q := wp_const rfl
theorem w101_29 {ls st : List xV} {M : xM} {Q : Option xV → xM → Prop} {a : Int} {b : Int} : Wp 101 29 (ls) (xi b :: xi a :: st) (M) Q = Wp 101 30 (ls) (xi (a + b) :: st) (M) Q := wp_bin (f := xadd) rfl
theorem w101_30 {ls st : List xV} {M : xM} {Q : Option xV → xM → Prop} {a : Int} {d : Nat} (hc : x_c d = 20) (hn : x_n d = 56) (h1 : 0 ≤ a) (h2 : a < 56) : Wp 101 30 (ls) (xi a :: xr d :: st) (M) Q = Wp 101 31 (ls) (xi (M d a) :: st) (M) Q := wp_ald rfl hc h1 (by rw [hn]; exact h2)
theorem w101_31 {ls st : List xV} {M : xM} {Q : Option xV → xM → Prop} {a : Int} {d : Nat} {x : Int} (hc : x_c d = 20) (hn : x_n d = 56) (h1 : 0 ≤ a) (h2 : a < 56) : Wp 101 31 (ls) (xi x :: xi a :: xr d :: st) (M) Q = Wp 101 32 (ls) (st) (xup M d a x) Q := wp_iast rfl hc h1 (by rw [hn]; exact h2)
theorem w101_32 {ls st : List xV} {M : xM} {Q : Option xV → xM → Prop} {a : Int} {v0 : xV} : Wp 101 32 (v0 :: xi a :: ls) (st) (M) Q = Wp 101 35 (xjl v0 :: xi (a + 1) :: ls) (st) (M) Q := wp_iinc rfl rfl rfl
theorem w101_35 {ls st : List xV} {M : xM} {Q : Option xV → xM → Prop}  : Wp 101 35 (ls) (st) (M) Q = Wp 101 11 (ls) (st) (M) Q := wp_goto rfl
theorem w101_38 {ls st : List xV} {M : xM} {Q : Option xV → xM → Prop} {d : Nat} : Wp 101 38 (xr d :: ls) (st) (M) Q = Wp 101 39 (xr d :: ls) (xr d :: st) (M) Q := wp_aload rfl rfl
theorem w101_39 {ls st : List xV} {M : xM} {Q : Option xV → xM → Prop} {d : Nat} : Wp 101 39 (ls) (xr d :: st) (M) Q = Wp 101 40 (ls) (xr d :: xr d :: st) (M) Q := wp_dupA rfl
theorem w101_40 {ls st : List xV} {M : xM} {Q : Option xV → xM → Prop} {d : Nat} (hc : x_c d = 9) : Wp 101 40 (ls) (xr d :: st) (M) Q = Wp 101 43 (ls) (xi (M d 7) :: st) (M) Q := wp_getf rfl hc
theorem w101_43 {ls st : List xV} {M : xM} {Q : Option xV → xM → Prop}  : Wp 101 43 (ls) (st) (M) Q = Wp 101 44 (ls) (xi 1 :: st) (M) Q := wp_const rfl
theorem w101_44 {ls st : List xV} {M : xM} {Q : Option xV → xM → Prop} {a : Int} {b : Int} : Wp 101 44 (ls) (xi b :: xi a :: st) (M) Q = Wp 101 45 (ls) (xi (a - b) :: st) (M) Q := wp_bin (f := xsub) rfl
theorem w101_45 {ls st : List xV} {M : xM} {Q : Option xV → xM → Prop} {a : Int} {d : Nat} (hc : x_c d = 9) : Wp 101 45 (ls) (xi a :: xr d :: st) (M) Q = Wp 101 48 (ls) (st) (xup M d 7 a) Q := wp_putf rfl hc
theorem w101_48 {ls st : List xV} {M : xM} {Q : Option xV → xM → Prop}  : Wp 101 48 (ls) (st) (M) Q = Wp 101 49 (ls) (xi 0 :: st) (M) Q := wp_const rfl
theorem w101_49 {ls st : List xV} {M : xM} {Q : Option xV → xM → Prop} {a : Int} {v0 : xV} {w : xV} : Wp 101 49 (v0 :: w :: ls) (xi a :: st) (M) Q = Wp 101 50 (xjl v0 :: xi a :: ls) (st) (M) Q := wp_istore rfl rfl
theorem w101_50 {ls st : List xV} {M : xM} {Q : Option xV → xM → Prop} {a : Int} {v0 : xV} : Wp 101 50 (v0 :: xi a :: ls) (st) (M) Q = Wp 101 51 (v0 :: xi a :: ls) (xi a :: st) (M) Q := wp_iload rfl rfl
theorem w101_51 {ls st : List xV} {M : xM} {Q : Option xV → xM → Prop}  : Wp 101 51 (ls) (st) (M) Q = Wp 101 53 (ls) (xi 7 :: st) (M) Q := wp_const rfl
theorem w101_53 {ls st : List xV} {M : xM} {Q : Option xV → xM → Prop} {a : Int} {b : Int} (ha : xG a) (hb : xG b) : Wp 101 53 (ls) (xi b :: xi a :: st) (M) Q = ((b ≤ a → Wp 101 82 (ls) (st) (M) Q) ∧ (¬ (b ≤ a) → Wp 101 56 (ls) (st) (M) Q)) := wp_cmp_ge rfl ha hb
theorem w101_56 {ls st : List xV} {M : xM} {Q : Option xV → xM → Prop} {d : Nat} : Wp 101 56 (xr d :: ls) (st) (M) Q = Wp 101 57 (xr d :: ls) (xr d :: st) (M) Q := wp_aload rfl rfl
theorem w101_57 {ls st : List xV} {M : xM} {Q : Option xV → xM → Prop} {d : Nat} (hc : x_c d = 9) : Wp 101 57 (ls) (xr d :: st) (M) Q = Wp 101 60 (ls) (xr (x_r d 6) :: st) (M) Q := wp_getr rfl hc
theorem w101_60 {ls st : List xV} {M : xM} {Q : Option xV → xM → Prop}  : Wp 101 60 (ls) (st) (M) Q = Wp 101 62 (ls) (xi 7 :: st) (M) Q := wp_const rfl
theorem w101_62 {ls st : List xV} {M : xM} {Q : Option xV → xM → Prop} {d : Nat} : Wp 101 62 (xr d :: ls) (st) (M) Q = Wp 101 63 (xr d :: ls) (xr d :: st) (M) Q := wp_aload rfl rfl
theorem w101_63 {ls st : List xV} {M : xM} {Q : Option xV → xM → Prop} {d : Nat} (hc : x_c d = 9) : Wp 101 63 (ls) (xr d :: st) (M) Q = Wp 101 66 (ls) (xi (M d 7) :: st) (M) Q := wp_getf rfl hc
theorem w101_66 {ls st : List xV} {M : xM} {Q : Option xV → xM → Prop} {a : Int} {b : Int} : Wp 101 66 (ls) (xi b :: xi a :: st) (M) Q = Wp 101 67 (ls) (xi (a * b) :: st) (M) Q := wp_bin (f := xmul) rfl
theorem w101_67 {ls st : List xV} {M : xM} {Q : Option xV → xM → Prop} {a : Int} {v0 : xV} : Wp 101 67 (v0 :: xi a :: ls) (st) (M) Q = Wp 101 68 (v0 :: xi a :: ls) (xi a :: st) (M) Q := wp_iload rfl rfl
theorem w101_68 {ls st : List xV} {M : xM} {Q : Option xV → xM → Prop} {a : Int} {b : Int} : Wp 101 68 (ls) (xi b :: xi a :: st) (M) Q = Wp 101 69 (ls) (xi (a + b) :: st) (M) Q := wp_bin (f := xadd) rfl
theorem w101_69 {ls st : List xV} {M : xM} {Q : Option xV → xM → Prop} {d : Nat} : Wp 101 69 (xr d :: ls) (st) (M) Q = Wp 101 70 (xr d :: ls) (xr d :: st) (M) Q := wp_aload rfl rfl
theorem w101_70 {ls st : List xV} {M : xM} {Q : Option xV → xM → Prop} {d : Nat} (hc : x_c d = 9) : Wp 101 70 (ls) (xr d :: st) (M) Q = Wp 101 73 (ls) (xr (x_r d 5) :: st) (M) Q := wp_getr rfl hc
theorem w101_73 {ls st : List xV} {M : xM} {Q : Option xV → xM → Prop} {a : Int} {v0 : xV} : Wp 101 73 (v0 :: xi a :: ls) (st) (M) Q = Wp 101 74 (v0 :: xi a :: ls) (xi a :: st) (M) Q := wp_iload rfl rfl
theorem w101_74 {ls st : List xV} {M : xM} {Q : Option xV → xM → Prop} {a : Int} {d : Nat} (hc : x_c d = 20) (hn : x_n d = 7) (h1 : 0 ≤ a) (h2 : a < 7) : Wp 101 74 (ls) (xi a :: xr d :: st) (M) Q = Wp 101 75 (ls) (xi (M d a) :: st) (M) Q := wp_ald rfl hc h1 (by rw [hn]; exact h2)
theorem w101_75 {ls st : List xV} {M : xM} {Q : Option xV → xM → Prop} {a : Int} {d : Nat} {x : Int} (hc : x_c d = 20) (hn : x_n d = 56) (h1 : 0 ≤ a) (h2 : a < 56) : Wp 101 75 (ls) (xi x :: xi a :: xr d :: st) (M) Q = Wp 101 76 (ls) (st) (xup M d a x) Q := wp_iast rfl hc h1 (by rw [hn]; exact h2)
theorem w101_76 {ls st : List xV} {M : xM} {Q : Option xV → xM → Prop} {a : Int} {v0 : xV} : Wp 101 76 (v0 :: xi a :: ls) (st) (M) Q = Wp 101 79 (xjl v0 :: xi (a + 1) :: ls) (st) (M) Q := wp_iinc rfl rfl rfl
theorem w101_79 {ls st : List xV} {M : xM} {Q : Option xV → xM → Prop}  : Wp 101 79 (ls) (st) (M) Q = Wp 101 50 (ls) (st) (M) Q := wp_goto rfl
theorem w101_82 {ls st : List xV} {M : xM} {Q : Option xV → xM → Prop} {d : Nat} : Wp 101 82 (xr d :: ls) (st) (M) Q = Wp 101 83 (xr d :: ls) (xr d :: st) (M) Q := wp_aload rfl rfl
theorem w101_83 {ls st : List xV} {M : xM} {Q : Option xV → xM → Prop} {d : Nat} : Wp 101 83 (ls) (xr d :: st) (M) Q = Wp 101 84 (ls) (xr d :: xr d :: st) (M) Q := wp_dupA rfl
theorem w101_84 {ls st : List xV} {M : xM} {Q : Option xV → xM → Prop} {d : Nat} (hc : x_c d = 9) : Wp 101 84 (ls) (xr d :: st) (M) Q = Wp 101 87 (ls) (xi (M d 7) :: st) (M) Q := wp_getf rfl hc
theorem w101_87 {ls st : List xV} {M : xM} {Q : Option xV → xM → Prop}  : Wp 101 87 (ls) (st) (M) Q = Wp 101 88 (ls) (xi 1 :: st) (M) Q := wp_const rfl
theorem w101_88 {ls st : List xV} {M : xM} {Q : Option xV → xM → Prop} {a : Int} {b : Int} : Wp 101 88 (ls) (xi b :: xi a :: st) (M) Q = Wp 101 89 (ls) (xi (a + b) :: st) (M) Q := wp_bin (f := xadd) rfl
theorem w101_89 {ls st : List xV} {M : xM} {Q : Option xV → xM → Prop} {a : Int} {d : Nat} (hc : x_c d = 9) : Wp 101 89 (ls) (xi a :: xr d :: st) (M) Q = Wp 101 92 (ls) (st) (xup M d 7 a) Q := wp_putf rfl hc
theorem w101_92 {ls : List xV} {M : xM} {Q : Option xV → xM → Prop}  : Wp 101 92 (ls) ([]) (M) Q = Q none M := wp_vret rfl
theorem wc102 {M : xM} {Q : Option xV → xM → Prop} {d0 : Nat} {a1 : Int} {a2 : Int} : Wc 102 [xr d0, xi a1, xi a2] M Q = Wp 102 0 [xr d0, xi a1, xi a2, xj] [] M Q := rfl
theorem w102_0 {ls st : List xV} {M : xM} {Q : Option xV → xM → Prop} {d : Nat} : Wp 102 0 (xr d :: ls) (st) (M) Q = Wp 102 1 (xr d :: ls) (xr d :: st) (M) Q := wp_aload rfl rfl
theorem w102_1 {ls st : List xV} {M : xM} {Q : Option xV → xM → Prop} {a : Int} {v0 : xV} : Wp 102 1 (v0 :: xi a :: ls) (st) (M) Q = Wp 102 2 (v0 :: xi a :: ls) (xi a :: st) (M) Q := wp_iload rfl rfl
theorem w102_2 {ls : List xV} {M : xM} {Q : Option xV → xM → Prop} {a1 : Int} {d0 : Nat} (hc : x_c d0 = 9) : Wp 102 2 (ls) (xi a1 :: xr d0 :: []) (M) Q = Wc 81 [xr d0, xi a1] M (fun r M2 => Wp 102 5 (ls) (r.toList ++ ([])) M2 Q) := wp_cV rfl rfl hc (Nat.le_of_ble_eq_true rfl) (Nat.le_of_ble_eq_true rfl) rfl rfl
theorem w102_5 {ls st : List xV} {M : xM} {Q : Option xV → xM → Prop} {a : Int} (ha : xG a) : Wp 102 5 (ls) (xi a :: st) (M) Q = ((a = 0 → Wp 102 18 (ls) (st) (M) Q) ∧ (¬ (a = 0) → Wp 102 8 (ls) (st) (M) Q)) := wp_if_eq rfl ha
theorem w102_8 {ls st : List xV} {M : xM} {Q : Option xV → xM → Prop} {a : Int} {v0 : xV} {v1 : xV} : Wp 102 8 (v0 :: v1 :: xi a :: ls) (st) (M) Q = Wp 102 9 (v0 :: v1 :: xi a :: ls) (xi a :: st) (M) Q := wp_iload rfl rfl
theorem w102_9 {ls st : List xV} {M : xM} {Q : Option xV → xM → Prop}  : Wp 102 9 (ls) (st) (M) Q = Wp 102 10 (ls) (xi 0 :: st) (M) Q := wp_const rfl
theorem w102_10 {ls st : List xV} {M : xM} {Q : Option xV → xM → Prop}  : Wp 102 10 (ls) (st) (M) Q = Wp 102 12 (ls) (xi 30 :: st) (M) Q := wp_const rfl
theorem w102_12 {ls : List xV} {M : xM} {Q : Option xV → xM → Prop} {a0 : Int} {a1 : Int} {a2 : Int} : Wp 102 12 (ls) (xi a2 :: xi a1 :: xi a0 :: []) (M) Q = Wc 79 [xi a0, xi a1, xi a2] M (fun r M2 => Wp 102 15 (ls) (r.toList ++ ([])) M2 Q) := wp_cS rfl rfl (Nat.le_of_ble_eq_true rfl) (Nat.le_of_ble_eq_true rfl) rfl rfl
theorem w102_15 {ls st : List xV} {M : xM} {Q : Option xV → xM → Prop} {a : Int} (ha : xG a) : Wp 102 15 (ls) (xi a :: st) (M) Q = ((¬ a = 0 → Wp 102 20 (ls) (st) (M) Q) ∧ (¬ (¬ a = 0) → Wp 102 18 (ls) (st) (M) Q)) := wp_if_ne rfl ha
theorem w102_18 {ls st : List xV} {M : xM} {Q : Option xV → xM → Prop}  : Wp 102 18 (ls) (st) (M) Q = Wp 102 19 (ls) (xi (-1) :: st) (M) Q := wp_const rfl
theorem w102_19 {ls : List xV} {M : xM} {Q : Option xV → xM → Prop} {a : Int} : Wp 102 19 (ls) ([xi a]) (M) Q = Q (some (xi a)) M := wp_iret rfl
theorem w102_20 {ls st : List xV} {M : xM} {Q : Option xV → xM → Prop} {d : Nat} : Wp 102 20 (xr d :: ls) (st) (M) Q = Wp 102 21 (xr d :: ls) (xr d :: st) (M) Q := wp_aload rfl rfl
theorem w102_21 {ls : List xV} {M : xM} {Q : Option xV → xM → Prop} {d0 : Nat} (hc : x_c d0 = 9) : Wp 102 21 (ls) (xr d0 :: []) (M) Q = Wc 101 [xr d0] M (fun r M2 => Wp 102 24 (ls) (r.toList ++ ([])) M2 Q) := wp_cV rfl rfl hc (Nat.le_of_ble_eq_true rfl) (Nat.le_of_ble_eq_true rfl) rfl rfl
theorem w102_24 {ls st : List xV} {M : xM} {Q : Option xV → xM → Prop} {d : Nat} : Wp 102 24 (xr d :: ls) (st) (M) Q = Wp 102 25 (xr d :: ls) (xr d :: st) (M) Q := wp_aload rfl rfl
theorem w102_25 {ls st : List xV} {M : xM} {Q : Option xV → xM → Prop} {d : Nat} (hc : x_c d = 9) : Wp 102 25 (ls) (xr d :: st) (M) Q = Wp 102 28 (ls) (xr (x_r d 5) :: st) (M) Q := wp_getr rfl hc
theorem w102_28 {ls st : List xV} {M : xM} {Q : Option xV → xM → Prop} {a : Int} {v0 : xV} : Wp 102 28 (v0 :: xi a :: ls) (st) (M) Q = Wp 102 29 (v0 :: xi a :: ls) (xi a :: st) (M) Q := wp_iload rfl rfl
theorem w102_29 {ls st : List xV} {M : xM} {Q : Option xV → xM → Prop} {a : Int} {d : Nat} (hc : x_c d = 20) (hn : x_n d = 7) (h1 : 0 ≤ a) (h2 : a < 7) : Wp 102 29 (ls) (xi a :: xr d :: st) (M) Q = Wp 102 30 (ls) (xi (M d a) :: st) (M) Q := wp_ald rfl hc h1 (by rw [hn]; exact h2)
theorem w102_30 {ls st : List xV} {M : xM} {Q : Option xV → xM → Prop} {a : Int} {v0 : xV} {v1 : xV} {v2 : xV} {w : xV} : Wp 102 30 (v0 :: v1 :: v2 :: w :: ls) (xi a :: st) (M) Q = Wp 102 31 (v0 :: v1 :: xjl v2 :: xi a :: ls) (st) (M) Q := wp_istore rfl rfl
theorem w102_31 {ls st : List xV} {M : xM} {Q : Option xV → xM → Prop} {d : Nat} : Wp 102 31 (xr d :: ls) (st) (M) Q = Wp 102 32 (xr d :: ls) (xr d :: st) (M) Q := wp_aload rfl rfl
theorem w102_32 {ls st : List xV} {M : xM} {Q : Option xV → xM → Prop} {d : Nat} (hc : x_c d = 9) : Wp 102 32 (ls) (xr d :: st) (M) Q = Wp 102 35 (ls) (xr (x_r d 5) :: st) (M) Q := wp_getr rfl hc
theorem w102_35 {ls st : List xV} {M : xM} {Q : Option xV → xM → Prop} {a : Int} {v0 : xV} : Wp 102 35 (v0 :: xi a :: ls) (st) (M) Q = Wp 102 36 (v0 :: xi a :: ls) (xi a :: st) (M) Q := wp_iload rfl rfl
theorem w102_36 {ls st : List xV} {M : xM} {Q : Option xV → xM → Prop} {a : Int} {v0 : xV} {v1 : xV} : Wp 102 36 (v0 :: v1 :: xi a :: ls) (st) (M) Q = Wp 102 37 (v0 :: v1 :: xi a :: ls) (xi a :: st) (M) Q := wp_iload rfl rfl
theorem w102_37 {ls st : List xV} {M : xM} {Q : Option xV → xM → Prop} {a : Int} {d : Nat} {x : Int} (hc : x_c d = 20) (hn : x_n d = 7) (h1 : 0 ≤ a) (h2 : a < 7) : Wp 102 37 (ls) (xi x :: xi a :: xr d :: st) (M) Q = Wp 102 38 (ls) (st) (xup M d a x) Q := wp_iast rfl hc h1 (by rw [hn]; exact h2)
theorem w102_38 {ls st : List xV} {M : xM} {Q : Option xV → xM → Prop} {a : Int} {v0 : xV} {v1 : xV} {v2 : xV} : Wp 102 38 (v0 :: v1 :: v2 :: xi a :: ls) (st) (M) Q = Wp 102 39 (v0 :: v1 :: v2 :: xi a :: ls) (xi a :: st) (M) Q := wp_iload rfl rfl
theorem w102_39 {ls : List xV} {M : xM} {Q : Option xV → xM → Prop} {a : Int} : Wp 102 39 (ls) ([xi a]) (M) Q = Q (some (xi a)) M := wp_iret rfl
theorem wc103 {M : xM} {Q : Option xV → xM → Prop} {d0 : Nat} {a1 : Int} : Wc 103 [xr d0, xi a1] M Q = Wp 103 0 [xr d0, xi a1] [] M Q := rfl
theorem w103_0 {ls st : List xV} {M : xM} {Q : Option xV → xM → Prop} {d : Nat} : Wp 103 0 (xr d :: ls) (st) (M) Q = Wp 103 1 (xr d :: ls) (xr d :: st) (M) Q := wp_aload rfl rfl
theorem w103_1 {ls st : List xV} {M : xM} {Q : Option xV → xM → Prop} {a : Int} {v0 : xV} : Wp 103 1 (v0 :: xi a :: ls) (st) (M) Q = Wp 103 2 (v0 :: xi a :: ls) (xi a :: st) (M) Q := wp_iload rfl rfl
theorem w103_2 {ls : List xV} {M : xM} {Q : Option xV → xM → Prop} {a1 : Int} {d0 : Nat} (hc : x_c d0 = 9) : Wp 103 2 (ls) (xi a1 :: xr d0 :: []) (M) Q = Wc 81 [xr d0, xi a1] M (fun r M2 => Wp 103 5 (ls) (r.toList ++ ([])) M2 Q) := wp_cV rfl rfl hc (Nat.le_of_ble_eq_true rfl) (Nat.le_of_ble_eq_true rfl) rfl rfl
theorem w103_5 {ls st : List xV} {M : xM} {Q : Option xV → xM → Prop} {a : Int} (ha : xG a) : Wp 103 5 (ls) (xi a :: st) (M) Q = ((¬ a = 0 → Wp 103 10 (ls) (st) (M) Q) ∧ (¬ (¬ a = 0) → Wp 103 8 (ls) (st) (M) Q)) := wp_if_ne rfl ha
theorem w103_8 {ls st : List xV} {M : xM} {Q : Option xV → xM → Prop}  : Wp 103 8 (ls) (st) (M) Q = Wp 103 9 (ls) (xi (-1) :: st) (M) Q := wp_const rfl
theorem w103_9 {ls : List xV} {M : xM} {Q : Option xV → xM → Prop} {a : Int} : Wp 103 9 (ls) ([xi a]) (M) Q = Q (some (xi a)) M := wp_iret rfl
theorem w103_10 {ls st : List xV} {M : xM} {Q : Option xV → xM → Prop} {d : Nat} : Wp 103 10 (xr d :: ls) (st) (M) Q = Wp 103 11 (xr d :: ls) (xr d :: st) (M) Q := wp_aload rfl rfl
theorem w103_11 {ls : List xV} {M : xM} {Q : Option xV → xM → Prop} {d0 : Nat} (hc : x_c d0 = 9) : Wp 103 11 (ls) (xr d0 :: []) (M) Q = Wc 101 [xr d0] M (fun r M2 => Wp 103 14 (ls) (r.toList ++ ([])) M2 Q) := wp_cV rfl rfl hc (Nat.le_of_ble_eq_true rfl) (Nat.le_of_ble_eq_true rfl) rfl rfl
theorem w103_14 {ls st : List xV} {M : xM} {Q : Option xV → xM → Prop} {d : Nat} : Wp 103 14 (xr d :: ls) (st) (M) Q = Wp 103 15 (xr d :: ls) (xr d :: st) (M) Q := wp_aload rfl rfl
theorem w103_15 {ls st : List xV} {M : xM} {Q : Option xV → xM → Prop} {d : Nat} (hc : x_c d = 9) : Wp 103 15 (ls) (xr d :: st) (M) Q = Wp 103 18 (ls) (xr (x_r d 5) :: st) (M) Q := wp_getr rfl hc
theorem w103_18 {ls st : List xV} {M : xM} {Q : Option xV → xM → Prop}  : Wp 103 18 (ls) (st) (M) Q = Wp 103 19 (ls) (xi 5 :: st) (M) Q := wp_const rfl
theorem w103_19 {ls st : List xV} {M : xM} {Q : Option xV → xM → Prop} {a : Int} {d : Nat} : Wp 103 19 (ls) (xi a :: xr d :: st) (M) Q = Wp 103 20 (ls) (xi a :: xr d :: xi a :: xr d :: st) (M) Q := wp_dup2 rfl
theorem w103_20 {ls st : List xV} {M : xM} {Q : Option xV → xM → Prop} {a : Int} {d : Nat} (hc : x_c d = 20) (hn : x_n d = 7) (h1 : 0 ≤ a) (h2 : a < 7) : Wp 103 20 (ls) (xi a :: xr d :: st) (M) Q = Wp 103 21 (ls) (xi (M d a) :: st) (M) Q := wp_ald rfl hc h1 (by rw [hn]; exact h2)
theorem w103_21 {ls st : List xV} {M : xM} {Q : Option xV → xM → Prop}  : Wp 103 21 (ls) (st) (M) Q = Wp 103 22 (ls) (xi 1 :: st) (M) Q := wp_const rfl
theorem w103_22 {ls st : List xV} {M : xM} {Q : Option xV → xM → Prop} {a : Int} {v0 : xV} : Wp 103 22 (v0 :: xi a :: ls) (st) (M) Q = Wp 103 23 (v0 :: xi a :: ls) (xi a :: st) (M) Q := wp_iload rfl rfl
theorem w103_23 {ls st : List xV} {M : xM} {Q : Option xV → xM → Prop} {a : Int} {b : Int} : Wp 103 23 (ls) (xi b :: xi a :: st) (M) Q = Wp 103 24 (ls) (xi (xshl a b) :: st) (M) Q := wp_bin (f := xshl) rfl
theorem w103_24 {ls st : List xV} {M : xM} {Q : Option xV → xM → Prop} {a : Int} {b : Int} : Wp 103 24 (ls) (xi b :: xi a :: st) (M) Q = Wp 103 25 (ls) (xi (xxor a b) :: st) (M) Q := wp_bin (f := xxor) rfl
theorem w103_25 {ls st : List xV} {M : xM} {Q : Option xV → xM → Prop} {a : Int} {d : Nat} {x : Int} (hc : x_c d = 20) (hn : x_n d = 7) (h1 : 0 ≤ a) (h2 : a < 7) : Wp 103 25 (ls) (xi x :: xi a :: xr d :: st) (M) Q = Wp 103 26 (ls) (st) (xup M d a x) Q := wp_iast rfl hc h1 (by rw [hn]; exact h2)
theorem w103_26 {ls st : List xV} {M : xM} {Q : Option xV → xM → Prop} {d : Nat} : Wp 103 26 (xr d :: ls) (st) (M) Q = Wp 103 27 (xr d :: ls) (xr d :: st) (M) Q := wp_aload rfl rfl
theorem w103_27 {ls st : List xV} {M : xM} {Q : Option xV → xM → Prop} {d : Nat} (hc : x_c d = 9) : Wp 103 27 (ls) (xr d :: st) (M) Q = Wp 103 30 (ls) (xr (x_r d 5) :: st) (M) Q := wp_getr rfl hc
theorem w103_30 {ls st : List xV} {M : xM} {Q : Option xV → xM → Prop}  : Wp 103 30 (ls) (st) (M) Q = Wp 103 31 (ls) (xi 5 :: st) (M) Q := wp_const rfl
theorem w103_31 {ls st : List xV} {M : xM} {Q : Option xV → xM → Prop} {a : Int} {d : Nat} (hc : x_c d = 20) (hn : x_n d = 7) (h1 : 0 ≤ a) (h2 : a < 7) : Wp 103 31 (ls) (xi a :: xr d :: st) (M) Q = Wp 103 32 (ls) (xi (M d a) :: st) (M) Q := wp_ald rfl hc h1 (by rw [hn]; exact h2)
theorem w103_32 {ls st : List xV} {M : xM} {Q : Option xV → xM → Prop} {a : Int} {v0 : xV} : Wp 103 32 (v0 :: xi a :: ls) (st) (M) Q = Wp 103 33 (v0 :: xi a :: ls) (xi a :: st) (M) Q := wp_iload rfl rfl
theorem w103_33 {ls st : List xV} {M : xM} {Q : Option xV → xM → Prop} {a : Int} {b : Int} : Wp 103 33 (ls) (xi b :: xi a :: st) (M) Q = Wp 103 34 (ls) (xi (xshr a b) :: st) (M) Q := wp_bin (f := xshr) rfl
theorem w103_34 {ls st : List xV} {M : xM} {Q : Option xV → xM → Prop}  : Wp 103 34 (ls) (st) (M) Q = Wp 103 35 (ls) (xi 1 :: st) (M) Q := wp_const rfl
theorem w103_35 {ls st : List xV} {M : xM} {Q : Option xV → xM → Prop} {a : Int} {b : Int} : Wp 103 35 (ls) (xi b :: xi a :: st) (M) Q = Wp 103 36 (ls) (xi (xand a b) :: st) (M) Q := wp_bin (f := xand) rfl
theorem w103_36 {ls : List xV} {M : xM} {Q : Option xV → xM → Prop} {a : Int} : Wp 103 36 (ls) ([xi a]) (M) Q = Q (some (xi a)) M := wp_iret rfl
theorem wc104 {M : xM} {Q : Option xV → xM → Prop} {d0 : Nat} {a1 : Int} : Wc 104 [xr d0, xi a1] M Q = Wp 104 0 [xr d0, xi a1, xj, xj] [] M Q := rfl
theorem w104_0 {ls st : List xV} {M : xM} {Q : Option xV → xM → Prop} {d : Nat} : Wp 104 0 (xr d :: ls) (st) (M) Q = Wp 104 1 (xr d :: ls) (xr d :: st) (M) Q := wp_aload rfl rfl
theorem w104_1 {ls st : List xV} {M : xM} {Q : Option xV → xM → Prop} {a : Int} {v0 : xV} : Wp 104 1 (v0 :: xi a :: ls) (st) (M) Q = Wp 104 2 (v0 :: xi a :: ls) (xi a :: st) (M) Q := wp_iload rfl rfl
theorem w104_2 {ls : List xV} {M : xM} {Q : Option xV → xM → Prop} {a1 : Int} {d0 : Nat} (hc : x_c d0 = 9) : Wp 104 2 (ls) (xi a1 :: xr d0 :: []) (M) Q = Wc 82 [xr d0, xi a1] M (fun r M2 => Wp 104 5 (ls) (r.toList ++ ([])) M2 Q) := wp_cV rfl rfl hc (Nat.le_of_ble_eq_true rfl) (Nat.le_of_ble_eq_true rfl) rfl rfl
theorem w104_5 {ls st : List xV} {M : xM} {Q : Option xV → xM → Prop} {a : Int} (ha : xG a) : Wp 104 5 (ls) (xi a :: st) (M) Q = ((¬ a = 0 → Wp 104 10 (ls) (st) (M) Q) ∧ (¬ (¬ a = 0) → Wp 104 8 (ls) (st) (M) Q)) := wp_if_ne rfl ha
theorem w104_8 {ls st : List xV} {M : xM} {Q : Option xV → xM → Prop}  : Wp 104 8 (ls) (st) (M) Q = Wp 104 9 (ls) (xi (-1) :: st) (M) Q := wp_const rfl
theorem w104_9 {ls : List xV} {M : xM} {Q : Option xV → xM → Prop} {a : Int} : Wp 104 9 (ls) ([xi a]) (M) Q = Q (some (xi a)) M := wp_iret rfl
theorem w104_10 {ls st : List xV} {M : xM} {Q : Option xV → xM → Prop}  : Wp 104 10 (ls) (st) (M) Q = Wp 104 11 (ls) (xi 0 :: st) (M) Q := wp_const rfl
theorem w104_11 {ls st : List xV} {M : xM} {Q : Option xV → xM → Prop} {a : Int} {v0 : xV} {v1 : xV} {w : xV} : Wp 104 11 (v0 :: v1 :: w :: ls) (xi a :: st) (M) Q = Wp 104 12 (v0 :: xjl v1 :: xi a :: ls) (st) (M) Q := wp_istore rfl rfl
theorem w104_12 {ls st : List xV} {M : xM} {Q : Option xV → xM → Prop}  : Wp 104 12 (ls) (st) (M) Q = Wp 104 13 (ls) (xi 0 :: st) (M) Q := wp_const rfl
theorem w104_13 {ls st : List xV} {M : xM} {Q : Option xV → xM → Prop} {a : Int} {v0 : xV} {v1 : xV} {v2 : xV} {w : xV} : Wp 104 13 (v0 :: v1 :: v2 :: w :: ls) (xi a :: st) (M) Q = Wp 104 14 (v0 :: v1 :: xjl v2 :: xi a :: ls) (st) (M) Q := wp_istore rfl rfl
theorem w104_14 {ls st : List xV} {M : xM} {Q : Option xV → xM → Prop} {a : Int} {v0 : xV} {v1 : xV} {v2 : xV} : Wp 104 14 (v0 :: v1 :: v2 :: xi a :: ls) (st) (M) Q = Wp 104 15 (v0 :: v1 :: v2 :: xi a :: ls) (xi a :: st) (M) Q := wp_iload rfl rfl
theorem w104_15 {ls st : List xV} {M : xM} {Q : Option xV → xM → Prop} {d : Nat} : Wp 104 15 (xr d :: ls) (st) (M) Q = Wp 104 16 (xr d :: ls) (xr d :: st) (M) Q := wp_aload rfl rfl
theorem w104_16 {ls st : List xV} {M : xM} {Q : Option xV → xM → Prop} {d : Nat} (hc : x_c d = 9) : Wp 104 16 (ls) (xr d :: st) (M) Q = Wp 104 19 (ls) (xr (x_r d 2) :: st) (M) Q := wp_getr rfl hc
theorem w104_19 {ls st : List xV} {M : xM} {Q : Option xV → xM → Prop}  : Wp 104 19 (ls) (st) (M) Q = Wp 104 20 (ls) (xi 2 :: st) (M) Q := wp_const rfl
theorem w104_20 {ls st : List xV} {M : xM} {Q : Option xV → xM → Prop} {a : Int} {d : Nat} (hc : x_c d = 20) (hn : x_n d = 25) (h1 : 0 ≤ a) (h2 : a < 25) : Wp 104 20 (ls) (xi a :: xr d :: st) (M) Q = Wp 104 21 (ls) (xi (M d a) :: st) (M) Q := wp_ald rfl hc h1 (by rw [hn]; exact h2)
theorem w104_21 {ls st : List xV} {M : xM} {Q : Option xV → xM → Prop} {a : Int} {b : Int} (ha : xG a) (hb : xG b) : Wp 104 21 (ls) (xi b :: xi a :: st) (M) Q = ((b ≤ a → Wp 104 51 (ls) (st) (M) Q) ∧ (¬ (b ≤ a) → Wp 104 24 (ls) (st) (M) Q)) := wp_cmp_ge rfl ha hb
theorem w104_24 {ls st : List xV} {M : xM} {Q : Option xV → xM → Prop} {a : Int} {v0 : xV} {v1 : xV} : Wp 104 24 (v0 :: v1 :: xi a :: ls) (st) (M) Q = Wp 104 25 (v0 :: v1 :: xi a :: ls) (xi a :: st) (M) Q := wp_iload rfl rfl
theorem w104_25 {ls st : List xV} {M : xM} {Q : Option xV → xM → Prop} {d : Nat} : Wp 104 25 (xr d :: ls) (st) (M) Q = Wp 104 26 (xr d :: ls) (xr d :: st) (M) Q := wp_aload rfl rfl
theorem w104_26 {ls st : List xV} {M : xM} {Q : Option xV → xM → Prop} {d : Nat} (hc : x_c d = 9) : Wp 104 26 (ls) (xr d :: st) (M) Q = Wp 104 29 (ls) (xr (x_r d 2) :: st) (M) Q := wp_getr rfl hc
theorem w104_29 {ls st : List xV} {M : xM} {Q : Option xV → xM → Prop}  : Wp 104 29 (ls) (st) (M) Q = Wp 104 31 (ls) (xi 15 :: st) (M) Q := wp_const rfl
theorem w104_31 {ls st : List xV} {M : xM} {Q : Option xV → xM → Prop} {a : Int} {v0 : xV} {v1 : xV} {v2 : xV} : Wp 104 31 (v0 :: v1 :: v2 :: xi a :: ls) (st) (M) Q = Wp 104 32 (v0 :: v1 :: v2 :: xi a :: ls) (xi a :: st) (M) Q := wp_iload rfl rfl
theorem w104_32 {ls st : List xV} {M : xM} {Q : Option xV → xM → Prop} {a : Int} {b : Int} : Wp 104 32 (ls) (xi b :: xi a :: st) (M) Q = Wp 104 33 (ls) (xi (a + b) :: st) (M) Q := wp_bin (f := xadd) rfl
theorem w104_33 {ls st : List xV} {M : xM} {Q : Option xV → xM → Prop} {a : Int} {d : Nat} (hc : x_c d = 20) (hn : x_n d = 25) (h1 : 0 ≤ a) (h2 : a < 25) : Wp 104 33 (ls) (xi a :: xr d :: st) (M) Q = Wp 104 34 (ls) (xi (M d a) :: st) (M) Q := wp_ald rfl hc h1 (by rw [hn]; exact h2)
theorem w104_34 {ls st : List xV} {M : xM} {Q : Option xV → xM → Prop} {a : Int} {v0 : xV} : Wp 104 34 (v0 :: xi a :: ls) (st) (M) Q = Wp 104 35 (v0 :: xi a :: ls) (xi a :: st) (M) Q := wp_iload rfl rfl
theorem w104_35 {ls st : List xV} {M : xM} {Q : Option xV → xM → Prop} {a : Int} {b : Int} (ha : xG a) (hb : xG b) : Wp 104 35 (ls) (xi b :: xi a :: st) (M) Q = ((¬ a = b → Wp 104 42 (ls) (st) (M) Q) ∧ (¬ (¬ a = b) → Wp 104 38 (ls) (st) (M) Q)) := wp_cmp_ne rfl ha hb
theorem w104_38 {ls st : List xV} {M : xM} {Q : Option xV → xM → Prop}  : Wp 104 38 (ls) (st) (M) Q = Wp 104 39 (ls) (xi 1 :: st) (M) Q := wp_const rfl
theorem w104_39 {ls st : List xV} {M : xM} {Q : Option xV → xM → Prop}  : Wp 104 39 (ls) (st) (M) Q = Wp 104 43 (ls) (st) (M) Q := wp_goto rfl
theorem w104_42 {ls st : List xV} {M : xM} {Q : Option xV → xM → Prop}  : Wp 104 42 (ls) (st) (M) Q = Wp 104 43 (ls) (xi 0 :: st) (M) Q := wp_const rfl
theorem w104_43 {ls st : List xV} {M : xM} {Q : Option xV → xM → Prop} {a : Int} {b : Int} : Wp 104 43 (ls) (xi b :: xi a :: st) (M) Q = Wp 104 44 (ls) (xi (a + b) :: st) (M) Q := wp_bin (f := xadd) rfl
theorem w104_44 {ls st : List xV} {M : xM} {Q : Option xV → xM → Prop} {a : Int} {v0 : xV} {v1 : xV} {w : xV} : Wp 104 44 (v0 :: v1 :: w :: ls) (xi a :: st) (M) Q = Wp 104 45 (v0 :: xjl v1 :: xi a :: ls) (st) (M) Q := wp_istore rfl rfl
theorem w104_45 {ls st : List xV} {M : xM} {Q : Option xV → xM → Prop} {a : Int} {v0 : xV} {v1 : xV} {v2 : xV} : Wp 104 45 (v0 :: v1 :: v2 :: xi a :: ls) (st) (M) Q = Wp 104 48 (v0 :: v1 :: xjl v2 :: xi (a + 1) :: ls) (st) (M) Q := wp_iinc rfl rfl rfl
theorem w104_48 {ls st : List xV} {M : xM} {Q : Option xV → xM → Prop}  : Wp 104 48 (ls) (st) (M) Q = Wp 104 14 (ls) (st) (M) Q := wp_goto rfl
theorem w104_51 {ls st : List xV} {M : xM} {Q : Option xV → xM → Prop} {a : Int} {v0 : xV} {v1 : xV} : Wp 104 51 (v0 :: v1 :: xi a :: ls) (st) (M) Q = Wp 104 52 (v0 :: v1 :: xi a :: ls) (xi a :: st) (M) Q := wp_iload rfl rfl
theorem w104_52 {ls st : List xV} {M : xM} {Q : Option xV → xM → Prop}  : Wp 104 52 (ls) (st) (M) Q = Wp 104 53 (ls) (xi 1 :: st) (M) Q := wp_const rfl
theorem w104_53 {ls st : List xV} {M : xM} {Q : Option xV → xM → Prop} {a : Int} {b : Int} (ha : xG a) (hb : xG b) : Wp 104 53 (ls) (xi b :: xi a :: st) (M) Q = ((a ≤ b → Wp 104 59 (ls) (st) (M) Q) ∧ (¬ (a ≤ b) → Wp 104 56 (ls) (st) (M) Q)) := wp_cmp_le rfl ha hb
theorem w104_56 {ls st : List xV} {M : xM} {Q : Option xV → xM → Prop}  : Wp 104 56 (ls) (st) (M) Q = Wp 104 58 (ls) (xi (-2) :: st) (M) Q := wp_const rfl
theorem w104_58 {ls : List xV} {M : xM} {Q : Option xV → xM → Prop} {a : Int} : Wp 104 58 (ls) ([xi a]) (M) Q = Q (some (xi a)) M := wp_iret rfl
theorem w104_59 {ls st : List xV} {M : xM} {Q : Option xV → xM → Prop} {d : Nat} : Wp 104 59 (xr d :: ls) (st) (M) Q = Wp 104 60 (xr d :: ls) (xr d :: st) (M) Q := wp_aload rfl rfl
theorem w104_60 {ls : List xV} {M : xM} {Q : Option xV → xM → Prop} {d0 : Nat} (hc : x_c d0 = 9) : Wp 104 60 (ls) (xr d0 :: []) (M) Q = Wc 101 [xr d0] M (fun r M2 => Wp 104 63 (ls) (r.toList ++ ([])) M2 Q) := wp_cV rfl rfl hc (Nat.le_of_ble_eq_true rfl) (Nat.le_of_ble_eq_true rfl) rfl rfl
theorem w104_63 {ls st : List xV} {M : xM} {Q : Option xV → xM → Prop} {d : Nat} : Wp 104 63 (xr d :: ls) (st) (M) Q = Wp 104 64 (xr d :: ls) (xr d :: st) (M) Q := wp_aload rfl rfl
theorem w104_64 {ls st : List xV} {M : xM} {Q : Option xV → xM → Prop} {d : Nat} (hc : x_c d = 9) : Wp 104 64 (ls) (xr d :: st) (M) Q = Wp 104 67 (ls) (xr (x_r d 5) :: st) (M) Q := wp_getr rfl hc
theorem w104_67 {ls st : List xV} {M : xM} {Q : Option xV → xM → Prop}  : Wp 104 67 (ls) (st) (M) Q = Wp 104 69 (ls) (xi 6 :: st) (M) Q := wp_const rfl
theorem w104_69 {ls st : List xV} {M : xM} {Q : Option xV → xM → Prop} {a : Int} {d : Nat} : Wp 104 69 (ls) (xi a :: xr d :: st) (M) Q = Wp 104 70 (ls) (xi a :: xr d :: xi a :: xr d :: st) (M) Q := wp_dup2 rfl
theorem w104_70 {ls st : List xV} {M : xM} {Q : Option xV → xM → Prop} {a : Int} {d : Nat} (hc : x_c d = 20) (hn : x_n d = 7) (h1 : 0 ≤ a) (h2 : a < 7) : Wp 104 70 (ls) (xi a :: xr d :: st) (M) Q = Wp 104 71 (ls) (xi (M d a) :: st) (M) Q := wp_ald rfl hc h1 (by rw [hn]; exact h2)
theorem w104_71 {ls st : List xV} {M : xM} {Q : Option xV → xM → Prop}  : Wp 104 71 (ls) (st) (M) Q = Wp 104 72 (ls) (xi 1 :: st) (M) Q := wp_const rfl
theorem w104_72 {ls st : List xV} {M : xM} {Q : Option xV → xM → Prop} {a : Int} {v0 : xV} : Wp 104 72 (v0 :: xi a :: ls) (st) (M) Q = Wp 104 73 (v0 :: xi a :: ls) (xi a :: st) (M) Q := wp_iload rfl rfl
theorem w104_73 {ls st : List xV} {M : xM} {Q : Option xV → xM → Prop} {a : Int} {b : Int} : Wp 104 73 (ls) (xi b :: xi a :: st) (M) Q = Wp 104 74 (ls) (xi (xshl a b) :: st) (M) Q := wp_bin (f := xshl) rfl
theorem w104_74 {ls st : List xV} {M : xM} {Q : Option xV → xM → Prop} {a : Int} {b : Int} : Wp 104 74 (ls) (xi b :: xi a :: st) (M) Q = Wp 104 75 (ls) (xi (xxor a b) :: st) (M) Q := wp_bin (f := xxor) rfl
theorem w104_75 {ls st : List xV} {M : xM} {Q : Option xV → xM → Prop} {a : Int} {d : Nat} {x : Int} (hc : x_c d = 20) (hn : x_n d = 7) (h1 : 0 ≤ a) (h2 : a < 7) : Wp 104 75 (ls) (xi x :: xi a :: xr d :: st) (M) Q = Wp 104 76 (ls) (st) (xup M d a x) Q := wp_iast rfl hc h1 (by rw [hn]; exact h2)
theorem w104_76 {ls st : List xV} {M : xM} {Q : Option xV → xM → Prop} {d : Nat} : Wp 104 76 (xr d :: ls) (st) (M) Q = Wp 104 77 (xr d :: ls) (xr d :: st) (M) Q := wp_aload rfl rfl
theorem w104_77 {ls st : List xV} {M : xM} {Q : Option xV → xM → Prop} {d : Nat} (hc : x_c d = 9) : Wp 104 77 (ls) (xr d :: st) (M) Q = Wp 104 80 (ls) (xr (x_r d 5) :: st) (M) Q := wp_getr rfl hc
theorem w104_80 {ls st : List xV} {M : xM} {Q : Option xV → xM → Prop}  : Wp 104 80 (ls) (st) (M) Q = Wp 104 82 (ls) (xi 6 :: st) (M) Q := wp_const rfl
theorem w104_82 {ls st : List xV} {M : xM} {Q : Option xV → xM → Prop} {a : Int} {d : Nat} (hc : x_c d = 20) (hn : x_n d = 7) (h1 : 0 ≤ a) (h2 : a < 7) : Wp 104 82 (ls) (xi a :: xr d :: st) (M) Q = Wp 104 83 (ls) (xi (M d a) :: st) (M) Q := wp_ald rfl hc h1 (by rw [hn]; exact h2)
theorem w104_83 {ls st : List xV} {M : xM} {Q : Option xV → xM → Prop} {a : Int} {v0 : xV} : Wp 104 83 (v0 :: xi a :: ls) (st) (M) Q = Wp 104 84 (v0 :: xi a :: ls) (xi a :: st) (M) Q := wp_iload rfl rfl
theorem w104_84 {ls st : List xV} {M : xM} {Q : Option xV → xM → Prop} {a : Int} {b : Int} : Wp 104 84 (ls) (xi b :: xi a :: st) (M) Q = Wp 104 85 (ls) (xi (xshr a b) :: st) (M) Q := wp_bin (f := xshr) rfl
theorem w104_85 {ls st : List xV} {M : xM} {Q : Option xV → xM → Prop}  : Wp 104 85 (ls) (st) (M) Q = Wp 104 86 (ls) (xi 1 :: st) (M) Q := wp_const rfl
theorem w104_86 {ls st : List xV} {M : xM} {Q : Option xV → xM → Prop} {a : Int} {b : Int} : Wp 104 86 (ls) (xi b :: xi a :: st) (M) Q = Wp 104 87 (ls) (xi (xand a b) :: st) (M) Q := wp_bin (f := xand) rfl
theorem w104_87 {ls : List xV} {M : xM} {Q : Option xV → xM → Prop} {a : Int} : Wp 104 87 (ls) ([xi a]) (M) Q = Q (some (xi a)) M := wp_iret rfl
theorem wc105 {M : xM} {Q : Option xV → xM → Prop} {d0 : Nat} : Wc 105 [xr d0] M Q = Wp 105 0 [xr d0, xj] [] M Q := rfl
theorem w105_0 {ls st : List xV} {M : xM} {Q : Option xV → xM → Prop} {d : Nat} : Wp 105 0 (xr d :: ls) (st) (M) Q = Wp 105 1 (xr d :: ls) (xr d :: st) (M) Q := wp_aload rfl rfl
theorem w105_1 {ls st : List xV} {M : xM} {Q : Option xV → xM → Prop} {d : Nat} (hc : x_c d = 9) : Wp 105 1 (ls) (xr d :: st) (M) Q = Wp 105 4 (ls) (xi (M d 7) :: st) (M) Q := wp_getf rfl hc
theorem w105_4 {ls st : List xV} {M : xM} {Q : Option xV → xM → Prop} {a : Int} (ha : xG a) : Wp 105 4 (ls) (xi a :: st) (M) Q = ((¬ a = 0 → Wp 105 10 (ls) (st) (M) Q) ∧ (¬ (¬ a = 0) → Wp 105 7 (ls) (st) (M) Q)) := wp_if_ne rfl ha
theorem w105_7 {ls st : List xV} {M : xM} {Q : Option xV → xM → Prop}  : Wp 105 7 (ls) (st) (M) Q = Wp 105 9 (ls) (xi (-2) :: st) (M) Q := wp_const rfl
theorem w105_9 {ls : List xV} {M : xM} {Q : Option xV → xM → Prop} {a : Int} : Wp 105 9 (ls) ([xi a]) (M) Q = Q (some (xi a)) M := wp_iret rfl
theorem w105_10 {ls st : List xV} {M : xM} {Q : Option xV → xM → Prop} {d : Nat} : Wp 105 10 (xr d :: ls) (st) (M) Q = Wp 105 11 (xr d :: ls) (xr d :: st) (M) Q := wp_aload rfl rfl
theorem w105_11 {ls st : List xV} {M : xM} {Q : Option xV → xM → Prop} {d : Nat} : Wp 105 11 (ls) (xr d :: st) (M) Q = Wp 105 12 (ls) (xr d :: xr d :: st) (M) Q := wp_dupA rfl
theorem w105_12 {ls st : List xV} {M : xM} {Q : Option xV → xM → Prop} {d : Nat} (hc : x_c d = 9) : Wp 105 12 (ls) (xr d :: st) (M) Q = Wp 105 15 (ls) (xi (M d 7) :: st) (M) Q := wp_getf rfl hc
theorem w105_15 {ls st : List xV} {M : xM} {Q : Option xV → xM → Prop}  : Wp 105 15 (ls) (st) (M) Q = Wp 105 16 (ls) (xi 1 :: st) (M) Q := wp_const rfl
theorem w105_16 {ls st : List xV} {M : xM} {Q : Option xV → xM → Prop} {a : Int} {b : Int} : Wp 105 16 (ls) (xi b :: xi a :: st) (M) Q = Wp 105 17 (ls) (xi (a - b) :: st) (M) Q := wp_bin (f := xsub) rfl
theorem w105_17 {ls st : List xV} {M : xM} {Q : Option xV → xM → Prop} {a : Int} {d : Nat} (hc : x_c d = 9) : Wp 105 17 (ls) (xi a :: xr d :: st) (M) Q = Wp 105 20 (ls) (st) (xup M d 7 a) Q := wp_putf rfl hc
theorem w105_20 {ls st : List xV} {M : xM} {Q : Option xV → xM → Prop}  : Wp 105 20 (ls) (st) (M) Q = Wp 105 21 (ls) (xi 0 :: st) (M) Q := wp_const rfl
theorem w105_21 {ls st : List xV} {M : xM} {Q : Option xV → xM → Prop} {a : Int} {v0 : xV} {w : xV} : Wp 105 21 (v0 :: w :: ls) (xi a :: st) (M) Q = Wp 105 22 (xjl v0 :: xi a :: ls) (st) (M) Q := wp_istore rfl rfl
theorem w105_22 {ls st : List xV} {M : xM} {Q : Option xV → xM → Prop} {a : Int} {v0 : xV} : Wp 105 22 (v0 :: xi a :: ls) (st) (M) Q = Wp 105 23 (v0 :: xi a :: ls) (xi a :: st) (M) Q := wp_iload rfl rfl
theorem w105_23 {ls st : List xV} {M : xM} {Q : Option xV → xM → Prop}  : Wp 105 23 (ls) (st) (M) Q = Wp 105 25 (ls) (xi 7 :: st) (M) Q := wp_const rfl
theorem w105_25 {ls st : List xV} {M : xM} {Q : Option xV → xM → Prop} {a : Int} {b : Int} (ha : xG a) (hb : xG b) : Wp 105 25 (ls) (xi b :: xi a :: st) (M) Q = ((b ≤ a → Wp 105 54 (ls) (st) (M) Q) ∧ (¬ (b ≤ a) → Wp 105 28 (ls) (st) (M) Q)) := wp_cmp_ge rfl ha hb
theorem w105_28 {ls st : List xV} {M : xM} {Q : Option xV → xM → Prop} {d : Nat} : Wp 105 28 (xr d :: ls) (st) (M) Q = Wp 105 29 (xr d :: ls) (xr d :: st) (M) Q := wp_aload rfl rfl
theorem w105_29 {ls st : List xV} {M : xM} {Q : Option xV → xM → Prop} {d : Nat} (hc : x_c d = 9) : Wp 105 29 (ls) (xr d :: st) (M) Q = Wp 105 32 (ls) (xr (x_r d 5) :: st) (M) Q := wp_getr rfl hc
theorem w105_32 {ls st : List xV} {M : xM} {Q : Option xV → xM → Prop} {a : Int} {v0 : xV} : Wp 105 32 (v0 :: xi a :: ls) (st) (M) Q = Wp 105 33 (v0 :: xi a :: ls) (xi a :: st) (M) Q := wp_iload rfl rfl
theorem w105_33 {ls st : List xV} {M : xM} {Q : Option xV → xM → Prop} {d : Nat} : Wp 105 33 (xr d :: ls) (st) (M) Q = Wp 105 34 (xr d :: ls) (xr d :: st) (M) Q := wp_aload rfl rfl
theorem w105_34 {ls st : List xV} {M : xM} {Q : Option xV → xM → Prop} {d : Nat} (hc : x_c d = 9) : Wp 105 34 (ls) (xr d :: st) (M) Q = Wp 105 37 (ls) (xr (x_r d 6) :: st) (M) Q := wp_getr rfl hc
theorem w105_37 {ls st : List xV} {M : xM} {Q : Option xV → xM → Prop}  : Wp 105 37 (ls) (st) (M) Q = Wp 105 39 (ls) (xi 7 :: st) (M) Q := wp_const rfl
theorem w105_39 {ls st : List xV} {M : xM} {Q : Option xV → xM → Prop} {d : Nat} : Wp 105 39 (xr d :: ls) (st) (M) Q = Wp 105 40 (xr d :: ls) (xr d :: st) (M) Q := wp_aload rfl rfl
theorem w105_40 {ls st : List xV} {M : xM} {Q : Option xV → xM → Prop} {d : Nat} (hc : x_c d = 9) : Wp 105 40 (ls) (xr d :: st) (M) Q = Wp 105 43 (ls) (xi (M d 7) :: st) (M) Q := wp_getf rfl hc
theorem w105_43 {ls st : List xV} {M : xM} {Q : Option xV → xM → Prop} {a : Int} {b : Int} : Wp 105 43 (ls) (xi b :: xi a :: st) (M) Q = Wp 105 44 (ls) (xi (a * b) :: st) (M) Q := wp_bin (f := xmul) rfl
theorem w105_44 {ls st : List xV} {M : xM} {Q : Option xV → xM → Prop} {a : Int} {v0 : xV} : Wp 105 44 (v0 :: xi a :: ls) (st) (M) Q = Wp 105 45 (v0 :: xi a :: ls) (xi a :: st) (M) Q := wp_iload rfl rfl
theorem w105_45 {ls st : List xV} {M : xM} {Q : Option xV → xM → Prop} {a : Int} {b : Int} : Wp 105 45 (ls) (xi b :: xi a :: st) (M) Q = Wp 105 46 (ls) (xi (a + b) :: st) (M) Q := wp_bin (f := xadd) rfl
theorem w105_46 {ls st : List xV} {M : xM} {Q : Option xV → xM → Prop} {a : Int} {d : Nat} (hc : x_c d = 20) (hn : x_n d = 56) (h1 : 0 ≤ a) (h2 : a < 56) : Wp 105 46 (ls) (xi a :: xr d :: st) (M) Q = Wp 105 47 (ls) (xi (M d a) :: st) (M) Q := wp_ald rfl hc h1 (by rw [hn]; exact h2)
theorem w105_47 {ls st : List xV} {M : xM} {Q : Option xV → xM → Prop} {a : Int} {d : Nat} {x : Int} (hc : x_c d = 20) (hn : x_n d = 7) (h1 : 0 ≤ a) (h2 : a < 7) : Wp 105 47 (ls) (xi x :: xi a :: xr d :: st) (M) Q = Wp 105 48 (ls) (st) (xup M d a x) Q := wp_iast rfl hc h1 (by rw [hn]; exact h2)
theorem w105_48 {ls st : List xV} {M : xM} {Q : Option xV → xM → Prop} {a : Int} {v0 : xV} : Wp 105 48 (v0 :: xi a :: ls) (st) (M) Q = Wp 105 51 (xjl v0 :: xi (a + 1) :: ls) (st) (M) Q := wp_iinc rfl rfl rfl
theorem w105_51 {ls st : List xV} {M : xM} {Q : Option xV → xM → Prop}  : Wp 105 51 (ls) (st) (M) Q = Wp 105 22 (ls) (st) (M) Q := wp_goto rfl
theorem w105_54 {ls st : List xV} {M : xM} {Q : Option xV → xM → Prop} {d : Nat} : Wp 105 54 (xr d :: ls) (st) (M) Q = Wp 105 55 (xr d :: ls) (xr d :: st) (M) Q := wp_aload rfl rfl
theorem w105_55 {ls st : List xV} {M : xM} {Q : Option xV → xM → Prop} {d : Nat} (hc : x_c d = 9) : Wp 105 55 (ls) (xr d :: st) (M) Q = Wp 105 58 (ls) (xi (M d 7) :: st) (M) Q := wp_getf rfl hc
theorem w105_58 {ls : List xV} {M : xM} {Q : Option xV → xM → Prop} {a : Int} : Wp 105 58 (ls) ([xi a]) (M) Q = Q (some (xi a)) M := wp_iret rfl
theorem wc106 {M : xM} {Q : Option xV → xM → Prop} {d0 : Nat} {a1 : Int} : Wc 106 [xr d0, xi a1] M Q = Wp 106 0 [xr d0, xi a1, xj, xj] [] M Q := rfl
theorem w106_0 {ls st : List xV} {M : xM} {Q : Option xV → xM → Prop}  : Wp 106 0 (ls) (st) (M) Q = Wp 106 1 (ls) (xi 0 :: st) (M) Q := wp_const rfl
theorem w106_1 {ls st : List xV} {M : xM} {Q : Option xV → xM → Prop} {a : Int} {v0 : xV} {v1 : xV} {w : xV} : Wp 106 1 (v0 :: v1 :: w :: ls) (xi a :: st) (M) Q = Wp 106 2 (v0 :: xjl v1 :: xi a :: ls) (st) (M) Q := wp_istore rfl rfl
theorem w106_2 {ls st : List xV} {M : xM} {Q : Option xV → xM → Prop}  : Wp 106 2 (ls) (st) (M) Q = Wp 106 3 (ls) (xi 0 :: st) (M) Q := wp_const rfl
theorem w106_3 {ls st : List xV} {M : xM} {Q : Option xV → xM → Prop} {a : Int} {v0 : xV} {v1 : xV} {v2 : xV} {w : xV} : Wp 106 3 (v0 :: v1 :: v2 :: w :: ls) (xi a :: st) (M) Q = Wp 106 4 (v0 :: v1 :: xjl v2 :: xi a :: ls) (st) (M) Q := wp_istore rfl rfl
theorem w106_4 {ls st : List xV} {M : xM} {Q : Option xV → xM → Prop} {a : Int} {v0 : xV} {v1 : xV} {v2 : xV} : Wp 106 4 (v0 :: v1 :: v2 :: xi a :: ls) (st) (M) Q = Wp 106 5 (v0 :: v1 :: v2 :: xi a :: ls) (xi a :: st) (M) Q := wp_iload rfl rfl
theorem w106_5 {ls st : List xV} {M : xM} {Q : Option xV → xM → Prop} {d : Nat} : Wp 106 5 (xr d :: ls) (st) (M) Q = Wp 106 6 (xr d :: ls) (xr d :: st) (M) Q := wp_aload rfl rfl
theorem w106_6 {ls st : List xV} {M : xM} {Q : Option xV → xM → Prop} {d : Nat} (hc : x_c d = 9) : Wp 106 6 (ls) (xr d :: st) (M) Q = Wp 106 9 (ls) (xr (x_r d 2) :: st) (M) Q := wp_getr rfl hc
theorem w106_9 {ls st : List xV} {M : xM} {Q : Option xV → xM → Prop}  : Wp 106 9 (ls) (st) (M) Q = Wp 106 10 (ls) (xi 1 :: st) (M) Q := wp_const rfl
theorem w106_10 {ls st : List xV} {M : xM} {Q : Option xV → xM → Prop} {a : Int} {d : Nat} (hc : x_c d = 20) (hn : x_n d = 25) (h1 : 0 ≤ a) (h2 : a < 25) : Wp 106 10 (ls) (xi a :: xr d :: st) (M) Q = Wp 106 11 (ls) (xi (M d a) :: st) (M) Q := wp_ald rfl hc h1 (by rw [hn]; exact h2)
theorem w106_11 {ls st : List xV} {M : xM} {Q : Option xV → xM → Prop} {a : Int} {b : Int} (ha : xG a) (hb : xG b) : Wp 106 11 (ls) (xi b :: xi a :: st) (M) Q = ((b ≤ a → Wp 106 42 (ls) (st) (M) Q) ∧ (¬ (b ≤ a) → Wp 106 14 (ls) (st) (M) Q)) := wp_cmp_ge rfl ha hb
theorem w106_14 {ls st : List xV} {M : xM} {Q : Option xV → xM → Prop} {a : Int} {v0 : xV} {v1 : xV} : Wp 106 14 (v0 :: v1 :: xi a :: ls) (st) (M) Q = Wp 106 15 (v0 :: v1 :: xi a :: ls) (xi a :: st) (M) Q := wp_iload rfl rfl
theorem w106_15 {ls st : List xV} {M : xM} {Q : Option xV → xM → Prop} {a : Int} (ha : xG a) : Wp 106 15 (ls) (xi a :: st) (M) Q = ((¬ a = 0 → Wp 106 30 (ls) (st) (M) Q) ∧ (¬ (¬ a = 0) → Wp 106 18 (ls) (st) (M) Q)) := wp_if_ne rfl ha
theorem w106_18 {ls st : List xV} {M : xM} {Q : Option xV → xM → Prop} {d : Nat} : Wp 106 18 (xr d :: ls) (st) (M) Q = Wp 106 19 (xr d :: ls) (xr d :: st) (M) Q := wp_aload rfl rfl
theorem w106_19 {ls st : List xV} {M : xM} {Q : Option xV → xM → Prop} {d : Nat} (hc : x_c d = 9) : Wp 106 19 (ls) (xr d :: st) (M) Q = Wp 106 22 (ls) (xr (x_r d 2) :: st) (M) Q := wp_getr rfl hc
theorem w106_22 {ls st : List xV} {M : xM} {Q : Option xV → xM → Prop}  : Wp 106 22 (ls) (st) (M) Q = Wp 106 23 (ls) (xi 5 :: st) (M) Q := wp_const rfl
theorem w106_23 {ls st : List xV} {M : xM} {Q : Option xV → xM → Prop} {a : Int} {v0 : xV} {v1 : xV} {v2 : xV} : Wp 106 23 (v0 :: v1 :: v2 :: xi a :: ls) (st) (M) Q = Wp 106 24 (v0 :: v1 :: v2 :: xi a :: ls) (xi a :: st) (M) Q := wp_iload rfl rfl
theorem w106_24 {ls st : List xV} {M : xM} {Q : Option xV → xM → Prop} {a : Int} {b : Int} : Wp 106 24 (ls) (xi b :: xi a :: st) (M) Q = Wp 106 25 (ls) (xi (a + b) :: st) (M) Q := wp_bin (f := xadd) rfl
theorem w106_25 {ls st : List xV} {M : xM} {Q : Option xV → xM → Prop} {a : Int} {d : Nat} (hc : x_c d = 20) (hn : x_n d = 25) (h1 : 0 ≤ a) (h2 : a < 25) : Wp 106 25 (ls) (xi a :: xr d :: st) (M) Q = Wp 106 26 (ls) (xi (M d a) :: st) (M) Q := wp_ald rfl hc h1 (by rw [hn]; exact h2)
theorem w106_26 {ls st : List xV} {M : xM} {Q : Option xV → xM → Prop} {a : Int} {v0 : xV} : Wp 106 26 (v0 :: xi a :: ls) (st) (M) Q = Wp 106 27 (v0 :: xi a :: ls) (xi a :: st) (M) Q := wp_iload rfl rfl
theorem w106_27 {ls st : List xV} {M : xM} {Q : Option xV → xM → Prop} {a : Int} {b : Int} (ha : xG a) (hb : xG b) : Wp 106 27 (ls) (xi b :: xi a :: st) (M) Q = ((¬ a = b → Wp 106 34 (ls) (st) (M) Q) ∧ (¬ (¬ a = b) → Wp 106 30 (ls) (st) (M) Q)) := wp_cmp_ne rfl ha hb
theorem w106_30 {ls st : List xV} {M : xM} {Q : Option xV → xM → Prop}  : Wp 106 30 (ls) (st) (M) Q = Wp 106 31 (ls) (xi 1 :: st) (M) Q := wp_const rfl
theorem w106_31 {ls st : List xV} {M : xM} {Q : Option xV → xM → Prop}  : Wp 106 31 (ls) (st) (M) Q = Wp 106 35 (ls) (st) (M) Q := wp_goto rfl
theorem w106_34 {ls st : List xV} {M : xM} {Q : Option xV → xM → Prop}  : Wp 106 34 (ls) (st) (M) Q = Wp 106 35 (ls) (xi 0 :: st) (M) Q := wp_const rfl
theorem w106_35 {ls st : List xV} {M : xM} {Q : Option xV → xM → Prop} {a : Int} {v0 : xV} {v1 : xV} {w : xV} : Wp 106 35 (v0 :: v1 :: w :: ls) (xi a :: st) (M) Q = Wp 106 36 (v0 :: xjl v1 :: xi a :: ls) (st) (M) Q := wp_istore rfl rfl
theorem w106_36 {ls st : List xV} {M : xM} {Q : Option xV → xM → Prop} {a : Int} {v0 : xV} {v1 : xV} {v2 : xV} : Wp 106 36 (v0 :: v1 :: v2 :: xi a :: ls) (st) (M) Q = Wp 106 39 (v0 :: v1 :: xjl v2 :: xi (a + 1) :: ls) (st) (M) Q := wp_iinc rfl rfl rfl
theorem w106_39 {ls st : List xV} {M : xM} {Q : Option xV → xM → Prop}  : Wp 106 39 (ls) (st) (M) Q = Wp 106 4 (ls) (st) (M) Q := wp_goto rfl
theorem w106_42 {ls st : List xV} {M : xM} {Q : Option xV → xM → Prop} {a : Int} {v0 : xV} {v1 : xV} : Wp 106 42 (v0 :: v1 :: xi a :: ls) (st) (M) Q = Wp 106 43 (v0 :: v1 :: xi a :: ls) (xi a :: st) (M) Q := wp_iload rfl rfl
theorem w106_43 {ls : List xV} {M : xM} {Q : Option xV → xM → Prop} {a : Int} (ha : a = 0 ∨ a = 1) : Wp 106 43 (ls) ([xi a]) (M) Q = Q (some (xi a)) M := wp_zret rfl ha
theorem wc107 {M : xM} {Q : Option xV → xM → Prop} {d0 : Nat} {a1 : Int} {a2 : Int} {a3 : Int} : Wc 107 [xr d0, xi a1, xi a2, xi a3] M Q = Wp 107 0 [xr d0, xi a1, xi a2, xi a3, xj, xj] [] M Q := rfl
theorem w107_0 {ls st : List xV} {M : xM} {Q : Option xV → xM → Prop}  : Wp 107 0 (ls) (st) (M) Q = Wp 107 1 (ls) (xi 0 :: st) (M) Q := wp_const rfl
theorem w107_1 {ls st : List xV} {M : xM} {Q : Option xV → xM → Prop} {a : Int} {v0 : xV} {v1 : xV} {v2 : xV} {v3 : xV} {w : xV} : Wp 107 1 (v0 :: v1 :: v2 :: v3 :: w :: ls) (xi a :: st) (M) Q = Wp 107 3 (v0 :: v1 :: v2 :: xjl v3 :: xi a :: ls) (st) (M) Q := wp_istore rfl rfl
theorem w107_3 {ls st : List xV} {M : xM} {Q : Option xV → xM → Prop}  : Wp 107 3 (ls) (st) (M) Q = Wp 107 4 (ls) (xi 0 :: st) (M) Q := wp_const rfl
theorem w107_4 {ls st : List xV} {M : xM} {Q : Option xV → xM → Prop} {a : Int} {v0 : xV} {v1 : xV} {v2 : xV} {v3 : xV} {v4 : xV} {w : xV} : Wp 107 4 (v0 :: v1 :: v2 :: v3 :: v4 :: w :: ls) (xi a :: st) (M) Q = Wp 107 6 (v0 :: v1 :: v2 :: v3 :: xjl v4 :: xi a :: ls) (st) (M) Q := wp_istore rfl rfl
theorem w107_6 {ls st : List xV} {M : xM} {Q : Option xV → xM → Prop} {a : Int} {v0 : xV} {v1 : xV} {v2 : xV} {v3 : xV} {v4 : xV} : Wp 107 6 (v0 :: v1 :: v2 :: v3 :: v4 :: xi a :: ls) (st) (M) Q = Wp 107 8 (v0 :: v1 :: v2 :: v3 :: v4 :: xi a :: ls) (xi a :: st) (M) Q := wp_iload rfl rfl
theorem w107_8 {ls st : List xV} {M : xM} {Q : Option xV → xM → Prop} {d : Nat} : Wp 107 8 (xr d :: ls) (st) (M) Q = Wp 107 9 (xr d :: ls) (xr d :: st) (M) Q := wp_aload rfl rfl
theorem w107_9 {ls st : List xV} {M : xM} {Q : Option xV → xM → Prop} {d : Nat} (hc : x_c d = 9) : Wp 107 9 (ls) (xr d :: st) (M) Q = Wp 107 12 (ls) (xr (x_r d 2) :: st) (M) Q := wp_getr rfl hc
theorem w107_12 {ls st : List xV} {M : xM} {Q : Option xV → xM → Prop}  : Wp 107 12 (ls) (st) (M) Q = Wp 107 13 (ls) (xi 2 :: st) (M) Q := wp_const rfl
theorem w107_13 {ls st : List xV} {M : xM} {Q : Option xV → xM → Prop} {a : Int} {d : Nat} (hc : x_c d = 20) (hn : x_n d = 25) (h1 : 0 ≤ a) (h2 : a < 25) : Wp 107 13 (ls) (xi a :: xr d :: st) (M) Q = Wp 107 14 (ls) (xi (M d a) :: st) (M) Q := wp_ald rfl hc h1 (by rw [hn]; exact h2)
theorem w107_14 {ls st : List xV} {M : xM} {Q : Option xV → xM → Prop} {a : Int} {b : Int} (ha : xG a) (hb : xG b) : Wp 107 14 (ls) (xi b :: xi a :: st) (M) Q = ((b ≤ a → Wp 107 52 (ls) (st) (M) Q) ∧ (¬ (b ≤ a) → Wp 107 17 (ls) (st) (M) Q)) := wp_cmp_ge rfl ha hb
theorem w107_17 {ls st : List xV} {M : xM} {Q : Option xV → xM → Prop} {a : Int} {v0 : xV} {v1 : xV} {v2 : xV} {v3 : xV} : Wp 107 17 (v0 :: v1 :: v2 :: v3 :: xi a :: ls) (st) (M) Q = Wp 107 19 (v0 :: v1 :: v2 :: v3 :: xi a :: ls) (xi a :: st) (M) Q := wp_iload rfl rfl
theorem w107_19 {ls st : List xV} {M : xM} {Q : Option xV → xM → Prop} {a : Int} {v0 : xV} {v1 : xV} {v2 : xV} {v3 : xV} {v4 : xV} : Wp 107 19 (v0 :: v1 :: v2 :: v3 :: v4 :: xi a :: ls) (st) (M) Q = Wp 107 21 (v0 :: v1 :: v2 :: v3 :: v4 :: xi a :: ls) (xi a :: st) (M) Q := wp_iload rfl rfl
theorem w107_21 {ls st : List xV} {M : xM} {Q : Option xV → xM → Prop} {a : Int} {v0 : xV} : Wp 107 21 (v0 :: xi a :: ls) (st) (M) Q = Wp 107 22 (v0 :: xi a :: ls) (xi a :: st) (M) Q := wp_iload rfl rfl
theorem w107_22 {ls st : List xV} {M : xM} {Q : Option xV → xM → Prop} {a : Int} {b : Int} (ha : xG a) (hb : xG b) : Wp 107 22 (ls) (xi b :: xi a :: st) (M) Q = ((a = b → Wp 107 42 (ls) (st) (M) Q) ∧ (¬ (a = b) → Wp 107 25 (ls) (st) (M) Q)) := wp_cmp_eq rfl ha hb
theorem w107_25 {ls st : List xV} {M : xM} {Q : Option xV → xM → Prop} {d : Nat} : Wp 107 25 (xr d :: ls) (st) (M) Q = Wp 107 26 (xr d :: ls) (xr d :: st) (M) Q := wp_aload rfl rfl
theorem w107_26 {ls st : List xV} {M : xM} {Q : Option xV → xM → Prop} {d : Nat} (hc : x_c d = 9) : Wp 107 26 (ls) (xr d :: st) (M) Q = Wp 107 29 (ls) (xr (x_r d 13) :: st) (M) Q := wp_getr rfl hc
theorem w107_29 {ls st : List xV} {M : xM} {Q : Option xV → xM → Prop} {a : Int} {v0 : xV} {v1 : xV} {v2 : xV} : Wp 107 29 (v0 :: v1 :: v2 :: xi a :: ls) (st) (M) Q = Wp 107 30 (v0 :: v1 :: v2 :: xi a :: ls) (xi a :: st) (M) Q := wp_iload rfl rfl
theorem w107_30 {ls st : List xV} {M : xM} {Q : Option xV → xM → Prop} {a : Int} {v0 : xV} {v1 : xV} {v2 : xV} {v3 : xV} {v4 : xV} : Wp 107 30 (v0 :: v1 :: v2 :: v3 :: v4 :: xi a :: ls) (st) (M) Q = Wp 107 32 (v0 :: v1 :: v2 :: v3 :: v4 :: xi a :: ls) (xi a :: st) (M) Q := wp_iload rfl rfl
theorem w107_32 {ls st : List xV} {M : xM} {Q : Option xV → xM → Prop} {a : Int} {b : Int} : Wp 107 32 (ls) (xi b :: xi a :: st) (M) Q = Wp 107 33 (ls) (xi (a + b) :: st) (M) Q := wp_bin (f := xadd) rfl
theorem w107_33 {ls st : List xV} {M : xM} {Q : Option xV → xM → Prop} {a : Int} {d : Nat} (hc : x_c d = 20) (hn : x_n d = 305) (h1 : 0 ≤ a) (h2 : a < 305) : Wp 107 33 (ls) (xi a :: xr d :: st) (M) Q = Wp 107 34 (ls) (xi (M d a) :: st) (M) Q := wp_ald rfl hc h1 (by rw [hn]; exact h2)
theorem w107_34 {ls st : List xV} {M : xM} {Q : Option xV → xM → Prop} {a : Int} {v0 : xV} {v1 : xV} : Wp 107 34 (v0 :: v1 :: xi a :: ls) (st) (M) Q = Wp 107 35 (v0 :: v1 :: xi a :: ls) (xi a :: st) (M) Q := wp_iload rfl rfl
theorem w107_35 {ls st : List xV} {M : xM} {Q : Option xV → xM → Prop} {a : Int} {b : Int} (ha : xG a) (hb : xG b) : Wp 107 35 (ls) (xi b :: xi a :: st) (M) Q = ((¬ a = b → Wp 107 42 (ls) (st) (M) Q) ∧ (¬ (¬ a = b) → Wp 107 38 (ls) (st) (M) Q)) := wp_cmp_ne rfl ha hb
theorem w107_38 {ls st : List xV} {M : xM} {Q : Option xV → xM → Prop}  : Wp 107 38 (ls) (st) (M) Q = Wp 107 39 (ls) (xi 1 :: st) (M) Q := wp_const rfl
theorem w107_39 {ls st : List xV} {M : xM} {Q : Option xV → xM → Prop}  : Wp 107 39 (ls) (st) (M) Q = Wp 107 43 (ls) (st) (M) Q := wp_goto rfl
theorem w107_42 {ls st : List xV} {M : xM} {Q : Option xV → xM → Prop}  : Wp 107 42 (ls) (st) (M) Q = Wp 107 43 (ls) (xi 0 :: st) (M) Q := wp_const rfl
theorem w107_43 {ls st : List xV} {M : xM} {Q : Option xV → xM → Prop} {a : Int} {b : Int} : Wp 107 43 (ls) (xi b :: xi a :: st) (M) Q = Wp 107 44 (ls) (xi (a + b) :: st) (M) Q := wp_bin (f := xadd) rfl
theorem w107_44 {ls st : List xV} {M : xM} {Q : Option xV → xM → Prop} {a : Int} {v0 : xV} {v1 : xV} {v2 : xV} {v3 : xV} {w : xV} : Wp 107 44 (v0 :: v1 :: v2 :: v3 :: w :: ls) (xi a :: st) (M) Q = Wp 107 46 (v0 :: v1 :: v2 :: xjl v3 :: xi a :: ls) (st) (M) Q := wp_istore rfl rfl
theorem w107_46 {ls st : List xV} {M : xM} {Q : Option xV → xM → Prop} {a : Int} {v0 : xV} {v1 : xV} {v2 : xV} {v3 : xV} {v4 : xV} : Wp 107 46 (v0 :: v1 :: v2 :: v3 :: v4 :: xi a :: ls) (st) (M) Q = Wp 107 49 (v0 :: v1 :: v2 :: v3 :: xjl v4 :: xi (a + 1) :: ls) (st) (M) Q := wp_iinc rfl rfl rfl
theorem w107_49 {ls st : List xV} {M : xM} {Q : Option xV → xM → Prop}  : Wp 107 49 (ls) (st) (M) Q = Wp 107 6 (ls) (st) (M) Q := wp_goto rfl
theorem w107_52 {ls st : List xV} {M : xM} {Q : Option xV → xM → Prop} {a : Int} {v0 : xV} {v1 : xV} {v2 : xV} {v3 : xV} : Wp 107 52 (v0 :: v1 :: v2 :: v3 :: xi a :: ls) (st) (M) Q = Wp 107 54 (v0 :: v1 :: v2 :: v3 :: xi a :: ls) (xi a :: st) (M) Q := wp_iload rfl rfl
theorem w107_54 {ls : List xV} {M : xM} {Q : Option xV → xM → Prop} {a : Int} : Wp 107 54 (ls) ([xi a]) (M) Q = Q (some (xi a)) M := wp_iret rfl
theorem wc108 {M : xM} {Q : Option xV → xM → Prop} {d0 : Nat} {a1 : Int} {a2 : Int} : Wc 108 [xr d0, xi a1, xi a2] M Q = Wp 108 0 [xr d0, xi a1, xi a2] [] M Q := rfl
theorem w108_0 {ls st : List xV} {M : xM} {Q : Option xV → xM → Prop} {a : Int} {v0 : xV} : Wp 108 0 (v0 :: xi a :: ls) (st) (M) Q = Wp 108 1 (v0 :: xi a :: ls) (xi a :: st) (M) Q := wp_iload rfl rfl
theorem w108_1 {ls st : List xV} {M : xM} {Q : Option xV → xM → Prop} {d : Nat} : Wp 108 1 (xr d :: ls) (st) (M) Q = Wp 108 2 (xr d :: ls) (xr d :: st) (M) Q := wp_aload rfl rfl
theorem w108_2 {ls st : List xV} {M : xM} {Q : Option xV → xM → Prop} {d : Nat} (hc : x_c d = 9) : Wp 108 2 (ls) (xr d :: st) (M) Q = Wp 108 5 (ls) (xi (M d 20) :: st) (M) Q := wp_getf rfl hc
theorem w108_5 {ls st : List xV} {M : xM} {Q : Option xV → xM → Prop} {a : Int} {b : Int} (ha : xG a) (hb : xG b) : Wp 108 5 (ls) (xi b :: xi a :: st) (M) Q = ((¬ a = b → Wp 108 38 (ls) (st) (M) Q) ∧ (¬ (¬ a = b) → Wp 108 8 (ls) (st) (M) Q)) := wp_cmp_ne rfl ha hb
theorem w108_8 {ls st : List xV} {M : xM} {Q : Option xV → xM → Prop} {a : Int} {v0 : xV} {v1 : xV} : Wp 108 8 (v0 :: v1 :: xi a :: ls) (st) (M) Q = Wp 108 9 (v0 :: v1 :: xi a :: ls) (xi a :: st) (M) Q := wp_iload rfl rfl
theorem w108_9 {ls st : List xV} {M : xM} {Q : Option xV → xM → Prop} {d : Nat} : Wp 108 9 (xr d :: ls) (st) (M) Q = Wp 108 10 (xr d :: ls) (xr d :: st) (M) Q := wp_aload rfl rfl
theorem w108_10 {ls st : List xV} {M : xM} {Q : Option xV → xM → Prop} {d : Nat} (hc : x_c d = 9) : Wp 108 10 (ls) (xr d :: st) (M) Q = Wp 108 13 (ls) (xi (M d 22) :: st) (M) Q := wp_getf rfl hc
theorem w108_13 {ls st : List xV} {M : xM} {Q : Option xV → xM → Prop} {a : Int} {b : Int} (ha : xG a) (hb : xG b) : Wp 108 13 (ls) (xi b :: xi a :: st) (M) Q = ((b < a → Wp 108 38 (ls) (st) (M) Q) ∧ (¬ (b < a) → Wp 108 16 (ls) (st) (M) Q)) := wp_cmp_gt rfl ha hb
theorem w108_16 {ls st : List xV} {M : xM} {Q : Option xV → xM → Prop} {d : Nat} : Wp 108 16 (xr d :: ls) (st) (M) Q = Wp 108 17 (xr d :: ls) (xr d :: st) (M) Q := wp_aload rfl rfl
theorem w108_17 {ls st : List xV} {M : xM} {Q : Option xV → xM → Prop} {d : Nat} (hc : x_c d = 9) : Wp 108 17 (ls) (xr d :: st) (M) Q = Wp 108 20 (ls) (xi (M d 21) :: st) (M) Q := wp_getf rfl hc
theorem w108_20 {ls st : List xV} {M : xM} {Q : Option xV → xM → Prop} {a : Int} {v0 : xV} {v1 : xV} : Wp 108 20 (v0 :: v1 :: xi a :: ls) (st) (M) Q = Wp 108 21 (v0 :: v1 :: xi a :: ls) (xi a :: st) (M) Q := wp_iload rfl rfl
theorem w108_21 {ls st : List xV} {M : xM} {Q : Option xV → xM → Prop}  : Wp 108 21 (ls) (st) (M) Q = Wp 108 22 (ls) (xi 1 :: st) (M) Q := wp_const rfl
theorem w108_22 {ls st : List xV} {M : xM} {Q : Option xV → xM → Prop} {a : Int} {b : Int} : Wp 108 22 (ls) (xi b :: xi a :: st) (M) Q = Wp 108 23 (ls) (xi (a - b) :: st) (M) Q := wp_bin (f := xsub) rfl
theorem w108_23 {ls st : List xV} {M : xM} {Q : Option xV → xM → Prop} {a : Int} {b : Int} : Wp 108 23 (ls) (xi b :: xi a :: st) (M) Q = Wp 108 24 (ls) (xi (xshr a b) :: st) (M) Q := wp_bin (f := xshr) rfl
theorem w108_24 {ls st : List xV} {M : xM} {Q : Option xV → xM → Prop}  : Wp 108 24 (ls) (st) (M) Q = Wp 108 25 (ls) (xi 1 :: st) (M) Q := wp_const rfl
theorem w108_25 {ls st : List xV} {M : xM} {Q : Option xV → xM → Prop} {a : Int} {b : Int} : Wp 108 25 (ls) (xi b :: xi a :: st) (M) Q = Wp 108 26 (ls) (xi (xand a b) :: st) (M) Q := wp_bin (f := xand) rfl
theorem w108_26 {ls st : List xV} {M : xM} {Q : Option xV → xM → Prop}  : Wp 108 26 (ls) (st) (M) Q = Wp 108 27 (ls) (xi 1 :: st) (M) Q := wp_const rfl
theorem w108_27 {ls st : List xV} {M : xM} {Q : Option xV → xM → Prop} {a : Int} {b : Int} (ha : xG a) (hb : xG b) : Wp 108 27 (ls) (xi b :: xi a :: st) (M) Q = ((¬ a = b → Wp 108 34 (ls) (st) (M) Q) ∧ (¬ (¬ a = b) → Wp 108 30 (ls) (st) (M) Q)) := wp_cmp_ne rfl ha hb
theorem w108_30 {ls st : List xV} {M : xM} {Q : Option xV → xM → Prop}  : Wp 108 30 (ls) (st) (M) Q = Wp 108 31 (ls) (xi 1 :: st) (M) Q := wp_const rfl
theorem w108_31 {ls st : List xV} {M : xM} {Q : Option xV → xM → Prop}  : Wp 108 31 (ls) (st) (M) Q = Wp 108 57 (ls) (st) (M) Q := wp_goto rfl
theorem w108_34 {ls st : List xV} {M : xM} {Q : Option xV → xM → Prop}  : Wp 108 34 (ls) (st) (M) Q = Wp 108 35 (ls) (xi 0 :: st) (M) Q := wp_const rfl
theorem w108_35 {ls st : List xV} {M : xM} {Q : Option xV → xM → Prop}  : Wp 108 35 (ls) (st) (M) Q = Wp 108 57 (ls) (st) (M) Q := wp_goto rfl
theorem w108_38 {ls st : List xV} {M : xM} {Q : Option xV → xM → Prop} {d : Nat} : Wp 108 38 (xr d :: ls) (st) (M) Q = Wp 108 39 (xr d :: ls) (xr d :: st) (M) Q := wp_aload rfl rfl
theorem w108_39 {ls st : List xV} {M : xM} {Q : Option xV → xM → Prop} {d : Nat} (hc : x_c d = 9) : Wp 108 39 (ls) (xr d :: st) (M) Q = Wp 108 42 (ls) (xr (x_r d 5) :: st) (M) Q := wp_getr rfl hc
theorem w108_42 {ls st : List xV} {M : xM} {Q : Option xV → xM → Prop}  : Wp 108 42 (ls) (st) (M) Q = Wp 108 43 (ls) (xi 5 :: st) (M) Q := wp_const rfl
theorem w108_43 {ls st : List xV} {M : xM} {Q : Option xV → xM → Prop} {a : Int} {d : Nat} (hc : x_c d = 20) (hn : x_n d = 7) (h1 : 0 ≤ a) (h2 : a < 7) : Wp 108 43 (ls) (xi a :: xr d :: st) (M) Q = Wp 108 44 (ls) (xi (M d a) :: st) (M) Q := wp_ald rfl hc h1 (by rw [hn]; exact h2)
theorem w108_44 {ls st : List xV} {M : xM} {Q : Option xV → xM → Prop} {a : Int} {v0 : xV} : Wp 108 44 (v0 :: xi a :: ls) (st) (M) Q = Wp 108 45 (v0 :: xi a :: ls) (xi a :: st) (M) Q := wp_iload rfl rfl
theorem w108_45 {ls st : List xV} {M : xM} {Q : Option xV → xM → Prop} {a : Int} {b : Int} : Wp 108 45 (ls) (xi b :: xi a :: st) (M) Q = Wp 108 46 (ls) (xi (xshr a b) :: st) (M) Q := wp_bin (f := xshr) rfl
theorem w108_46 {ls st : List xV} {M : xM} {Q : Option xV → xM → Prop}  : Wp 108 46 (ls) (st) (M) Q = Wp 108 47 (ls) (xi 1 :: st) (M) Q := wp_const rfl
theorem w108_47 {ls st : List xV} {M : xM} {Q : Option xV → xM → Prop} {a : Int} {b : Int} : Wp 108 47 (ls) (xi b :: xi a :: st) (M) Q = Wp 108 48 (ls) (xi (xand a b) :: st) (M) Q := wp_bin (f := xand) rfl
theorem w108_48 {ls st : List xV} {M : xM} {Q : Option xV → xM → Prop}  : Wp 108 48 (ls) (st) (M) Q = Wp 108 49 (ls) (xi 1 :: st) (M) Q := wp_const rfl
theorem w108_49 {ls st : List xV} {M : xM} {Q : Option xV → xM → Prop} {a : Int} {b : Int} (ha : xG a) (hb : xG b) : Wp 108 49 (ls) (xi b :: xi a :: st) (M) Q = ((¬ a = b → Wp 108 56 (ls) (st) (M) Q) ∧ (¬ (¬ a = b) → Wp 108 52 (ls) (st) (M) Q)) := wp_cmp_ne rfl ha hb
theorem w108_52 {ls st : List xV} {M : xM} {Q : Option xV → xM → Prop}  : Wp 108 52 (ls) (st) (M) Q = Wp 108 53 (ls) (xi 1 :: st) (M) Q := wp_const rfl
theorem w108_53 {ls st : List xV} {M : xM} {Q : Option xV → xM → Prop}  : Wp 108 53 (ls) (st) (M) Q = Wp 108 57 (ls) (st) (M) Q := wp_goto rfl
theorem w108_56 {ls st : List xV} {M : xM} {Q : Option xV → xM → Prop}  : Wp 108 56 (ls) (st) (M) Q = Wp 108 57 (ls) (xi 0 :: st) (M) Q := wp_const rfl
theorem w108_57 {ls : List xV} {M : xM} {Q : Option xV → xM → Prop} {a : Int} (ha : a = 0 ∨ a = 1) : Wp 108 57 (ls) ([xi a]) (M) Q = Q (some (xi a)) M := wp_zret rfl ha
theorem wc109 {M : xM} {Q : Option xV → xM → Prop} {d0 : Nat} {a1 : Int} {a2 : Int} : Wc 109 [xr d0, xi a1, xi a2] M Q = Wp 109 0 [xr d0, xi a1, xi a2, xj] [] M Q := rfl
theorem w109_0 {ls st : List xV} {M : xM} {Q : Option xV → xM → Prop} {d : Nat} : Wp 109 0 (xr d :: ls) (st) (M) Q = Wp 109 1 (xr d :: ls) (xr d :: st) (M) Q := wp_aload rfl rfl
theorem w109_1 {ls st : List xV} {M : xM} {Q : Option xV → xM → Prop} {d : Nat} (hc : x_c d = 9) : Wp 109 1 (ls) (xr d :: st) (M) Q = Wp 109 4 (ls) (xr (x_r d 13) :: st) (M) Q := wp_getr rfl hc
theorem w109_4 {ls st : List xV} {M : xM} {Q : Option xV → xM → Prop} {a : Int} {v0 : xV} {v1 : xV} : Wp 109 4 (v0 :: v1 :: xi a :: ls) (st) (M) Q = Wp 109 5 (v0 :: v1 :: xi a :: ls) (xi a :: st) (M) Q := wp_iload rfl rfl
theorem w109_5 {ls st : List xV} {M : xM} {Q : Option xV → xM → Prop} {a : Int} {v0 : xV} : Wp 109 5 (v0 :: xi a :: ls) (st) (M) Q = Wp 109 6 (v0 :: xi a :: ls) (xi a :: st) (M) Q := wp_iload rfl rfl
theorem w109_6 {ls st : List xV} {M : xM} {Q : Option xV → xM → Prop} {a : Int} {b : Int} : Wp 109 6 (ls) (xi b :: xi a :: st) (M) Q = Wp 109 7 (ls) (xi (a + b) :: st) (M) Q := wp_bin (f := xadd) rfl
theorem w109_7 {ls st : List xV} {M : xM} {Q : Option xV → xM → Prop} {a : Int} {d : Nat} (hc : x_c d = 20) (hn : x_n d = 305) (h1 : 0 ≤ a) (h2 : a < 305) : Wp 109 7 (ls) (xi a :: xr d :: st) (M) Q = Wp 109 8 (ls) (xi (M d a) :: st) (M) Q := wp_ald rfl hc h1 (by rw [hn]; exact h2)
theorem w109_8 {ls st : List xV} {M : xM} {Q : Option xV → xM → Prop} {d : Nat} : Wp 109 8 (xr d :: ls) (st) (M) Q = Wp 109 9 (xr d :: ls) (xr d :: st) (M) Q := wp_aload rfl rfl
theorem w109_9 {ls st : List xV} {M : xM} {Q : Option xV → xM → Prop} {d : Nat} (hc : x_c d = 9) : Wp 109 9 (ls) (xr d :: st) (M) Q = Wp 109 12 (ls) (xr (x_r d 16) :: st) (M) Q := wp_getr rfl hc
theorem w109_12 {ls st : List xV} {M : xM} {Q : Option xV → xM → Prop} {a : Int} {v0 : xV} : Wp 109 12 (v0 :: xi a :: ls) (st) (M) Q = Wp 109 13 (v0 :: xi a :: ls) (xi a :: st) (M) Q := wp_iload rfl rfl
theorem w109_13 {ls st : List xV} {M : xM} {Q : Option xV → xM → Prop} {a : Int} {d : Nat} (hc : x_c d = 20) (hn : x_n d = 5) (h1 : 0 ≤ a) (h2 : a < 5) : Wp 109 13 (ls) (xi a :: xr d :: st) (M) Q = Wp 109 14 (ls) (xi (M d a) :: st) (M) Q := wp_ald rfl hc h1 (by rw [hn]; exact h2)
theorem w109_14 {ls st : List xV} {M : xM} {Q : Option xV → xM → Prop}  : Wp 109 14 (ls) (st) (M) Q = Wp 109 15 (ls) (xi 1 :: st) (M) Q := wp_const rfl
theorem w109_15 {ls st : List xV} {M : xM} {Q : Option xV → xM → Prop} {a : Int} {b : Int} (ha : xG a) (hb : xG b) : Wp 109 15 (ls) (xi b :: xi a :: st) (M) Q = ((¬ a = b → Wp 109 29 (ls) (st) (M) Q) ∧ (¬ (¬ a = b) → Wp 109 18 (ls) (st) (M) Q)) := wp_cmp_ne rfl ha hb
theorem w109_18 {ls st : List xV} {M : xM} {Q : Option xV → xM → Prop} {d : Nat} : Wp 109 18 (xr d :: ls) (st) (M) Q = Wp 109 19 (xr d :: ls) (xr d :: st) (M) Q := wp_aload rfl rfl
theorem w109_19 {ls st : List xV} {M : xM} {Q : Option xV → xM → Prop} {d : Nat} (hc : x_c d = 9) : Wp 109 19 (ls) (xr d :: st) (M) Q = Wp 109 22 (ls) (xr (x_r d 2) :: st) (M) Q := wp_getr rfl hc
theorem w109_22 {ls st : List xV} {M : xM} {Q : Option xV → xM → Prop}  : Wp 109 22 (ls) (st) (M) Q = Wp 109 23 (ls) (xi 0 :: st) (M) Q := wp_const rfl
theorem w109_23 {ls st : List xV} {M : xM} {Q : Option xV → xM → Prop} {a : Int} {d : Nat} (hc : x_c d = 20) (hn : x_n d = 25) (h1 : 0 ≤ a) (h2 : a < 25) : Wp 109 23 (ls) (xi a :: xr d :: st) (M) Q = Wp 109 24 (ls) (xi (M d a) :: st) (M) Q := wp_ald rfl hc h1 (by rw [hn]; exact h2)
theorem w109_24 {ls st : List xV} {M : xM} {Q : Option xV → xM → Prop}  : Wp 109 24 (ls) (st) (M) Q = Wp 109 25 (ls) (xi 1 :: st) (M) Q := wp_const rfl
theorem w109_25 {ls st : List xV} {M : xM} {Q : Option xV → xM → Prop} {a : Int} {b : Int} : Wp 109 25 (ls) (xi b :: xi a :: st) (M) Q = Wp 109 26 (ls) (xi (a - b) :: st) (M) Q := wp_bin (f := xsub) rfl
theorem w109_26 {ls st : List xV} {M : xM} {Q : Option xV → xM → Prop}  : Wp 109 26 (ls) (st) (M) Q = Wp 109 30 (ls) (st) (M) Q := wp_goto rfl
theorem w109_29 {ls st : List xV} {M : xM} {Q : Option xV → xM → Prop}  : Wp 109 29 (ls) (st) (M) Q = Wp 109 30 (ls) (xi 1 :: st) (M) Q := wp_const rfl
theorem w109_30 {ls st : List xV} {M : xM} {Q : Option xV → xM → Prop} {a : Int} {b : Int} : Wp 109 30 (ls) (xi b :: xi a :: st) (M) Q = Wp 109 31 (ls) (xi (a + b) :: st) (M) Q := wp_bin (f := xadd) rfl
theorem w109_31 {ls st : List xV} {M : xM} {Q : Option xV → xM → Prop} {d : Nat} : Wp 109 31 (xr d :: ls) (st) (M) Q = Wp 109 32 (xr d :: ls) (xr d :: st) (M) Q := wp_aload rfl rfl
theorem w109_32 {ls st : List xV} {M : xM} {Q : Option xV → xM → Prop} {d : Nat} (hc : x_c d = 9) : Wp 109 32 (ls) (xr d :: st) (M) Q = Wp 109 35 (ls) (xr (x_r d 2) :: st) (M) Q := wp_getr rfl hc
theorem w109_35 {ls st : List xV} {M : xM} {Q : Option xV → xM → Prop}  : Wp 109 35 (ls) (st) (M) Q = Wp 109 36 (ls) (xi 0 :: st) (M) Q := wp_const rfl
theorem w109_36 {ls st : List xV} {M : xM} {Q : Option xV → xM → Prop} {a : Int} {d : Nat} (hc : x_c d = 20) (hn : x_n d = 25) (h1 : 0 ≤ a) (h2 : a < 25) : Wp 109 36 (ls) (xi a :: xr d :: st) (M) Q = Wp 109 37 (ls) (xi (M d a) :: st) (M) Q := wp_ald rfl hc h1 (by rw [hn]; exact h2)
theorem w109_37 {ls st : List xV} {M : xM} {Q : Option xV → xM → Prop} {a : Int} {b : Int} : Wp 109 37 (ls) (xi b :: xi a :: st) (M) Q = (¬ xn b = 0 ∧ Wp 109 38 (ls) (xi ((xn a).tmod (xn b)) :: st) (M) Q) := wp_rem rfl
theorem w109_38 {ls st : List xV} {M : xM} {Q : Option xV → xM → Prop} {a : Int} {v0 : xV} {v1 : xV} {v2 : xV} {w : xV} : Wp 109 38 (v0 :: v1 :: v2 :: w :: ls) (xi a :: st) (M) Q = Wp 109 39 (v0 :: v1 :: xjl v2 :: xi a :: ls) (st) (M) Q := wp_istore rfl rfl
theorem w109_39 {ls st : List xV} {M : xM} {Q : Option xV → xM → Prop} {d : Nat} : Wp 109 39 (xr d :: ls) (st) (M) Q = Wp 109 40 (xr d :: ls) (xr d :: st) (M) Q := wp_aload rfl rfl
theorem w109_40 {ls st : List xV} {M : xM} {Q : Option xV → xM → Prop} {a : Int} {v0 : xV} : Wp 109 40 (v0 :: xi a :: ls) (st) (M) Q = Wp 109 41 (v0 :: xi a :: ls) (xi a :: st) (M) Q := wp_iload rfl rfl
theorem w109_41 {ls st : List xV} {M : xM} {Q : Option xV → xM → Prop} {a : Int} {v0 : xV} {v1 : xV} {v2 : xV} : Wp 109 41 (v0 :: v1 :: v2 :: xi a :: ls) (st) (M) Q = Wp 109 42 (v0 :: v1 :: v2 :: xi a :: ls) (xi a :: st) (M) Q := wp_iload rfl rfl
theorem w109_42 {ls st : List xV} {M : xM} {Q : Option xV → xM → Prop} {a : Int} {v0 : xV} {v1 : xV} : Wp 109 42 (v0 :: v1 :: xi a :: ls) (st) (M) Q = Wp 109 43 (v0 :: v1 :: xi a :: ls) (xi a :: st) (M) Q := wp_iload rfl rfl
theorem w109_43 {ls : List xV} {M : xM} {Q : Option xV → xM → Prop} {a1 : Int} {a2 : Int} {a3 : Int} {d0 : Nat} (hc : x_c d0 = 9) : Wp 109 43 (ls) (xi a3 :: xi a2 :: xi a1 :: xr d0 :: []) (M) Q = Wc 107 [xr d0, xi a1, xi a2, xi a3] M (fun r M2 => Wp 109 46 (ls) (r.toList ++ ([])) M2 Q) := wp_cV rfl rfl hc (Nat.le_of_ble_eq_true rfl) (Nat.le_of_ble_eq_true rfl) rfl rfl
theorem w109_46 {ls st : List xV} {M : xM} {Q : Option xV → xM → Prop} {d : Nat} : Wp 109 46 (xr d :: ls) (st) (M) Q = Wp 109 47 (xr d :: ls) (xr d :: st) (M) Q := wp_aload rfl rfl
theorem w109_47 {ls st : List xV} {M : xM} {Q : Option xV → xM → Prop} {d : Nat} (hc : x_c d = 9) : Wp 109 47 (ls) (xr d :: st) (M) Q = Wp 109 50 (ls) (xr (x_r d 5) :: st) (M) Q := wp_getr rfl hc
theorem w109_50 {ls st : List xV} {M : xM} {Q : Option xV → xM → Prop}  : Wp 109 50 (ls) (st) (M) Q = Wp 109 52 (ls) (xi 6 :: st) (M) Q := wp_const rfl
theorem w109_52 {ls st : List xV} {M : xM} {Q : Option xV → xM → Prop} {a : Int} {d : Nat} (hc : x_c d = 20) (hn : x_n d = 7) (h1 : 0 ≤ a) (h2 : a < 7) : Wp 109 52 (ls) (xi a :: xr d :: st) (M) Q = Wp 109 53 (ls) (xi (M d a) :: st) (M) Q := wp_ald rfl hc h1 (by rw [hn]; exact h2)
theorem w109_53 {ls st : List xV} {M : xM} {Q : Option xV → xM → Prop} {a : Int} {v0 : xV} {v1 : xV} {v2 : xV} : Wp 109 53 (v0 :: v1 :: v2 :: xi a :: ls) (st) (M) Q = Wp 109 54 (v0 :: v1 :: v2 :: xi a :: ls) (xi a :: st) (M) Q := wp_iload rfl rfl
theorem w109_54 {ls st : List xV} {M : xM} {Q : Option xV → xM → Prop} {a : Int} {b : Int} : Wp 109 54 (ls) (xi b :: xi a :: st) (M) Q = Wp 109 55 (ls) (xi (xshr a b) :: st) (M) Q := wp_bin (f := xshr) rfl
theorem w109_55 {ls st : List xV} {M : xM} {Q : Option xV → xM → Prop}  : Wp 109 55 (ls) (st) (M) Q = Wp 109 56 (ls) (xi 1 :: st) (M) Q := wp_const rfl
theorem w109_56 {ls st : List xV} {M : xM} {Q : Option xV → xM → Prop} {a : Int} {b : Int} : Wp 109 56 (ls) (xi b :: xi a :: st) (M) Q = Wp 109 57 (ls) (xi (xand a b) :: st) (M) Q := wp_bin (f := xand) rfl
theorem w109_57 {ls st : List xV} {M : xM} {Q : Option xV → xM → Prop} {a : Int} {b : Int} (ha : xG a) (hb : xG b) : Wp 109 57 (ls) (xi b :: xi a :: st) (M) Q = ((a ≤ b → Wp 109 62 (ls) (st) (M) Q) ∧ (¬ (a ≤ b) → Wp 109 60 (ls) (st) (M) Q)) := wp_cmp_le rfl ha hb
theorem w109_60 {ls st : List xV} {M : xM} {Q : Option xV → xM → Prop}  : Wp 109 60 (ls) (st) (M) Q = Wp 109 61 (ls) (xi 0 :: st) (M) Q := wp_const rfl
theorem w109_61 {ls : List xV} {M : xM} {Q : Option xV → xM → Prop} {a : Int} (ha : a = 0 ∨ a = 1) : Wp 109 61 (ls) ([xi a]) (M) Q = Q (some (xi a)) M := wp_zret rfl ha
theorem w109_62 {ls st : List xV} {M : xM} {Q : Option xV → xM → Prop} {d : Nat} : Wp 109 62 (xr d :: ls) (st) (M) Q = Wp 109 63 (xr d :: ls) (xr d :: st) (M) Q := wp_aload rfl rfl
theorem w109_63 {ls st : List xV} {M : xM} {Q : Option xV → xM → Prop} {d : Nat} (hc : x_c d = 9) : Wp 109 63 (ls) (xr d :: st) (M) Q = Wp 109 66 (ls) (xr (x_r d 13) :: st) (M) Q := wp_getr rfl hc
theorem w109_66 {ls st : List xV} {M : xM} {Q : Option xV → xM → Prop} {a : Int} {v0 : xV} {v1 : xV} : Wp 109 66 (v0 :: v1 :: xi a :: ls) (st) (M) Q = Wp 109 67 (v0 :: v1 :: xi a :: ls) (xi a :: st) (M) Q := wp_iload rfl rfl
theorem w109_67 {ls st : List xV} {M : xM} {Q : Option xV → xM → Prop} {a : Int} {v0 : xV} : Wp 109 67 (v0 :: xi a :: ls) (st) (M) Q = Wp 109 68 (v0 :: xi a :: ls) (xi a :: st) (M) Q := wp_iload rfl rfl
theorem w109_68 {ls st : List xV} {M : xM} {Q : Option xV → xM → Prop} {a : Int} {b : Int} : Wp 109 68 (ls) (xi b :: xi a :: st) (M) Q = Wp 109 69 (ls) (xi (a + b) :: st) (M) Q := wp_bin (f := xadd) rfl
theorem w109_69 {ls st : List xV} {M : xM} {Q : Option xV → xM → Prop} {a : Int} {v0 : xV} {v1 : xV} {v2 : xV} : Wp 109 69 (v0 :: v1 :: v2 :: xi a :: ls) (st) (M) Q = Wp 109 70 (v0 :: v1 :: v2 :: xi a :: ls) (xi a :: st) (M) Q := wp_iload rfl rfl
theorem w109_70 {ls st : List xV} {M : xM} {Q : Option xV → xM → Prop} {a : Int} {d : Nat} {x : Int} (hc : x_c d = 20) (hn : x_n d = 305) (h1 : 0 ≤ a) (h2 : a < 305) : Wp 109 70 (ls) (xi x :: xi a :: xr d :: st) (M) Q = Wp 109 71 (ls) (st) (xup M d a x) Q := wp_iast rfl hc h1 (by rw [hn]; exact h2)
theorem w109_71 {ls st : List xV} {M : xM} {Q : Option xV → xM → Prop}  : Wp 109 71 (ls) (st) (M) Q = Wp 109 72 (ls) (xi 1 :: st) (M) Q := wp_const rfl
theorem w109_72 {ls : List xV} {M : xM} {Q : Option xV → xM → Prop} {a : Int} (ha : a = 0 ∨ a = 1) : Wp 109 72 (ls) ([xi a]) (M) Q = Q (some (xi a)) M := wp_zret rfl ha
theorem wc110 {M : xM} {Q : Option xV → xM → Prop} {d0 : Nat} {a1 : Int} {a2 : Int} {a3 : Int} : Wc 110 [xr d0, xi a1, xi a2, xi a3] M Q = Wp 110 0 [xr d0, xi a1, xi a2, xi a3, xj, xj, xj, xj, xj] [] M Q := rfl
theorem w110_0 {ls st : List xV} {M : xM} {Q : Option xV → xM → Prop} {d : Nat} : Wp 110 0 (xr d :: ls) (st) (M) Q = Wp 110 1 (xr d :: ls) (xr d :: st) (M) Q := wp_aload rfl rfl
theorem w110_1 {ls st : List xV} {M : xM} {Q : Option xV → xM → Prop} {d : Nat} (hc : x_c d = 9) : Wp 110 1 (ls) (xr d :: st) (M) Q = Wp 110 4 (ls) (xr (x_r d 2) :: st) (M) Q := wp_getr rfl hc
theorem w110_4 {ls st : List xV} {M : xM} {Q : Option xV → xM → Prop}  : Wp 110 4 (ls) (st) (M) Q = Wp 110 6 (ls) (xi 10 :: st) (M) Q := wp_const rfl
theorem w110_6 {ls st : List xV} {M : xM} {Q : Option xV → xM → Prop} {a : Int} {v0 : xV} : Wp 110 6 (v0 :: xi a :: ls) (st) (M) Q = Wp 110 7 (v0 :: xi a :: ls) (xi a :: st) (M) Q := wp_iload rfl rfl
theorem w110_7 {ls st : List xV} {M : xM} {Q : Option xV → xM → Prop} {a : Int} {b : Int} : Wp 110 7 (ls) (xi b :: xi a :: st) (M) Q = Wp 110 8 (ls) (xi (a + b) :: st) (M) Q := wp_bin (f := xadd) rfl
theorem w110_8 {ls st : List xV} {M : xM} {Q : Option xV → xM → Prop} {a : Int} {d : Nat} (hc : x_c d = 20) (hn : x_n d = 25) (h1 : 0 ≤ a) (h2 : a < 25) : Wp 110 8 (ls) (xi a :: xr d :: st) (M) Q = Wp 110 9 (ls) (xi (M d a) :: st) (M) Q := wp_ald rfl hc h1 (by rw [hn]; exact h2)
theorem w110_9 {ls st : List xV} {M : xM} {Q : Option xV → xM → Prop} {a : Int} {v0 : xV} {v1 : xV} {v2 : xV} {v3 : xV} {w : xV} : Wp 110 9 (v0 :: v1 :: v2 :: v3 :: w :: ls) (xi a :: st) (M) Q = Wp 110 11 (v0 :: v1 :: v2 :: xjl v3 :: xi a :: ls) (st) (M) Q := wp_istore rfl rfl
theorem w110_11 {ls st : List xV} {M : xM} {Q : Option xV → xM → Prop} {d : Nat} : Wp 110 11 (xr d :: ls) (st) (M) Q = Wp 110 12 (xr d :: ls) (xr d :: st) (M) Q := wp_aload rfl rfl
theorem w110_12 {ls st : List xV} {M : xM} {Q : Option xV → xM → Prop} {d : Nat} (hc : x_c d = 9) : Wp 110 12 (ls) (xr d :: st) (M) Q = Wp 110 15 (ls) (xi (M d 17) :: st) (M) Q := wp_getf rfl hc
theorem w110_15 {ls st : List xV} {M : xM} {Q : Option xV → xM → Prop} {a : Int} {v0 : xV} : Wp 110 15 (v0 :: xi a :: ls) (st) (M) Q = Wp 110 16 (v0 :: xi a :: ls) (xi a :: st) (M) Q := wp_iload rfl rfl
theorem w110_16 {ls st : List xV} {M : xM} {Q : Option xV → xM → Prop} {a : Int} {b : Int} : Wp 110 16 (ls) (xi b :: xi a :: st) (M) Q = Wp 110 17 (ls) (xi (xshr a b) :: st) (M) Q := wp_bin (f := xshr) rfl
theorem w110_17 {ls st : List xV} {M : xM} {Q : Option xV → xM → Prop}  : Wp 110 17 (ls) (st) (M) Q = Wp 110 18 (ls) (xi 1 :: st) (M) Q := wp_const rfl
theorem w110_18 {ls st : List xV} {M : xM} {Q : Option xV → xM → Prop} {a : Int} {b : Int} : Wp 110 18 (ls) (xi b :: xi a :: st) (M) Q = Wp 110 19 (ls) (xi (xand a b) :: st) (M) Q := wp_bin (f := xand) rfl
theorem w110_19 {ls st : List xV} {M : xM} {Q : Option xV → xM → Prop}  : Wp 110 19 (ls) (st) (M) Q = Wp 110 20 (ls) (xi 1 :: st) (M) Q := wp_const rfl
theorem w110_20 {ls st : List xV} {M : xM} {Q : Option xV → xM → Prop} {a : Int} {b : Int} (ha : xG a) (hb : xG b) : Wp 110 20 (ls) (xi b :: xi a :: st) (M) Q = ((¬ a = b → Wp 110 27 (ls) (st) (M) Q) ∧ (¬ (¬ a = b) → Wp 110 23 (ls) (st) (M) Q)) := wp_cmp_ne rfl ha hb
theorem w110_23 {ls st : List xV} {M : xM} {Q : Option xV → xM → Prop}  : Wp 110 23 (ls) (st) (M) Q = Wp 110 24 (ls) (xi 1 :: st) (M) Q := wp_const rfl
theorem w110_24 {ls st : List xV} {M : xM} {Q : Option xV → xM → Prop}  : Wp 110 24 (ls) (st) (M) Q = Wp 110 28 (ls) (st) (M) Q := wp_goto rfl
theorem w110_27 {ls st : List xV} {M : xM} {Q : Option xV → xM → Prop}  : Wp 110 27 (ls) (st) (M) Q = Wp 110 28 (ls) (xi 0 :: st) (M) Q := wp_const rfl
theorem w110_28 {ls st : List xV} {M : xM} {Q : Option xV → xM → Prop} {a : Int} {v0 : xV} {v1 : xV} {v2 : xV} {v3 : xV} {v4 : xV} {w : xV} : Wp 110 28 (v0 :: v1 :: v2 :: v3 :: v4 :: w :: ls) (xi a :: st) (M) Q = Wp 110 30 (v0 :: v1 :: v2 :: v3 :: xjl v4 :: xi a :: ls) (st) (M) Q := wp_istore rfl rfl
theorem w110_30 {ls st : List xV} {M : xM} {Q : Option xV → xM → Prop} {d : Nat} : Wp 110 30 (xr d :: ls) (st) (M) Q = Wp 110 31 (xr d :: ls) (xr d :: st) (M) Q := wp_aload rfl rfl
theorem w110_31 {ls st : List xV} {M : xM} {Q : Option xV → xM → Prop} {d : Nat} : Wp 110 31 (ls) (xr d :: st) (M) Q = Wp 110 32 (ls) (xr d :: xr d :: st) (M) Q := wp_dupA rfl
theorem w110_32 {ls st : List xV} {M : xM} {Q : Option xV → xM → Prop} {d : Nat} (hc : x_c d = 9) : Wp 110 32 (ls) (xr d :: st) (M) Q = Wp 110 35 (ls) (xi (M d 17) :: st) (M) Q := wp_getf rfl hc
theorem w110_35 {ls st : List xV} {M : xM} {Q : Option xV → xM → Prop}  : Wp 110 35 (ls) (st) (M) Q = Wp 110 36 (ls) (xi 1 :: st) (M) Q := wp_const rfl
theorem w110_36 {ls st : List xV} {M : xM} {Q : Option xV → xM → Prop} {a : Int} {v0 : xV} : Wp 110 36 (v0 :: xi a :: ls) (st) (M) Q = Wp 110 37 (v0 :: xi a :: ls) (xi a :: st) (M) Q := wp_iload rfl rfl
theorem w110_37 {ls st : List xV} {M : xM} {Q : Option xV → xM → Prop} {a : Int} {b : Int} : Wp 110 37 (ls) (xi b :: xi a :: st) (M) Q = Wp 110 38 (ls) (xi (xshl a b) :: st) (M) Q := wp_bin (f := xshl) rfl
theorem w110_38 {ls st : List xV} {M : xM} {Q : Option xV → xM → Prop}  : Wp 110 38 (ls) (st) (M) Q = Wp 110 39 (ls) (xi (-1) :: st) (M) Q := wp_const rfl
theorem w110_39 {ls st : List xV} {M : xM} {Q : Option xV → xM → Prop} {a : Int} {b : Int} : Wp 110 39 (ls) (xi b :: xi a :: st) (M) Q = Wp 110 40 (ls) (xi (xxor a b) :: st) (M) Q := wp_bin (f := xxor) rfl
theorem w110_40 {ls st : List xV} {M : xM} {Q : Option xV → xM → Prop} {a : Int} {b : Int} : Wp 110 40 (ls) (xi b :: xi a :: st) (M) Q = Wp 110 41 (ls) (xi (xand a b) :: st) (M) Q := wp_bin (f := xand) rfl
theorem w110_41 {ls st : List xV} {M : xM} {Q : Option xV → xM → Prop} {a : Int} {d : Nat} (hc : x_c d = 9) : Wp 110 41 (ls) (xi a :: xr d :: st) (M) Q = Wp 110 44 (ls) (st) (xup M d 17 a) Q := wp_putf rfl hc
theorem w110_44 {ls st : List xV} {M : xM} {Q : Option xV → xM → Prop} {a : Int} {v0 : xV} {v1 : xV} : Wp 110 44 (v0 :: v1 :: xi a :: ls) (st) (M) Q = Wp 110 45 (v0 :: v1 :: xi a :: ls) (xi a :: st) (M) Q := wp_iload rfl rfl
theorem w110_45 {ls st : List xV} {M : xM} {Q : Option xV → xM → Prop} {d : Nat} : Wp 110 45 (xr d :: ls) (st) (M) Q = Wp 110 46 (xr d :: ls) (xr d :: st) (M) Q := wp_aload rfl rfl
theorem w110_46 {ls st : List xV} {M : xM} {Q : Option xV → xM → Prop} {d : Nat} (hc : x_c d = 9) : Wp 110 46 (ls) (xr d :: st) (M) Q = Wp 110 49 (ls) (xr (x_r d 5) :: st) (M) Q := wp_getr rfl hc
theorem w110_49 {ls st : List xV} {M : xM} {Q : Option xV → xM → Prop} {a : Int} {v0 : xV} : Wp 110 49 (v0 :: xi a :: ls) (st) (M) Q = Wp 110 50 (v0 :: xi a :: ls) (xi a :: st) (M) Q := wp_iload rfl rfl
theorem w110_50 {ls st : List xV} {M : xM} {Q : Option xV → xM → Prop} {a : Int} {d : Nat} (hc : x_c d = 20) (hn : x_n d = 7) (h1 : 0 ≤ a) (h2 : a < 7) : Wp 110 50 (ls) (xi a :: xr d :: st) (M) Q = Wp 110 51 (ls) (xi (M d a) :: st) (M) Q := wp_ald rfl hc h1 (by rw [hn]; exact h2)
theorem w110_51 {ls st : List xV} {M : xM} {Q : Option xV → xM → Prop} {a : Int} {b : Int} (ha : xG a) (hb : xG b) : Wp 110 51 (ls) (xi b :: xi a :: st) (M) Q = ((a < b → Wp 110 87 (ls) (st) (M) Q) ∧ (¬ (a < b) → Wp 110 54 (ls) (st) (M) Q)) := wp_cmp_lt rfl ha hb
theorem w110_54 {ls st : List xV} {M : xM} {Q : Option xV → xM → Prop} {d : Nat} : Wp 110 54 (xr d :: ls) (st) (M) Q = Wp 110 55 (xr d :: ls) (xr d :: st) (M) Q := wp_aload rfl rfl
theorem w110_55 {ls st : List xV} {M : xM} {Q : Option xV → xM → Prop} {a : Int} {v0 : xV} : Wp 110 55 (v0 :: xi a :: ls) (st) (M) Q = Wp 110 56 (v0 :: xi a :: ls) (xi a :: st) (M) Q := wp_iload rfl rfl
theorem w110_56 {ls st : List xV} {M : xM} {Q : Option xV → xM → Prop} {a : Int} {v0 : xV} {v1 : xV} : Wp 110 56 (v0 :: v1 :: xi a :: ls) (st) (M) Q = Wp 110 57 (v0 :: v1 :: xi a :: ls) (xi a :: st) (M) Q := wp_iload rfl rfl
theorem w110_57 {ls : List xV} {M : xM} {Q : Option xV → xM → Prop} {a1 : Int} {a2 : Int} {d0 : Nat} (hc : x_c d0 = 9) : Wp 110 57 (ls) (xi a2 :: xi a1 :: xr d0 :: []) (M) Q = Wc 108 [xr d0, xi a1, xi a2] M (fun r M2 => Wp 110 60 (ls) (r.toList ++ ([])) M2 Q) := wp_cV rfl rfl hc (Nat.le_of_ble_eq_true rfl) (Nat.le_of_ble_eq_true rfl) rfl rfl
theorem w110_60 {ls st : List xV} {M : xM} {Q : Option xV → xM → Prop} {a : Int} (ha : xG a) : Wp 110 60 (ls) (xi a :: st) (M) Q = ((¬ a = 0 → Wp 110 87 (ls) (st) (M) Q) ∧ (¬ (¬ a = 0) → Wp 110 63 (ls) (st) (M) Q)) := wp_if_ne rfl ha
theorem w110_63 {ls st : List xV} {M : xM} {Q : Option xV → xM → Prop} {a : Int} {v0 : xV} {v1 : xV} {v2 : xV} {v3 : xV} : Wp 110 63 (v0 :: v1 :: v2 :: v3 :: xi a :: ls) (st) (M) Q = Wp 110 65 (v0 :: v1 :: v2 :: v3 :: xi a :: ls) (xi a :: st) (M) Q := wp_iload rfl rfl
theorem w110_65 {ls st : List xV} {M : xM} {Q : Option xV → xM → Prop}  : Wp 110 65 (ls) (st) (M) Q = Wp 110 66 (ls) (xi 1 :: st) (M) Q := wp_const rfl
theorem w110_66 {ls st : List xV} {M : xM} {Q : Option xV → xM → Prop} {a : Int} {b : Int} (ha : xG a) (hb : xG b) : Wp 110 66 (ls) (xi b :: xi a :: st) (M) Q = ((¬ a = b → Wp 110 76 (ls) (st) (M) Q) ∧ (¬ (¬ a = b) → Wp 110 69 (ls) (st) (M) Q)) := wp_cmp_ne rfl ha hb
theorem w110_69 {ls st : List xV} {M : xM} {Q : Option xV → xM → Prop} {a : Int} {v0 : xV} {v1 : xV} : Wp 110 69 (v0 :: v1 :: xi a :: ls) (st) (M) Q = Wp 110 70 (v0 :: v1 :: xi a :: ls) (xi a :: st) (M) Q := wp_iload rfl rfl
theorem w110_70 {ls st : List xV} {M : xM} {Q : Option xV → xM → Prop}  : Wp 110 70 (ls) (st) (M) Q = Wp 110 71 (ls) (xi 2 :: st) (M) Q := wp_const rfl
theorem w110_71 {ls st : List xV} {M : xM} {Q : Option xV → xM → Prop} {a : Int} {b : Int} : Wp 110 71 (ls) (xi b :: xi a :: st) (M) Q = (¬ xn b = 0 ∧ Wp 110 72 (ls) (xi ((xn a).tmod (xn b)) :: st) (M) Q) := wp_rem rfl
theorem w110_72 {ls st : List xV} {M : xM} {Q : Option xV → xM → Prop}  : Wp 110 72 (ls) (st) (M) Q = Wp 110 73 (ls) (xi 1 :: st) (M) Q := wp_const rfl
theorem w110_73 {ls st : List xV} {M : xM} {Q : Option xV → xM → Prop} {a : Int} {b : Int} (ha : xG a) (hb : xG b) : Wp 110 73 (ls) (xi b :: xi a :: st) (M) Q = ((a = b → Wp 110 87 (ls) (st) (M) Q) ∧ (¬ (a = b) → Wp 110 76 (ls) (st) (M) Q)) := wp_cmp_eq rfl ha hb
theorem w110_76 {ls st : List xV} {M : xM} {Q : Option xV → xM → Prop} {a : Int} {v0 : xV} {v1 : xV} {v2 : xV} {v3 : xV} : Wp 110 76 (v0 :: v1 :: v2 :: v3 :: xi a :: ls) (st) (M) Q = Wp 110 78 (v0 :: v1 :: v2 :: v3 :: xi a :: ls) (xi a :: st) (M) Q := wp_iload rfl rfl
theorem w110_78 {ls st : List xV} {M : xM} {Q : Option xV → xM → Prop}  : Wp 110 78 (ls) (st) (M) Q = Wp 110 79 (ls) (xi 2 :: st) (M) Q := wp_const rfl
theorem w110_79 {ls st : List xV} {M : xM} {Q : Option xV → xM → Prop} {a : Int} {b : Int} (ha : xG a) (hb : xG b) : Wp 110 79 (ls) (xi b :: xi a :: st) (M) Q = ((¬ a = b → Wp 110 88 (ls) (st) (M) Q) ∧ (¬ (¬ a = b) → Wp 110 82 (ls) (st) (M) Q)) := wp_cmp_ne rfl ha hb
theorem w110_82 {ls st : List xV} {M : xM} {Q : Option xV → xM → Prop} {a : Int} {v0 : xV} {v1 : xV} {v2 : xV} {v3 : xV} {v4 : xV} : Wp 110 82 (v0 :: v1 :: v2 :: v3 :: v4 :: xi a :: ls) (st) (M) Q = Wp 110 84 (v0 :: v1 :: v2 :: v3 :: v4 :: xi a :: ls) (xi a :: st) (M) Q := wp_iload rfl rfl
theorem w110_84 {ls st : List xV} {M : xM} {Q : Option xV → xM → Prop} {a : Int} (ha : xG a) : Wp 110 84 (ls) (xi a :: st) (M) Q = ((a = 0 → Wp 110 88 (ls) (st) (M) Q) ∧ (¬ (a = 0) → Wp 110 87 (ls) (st) (M) Q)) := wp_if_eq rfl ha
theorem w110_87 {ls : List xV} {M : xM} {Q : Option xV → xM → Prop}  : Wp 110 87 (ls) ([]) (M) Q = Q none M := wp_vret rfl
theorem w110_88 {ls st : List xV} {M : xM} {Q : Option xV → xM → Prop} {d : Nat} : Wp 110 88 (xr d :: ls) (st) (M) Q = Wp 110 89 (xr d :: ls) (xr d :: st) (M) Q := wp_aload rfl rfl
theorem w110_89 {ls st : List xV} {M : xM} {Q : Option xV → xM → Prop} {d : Nat} (hc : x_c d = 9) : Wp 110 89 (ls) (xr d :: st) (M) Q = Wp 110 92 (ls) (xr (x_r d 13) :: st) (M) Q := wp_getr rfl hc
theorem w110_92 {ls st : List xV} {M : xM} {Q : Option xV → xM → Prop} {a : Int} {v0 : xV} {v1 : xV} {v2 : xV} : Wp 110 92 (v0 :: v1 :: v2 :: xi a :: ls) (st) (M) Q = Wp 110 93 (v0 :: v1 :: v2 :: xi a :: ls) (xi a :: st) (M) Q := wp_iload rfl rfl
theorem w110_93 {ls st : List xV} {M : xM} {Q : Option xV → xM → Prop} {a : Int} {v0 : xV} : Wp 110 93 (v0 :: xi a :: ls) (st) (M) Q = Wp 110 94 (v0 :: xi a :: ls) (xi a :: st) (M) Q := wp_iload rfl rfl
theorem w110_94 {ls st : List xV} {M : xM} {Q : Option xV → xM → Prop} {a : Int} {b : Int} : Wp 110 94 (ls) (xi b :: xi a :: st) (M) Q = Wp 110 95 (ls) (xi (a + b) :: st) (M) Q := wp_bin (f := xadd) rfl
theorem w110_95 {ls st : List xV} {M : xM} {Q : Option xV → xM → Prop} {a : Int} {d : Nat} (hc : x_c d = 20) (hn : x_n d = 305) (h1 : 0 ≤ a) (h2 : a < 305) : Wp 110 95 (ls) (xi a :: xr d :: st) (M) Q = Wp 110 96 (ls) (xi (M d a) :: st) (M) Q := wp_ald rfl hc h1 (by rw [hn]; exact h2)
theorem w110_96 {ls st : List xV} {M : xM} {Q : Option xV → xM → Prop} {a : Int} {v0 : xV} {v1 : xV} {v2 : xV} {v3 : xV} {v4 : xV} {v5 : xV} {w : xV} : Wp 110 96 (v0 :: v1 :: v2 :: v3 :: v4 :: v5 :: w :: ls) (xi a :: st) (M) Q = Wp 110 98 (v0 :: v1 :: v2 :: v3 :: v4 :: xjl v5 :: xi a :: ls) (st) (M) Q := wp_istore rfl rfl
theorem w110_98 {ls st : List xV} {M : xM} {Q : Option xV → xM → Prop} {d : Nat} : Wp 110 98 (xr d :: ls) (st) (M) Q = Wp 110 99 (xr d :: ls) (xr d :: st) (M) Q := wp_aload rfl rfl
theorem w110_99 {ls st : List xV} {M : xM} {Q : Option xV → xM → Prop} {a : Int} {v0 : xV} : Wp 110 99 (v0 :: xi a :: ls) (st) (M) Q = Wp 110 100 (v0 :: xi a :: ls) (xi a :: st) (M) Q := wp_iload rfl rfl
theorem w110_100 {ls st : List xV} {M : xM} {Q : Option xV → xM → Prop} {a : Int} {v0 : xV} {v1 : xV} {v2 : xV} : Wp 110 100 (v0 :: v1 :: v2 :: xi a :: ls) (st) (M) Q = Wp 110 101 (v0 :: v1 :: v2 :: xi a :: ls) (xi a :: st) (M) Q := wp_iload rfl rfl
theorem w110_101 {ls : List xV} {M : xM} {Q : Option xV → xM → Prop} {a1 : Int} {a2 : Int} {d0 : Nat} (hc : x_c d0 = 9) : Wp 110 101 (ls) (xi a2 :: xi a1 :: xr d0 :: []) (M) Q = Wc 109 [xr d0, xi a1, xi a2] M (fun r M2 => Wp 110 104 (ls) (r.toList ++ ([])) M2 Q) := wp_cV rfl rfl hc (Nat.le_of_ble_eq_true rfl) (Nat.le_of_ble_eq_true rfl) rfl rfl
theorem w110_104 {ls st : List xV} {M : xM} {Q : Option xV → xM → Prop} {a : Int} {v0 : xV} {v1 : xV} {v2 : xV} {v3 : xV} {v4 : xV} {v5 : xV} {v6 : xV} {w : xV} : Wp 110 104 (v0 :: v1 :: v2 :: v3 :: v4 :: v5 :: v6 :: w :: ls) (xi a :: st) (M) Q = Wp 110 106 (v0 :: v1 :: v2 :: v3 :: v4 :: v5 :: xjl v6 :: xi a :: ls) (st) (M) Q := wp_istore rfl rfl
theorem w110_106 {ls st : List xV} {M : xM} {Q : Option xV → xM → Prop} {a : Int} {v0 : xV} {v1 : xV} {v2 : xV} {v3 : xV} {v4 : xV} {v5 : xV} {v6 : xV} : Wp 110 106 (v0 :: v1 :: v2 :: v3 :: v4 :: v5 :: v6 :: xi a :: ls) (st) (M) Q = Wp 110 108 (v0 :: v1 :: v2 :: v3 :: v4 :: v5 :: v6 :: xi a :: ls) (xi a :: st) (M) Q := wp_iload rfl rfl
theorem w110_108 {ls st : List xV} {M : xM} {Q : Option xV → xM → Prop} {a : Int} (ha : xG a) : Wp 110 108 (ls) (xi a :: st) (M) Q = ((a = 0 → Wp 110 130 (ls) (st) (M) Q) ∧ (¬ (a = 0) → Wp 110 111 (ls) (st) (M) Q)) := wp_if_eq rfl ha
theorem w110_111 {ls st : List xV} {M : xM} {Q : Option xV → xM → Prop} {a : Int} {v0 : xV} {v1 : xV} {v2 : xV} {v3 : xV} : Wp 110 111 (v0 :: v1 :: v2 :: v3 :: xi a :: ls) (st) (M) Q = Wp 110 113 (v0 :: v1 :: v2 :: v3 :: xi a :: ls) (xi a :: st) (M) Q := wp_iload rfl rfl
theorem w110_113 {ls st : List xV} {M : xM} {Q : Option xV → xM → Prop}  : Wp 110 113 (ls) (st) (M) Q = Wp 110 114 (ls) (xi 4 :: st) (M) Q := wp_const rfl
theorem w110_114 {ls st : List xV} {M : xM} {Q : Option xV → xM → Prop} {a : Int} {b : Int} (ha : xG a) (hb : xG b) : Wp 110 114 (ls) (xi b :: xi a :: st) (M) Q = ((¬ a = b → Wp 110 126 (ls) (st) (M) Q) ∧ (¬ (¬ a = b) → Wp 110 117 (ls) (st) (M) Q)) := wp_cmp_ne rfl ha hb
theorem w110_117 {ls st : List xV} {M : xM} {Q : Option xV → xM → Prop} {d : Nat} : Wp 110 117 (xr d :: ls) (st) (M) Q = Wp 110 118 (xr d :: ls) (xr d :: st) (M) Q := wp_aload rfl rfl
theorem w110_118 {ls st : List xV} {M : xM} {Q : Option xV → xM → Prop} {a : Int} {v0 : xV} : Wp 110 118 (v0 :: xi a :: ls) (st) (M) Q = Wp 110 119 (v0 :: xi a :: ls) (xi a :: st) (M) Q := wp_iload rfl rfl
theorem w110_119 {ls st : List xV} {M : xM} {Q : Option xV → xM → Prop} {a : Int} {v0 : xV} {v1 : xV} {v2 : xV} : Wp 110 119 (v0 :: v1 :: v2 :: xi a :: ls) (st) (M) Q = Wp 110 120 (v0 :: v1 :: v2 :: xi a :: ls) (xi a :: st) (M) Q := wp_iload rfl rfl
theorem w110_120 {ls : List xV} {M : xM} {Q : Option xV → xM → Prop} {a1 : Int} {a2 : Int} {d0 : Nat} (hc : x_c d0 = 9) : Wp 110 120 (ls) (xi a2 :: xi a1 :: xr d0 :: []) (M) Q = Wc 109 [xr d0, xi a1, xi a2] M (fun r M2 => Wp 110 123 (ls) (r.toList ++ ([])) M2 Q) := wp_cV rfl rfl hc (Nat.le_of_ble_eq_true rfl) (Nat.le_of_ble_eq_true rfl) rfl rfl
theorem w110_123 {ls st : List xV} {M : xM} {Q : Option xV → xM → Prop} {a : Int} (ha : xG a) : Wp 110 123 (ls) (xi a :: st) (M) Q = ((a = 0 → Wp 110 130 (ls) (st) (M) Q) ∧ (¬ (a = 0) → Wp 110 126 (ls) (st) (M) Q)) := wp_if_eq rfl ha
theorem w110_126 {ls st : List xV} {M : xM} {Q : Option xV → xM → Prop}  : Wp 110 126 (ls) (st) (M) Q = Wp 110 127 (ls) (xi 1 :: st) (M) Q := wp_const rfl
theorem w110_127 {ls st : List xV} {M : xM} {Q : Option xV → xM → Prop}  : Wp 110 127 (ls) (st) (M) Q = Wp 110 131 (ls) (st) (M) Q := wp_goto rfl
theorem w110_130 {ls st : List xV} {M : xM} {Q : Option xV → xM → Prop}  : Wp 110 130 (ls) (st) (M) Q = Wp 110 131 (ls) (xi 0 :: st) (M) Q := wp_const rfl
theorem w110_131 {ls st : List xV} {M : xM} {Q : Option xV → xM → Prop} {a : Int} {v0 : xV} {v1 : xV} {v2 : xV} {v3 : xV} {v4 : xV} {v5 : xV} {v6 : xV} {v7 : xV} {w : xV} : Wp 110 131 (v0 :: v1 :: v2 :: v3 :: v4 :: v5 :: v6 :: v7 :: w :: ls) (xi a :: st) (M) Q = Wp 110 133 (v0 :: v1 :: v2 :: v3 :: v4 :: v5 :: v6 :: xjl v7 :: xi a :: ls) (st) (M) Q := wp_istore rfl rfl
theorem w110_133 {ls st : List xV} {M : xM} {Q : Option xV → xM → Prop} {a : Int} {v0 : xV} {v1 : xV} {v2 : xV} {v3 : xV} {v4 : xV} {v5 : xV} {v6 : xV} {v7 : xV} : Wp 110 133 (v0 :: v1 :: v2 :: v3 :: v4 :: v5 :: v6 :: v7 :: xi a :: ls) (st) (M) Q = Wp 110 135 (v0 :: v1 :: v2 :: v3 :: v4 :: v5 :: v6 :: v7 :: xi a :: ls) (xi a :: st) (M) Q := wp_iload rfl rfl
theorem w110_135 {ls st : List xV} {M : xM} {Q : Option xV → xM → Prop} {a : Int} (ha : xG a) : Wp 110 135 (ls) (xi a :: st) (M) Q = ((¬ a = 0 → Wp 110 189 (ls) (st) (M) Q) ∧ (¬ (¬ a = 0) → Wp 110 138 (ls) (st) (M) Q)) := wp_if_ne rfl ha
theorem w110_138 {ls st : List xV} {M : xM} {Q : Option xV → xM → Prop} {d : Nat} : Wp 110 138 (xr d :: ls) (st) (M) Q = Wp 110 139 (xr d :: ls) (xr d :: st) (M) Q := wp_aload rfl rfl
theorem w110_139 {ls st : List xV} {M : xM} {Q : Option xV → xM → Prop} {d : Nat} (hc : x_c d = 9) : Wp 110 139 (ls) (xr d :: st) (M) Q = Wp 110 142 (ls) (xr (x_r d 14) :: st) (M) Q := wp_getr rfl hc
theorem w110_142 {ls st : List xV} {M : xM} {Q : Option xV → xM → Prop} {a : Int} {v0 : xV} {v1 : xV} {v2 : xV} : Wp 110 142 (v0 :: v1 :: v2 :: xi a :: ls) (st) (M) Q = Wp 110 143 (v0 :: v1 :: v2 :: xi a :: ls) (xi a :: st) (M) Q := wp_iload rfl rfl
theorem w110_143 {ls st : List xV} {M : xM} {Q : Option xV → xM → Prop} {a : Int} {v0 : xV} : Wp 110 143 (v0 :: xi a :: ls) (st) (M) Q = Wp 110 144 (v0 :: xi a :: ls) (xi a :: st) (M) Q := wp_iload rfl rfl
theorem w110_144 {ls st : List xV} {M : xM} {Q : Option xV → xM → Prop} {a : Int} {b : Int} : Wp 110 144 (ls) (xi b :: xi a :: st) (M) Q = Wp 110 145 (ls) (xi (a + b) :: st) (M) Q := wp_bin (f := xadd) rfl
theorem w110_145 {ls st : List xV} {M : xM} {Q : Option xV → xM → Prop} {a : Int} {d : Nat} : Wp 110 145 (ls) (xi a :: xr d :: st) (M) Q = Wp 110 146 (ls) (xi a :: xr d :: xi a :: xr d :: st) (M) Q := wp_dup2 rfl
theorem w110_146 {ls st : List xV} {M : xM} {Q : Option xV → xM → Prop} {a : Int} {d : Nat} (hc : x_c d = 20) (hn : x_n d = 305) (h1 : 0 ≤ a) (h2 : a < 305) : Wp 110 146 (ls) (xi a :: xr d :: st) (M) Q = Wp 110 147 (ls) (xi (M d a) :: st) (M) Q := wp_ald rfl hc h1 (by rw [hn]; exact h2)
theorem w110_147 {ls st : List xV} {M : xM} {Q : Option xV → xM → Prop}  : Wp 110 147 (ls) (st) (M) Q = Wp 110 148 (ls) (xi 1 :: st) (M) Q := wp_const rfl
theorem w110_148 {ls st : List xV} {M : xM} {Q : Option xV → xM → Prop} {a : Int} {b : Int} : Wp 110 148 (ls) (xi b :: xi a :: st) (M) Q = Wp 110 149 (ls) (xi (a + b) :: st) (M) Q := wp_bin (f := xadd) rfl
set_option maxRecDepth 20000 in
theorem w110_149 {ls st : List xV} {M : xM} {Q : Option xV → xM → Prop} {a : Int} {d : Nat} {x : Int} (hc : x_c d = 20) (hn : x_n d = 305) (h1 : 0 ≤ a) (h2 : a < 305) : Wp 110 149 (ls) (xi x :: xi a :: xr d :: st) (M) Q = Wp 110 150 (ls) (st) (xup M d a x) Q := wp_iast rfl hc h1 (by rw [hn]; exact h2)
set_option maxRecDepth 20000 in
theorem w110_150 {ls st : List xV} {M : xM} {Q : Option xV → xM → Prop} {d : Nat} : Wp 110 150 (xr d :: ls) (st) (M) Q = Wp 110 151 (xr d :: ls) (xr d :: st) (M) Q := wp_aload rfl rfl
set_option maxRecDepth 20000 in
theorem w110_151 {ls st : List xV} {M : xM} {Q : Option xV → xM → Prop} {d : Nat} : Wp 110 151 (ls) (xr d :: st) (M) Q = Wp 110 152 (ls) (xr d :: xr d :: st) (M) Q := wp_dupA rfl
set_option maxRecDepth 20000 in
theorem w110_152 {ls st : List xV} {M : xM} {Q : Option xV → xM → Prop} {d : Nat} (hc : x_c d = 9) : Wp 110 152 (ls) (xr d :: st) (M) Q = Wp 110 155 (ls) (xi (M d 19) :: st) (M) Q := wp_getf rfl hc
set_option maxRecDepth 20000 in
theorem w110_155 {ls st : List xV} {M : xM} {Q : Option xV → xM → Prop}  : Wp 110 155 (ls) (st) (M) Q = Wp 110 156 (ls) (xi 1 :: st) (M) Q := wp_const rfl
set_option maxRecDepth 20000 in
theorem w110_156 {ls st : List xV} {M : xM} {Q : Option xV → xM → Prop} {a : Int} {b : Int} : Wp 110 156 (ls) (xi b :: xi a :: st) (M) Q = Wp 110 157 (ls) (xi (a + b) :: st) (M) Q := wp_bin (f := xadd) rfl
set_option maxRecDepth 20000 in
theorem w110_157 {ls st : List xV} {M : xM} {Q : Option xV → xM → Prop} {a : Int} {d : Nat} (hc : x_c d = 9) : Wp 110 157 (ls) (xi a :: xr d :: st) (M) Q = Wp 110 160 (ls) (st) (xup M d 19 a) Q := wp_putf rfl hc
set_option maxRecDepth 20000 in
theorem w110_160 {ls st : List xV} {M : xM} {Q : Option xV → xM → Prop} {d : Nat} : Wp 110 160 (xr d :: ls) (st) (M) Q = Wp 110 161 (xr d :: ls) (xr d :: st) (M) Q := wp_aload rfl rfl
set_option maxRecDepth 20000 in
theorem w110_161 {ls st : List xV} {M : xM} {Q : Option xV → xM → Prop} {d : Nat} (hc : x_c d = 9) : Wp 110 161 (ls) (xr d :: st) (M) Q = Wp 110 164 (ls) (xr (x_r d 16) :: st) (M) Q := wp_getr rfl hc
set_option maxRecDepth 20000 in
theorem w110_164 {ls st : List xV} {M : xM} {Q : Option xV → xM → Prop} {a : Int} {v0 : xV} : Wp 110 164 (v0 :: xi a :: ls) (st) (M) Q = Wp 110 165 (v0 :: xi a :: ls) (xi a :: st) (M) Q := wp_iload rfl rfl
set_option maxRecDepth 20000 in
theorem w110_165 {ls st : List xV} {M : xM} {Q : Option xV → xM → Prop} {a : Int} {v0 : xV} {v1 : xV} {v2 : xV} {v3 : xV} : Wp 110 165 (v0 :: v1 :: v2 :: v3 :: xi a :: ls) (st) (M) Q = Wp 110 167 (v0 :: v1 :: v2 :: v3 :: xi a :: ls) (xi a :: st) (M) Q := wp_iload rfl rfl
set_option maxRecDepth 20000 in
theorem w110_167 {ls st : List xV} {M : xM} {Q : Option xV → xM → Prop}  : Wp 110 167 (ls) (st) (M) Q = Wp 110 168 (ls) (xi 3 :: st) (M) Q := wp_const rfl
set_option maxRecDepth 20000 in
theorem w110_168 {ls st : List xV} {M : xM} {Q : Option xV → xM → Prop} {a : Int} {b : Int} (ha : xG a) (hb : xG b) : Wp 110 168 (ls) (xi b :: xi a :: st) (M) Q = ((¬ a = b → Wp 110 182 (ls) (st) (M) Q) ∧ (¬ (¬ a = b) → Wp 110 171 (ls) (st) (M) Q)) := wp_cmp_ne rfl ha hb
set_option maxRecDepth 20000 in
theorem w110_171 {ls st : List xV} {M : xM} {Q : Option xV → xM → Prop}  : Wp 110 171 (ls) (st) (M) Q = Wp 110 172 (ls) (xi 1 :: st) (M) Q := wp_const rfl
set_option maxRecDepth 20000 in
theorem w110_172 {ls st : List xV} {M : xM} {Q : Option xV → xM → Prop} {d : Nat} : Wp 110 172 (xr d :: ls) (st) (M) Q = Wp 110 173 (xr d :: ls) (xr d :: st) (M) Q := wp_aload rfl rfl
set_option maxRecDepth 20000 in
theorem w110_173 {ls st : List xV} {M : xM} {Q : Option xV → xM → Prop} {d : Nat} (hc : x_c d = 9) : Wp 110 173 (ls) (xr d :: st) (M) Q = Wp 110 176 (ls) (xr (x_r d 16) :: st) (M) Q := wp_getr rfl hc
set_option maxRecDepth 20000 in
theorem w110_176 {ls st : List xV} {M : xM} {Q : Option xV → xM → Prop} {a : Int} {v0 : xV} : Wp 110 176 (v0 :: xi a :: ls) (st) (M) Q = Wp 110 177 (v0 :: xi a :: ls) (xi a :: st) (M) Q := wp_iload rfl rfl
set_option maxRecDepth 20000 in
theorem w110_177 {ls st : List xV} {M : xM} {Q : Option xV → xM → Prop} {a : Int} {d : Nat} (hc : x_c d = 20) (hn : x_n d = 5) (h1 : 0 ≤ a) (h2 : a < 5) : Wp 110 177 (ls) (xi a :: xr d :: st) (M) Q = Wp 110 178 (ls) (xi (M d a) :: st) (M) Q := wp_ald rfl hc h1 (by rw [hn]; exact h2)
set_option maxRecDepth 20000 in
theorem w110_178 {ls st : List xV} {M : xM} {Q : Option xV → xM → Prop} {a : Int} {b : Int} : Wp 110 178 (ls) (xi b :: xi a :: st) (M) Q = Wp 110 179 (ls) (xi (a - b) :: st) (M) Q := wp_bin (f := xsub) rfl
set_option maxRecDepth 20000 in
theorem w110_179 {ls st : List xV} {M : xM} {Q : Option xV → xM → Prop}  : Wp 110 179 (ls) (st) (M) Q = Wp 110 188 (ls) (st) (M) Q := wp_goto rfl
set_option maxRecDepth 20000 in
theorem w110_182 {ls st : List xV} {M : xM} {Q : Option xV → xM → Prop} {d : Nat} : Wp 110 182 (xr d :: ls) (st) (M) Q = Wp 110 183 (xr d :: ls) (xr d :: st) (M) Q := wp_aload rfl rfl
set_option maxRecDepth 20000 in
theorem w110_183 {ls st : List xV} {M : xM} {Q : Option xV → xM → Prop} {d : Nat} (hc : x_c d = 9) : Wp 110 183 (ls) (xr d :: st) (M) Q = Wp 110 186 (ls) (xr (x_r d 16) :: st) (M) Q := wp_getr rfl hc
set_option maxRecDepth 20000 in
theorem w110_186 {ls st : List xV} {M : xM} {Q : Option xV → xM → Prop} {a : Int} {v0 : xV} : Wp 110 186 (v0 :: xi a :: ls) (st) (M) Q = Wp 110 187 (v0 :: xi a :: ls) (xi a :: st) (M) Q := wp_iload rfl rfl
set_option maxRecDepth 20000 in
theorem w110_187 {ls st : List xV} {M : xM} {Q : Option xV → xM → Prop} {a : Int} {d : Nat} (hc : x_c d = 20) (hn : x_n d = 5) (h1 : 0 ≤ a) (h2 : a < 5) : Wp 110 187 (ls) (xi a :: xr d :: st) (M) Q = Wp 110 188 (ls) (xi (M d a) :: st) (M) Q := wp_ald rfl hc h1 (by rw [hn]; exact h2)
set_option maxRecDepth 20000 in
theorem w110_188 {ls st : List xV} {M : xM} {Q : Option xV → xM → Prop} {a : Int} {d : Nat} {x : Int} (hc : x_c d = 20) (hn : x_n d = 5) (h1 : 0 ≤ a) (h2 : a < 5) : Wp 110 188 (ls) (xi x :: xi a :: xr d :: st) (M) Q = Wp 110 189 (ls) (st) (xup M d a x) Q := wp_iast rfl hc h1 (by rw [hn]; exact h2)
set_option maxRecDepth 20000 in
theorem w110_189 {ls st : List xV} {M : xM} {Q : Option xV → xM → Prop} {d : Nat} : Wp 110 189 (xr d :: ls) (st) (M) Q = Wp 110 190 (xr d :: ls) (xr d :: st) (M) Q := wp_aload rfl rfl
set_option maxRecDepth 20000 in
theorem w110_190 {ls st : List xV} {M : xM} {Q : Option xV → xM → Prop} {d : Nat} : Wp 110 190 (ls) (xr d :: st) (M) Q = Wp 110 191 (ls) (xr d :: xr d :: st) (M) Q := wp_dupA rfl
set_option maxRecDepth 20000 in
theorem w110_191 {ls st : List xV} {M : xM} {Q : Option xV → xM → Prop} {d : Nat} (hc : x_c d = 9) : Wp 110 191 (ls) (xr d :: st) (M) Q = Wp 110 194 (ls) (xi (M d 17) :: st) (M) Q := wp_getf rfl hc
set_option maxRecDepth 20000 in
theorem w110_194 {ls st : List xV} {M : xM} {Q : Option xV → xM → Prop} {a : Int} {v0 : xV} {v1 : xV} {v2 : xV} {v3 : xV} : Wp 110 194 (v0 :: v1 :: v2 :: v3 :: xi a :: ls) (st) (M) Q = Wp 110 196 (v0 :: v1 :: v2 :: v3 :: xi a :: ls) (xi a :: st) (M) Q := wp_iload rfl rfl
set_option maxRecDepth 20000 in
theorem w110_196 {ls st : List xV} {M : xM} {Q : Option xV → xM → Prop}  : Wp 110 196 (ls) (st) (M) Q = Wp 110 197 (ls) (xi 2 :: st) (M) Q := wp_const rfl
set_option maxRecDepth 20000 in
theorem w110_197 {ls st : List xV} {M : xM} {Q : Option xV → xM → Prop} {a : Int} {b : Int} (ha : xG a) (hb : xG b) : Wp 110 197 (ls) (xi b :: xi a :: st) (M) Q = ((¬ a = b → Wp 110 226 (ls) (st) (M) Q) ∧ (¬ (¬ a = b) → Wp 110 200 (ls) (st) (M) Q)) := wp_cmp_ne rfl ha hb
set_option maxRecDepth 20000 in
theorem w110_200 {ls st : List xV} {M : xM} {Q : Option xV → xM → Prop} {a : Int} {v0 : xV} {v1 : xV} {v2 : xV} {v3 : xV} {v4 : xV} {v5 : xV} {v6 : xV} : Wp 110 200 (v0 :: v1 :: v2 :: v3 :: v4 :: v5 :: v6 :: xi a :: ls) (st) (M) Q = Wp 110 202 (v0 :: v1 :: v2 :: v3 :: v4 :: v5 :: v6 :: xi a :: ls) (xi a :: st) (M) Q := wp_iload rfl rfl
set_option maxRecDepth 20000 in
theorem w110_202 {ls st : List xV} {M : xM} {Q : Option xV → xM → Prop} {a : Int} (ha : xG a) : Wp 110 202 (ls) (xi a :: st) (M) Q = ((a = 0 → Wp 110 226 (ls) (st) (M) Q) ∧ (¬ (a = 0) → Wp 110 205 (ls) (st) (M) Q)) := wp_if_eq rfl ha
set_option maxRecDepth 20000 in
theorem w110_205 {ls st : List xV} {M : xM} {Q : Option xV → xM → Prop} {d : Nat} : Wp 110 205 (xr d :: ls) (st) (M) Q = Wp 110 206 (xr d :: ls) (xr d :: st) (M) Q := wp_aload rfl rfl
set_option maxRecDepth 20000 in
theorem w110_206 {ls st : List xV} {M : xM} {Q : Option xV → xM → Prop} {d : Nat} : Wp 110 206 (xr d :: ls) (st) (M) Q = Wp 110 207 (xr d :: ls) (xr d :: st) (M) Q := wp_aload rfl rfl
set_option maxRecDepth 20000 in
theorem w110_207 {ls st : List xV} {M : xM} {Q : Option xV → xM → Prop} {d : Nat} (hc : x_c d = 9) : Wp 110 207 (ls) (xr d :: st) (M) Q = Wp 110 210 (ls) (xr (x_r d 13) :: st) (M) Q := wp_getr rfl hc
set_option maxRecDepth 20000 in
theorem w110_210 {ls st : List xV} {M : xM} {Q : Option xV → xM → Prop} {a : Int} {v0 : xV} {v1 : xV} {v2 : xV} : Wp 110 210 (v0 :: v1 :: v2 :: xi a :: ls) (st) (M) Q = Wp 110 211 (v0 :: v1 :: v2 :: xi a :: ls) (xi a :: st) (M) Q := wp_iload rfl rfl
set_option maxRecDepth 20000 in
theorem w110_211 {ls st : List xV} {M : xM} {Q : Option xV → xM → Prop} {a : Int} {v0 : xV} : Wp 110 211 (v0 :: xi a :: ls) (st) (M) Q = Wp 110 212 (v0 :: xi a :: ls) (xi a :: st) (M) Q := wp_iload rfl rfl
set_option maxRecDepth 20000 in
theorem w110_212 {ls st : List xV} {M : xM} {Q : Option xV → xM → Prop} {a : Int} {b : Int} : Wp 110 212 (ls) (xi b :: xi a :: st) (M) Q = Wp 110 213 (ls) (xi (a + b) :: st) (M) Q := wp_bin (f := xadd) rfl
set_option maxRecDepth 20000 in
theorem w110_213 {ls st : List xV} {M : xM} {Q : Option xV → xM → Prop} {a : Int} {d : Nat} (hc : x_c d = 20) (hn : x_n d = 305) (h1 : 0 ≤ a) (h2 : a < 305) : Wp 110 213 (ls) (xi a :: xr d :: st) (M) Q = Wp 110 214 (ls) (xi (M d a) :: st) (M) Q := wp_ald rfl hc h1 (by rw [hn]; exact h2)
set_option maxRecDepth 20000 in
theorem w110_214 {ls : List xV} {M : xM} {Q : Option xV → xM → Prop} {a1 : Int} {d0 : Nat} {s0 : xV} {s1 : xV} (hc : x_c d0 = 9) : Wp 110 214 (ls) (xi a1 :: xr d0 :: s0 :: s1 :: []) (M) Q = Wc 106 [xr d0, xi a1] M (fun r M2 => Wp 110 217 (ls) (r.toList ++ (s0 :: s1 :: [])) M2 Q) := wp_cV rfl rfl hc (Nat.le_of_ble_eq_true rfl) (Nat.le_of_ble_eq_true rfl) rfl rfl
set_option maxRecDepth 20000 in
theorem w110_217 {ls st : List xV} {M : xM} {Q : Option xV → xM → Prop} {a : Int} (ha : xG a) : Wp 110 217 (ls) (xi a :: st) (M) Q = ((a = 0 → Wp 110 226 (ls) (st) (M) Q) ∧ (¬ (a = 0) → Wp 110 220 (ls) (st) (M) Q)) := wp_if_eq rfl ha
set_option maxRecDepth 20000 in
theorem w110_220 {ls st : List xV} {M : xM} {Q : Option xV → xM → Prop}  : Wp 110 220 (ls) (st) (M) Q = Wp 110 221 (ls) (xi 1 :: st) (M) Q := wp_const rfl
set_option maxRecDepth 20000 in
theorem w110_221 {ls st : List xV} {M : xM} {Q : Option xV → xM → Prop} {a : Int} {v0 : xV} : Wp 110 221 (v0 :: xi a :: ls) (st) (M) Q = Wp 110 222 (v0 :: xi a :: ls) (xi a :: st) (M) Q := wp_iload rfl rfl
set_option maxRecDepth 20000 in
theorem w110_222 {ls st : List xV} {M : xM} {Q : Option xV → xM → Prop} {a : Int} {b : Int} : Wp 110 222 (ls) (xi b :: xi a :: st) (M) Q = Wp 110 223 (ls) (xi (xshl a b) :: st) (M) Q := wp_bin (f := xshl) rfl
set_option maxRecDepth 20000 in
theorem w110_223 {ls st : List xV} {M : xM} {Q : Option xV → xM → Prop}  : Wp 110 223 (ls) (st) (M) Q = Wp 110 227 (ls) (st) (M) Q := wp_goto rfl
set_option maxRecDepth 20000 in
theorem w110_226 {ls st : List xV} {M : xM} {Q : Option xV → xM → Prop}  : Wp 110 226 (ls) (st) (M) Q = Wp 110 227 (ls) (xi 0 :: st) (M) Q := wp_const rfl
set_option maxRecDepth 20000 in
theorem w110_227 {ls st : List xV} {M : xM} {Q : Option xV → xM → Prop} {a : Int} {b : Int} : Wp 110 227 (ls) (xi b :: xi a :: st) (M) Q = Wp 110 228 (ls) (xi (xor_ a b) :: st) (M) Q := wp_bin (f := xor_) rfl
set_option maxRecDepth 20000 in
theorem w110_228 {ls st : List xV} {M : xM} {Q : Option xV → xM → Prop} {a : Int} {d : Nat} (hc : x_c d = 9) : Wp 110 228 (ls) (xi a :: xr d :: st) (M) Q = Wp 110 231 (ls) (st) (xup M d 17 a) Q := wp_putf rfl hc
set_option maxRecDepth 20000 in
theorem w110_231 {ls st : List xV} {M : xM} {Q : Option xV → xM → Prop} {d : Nat} : Wp 110 231 (xr d :: ls) (st) (M) Q = Wp 110 232 (xr d :: ls) (xr d :: st) (M) Q := wp_aload rfl rfl
set_option maxRecDepth 20000 in
theorem w110_232 {ls st : List xV} {M : xM} {Q : Option xV → xM → Prop} {d : Nat} : Wp 110 232 (ls) (xr d :: st) (M) Q = Wp 110 233 (ls) (xr d :: xr d :: st) (M) Q := wp_dupA rfl
set_option maxRecDepth 20000 in
theorem w110_233 {ls st : List xV} {M : xM} {Q : Option xV → xM → Prop} {d : Nat} (hc : x_c d = 9) : Wp 110 233 (ls) (xr d :: st) (M) Q = Wp 110 236 (ls) (xi (M d 18) :: st) (M) Q := wp_getf rfl hc
set_option maxRecDepth 20000 in
theorem w110_236 {ls st : List xV} {M : xM} {Q : Option xV → xM → Prop} {a : Int} {v0 : xV} {v1 : xV} : Wp 110 236 (v0 :: v1 :: xi a :: ls) (st) (M) Q = Wp 110 237 (v0 :: v1 :: xi a :: ls) (xi a :: st) (M) Q := wp_iload rfl rfl
set_option maxRecDepth 20000 in
theorem w110_237 {ls st : List xV} {M : xM} {Q : Option xV → xM → Prop}  : Wp 110 237 (ls) (st) (M) Q = Wp 110 239 (ls) (xi 30 :: st) (M) Q := wp_const rfl
set_option maxRecDepth 20000 in
theorem w110_239 {ls st : List xV} {M : xM} {Q : Option xV → xM → Prop} {a : Int} {b : Int} (ha : xG a) (hb : xG b) : Wp 110 239 (ls) (xi b :: xi a :: st) (M) Q = ((a ≤ b → Wp 110 261 (ls) (st) (M) Q) ∧ (¬ (a ≤ b) → Wp 110 242 (ls) (st) (M) Q)) := wp_cmp_le rfl ha hb
set_option maxRecDepth 20000 in
theorem w110_242 {ls st : List xV} {M : xM} {Q : Option xV → xM → Prop} {d : Nat} : Wp 110 242 (xr d :: ls) (st) (M) Q = Wp 110 243 (xr d :: ls) (xr d :: st) (M) Q := wp_aload rfl rfl
set_option maxRecDepth 20000 in
theorem w110_243 {ls st : List xV} {M : xM} {Q : Option xV → xM → Prop} {d : Nat} (hc : x_c d = 9) : Wp 110 243 (ls) (xr d :: st) (M) Q = Wp 110 246 (ls) (xr (x_r d 13) :: st) (M) Q := wp_getr rfl hc
set_option maxRecDepth 20000 in
theorem w110_246 {ls st : List xV} {M : xM} {Q : Option xV → xM → Prop} {a : Int} {v0 : xV} {v1 : xV} {v2 : xV} : Wp 110 246 (v0 :: v1 :: v2 :: xi a :: ls) (st) (M) Q = Wp 110 247 (v0 :: v1 :: v2 :: xi a :: ls) (xi a :: st) (M) Q := wp_iload rfl rfl
set_option maxRecDepth 20000 in
theorem w110_247 {ls st : List xV} {M : xM} {Q : Option xV → xM → Prop} {a : Int} {v0 : xV} : Wp 110 247 (v0 :: xi a :: ls) (st) (M) Q = Wp 110 248 (v0 :: xi a :: ls) (xi a :: st) (M) Q := wp_iload rfl rfl
set_option maxRecDepth 20000 in
theorem w110_248 {ls st : List xV} {M : xM} {Q : Option xV → xM → Prop} {a : Int} {b : Int} : Wp 110 248 (ls) (xi b :: xi a :: st) (M) Q = Wp 110 249 (ls) (xi (a + b) :: st) (M) Q := wp_bin (f := xadd) rfl
set_option maxRecDepth 20000 in
theorem w110_249 {ls st : List xV} {M : xM} {Q : Option xV → xM → Prop} {a : Int} {d : Nat} (hc : x_c d = 20) (hn : x_n d = 305) (h1 : 0 ≤ a) (h2 : a < 305) : Wp 110 249 (ls) (xi a :: xr d :: st) (M) Q = Wp 110 250 (ls) (xi (M d a) :: st) (M) Q := wp_ald rfl hc h1 (by rw [hn]; exact h2)
set_option maxRecDepth 20000 in
theorem w110_250 {ls st : List xV} {M : xM} {Q : Option xV → xM → Prop} {a : Int} {v0 : xV} {v1 : xV} {v2 : xV} {v3 : xV} {v4 : xV} {v5 : xV} : Wp 110 250 (v0 :: v1 :: v2 :: v3 :: v4 :: v5 :: xi a :: ls) (st) (M) Q = Wp 110 252 (v0 :: v1 :: v2 :: v3 :: v4 :: v5 :: xi a :: ls) (xi a :: st) (M) Q := wp_iload rfl rfl
set_option maxRecDepth 20000 in
theorem w110_252 {ls st : List xV} {M : xM} {Q : Option xV → xM → Prop} {a : Int} {b : Int} (ha : xG a) (hb : xG b) : Wp 110 252 (ls) (xi b :: xi a :: st) (M) Q = ((a = b → Wp 110 261 (ls) (st) (M) Q) ∧ (¬ (a = b) → Wp 110 255 (ls) (st) (M) Q)) := wp_cmp_eq rfl ha hb
set_option maxRecDepth 20000 in
theorem w110_255 {ls st : List xV} {M : xM} {Q : Option xV → xM → Prop}  : Wp 110 255 (ls) (st) (M) Q = Wp 110 256 (ls) (xi 1 :: st) (M) Q := wp_const rfl
set_option maxRecDepth 20000 in
theorem w110_256 {ls st : List xV} {M : xM} {Q : Option xV → xM → Prop} {a : Int} {v0 : xV} : Wp 110 256 (v0 :: xi a :: ls) (st) (M) Q = Wp 110 257 (v0 :: xi a :: ls) (xi a :: st) (M) Q := wp_iload rfl rfl
set_option maxRecDepth 20000 in
theorem w110_257 {ls st : List xV} {M : xM} {Q : Option xV → xM → Prop} {a : Int} {b : Int} : Wp 110 257 (ls) (xi b :: xi a :: st) (M) Q = Wp 110 258 (ls) (xi (xshl a b) :: st) (M) Q := wp_bin (f := xshl) rfl
set_option maxRecDepth 20000 in
theorem w110_258 {ls st : List xV} {M : xM} {Q : Option xV → xM → Prop}  : Wp 110 258 (ls) (st) (M) Q = Wp 110 262 (ls) (st) (M) Q := wp_goto rfl
set_option maxRecDepth 20000 in
theorem w110_261 {ls st : List xV} {M : xM} {Q : Option xV → xM → Prop}  : Wp 110 261 (ls) (st) (M) Q = Wp 110 262 (ls) (xi 0 :: st) (M) Q := wp_const rfl
set_option maxRecDepth 20000 in
theorem w110_262 {ls st : List xV} {M : xM} {Q : Option xV → xM → Prop} {a : Int} {b : Int} : Wp 110 262 (ls) (xi b :: xi a :: st) (M) Q = Wp 110 263 (ls) (xi (xor_ a b) :: st) (M) Q := wp_bin (f := xor_) rfl
set_option maxRecDepth 20000 in
theorem w110_263 {ls st : List xV} {M : xM} {Q : Option xV → xM → Prop} {a : Int} {d : Nat} (hc : x_c d = 9) : Wp 110 263 (ls) (xi a :: xr d :: st) (M) Q = Wp 110 266 (ls) (st) (xup M d 18 a) Q := wp_putf rfl hc
set_option maxRecDepth 20000 in
theorem w110_266 {ls : List xV} {M : xM} {Q : Option xV → xM → Prop}  : Wp 110 266 (ls) ([]) (M) Q = Q none M := wp_vret rfl
theorem wc111 {M : xM} {Q : Option xV → xM → Prop} {d0 : Nat} {a1 : Int} : Wc 111 [xr d0, xi a1] M Q = Wp 111 0 [xr d0, xi a1, xj] [] M Q := rfl
theorem w111_0 {ls st : List xV} {M : xM} {Q : Option xV → xM → Prop}  : Wp 111 0 (ls) (st) (M) Q = Wp 111 1 (ls) (xi 0 :: st) (M) Q := wp_const rfl
theorem w111_1 {ls st : List xV} {M : xM} {Q : Option xV → xM → Prop} {a : Int} {v0 : xV} {v1 : xV} {w : xV} : Wp 111 1 (v0 :: v1 :: w :: ls) (xi a :: st) (M) Q = Wp 111 2 (v0 :: xjl v1 :: xi a :: ls) (st) (M) Q := wp_istore rfl rfl
theorem w111_2 {ls st : List xV} {M : xM} {Q : Option xV → xM → Prop} {a : Int} {v0 : xV} {v1 : xV} : Wp 111 2 (v0 :: v1 :: xi a :: ls) (st) (M) Q = Wp 111 3 (v0 :: v1 :: xi a :: ls) (xi a :: st) (M) Q := wp_iload rfl rfl
theorem w111_3 {ls st : List xV} {M : xM} {Q : Option xV → xM → Prop} {d : Nat} : Wp 111 3 (xr d :: ls) (st) (M) Q = Wp 111 4 (xr d :: ls) (xr d :: st) (M) Q := wp_aload rfl rfl
theorem w111_4 {ls st : List xV} {M : xM} {Q : Option xV → xM → Prop} {d : Nat} (hc : x_c d = 9) : Wp 111 4 (ls) (xr d :: st) (M) Q = Wp 111 7 (ls) (xr (x_r d 2) :: st) (M) Q := wp_getr rfl hc
theorem w111_7 {ls st : List xV} {M : xM} {Q : Option xV → xM → Prop}  : Wp 111 7 (ls) (st) (M) Q = Wp 111 8 (ls) (xi 2 :: st) (M) Q := wp_const rfl
theorem w111_8 {ls st : List xV} {M : xM} {Q : Option xV → xM → Prop} {a : Int} {d : Nat} (hc : x_c d = 20) (hn : x_n d = 25) (h1 : 0 ≤ a) (h2 : a < 25) : Wp 111 8 (ls) (xi a :: xr d :: st) (M) Q = Wp 111 9 (ls) (xi (M d a) :: st) (M) Q := wp_ald rfl hc h1 (by rw [hn]; exact h2)
theorem w111_9 {ls st : List xV} {M : xM} {Q : Option xV → xM → Prop} {a : Int} {b : Int} (ha : xG a) (hb : xG b) : Wp 111 9 (ls) (xi b :: xi a :: st) (M) Q = ((b ≤ a → Wp 111 72 (ls) (st) (M) Q) ∧ (¬ (b ≤ a) → Wp 111 12 (ls) (st) (M) Q)) := wp_cmp_ge rfl ha hb
theorem w111_12 {ls st : List xV} {M : xM} {Q : Option xV → xM → Prop} {d : Nat} : Wp 111 12 (xr d :: ls) (st) (M) Q = Wp 111 13 (xr d :: ls) (xr d :: st) (M) Q := wp_aload rfl rfl
theorem w111_13 {ls st : List xV} {M : xM} {Q : Option xV → xM → Prop} {d : Nat} (hc : x_c d = 9) : Wp 111 13 (ls) (xr d :: st) (M) Q = Wp 111 16 (ls) (xr (x_r d 15) :: st) (M) Q := wp_getr rfl hc
theorem w111_16 {ls st : List xV} {M : xM} {Q : Option xV → xM → Prop} {a : Int} {v0 : xV} : Wp 111 16 (v0 :: xi a :: ls) (st) (M) Q = Wp 111 17 (v0 :: xi a :: ls) (xi a :: st) (M) Q := wp_iload rfl rfl
theorem w111_17 {ls st : List xV} {M : xM} {Q : Option xV → xM → Prop} {a : Int} {v0 : xV} {v1 : xV} : Wp 111 17 (v0 :: v1 :: xi a :: ls) (st) (M) Q = Wp 111 18 (v0 :: v1 :: xi a :: ls) (xi a :: st) (M) Q := wp_iload rfl rfl
theorem w111_18 {ls st : List xV} {M : xM} {Q : Option xV → xM → Prop} {a : Int} {b : Int} : Wp 111 18 (ls) (xi b :: xi a :: st) (M) Q = Wp 111 19 (ls) (xi (a + b) :: st) (M) Q := wp_bin (f := xadd) rfl
theorem w111_19 {ls st : List xV} {M : xM} {Q : Option xV → xM → Prop} {a : Int} {d : Nat} : Wp 111 19 (ls) (xi a :: xr d :: st) (M) Q = Wp 111 20 (ls) (xi a :: xr d :: xi a :: xr d :: st) (M) Q := wp_dup2 rfl
theorem w111_20 {ls st : List xV} {M : xM} {Q : Option xV → xM → Prop} {a : Int} {d : Nat} (hc : x_c d = 20) (hn : x_n d = 305) (h1 : 0 ≤ a) (h2 : a < 305) : Wp 111 20 (ls) (xi a :: xr d :: st) (M) Q = Wp 111 21 (ls) (xi (M d a) :: st) (M) Q := wp_ald rfl hc h1 (by rw [hn]; exact h2)
theorem w111_21 {ls st : List xV} {M : xM} {Q : Option xV → xM → Prop} {d : Nat} : Wp 111 21 (xr d :: ls) (st) (M) Q = Wp 111 22 (xr d :: ls) (xr d :: st) (M) Q := wp_aload rfl rfl
theorem w111_22 {ls st : List xV} {M : xM} {Q : Option xV → xM → Prop} {d : Nat} (hc : x_c d = 9) : Wp 111 22 (ls) (xr d :: st) (M) Q = Wp 111 25 (ls) (xr (x_r d 2) :: st) (M) Q := wp_getr rfl hc
theorem w111_25 {ls st : List xV} {M : xM} {Q : Option xV → xM → Prop}  : Wp 111 25 (ls) (st) (M) Q = Wp 111 26 (ls) (xi 3 :: st) (M) Q := wp_const rfl
theorem w111_26 {ls st : List xV} {M : xM} {Q : Option xV → xM → Prop} {a : Int} {d : Nat} (hc : x_c d = 20) (hn : x_n d = 25) (h1 : 0 ≤ a) (h2 : a < 25) : Wp 111 26 (ls) (xi a :: xr d :: st) (M) Q = Wp 111 27 (ls) (xi (M d a) :: st) (M) Q := wp_ald rfl hc h1 (by rw [hn]; exact h2)
theorem w111_27 {ls st : List xV} {M : xM} {Q : Option xV → xM → Prop} {d : Nat} : Wp 111 27 (xr d :: ls) (st) (M) Q = Wp 111 28 (xr d :: ls) (xr d :: st) (M) Q := wp_aload rfl rfl
theorem w111_28 {ls st : List xV} {M : xM} {Q : Option xV → xM → Prop} {d : Nat} (hc : x_c d = 9) : Wp 111 28 (ls) (xr d :: st) (M) Q = Wp 111 31 (ls) (xr (x_r d 13) :: st) (M) Q := wp_getr rfl hc
theorem w111_31 {ls st : List xV} {M : xM} {Q : Option xV → xM → Prop} {a : Int} {v0 : xV} : Wp 111 31 (v0 :: xi a :: ls) (st) (M) Q = Wp 111 32 (v0 :: xi a :: ls) (xi a :: st) (M) Q := wp_iload rfl rfl
theorem w111_32 {ls st : List xV} {M : xM} {Q : Option xV → xM → Prop} {a : Int} {v0 : xV} {v1 : xV} : Wp 111 32 (v0 :: v1 :: xi a :: ls) (st) (M) Q = Wp 111 33 (v0 :: v1 :: xi a :: ls) (xi a :: st) (M) Q := wp_iload rfl rfl
theorem w111_33 {ls st : List xV} {M : xM} {Q : Option xV → xM → Prop} {a : Int} {b : Int} : Wp 111 33 (ls) (xi b :: xi a :: st) (M) Q = Wp 111 34 (ls) (xi (a + b) :: st) (M) Q := wp_bin (f := xadd) rfl
theorem w111_34 {ls st : List xV} {M : xM} {Q : Option xV → xM → Prop} {a : Int} {d : Nat} (hc : x_c d = 20) (hn : x_n d = 305) (h1 : 0 ≤ a) (h2 : a < 305) : Wp 111 34 (ls) (xi a :: xr d :: st) (M) Q = Wp 111 35 (ls) (xi (M d a) :: st) (M) Q := wp_ald rfl hc h1 (by rw [hn]; exact h2)
theorem w111_35 {ls st : List xV} {M : xM} {Q : Option xV → xM → Prop} {a : Int} {b : Int} : Wp 111 35 (ls) (xi b :: xi a :: st) (M) Q = Wp 111 36 (ls) (xi (xshr a b) :: st) (M) Q := wp_bin (f := xshr) rfl
theorem w111_36 {ls st : List xV} {M : xM} {Q : Option xV → xM → Prop}  : Wp 111 36 (ls) (st) (M) Q = Wp 111 37 (ls) (xi 1 :: st) (M) Q := wp_const rfl
theorem w111_37 {ls st : List xV} {M : xM} {Q : Option xV → xM → Prop} {a : Int} {b : Int} : Wp 111 37 (ls) (xi b :: xi a :: st) (M) Q = Wp 111 38 (ls) (xi (xand a b) :: st) (M) Q := wp_bin (f := xand) rfl
theorem w111_38 {ls st : List xV} {M : xM} {Q : Option xV → xM → Prop}  : Wp 111 38 (ls) (st) (M) Q = Wp 111 39 (ls) (xi 1 :: st) (M) Q := wp_const rfl
theorem w111_39 {ls st : List xV} {M : xM} {Q : Option xV → xM → Prop} {a : Int} {b : Int} (ha : xG a) (hb : xG b) : Wp 111 39 (ls) (xi b :: xi a :: st) (M) Q = ((¬ a = b → Wp 111 63 (ls) (st) (M) Q) ∧ (¬ (¬ a = b) → Wp 111 42 (ls) (st) (M) Q)) := wp_cmp_ne rfl ha hb
theorem w111_42 {ls st : List xV} {M : xM} {Q : Option xV → xM → Prop} {d : Nat} : Wp 111 42 (xr d :: ls) (st) (M) Q = Wp 111 43 (xr d :: ls) (xr d :: st) (M) Q := wp_aload rfl rfl
theorem w111_43 {ls st : List xV} {M : xM} {Q : Option xV → xM → Prop} {a : Int} {v0 : xV} {v1 : xV} : Wp 111 43 (v0 :: v1 :: xi a :: ls) (st) (M) Q = Wp 111 44 (v0 :: v1 :: xi a :: ls) (xi a :: st) (M) Q := wp_iload rfl rfl
theorem w111_44 {ls st : List xV} {M : xM} {Q : Option xV → xM → Prop} {d : Nat} : Wp 111 44 (xr d :: ls) (st) (M) Q = Wp 111 45 (xr d :: ls) (xr d :: st) (M) Q := wp_aload rfl rfl
theorem w111_45 {ls st : List xV} {M : xM} {Q : Option xV → xM → Prop} {d : Nat} (hc : x_c d = 9) : Wp 111 45 (ls) (xr d :: st) (M) Q = Wp 111 48 (ls) (xr (x_r d 13) :: st) (M) Q := wp_getr rfl hc
theorem w111_48 {ls st : List xV} {M : xM} {Q : Option xV → xM → Prop} {a : Int} {v0 : xV} : Wp 111 48 (v0 :: xi a :: ls) (st) (M) Q = Wp 111 49 (v0 :: xi a :: ls) (xi a :: st) (M) Q := wp_iload rfl rfl
theorem w111_49 {ls st : List xV} {M : xM} {Q : Option xV → xM → Prop} {a : Int} {v0 : xV} {v1 : xV} : Wp 111 49 (v0 :: v1 :: xi a :: ls) (st) (M) Q = Wp 111 50 (v0 :: v1 :: xi a :: ls) (xi a :: st) (M) Q := wp_iload rfl rfl
theorem w111_50 {ls st : List xV} {M : xM} {Q : Option xV → xM → Prop} {a : Int} {b : Int} : Wp 111 50 (ls) (xi b :: xi a :: st) (M) Q = Wp 111 51 (ls) (xi (a + b) :: st) (M) Q := wp_bin (f := xadd) rfl
theorem w111_51 {ls st : List xV} {M : xM} {Q : Option xV → xM → Prop} {a : Int} {d : Nat} (hc : x_c d = 20) (hn : x_n d = 305) (h1 : 0 ≤ a) (h2 : a < 305) : Wp 111 51 (ls) (xi a :: xr d :: st) (M) Q = Wp 111 52 (ls) (xi (M d a) :: st) (M) Q := wp_ald rfl hc h1 (by rw [hn]; exact h2)
theorem w111_52 {ls st : List xV} {M : xM} {Q : Option xV → xM → Prop} {a : Int} {v0 : xV} : Wp 111 52 (v0 :: xi a :: ls) (st) (M) Q = Wp 111 53 (v0 :: xi a :: ls) (xi a :: st) (M) Q := wp_iload rfl rfl
theorem w111_53 {ls : List xV} {M : xM} {Q : Option xV → xM → Prop} {a1 : Int} {a2 : Int} {a3 : Int} {d0 : Nat} {s0 : xV} {s1 : xV} {s2 : xV} (hc : x_c d0 = 9) : Wp 111 53 (ls) (xi a3 :: xi a2 :: xi a1 :: xr d0 :: s0 :: s1 :: s2 :: []) (M) Q = Wc 107 [xr d0, xi a1, xi a2, xi a3] M (fun r M2 => Wp 111 56 (ls) (r.toList ++ (s0 :: s1 :: s2 :: [])) M2 Q) := wp_cV rfl rfl hc (Nat.le_of_ble_eq_true rfl) (Nat.le_of_ble_eq_true rfl) rfl rfl
theorem w111_56 {ls st : List xV} {M : xM} {Q : Option xV → xM → Prop} {a : Int} (ha : xG a) : Wp 111 56 (ls) (xi a :: st) (M) Q = ((¬ a = 0 → Wp 111 63 (ls) (st) (M) Q) ∧ (¬ (¬ a = 0) → Wp 111 59 (ls) (st) (M) Q)) := wp_if_ne rfl ha
theorem w111_59 {ls st : List xV} {M : xM} {Q : Option xV → xM → Prop}  : Wp 111 59 (ls) (st) (M) Q = Wp 111 60 (ls) (xi 1 :: st) (M) Q := wp_const rfl
theorem w111_60 {ls st : List xV} {M : xM} {Q : Option xV → xM → Prop}  : Wp 111 60 (ls) (st) (M) Q = Wp 111 64 (ls) (st) (M) Q := wp_goto rfl
theorem w111_63 {ls st : List xV} {M : xM} {Q : Option xV → xM → Prop}  : Wp 111 63 (ls) (st) (M) Q = Wp 111 64 (ls) (xi 0 :: st) (M) Q := wp_const rfl
theorem w111_64 {ls st : List xV} {M : xM} {Q : Option xV → xM → Prop} {a : Int} {b : Int} : Wp 111 64 (ls) (xi b :: xi a :: st) (M) Q = Wp 111 65 (ls) (xi (a + b) :: st) (M) Q := wp_bin (f := xadd) rfl
theorem w111_65 {ls st : List xV} {M : xM} {Q : Option xV → xM → Prop} {a : Int} {d : Nat} {x : Int} (hc : x_c d = 20) (hn : x_n d = 305) (h1 : 0 ≤ a) (h2 : a < 305) : Wp 111 65 (ls) (xi x :: xi a :: xr d :: st) (M) Q = Wp 111 66 (ls) (st) (xup M d a x) Q := wp_iast rfl hc h1 (by rw [hn]; exact h2)
theorem w111_66 {ls st : List xV} {M : xM} {Q : Option xV → xM → Prop} {a : Int} {v0 : xV} {v1 : xV} : Wp 111 66 (v0 :: v1 :: xi a :: ls) (st) (M) Q = Wp 111 69 (v0 :: xjl v1 :: xi (a + 1) :: ls) (st) (M) Q := wp_iinc rfl rfl rfl
theorem w111_69 {ls st : List xV} {M : xM} {Q : Option xV → xM → Prop}  : Wp 111 69 (ls) (st) (M) Q = Wp 111 2 (ls) (st) (M) Q := wp_goto rfl
theorem w111_72 {ls : List xV} {M : xM} {Q : Option xV → xM → Prop}  : Wp 111 72 (ls) ([]) (M) Q = Q none M := wp_vret rfl
theorem wc112 {M : xM} {Q : Option xV → xM → Prop} {d0 : Nat} : Wc 112 [xr d0] M Q = Wp 112 0 [xr d0, xj, xj, xj] [] M Q := rfl
theorem w112_0 {ls st : List xV} {M : xM} {Q : Option xV → xM → Prop}  : Wp 112 0 (ls) (st) (M) Q = Wp 112 1 (ls) (xi 0 :: st) (M) Q := wp_const rfl
theorem w112_1 {ls st : List xV} {M : xM} {Q : Option xV → xM → Prop} {a : Int} {v0 : xV} {w : xV} : Wp 112 1 (v0 :: w :: ls) (xi a :: st) (M) Q = Wp 112 2 (xjl v0 :: xi a :: ls) (st) (M) Q := wp_istore rfl rfl
theorem w112_2 {ls st : List xV} {M : xM} {Q : Option xV → xM → Prop} {a : Int} {v0 : xV} : Wp 112 2 (v0 :: xi a :: ls) (st) (M) Q = Wp 112 3 (v0 :: xi a :: ls) (xi a :: st) (M) Q := wp_iload rfl rfl
theorem w112_3 {ls st : List xV} {M : xM} {Q : Option xV → xM → Prop}  : Wp 112 3 (ls) (st) (M) Q = Wp 112 4 (ls) (xi 5 :: st) (M) Q := wp_const rfl
theorem w112_4 {ls st : List xV} {M : xM} {Q : Option xV → xM → Prop} {a : Int} {b : Int} (ha : xG a) (hb : xG b) : Wp 112 4 (ls) (xi b :: xi a :: st) (M) Q = ((b ≤ a → Wp 112 57 (ls) (st) (M) Q) ∧ (¬ (b ≤ a) → Wp 112 7 (ls) (st) (M) Q)) := wp_cmp_ge rfl ha hb
theorem w112_7 {ls st : List xV} {M : xM} {Q : Option xV → xM → Prop} {d : Nat} : Wp 112 7 (xr d :: ls) (st) (M) Q = Wp 112 8 (xr d :: ls) (xr d :: st) (M) Q := wp_aload rfl rfl
theorem w112_8 {ls st : List xV} {M : xM} {Q : Option xV → xM → Prop} {d : Nat} (hc : x_c d = 9) : Wp 112 8 (ls) (xr d :: st) (M) Q = Wp 112 11 (ls) (xr (x_r d 13) :: st) (M) Q := wp_getr rfl hc
theorem w112_11 {ls st : List xV} {M : xM} {Q : Option xV → xM → Prop} {a : Int} {v0 : xV} : Wp 112 11 (v0 :: xi a :: ls) (st) (M) Q = Wp 112 12 (v0 :: xi a :: ls) (xi a :: st) (M) Q := wp_iload rfl rfl
theorem w112_12 {ls st : List xV} {M : xM} {Q : Option xV → xM → Prop} {d : Nat} : Wp 112 12 (xr d :: ls) (st) (M) Q = Wp 112 13 (xr d :: ls) (xr d :: st) (M) Q := wp_aload rfl rfl
theorem w112_13 {ls st : List xV} {M : xM} {Q : Option xV → xM → Prop} {d : Nat} (hc : x_c d = 9) : Wp 112 13 (ls) (xr d :: st) (M) Q = Wp 112 16 (ls) (xr (x_r d 2) :: st) (M) Q := wp_getr rfl hc
theorem w112_16 {ls st : List xV} {M : xM} {Q : Option xV → xM → Prop}  : Wp 112 16 (ls) (st) (M) Q = Wp 112 18 (ls) (xi 15 :: st) (M) Q := wp_const rfl
theorem w112_18 {ls st : List xV} {M : xM} {Q : Option xV → xM → Prop} {a : Int} {v0 : xV} : Wp 112 18 (v0 :: xi a :: ls) (st) (M) Q = Wp 112 19 (v0 :: xi a :: ls) (xi a :: st) (M) Q := wp_iload rfl rfl
theorem w112_19 {ls st : List xV} {M : xM} {Q : Option xV → xM → Prop} {a : Int} {b : Int} : Wp 112 19 (ls) (xi b :: xi a :: st) (M) Q = Wp 112 20 (ls) (xi (a + b) :: st) (M) Q := wp_bin (f := xadd) rfl
theorem w112_20 {ls st : List xV} {M : xM} {Q : Option xV → xM → Prop} {a : Int} {d : Nat} (hc : x_c d = 20) (hn : x_n d = 25) (h1 : 0 ≤ a) (h2 : a < 25) : Wp 112 20 (ls) (xi a :: xr d :: st) (M) Q = Wp 112 21 (ls) (xi (M d a) :: st) (M) Q := wp_ald rfl hc h1 (by rw [hn]; exact h2)
theorem w112_21 {ls st : List xV} {M : xM} {Q : Option xV → xM → Prop} {a : Int} {d : Nat} {x : Int} (hc : x_c d = 20) (hn : x_n d = 305) (h1 : 0 ≤ a) (h2 : a < 305) : Wp 112 21 (ls) (xi x :: xi a :: xr d :: st) (M) Q = Wp 112 22 (ls) (st) (xup M d a x) Q := wp_iast rfl hc h1 (by rw [hn]; exact h2)
theorem w112_22 {ls st : List xV} {M : xM} {Q : Option xV → xM → Prop} {d : Nat} : Wp 112 22 (xr d :: ls) (st) (M) Q = Wp 112 23 (xr d :: ls) (xr d :: st) (M) Q := wp_aload rfl rfl
theorem w112_23 {ls st : List xV} {M : xM} {Q : Option xV → xM → Prop} {d : Nat} (hc : x_c d = 9) : Wp 112 23 (ls) (xr d :: st) (M) Q = Wp 112 26 (ls) (xr (x_r d 16) :: st) (M) Q := wp_getr rfl hc
theorem w112_26 {ls st : List xV} {M : xM} {Q : Option xV → xM → Prop} {a : Int} {v0 : xV} : Wp 112 26 (v0 :: xi a :: ls) (st) (M) Q = Wp 112 27 (v0 :: xi a :: ls) (xi a :: st) (M) Q := wp_iload rfl rfl
theorem w112_27 {ls st : List xV} {M : xM} {Q : Option xV → xM → Prop} {d : Nat} : Wp 112 27 (xr d :: ls) (st) (M) Q = Wp 112 28 (xr d :: ls) (xr d :: st) (M) Q := wp_aload rfl rfl
theorem w112_28 {ls st : List xV} {M : xM} {Q : Option xV → xM → Prop} {d : Nat} (hc : x_c d = 9) : Wp 112 28 (ls) (xr d :: st) (M) Q = Wp 112 31 (ls) (xr (x_r d 2) :: st) (M) Q := wp_getr rfl hc
theorem w112_31 {ls st : List xV} {M : xM} {Q : Option xV → xM → Prop}  : Wp 112 31 (ls) (st) (M) Q = Wp 112 33 (ls) (xi 20 :: st) (M) Q := wp_const rfl
theorem w112_33 {ls st : List xV} {M : xM} {Q : Option xV → xM → Prop} {a : Int} {v0 : xV} : Wp 112 33 (v0 :: xi a :: ls) (st) (M) Q = Wp 112 34 (v0 :: xi a :: ls) (xi a :: st) (M) Q := wp_iload rfl rfl
theorem w112_34 {ls st : List xV} {M : xM} {Q : Option xV → xM → Prop} {a : Int} {b : Int} : Wp 112 34 (ls) (xi b :: xi a :: st) (M) Q = Wp 112 35 (ls) (xi (a + b) :: st) (M) Q := wp_bin (f := xadd) rfl
theorem w112_35 {ls st : List xV} {M : xM} {Q : Option xV → xM → Prop} {a : Int} {d : Nat} (hc : x_c d = 20) (hn : x_n d = 25) (h1 : 0 ≤ a) (h2 : a < 25) : Wp 112 35 (ls) (xi a :: xr d :: st) (M) Q = Wp 112 36 (ls) (xi (M d a) :: st) (M) Q := wp_ald rfl hc h1 (by rw [hn]; exact h2)
theorem w112_36 {ls st : List xV} {M : xM} {Q : Option xV → xM → Prop} {a : Int} {d : Nat} {x : Int} (hc : x_c d = 20) (hn : x_n d = 5) (h1 : 0 ≤ a) (h2 : a < 5) : Wp 112 36 (ls) (xi x :: xi a :: xr d :: st) (M) Q = Wp 112 37 (ls) (st) (xup M d a x) Q := wp_iast rfl hc h1 (by rw [hn]; exact h2)
theorem w112_37 {ls st : List xV} {M : xM} {Q : Option xV → xM → Prop} {d : Nat} : Wp 112 37 (xr d :: ls) (st) (M) Q = Wp 112 38 (xr d :: ls) (xr d :: st) (M) Q := wp_aload rfl rfl
theorem w112_38 {ls st : List xV} {M : xM} {Q : Option xV → xM → Prop} {d : Nat} (hc : x_c d = 9) : Wp 112 38 (ls) (xr d :: st) (M) Q = Wp 112 41 (ls) (xr (x_r d 14) :: st) (M) Q := wp_getr rfl hc
theorem w112_41 {ls st : List xV} {M : xM} {Q : Option xV → xM → Prop} {a : Int} {v0 : xV} : Wp 112 41 (v0 :: xi a :: ls) (st) (M) Q = Wp 112 42 (v0 :: xi a :: ls) (xi a :: st) (M) Q := wp_iload rfl rfl
theorem w112_42 {ls st : List xV} {M : xM} {Q : Option xV → xM → Prop}  : Wp 112 42 (ls) (st) (M) Q = Wp 112 43 (ls) (xi 0 :: st) (M) Q := wp_const rfl
theorem w112_43 {ls st : List xV} {M : xM} {Q : Option xV → xM → Prop} {a : Int} {d : Nat} {x : Int} (hc : x_c d = 20) (hn : x_n d = 305) (h1 : 0 ≤ a) (h2 : a < 305) : Wp 112 43 (ls) (xi x :: xi a :: xr d :: st) (M) Q = Wp 112 44 (ls) (st) (xup M d a x) Q := wp_iast rfl hc h1 (by rw [hn]; exact h2)
theorem w112_44 {ls st : List xV} {M : xM} {Q : Option xV → xM → Prop} {d : Nat} : Wp 112 44 (xr d :: ls) (st) (M) Q = Wp 112 45 (xr d :: ls) (xr d :: st) (M) Q := wp_aload rfl rfl
theorem w112_45 {ls st : List xV} {M : xM} {Q : Option xV → xM → Prop} {d : Nat} (hc : x_c d = 9) : Wp 112 45 (ls) (xr d :: st) (M) Q = Wp 112 48 (ls) (xr (x_r d 15) :: st) (M) Q := wp_getr rfl hc
theorem w112_48 {ls st : List xV} {M : xM} {Q : Option xV → xM → Prop} {a : Int} {v0 : xV} : Wp 112 48 (v0 :: xi a :: ls) (st) (M) Q = Wp 112 49 (v0 :: xi a :: ls) (xi a :: st) (M) Q := wp_iload rfl rfl
theorem w112_49 {ls st : List xV} {M : xM} {Q : Option xV → xM → Prop}  : Wp 112 49 (ls) (st) (M) Q = Wp 112 50 (ls) (xi 0 :: st) (M) Q := wp_const rfl
theorem w112_50 {ls st : List xV} {M : xM} {Q : Option xV → xM → Prop} {a : Int} {d : Nat} {x : Int} (hc : x_c d = 20) (hn : x_n d = 305) (h1 : 0 ≤ a) (h2 : a < 305) : Wp 112 50 (ls) (xi x :: xi a :: xr d :: st) (M) Q = Wp 112 51 (ls) (st) (xup M d a x) Q := wp_iast rfl hc h1 (by rw [hn]; exact h2)
theorem w112_51 {ls st : List xV} {M : xM} {Q : Option xV → xM → Prop} {a : Int} {v0 : xV} : Wp 112 51 (v0 :: xi a :: ls) (st) (M) Q = Wp 112 54 (xjl v0 :: xi (a + 1) :: ls) (st) (M) Q := wp_iinc rfl rfl rfl
theorem w112_54 {ls st : List xV} {M : xM} {Q : Option xV → xM → Prop}  : Wp 112 54 (ls) (st) (M) Q = Wp 112 2 (ls) (st) (M) Q := wp_goto rfl
theorem w112_57 {ls st : List xV} {M : xM} {Q : Option xV → xM → Prop} {d : Nat} : Wp 112 57 (xr d :: ls) (st) (M) Q = Wp 112 58 (xr d :: ls) (xr d :: st) (M) Q := wp_aload rfl rfl
theorem w112_58 {ls st : List xV} {M : xM} {Q : Option xV → xM → Prop}  : Wp 112 58 (ls) (st) (M) Q = Wp 112 59 (ls) (xi 0 :: st) (M) Q := wp_const rfl
theorem w112_59 {ls st : List xV} {M : xM} {Q : Option xV → xM → Prop} {a : Int} {d : Nat} (hc : x_c d = 9) : Wp 112 59 (ls) (xi a :: xr d :: st) (M) Q = Wp 112 62 (ls) (st) (xup M d 17 a) Q := wp_putf rfl hc
theorem w112_62 {ls st : List xV} {M : xM} {Q : Option xV → xM → Prop} {d : Nat} : Wp 112 62 (xr d :: ls) (st) (M) Q = Wp 112 63 (xr d :: ls) (xr d :: st) (M) Q := wp_aload rfl rfl
theorem w112_63 {ls st : List xV} {M : xM} {Q : Option xV → xM → Prop}  : Wp 112 63 (ls) (st) (M) Q = Wp 112 64 (ls) (xi 0 :: st) (M) Q := wp_const rfl
theorem w112_64 {ls st : List xV} {M : xM} {Q : Option xV → xM → Prop} {a : Int} {d : Nat} (hc : x_c d = 9) : Wp 112 64 (ls) (xi a :: xr d :: st) (M) Q = Wp 112 67 (ls) (st) (xup M d 18 a) Q := wp_putf rfl hc
theorem w112_67 {ls st : List xV} {M : xM} {Q : Option xV → xM → Prop} {d : Nat} : Wp 112 67 (xr d :: ls) (st) (M) Q = Wp 112 68 (xr d :: ls) (xr d :: st) (M) Q := wp_aload rfl rfl
theorem w112_68 {ls st : List xV} {M : xM} {Q : Option xV → xM → Prop}  : Wp 112 68 (ls) (st) (M) Q = Wp 112 69 (ls) (xi 0 :: st) (M) Q := wp_const rfl
theorem w112_69 {ls st : List xV} {M : xM} {Q : Option xV → xM → Prop} {a : Int} {d : Nat} (hc : x_c d = 9) : Wp 112 69 (ls) (xi a :: xr d :: st) (M) Q = Wp 112 72 (ls) (st) (xup M d 19 a) Q := wp_putf rfl hc
theorem w112_72 {ls st : List xV} {M : xM} {Q : Option xV → xM → Prop}  : Wp 112 72 (ls) (st) (M) Q = Wp 112 73 (ls) (xi 1 :: st) (M) Q := wp_const rfl
theorem w112_73 {ls st : List xV} {M : xM} {Q : Option xV → xM → Prop} {a : Int} {v0 : xV} {w : xV} : Wp 112 73 (v0 :: w :: ls) (xi a :: st) (M) Q = Wp 112 74 (xjl v0 :: xi a :: ls) (st) (M) Q := wp_istore rfl rfl
theorem w112_74 {ls st : List xV} {M : xM} {Q : Option xV → xM → Prop} {a : Int} {v0 : xV} : Wp 112 74 (v0 :: xi a :: ls) (st) (M) Q = Wp 112 75 (v0 :: xi a :: ls) (xi a :: st) (M) Q := wp_iload rfl rfl
theorem w112_75 {ls st : List xV} {M : xM} {Q : Option xV → xM → Prop}  : Wp 112 75 (ls) (st) (M) Q = Wp 112 77 (ls) (xi 60 :: st) (M) Q := wp_const rfl
theorem w112_77 {ls st : List xV} {M : xM} {Q : Option xV → xM → Prop} {a : Int} {b : Int} (ha : xG a) (hb : xG b) : Wp 112 77 (ls) (xi b :: xi a :: st) (M) Q = ((b < a → Wp 112 187 (ls) (st) (M) Q) ∧ (¬ (b < a) → Wp 112 80 (ls) (st) (M) Q)) := wp_cmp_gt rfl ha hb
theorem w112_80 {ls st : List xV} {M : xM} {Q : Option xV → xM → Prop}  : Wp 112 80 (ls) (st) (M) Q = Wp 112 81 (ls) (xi 5 :: st) (M) Q := wp_const rfl
theorem w112_81 {ls st : List xV} {M : xM} {Q : Option xV → xM → Prop} {a : Int} {v0 : xV} : Wp 112 81 (v0 :: xi a :: ls) (st) (M) Q = Wp 112 82 (v0 :: xi a :: ls) (xi a :: st) (M) Q := wp_iload rfl rfl
theorem w112_82 {ls st : List xV} {M : xM} {Q : Option xV → xM → Prop} {a : Int} {b : Int} : Wp 112 82 (ls) (xi b :: xi a :: st) (M) Q = Wp 112 83 (ls) (xi (a * b) :: st) (M) Q := wp_bin (f := xmul) rfl
theorem w112_83 {ls st : List xV} {M : xM} {Q : Option xV → xM → Prop} {a : Int} {v0 : xV} {v1 : xV} {w : xV} : Wp 112 83 (v0 :: v1 :: w :: ls) (xi a :: st) (M) Q = Wp 112 84 (v0 :: xjl v1 :: xi a :: ls) (st) (M) Q := wp_istore rfl rfl
theorem w112_84 {ls st : List xV} {M : xM} {Q : Option xV → xM → Prop}  : Wp 112 84 (ls) (st) (M) Q = Wp 112 85 (ls) (xi 0 :: st) (M) Q := wp_const rfl
theorem w112_85 {ls st : List xV} {M : xM} {Q : Option xV → xM → Prop} {a : Int} {v0 : xV} {v1 : xV} {v2 : xV} {w : xV} : Wp 112 85 (v0 :: v1 :: v2 :: w :: ls) (xi a :: st) (M) Q = Wp 112 86 (v0 :: v1 :: xjl v2 :: xi a :: ls) (st) (M) Q := wp_istore rfl rfl
theorem w112_86 {ls st : List xV} {M : xM} {Q : Option xV → xM → Prop} {a : Int} {v0 : xV} {v1 : xV} {v2 : xV} : Wp 112 86 (v0 :: v1 :: v2 :: xi a :: ls) (st) (M) Q = Wp 112 87 (v0 :: v1 :: v2 :: xi a :: ls) (xi a :: st) (M) Q := wp_iload rfl rfl
theorem w112_87 {ls st : List xV} {M : xM} {Q : Option xV → xM → Prop}  : Wp 112 87 (ls) (st) (M) Q = Wp 112 88 (ls) (xi 5 :: st) (M) Q := wp_const rfl
theorem w112_88 {ls st : List xV} {M : xM} {Q : Option xV → xM → Prop} {a : Int} {b : Int} (ha : xG a) (hb : xG b) : Wp 112 88 (ls) (xi b :: xi a :: st) (M) Q = ((b ≤ a → Wp 112 151 (ls) (st) (M) Q) ∧ (¬ (b ≤ a) → Wp 112 91 (ls) (st) (M) Q)) := wp_cmp_ge rfl ha hb
theorem w112_91 {ls st : List xV} {M : xM} {Q : Option xV → xM → Prop} {d : Nat} : Wp 112 91 (xr d :: ls) (st) (M) Q = Wp 112 92 (xr d :: ls) (xr d :: st) (M) Q := wp_aload rfl rfl
theorem w112_92 {ls st : List xV} {M : xM} {Q : Option xV → xM → Prop} {d : Nat} (hc : x_c d = 9) : Wp 112 92 (ls) (xr d :: st) (M) Q = Wp 112 95 (ls) (xr (x_r d 13) :: st) (M) Q := wp_getr rfl hc
theorem w112_95 {ls st : List xV} {M : xM} {Q : Option xV → xM → Prop} {a : Int} {v0 : xV} {v1 : xV} : Wp 112 95 (v0 :: v1 :: xi a :: ls) (st) (M) Q = Wp 112 96 (v0 :: v1 :: xi a :: ls) (xi a :: st) (M) Q := wp_iload rfl rfl
theorem w112_96 {ls st : List xV} {M : xM} {Q : Option xV → xM → Prop} {a : Int} {v0 : xV} {v1 : xV} {v2 : xV} : Wp 112 96 (v0 :: v1 :: v2 :: xi a :: ls) (st) (M) Q = Wp 112 97 (v0 :: v1 :: v2 :: xi a :: ls) (xi a :: st) (M) Q := wp_iload rfl rfl
theorem w112_97 {ls st : List xV} {M : xM} {Q : Option xV → xM → Prop} {a : Int} {b : Int} : Wp 112 97 (ls) (xi b :: xi a :: st) (M) Q = Wp 112 98 (ls) (xi (a + b) :: st) (M) Q := wp_bin (f := xadd) rfl
theorem w112_98 {ls st : List xV} {M : xM} {Q : Option xV → xM → Prop} {d : Nat} : Wp 112 98 (xr d :: ls) (st) (M) Q = Wp 112 99 (xr d :: ls) (xr d :: st) (M) Q := wp_aload rfl rfl
theorem w112_99 {ls st : List xV} {M : xM} {Q : Option xV → xM → Prop} {d : Nat} (hc : x_c d = 9) : Wp 112 99 (ls) (xr d :: st) (M) Q = Wp 112 102 (ls) (xr (x_r d 13) :: st) (M) Q := wp_getr rfl hc
theorem w112_102 {ls st : List xV} {M : xM} {Q : Option xV → xM → Prop} {a : Int} {v0 : xV} {v1 : xV} : Wp 112 102 (v0 :: v1 :: xi a :: ls) (st) (M) Q = Wp 112 103 (v0 :: v1 :: xi a :: ls) (xi a :: st) (M) Q := wp_iload rfl rfl
theorem w112_103 {ls st : List xV} {M : xM} {Q : Option xV → xM → Prop} {a : Int} {v0 : xV} {v1 : xV} {v2 : xV} : Wp 112 103 (v0 :: v1 :: v2 :: xi a :: ls) (st) (M) Q = Wp 112 104 (v0 :: v1 :: v2 :: xi a :: ls) (xi a :: st) (M) Q := wp_iload rfl rfl
theorem w112_104 {ls st : List xV} {M : xM} {Q : Option xV → xM → Prop} {a : Int} {b : Int} : Wp 112 104 (ls) (xi b :: xi a :: st) (M) Q = Wp 112 105 (ls) (xi (a + b) :: st) (M) Q := wp_bin (f := xadd) rfl
theorem w112_105 {ls st : List xV} {M : xM} {Q : Option xV → xM → Prop}  : Wp 112 105 (ls) (st) (M) Q = Wp 112 106 (ls) (xi 5 :: st) (M) Q := wp_const rfl
theorem w112_106 {ls st : List xV} {M : xM} {Q : Option xV → xM → Prop} {a : Int} {b : Int} : Wp 112 106 (ls) (xi b :: xi a :: st) (M) Q = Wp 112 107 (ls) (xi (a - b) :: st) (M) Q := wp_bin (f := xsub) rfl
theorem w112_107 {ls st : List xV} {M : xM} {Q : Option xV → xM → Prop} {a : Int} {d : Nat} (hc : x_c d = 20) (hn : x_n d = 305) (h1 : 0 ≤ a) (h2 : a < 305) : Wp 112 107 (ls) (xi a :: xr d :: st) (M) Q = Wp 112 108 (ls) (xi (M d a) :: st) (M) Q := wp_ald rfl hc h1 (by rw [hn]; exact h2)
theorem w112_108 {ls st : List xV} {M : xM} {Q : Option xV → xM → Prop} {a : Int} {d : Nat} {x : Int} (hc : x_c d = 20) (hn : x_n d = 305) (h1 : 0 ≤ a) (h2 : a < 305) : Wp 112 108 (ls) (xi x :: xi a :: xr d :: st) (M) Q = Wp 112 109 (ls) (st) (xup M d a x) Q := wp_iast rfl hc h1 (by rw [hn]; exact h2)
theorem w112_109 {ls st : List xV} {M : xM} {Q : Option xV → xM → Prop} {d : Nat} : Wp 112 109 (xr d :: ls) (st) (M) Q = Wp 112 110 (xr d :: ls) (xr d :: st) (M) Q := wp_aload rfl rfl
theorem w112_110 {ls st : List xV} {M : xM} {Q : Option xV → xM → Prop} {d : Nat} (hc : x_c d = 9) : Wp 112 110 (ls) (xr d :: st) (M) Q = Wp 112 113 (ls) (xr (x_r d 14) :: st) (M) Q := wp_getr rfl hc
theorem w112_113 {ls st : List xV} {M : xM} {Q : Option xV → xM → Prop} {a : Int} {v0 : xV} {v1 : xV} : Wp 112 113 (v0 :: v1 :: xi a :: ls) (st) (M) Q = Wp 112 114 (v0 :: v1 :: xi a :: ls) (xi a :: st) (M) Q := wp_iload rfl rfl
theorem w112_114 {ls st : List xV} {M : xM} {Q : Option xV → xM → Prop} {a : Int} {v0 : xV} {v1 : xV} {v2 : xV} : Wp 112 114 (v0 :: v1 :: v2 :: xi a :: ls) (st) (M) Q = Wp 112 115 (v0 :: v1 :: v2 :: xi a :: ls) (xi a :: st) (M) Q := wp_iload rfl rfl
theorem w112_115 {ls st : List xV} {M : xM} {Q : Option xV → xM → Prop} {a : Int} {b : Int} : Wp 112 115 (ls) (xi b :: xi a :: st) (M) Q = Wp 112 116 (ls) (xi (a + b) :: st) (M) Q := wp_bin (f := xadd) rfl
theorem w112_116 {ls st : List xV} {M : xM} {Q : Option xV → xM → Prop} {d : Nat} : Wp 112 116 (xr d :: ls) (st) (M) Q = Wp 112 117 (xr d :: ls) (xr d :: st) (M) Q := wp_aload rfl rfl
theorem w112_117 {ls st : List xV} {M : xM} {Q : Option xV → xM → Prop} {d : Nat} (hc : x_c d = 9) : Wp 112 117 (ls) (xr d :: st) (M) Q = Wp 112 120 (ls) (xr (x_r d 14) :: st) (M) Q := wp_getr rfl hc
theorem w112_120 {ls st : List xV} {M : xM} {Q : Option xV → xM → Prop} {a : Int} {v0 : xV} {v1 : xV} : Wp 112 120 (v0 :: v1 :: xi a :: ls) (st) (M) Q = Wp 112 121 (v0 :: v1 :: xi a :: ls) (xi a :: st) (M) Q := wp_iload rfl rfl
theorem w112_121 {ls st : List xV} {M : xM} {Q : Option xV → xM → Prop} {a : Int} {v0 : xV} {v1 : xV} {v2 : xV} : Wp 112 121 (v0 :: v1 :: v2 :: xi a :: ls) (st) (M) Q = Wp 112 122 (v0 :: v1 :: v2 :: xi a :: ls) (xi a :: st) (M) Q := wp_iload rfl rfl
theorem w112_122 {ls st : List xV} {M : xM} {Q : Option xV → xM → Prop} {a : Int} {b : Int} : Wp 112 122 (ls) (xi b :: xi a :: st) (M) Q = Wp 112 123 (ls) (xi (a + b) :: st) (M) Q := wp_bin (f := xadd) rfl
theorem w112_123 {ls st : List xV} {M : xM} {Q : Option xV → xM → Prop}  : Wp 112 123 (ls) (st) (M) Q = Wp 112 124 (ls) (xi 5 :: st) (M) Q := wp_const rfl
theorem w112_124 {ls st : List xV} {M : xM} {Q : Option xV → xM → Prop} {a : Int} {b : Int} : Wp 112 124 (ls) (xi b :: xi a :: st) (M) Q = Wp 112 125 (ls) (xi (a - b) :: st) (M) Q := wp_bin (f := xsub) rfl
theorem w112_125 {ls st : List xV} {M : xM} {Q : Option xV → xM → Prop} {a : Int} {d : Nat} (hc : x_c d = 20) (hn : x_n d = 305) (h1 : 0 ≤ a) (h2 : a < 305) : Wp 112 125 (ls) (xi a :: xr d :: st) (M) Q = Wp 112 126 (ls) (xi (M d a) :: st) (M) Q := wp_ald rfl hc h1 (by rw [hn]; exact h2)
theorem w112_126 {ls st : List xV} {M : xM} {Q : Option xV → xM → Prop} {a : Int} {d : Nat} {x : Int} (hc : x_c d = 20) (hn : x_n d = 305) (h1 : 0 ≤ a) (h2 : a < 305) : Wp 112 126 (ls) (xi x :: xi a :: xr d :: st) (M) Q = Wp 112 127 (ls) (st) (xup M d a x) Q := wp_iast rfl hc h1 (by rw [hn]; exact h2)
theorem w112_127 {ls st : List xV} {M : xM} {Q : Option xV → xM → Prop} {d : Nat} : Wp 112 127 (xr d :: ls) (st) (M) Q = Wp 112 128 (xr d :: ls) (xr d :: st) (M) Q := wp_aload rfl rfl
theorem w112_128 {ls st : List xV} {M : xM} {Q : Option xV → xM → Prop} {d : Nat} (hc : x_c d = 9) : Wp 112 128 (ls) (xr d :: st) (M) Q = Wp 112 131 (ls) (xr (x_r d 15) :: st) (M) Q := wp_getr rfl hc
theorem w112_131 {ls st : List xV} {M : xM} {Q : Option xV → xM → Prop} {a : Int} {v0 : xV} {v1 : xV} : Wp 112 131 (v0 :: v1 :: xi a :: ls) (st) (M) Q = Wp 112 132 (v0 :: v1 :: xi a :: ls) (xi a :: st) (M) Q := wp_iload rfl rfl
set_option maxRecDepth 20000 in
theorem w112_132 {ls st : List xV} {M : xM} {Q : Option xV → xM → Prop} {a : Int} {v0 : xV} {v1 : xV} {v2 : xV} : Wp 112 132 (v0 :: v1 :: v2 :: xi a :: ls) (st) (M) Q = Wp 112 133 (v0 :: v1 :: v2 :: xi a :: ls) (xi a :: st) (M) Q := wp_iload rfl rfl
set_option maxRecDepth 20000 in
theorem w112_133 {ls st : List xV} {M : xM} {Q : Option xV → xM → Prop} {a : Int} {b : Int} : Wp 112 133 (ls) (xi b :: xi a :: st) (M) Q = Wp 112 134 (ls) (xi (a + b) :: st) (M) Q := wp_bin (f := xadd) rfl
set_option maxRecDepth 20000 in
theorem w112_134 {ls st : List xV} {M : xM} {Q : Option xV → xM → Prop} {d : Nat} : Wp 112 134 (xr d :: ls) (st) (M) Q = Wp 112 135 (xr d :: ls) (xr d :: st) (M) Q := wp_aload rfl rfl
set_option maxRecDepth 20000 in
theorem w112_135 {ls st : List xV} {M : xM} {Q : Option xV → xM → Prop} {d : Nat} (hc : x_c d = 9) : Wp 112 135 (ls) (xr d :: st) (M) Q = Wp 112 138 (ls) (xr (x_r d 15) :: st) (M) Q := wp_getr rfl hc
set_option maxRecDepth 20000 in
theorem w112_138 {ls st : List xV} {M : xM} {Q : Option xV → xM → Prop} {a : Int} {v0 : xV} {v1 : xV} : Wp 112 138 (v0 :: v1 :: xi a :: ls) (st) (M) Q = Wp 112 139 (v0 :: v1 :: xi a :: ls) (xi a :: st) (M) Q := wp_iload rfl rfl
set_option maxRecDepth 20000 in
theorem w112_139 {ls st : List xV} {M : xM} {Q : Option xV → xM → Prop} {a : Int} {v0 : xV} {v1 : xV} {v2 : xV} : Wp 112 139 (v0 :: v1 :: v2 :: xi a :: ls) (st) (M) Q = Wp 112 140 (v0 :: v1 :: v2 :: xi a :: ls) (xi a :: st) (M) Q := wp_iload rfl rfl
set_option maxRecDepth 20000 in
theorem w112_140 {ls st : List xV} {M : xM} {Q : Option xV → xM → Prop} {a : Int} {b : Int} : Wp 112 140 (ls) (xi b :: xi a :: st) (M) Q = Wp 112 141 (ls) (xi (a + b) :: st) (M) Q := wp_bin (f := xadd) rfl
set_option maxRecDepth 20000 in
theorem w112_141 {ls st : List xV} {M : xM} {Q : Option xV → xM → Prop}  : Wp 112 141 (ls) (st) (M) Q = Wp 112 142 (ls) (xi 5 :: st) (M) Q := wp_const rfl
set_option maxRecDepth 20000 in
theorem w112_142 {ls st : List xV} {M : xM} {Q : Option xV → xM → Prop} {a : Int} {b : Int} : Wp 112 142 (ls) (xi b :: xi a :: st) (M) Q = Wp 112 143 (ls) (xi (a - b) :: st) (M) Q := wp_bin (f := xsub) rfl
set_option maxRecDepth 20000 in
theorem w112_143 {ls st : List xV} {M : xM} {Q : Option xV → xM → Prop} {a : Int} {d : Nat} (hc : x_c d = 20) (hn : x_n d = 305) (h1 : 0 ≤ a) (h2 : a < 305) : Wp 112 143 (ls) (xi a :: xr d :: st) (M) Q = Wp 112 144 (ls) (xi (M d a) :: st) (M) Q := wp_ald rfl hc h1 (by rw [hn]; exact h2)
set_option maxRecDepth 20000 in
theorem w112_144 {ls st : List xV} {M : xM} {Q : Option xV → xM → Prop} {a : Int} {d : Nat} {x : Int} (hc : x_c d = 20) (hn : x_n d = 305) (h1 : 0 ≤ a) (h2 : a < 305) : Wp 112 144 (ls) (xi x :: xi a :: xr d :: st) (M) Q = Wp 112 145 (ls) (st) (xup M d a x) Q := wp_iast rfl hc h1 (by rw [hn]; exact h2)
set_option maxRecDepth 20000 in
theorem w112_145 {ls st : List xV} {M : xM} {Q : Option xV → xM → Prop} {a : Int} {v0 : xV} {v1 : xV} {v2 : xV} : Wp 112 145 (v0 :: v1 :: v2 :: xi a :: ls) (st) (M) Q = Wp 112 148 (v0 :: v1 :: xjl v2 :: xi (a + 1) :: ls) (st) (M) Q := wp_iinc rfl rfl rfl
set_option maxRecDepth 20000 in
theorem w112_148 {ls st : List xV} {M : xM} {Q : Option xV → xM → Prop}  : Wp 112 148 (ls) (st) (M) Q = Wp 112 86 (ls) (st) (M) Q := wp_goto rfl
set_option maxRecDepth 20000 in
theorem w112_151 {ls st : List xV} {M : xM} {Q : Option xV → xM → Prop}  : Wp 112 151 (ls) (st) (M) Q = Wp 112 152 (ls) (xi 0 :: st) (M) Q := wp_const rfl
set_option maxRecDepth 20000 in
theorem w112_152 {ls st : List xV} {M : xM} {Q : Option xV → xM → Prop} {a : Int} {v0 : xV} {v1 : xV} {v2 : xV} {w : xV} : Wp 112 152 (v0 :: v1 :: v2 :: w :: ls) (xi a :: st) (M) Q = Wp 112 153 (v0 :: v1 :: xjl v2 :: xi a :: ls) (st) (M) Q := wp_istore rfl rfl
set_option maxRecDepth 20000 in
theorem w112_153 {ls st : List xV} {M : xM} {Q : Option xV → xM → Prop} {a : Int} {v0 : xV} {v1 : xV} {v2 : xV} : Wp 112 153 (v0 :: v1 :: v2 :: xi a :: ls) (st) (M) Q = Wp 112 154 (v0 :: v1 :: v2 :: xi a :: ls) (xi a :: st) (M) Q := wp_iload rfl rfl
set_option maxRecDepth 20000 in
theorem w112_154 {ls st : List xV} {M : xM} {Q : Option xV → xM → Prop} {d : Nat} : Wp 112 154 (xr d :: ls) (st) (M) Q = Wp 112 155 (xr d :: ls) (xr d :: st) (M) Q := wp_aload rfl rfl
set_option maxRecDepth 20000 in
theorem w112_155 {ls st : List xV} {M : xM} {Q : Option xV → xM → Prop} {d : Nat} (hc : x_c d = 9) : Wp 112 155 (ls) (xr d :: st) (M) Q = Wp 112 158 (ls) (xr (x_r d 2) :: st) (M) Q := wp_getr rfl hc
set_option maxRecDepth 20000 in
theorem w112_158 {ls st : List xV} {M : xM} {Q : Option xV → xM → Prop}  : Wp 112 158 (ls) (st) (M) Q = Wp 112 159 (ls) (xi 2 :: st) (M) Q := wp_const rfl
set_option maxRecDepth 20000 in
theorem w112_159 {ls st : List xV} {M : xM} {Q : Option xV → xM → Prop} {a : Int} {d : Nat} (hc : x_c d = 20) (hn : x_n d = 25) (h1 : 0 ≤ a) (h2 : a < 25) : Wp 112 159 (ls) (xi a :: xr d :: st) (M) Q = Wp 112 160 (ls) (xi (M d a) :: st) (M) Q := wp_ald rfl hc h1 (by rw [hn]; exact h2)
set_option maxRecDepth 20000 in
theorem w112_160 {ls st : List xV} {M : xM} {Q : Option xV → xM → Prop} {a : Int} {b : Int} (ha : xG a) (hb : xG b) : Wp 112 160 (ls) (xi b :: xi a :: st) (M) Q = ((b ≤ a → Wp 112 176 (ls) (st) (M) Q) ∧ (¬ (b ≤ a) → Wp 112 163 (ls) (st) (M) Q)) := wp_cmp_ge rfl ha hb
set_option maxRecDepth 20000 in
theorem w112_163 {ls st : List xV} {M : xM} {Q : Option xV → xM → Prop} {d : Nat} : Wp 112 163 (xr d :: ls) (st) (M) Q = Wp 112 164 (xr d :: ls) (xr d :: st) (M) Q := wp_aload rfl rfl
set_option maxRecDepth 20000 in
theorem w112_164 {ls st : List xV} {M : xM} {Q : Option xV → xM → Prop} {a : Int} {v0 : xV} {v1 : xV} {v2 : xV} : Wp 112 164 (v0 :: v1 :: v2 :: xi a :: ls) (st) (M) Q = Wp 112 165 (v0 :: v1 :: v2 :: xi a :: ls) (xi a :: st) (M) Q := wp_iload rfl rfl
set_option maxRecDepth 20000 in
theorem w112_165 {ls st : List xV} {M : xM} {Q : Option xV → xM → Prop} {a : Int} {v0 : xV} : Wp 112 165 (v0 :: xi a :: ls) (st) (M) Q = Wp 112 166 (v0 :: xi a :: ls) (xi a :: st) (M) Q := wp_iload rfl rfl
set_option maxRecDepth 20000 in
theorem w112_166 {ls st : List xV} {M : xM} {Q : Option xV → xM → Prop} {a : Int} {v0 : xV} {v1 : xV} : Wp 112 166 (v0 :: v1 :: xi a :: ls) (st) (M) Q = Wp 112 167 (v0 :: v1 :: xi a :: ls) (xi a :: st) (M) Q := wp_iload rfl rfl
set_option maxRecDepth 20000 in
theorem w112_167 {ls : List xV} {M : xM} {Q : Option xV → xM → Prop} {a1 : Int} {a2 : Int} {a3 : Int} {d0 : Nat} (hc : x_c d0 = 9) : Wp 112 167 (ls) (xi a3 :: xi a2 :: xi a1 :: xr d0 :: []) (M) Q = Wc 110 [xr d0, xi a1, xi a2, xi a3] M (fun r M2 => Wp 112 170 (ls) (r.toList ++ ([])) M2 Q) := wp_cV rfl rfl hc (Nat.le_of_ble_eq_true rfl) (Nat.le_of_ble_eq_true rfl) rfl rfl
set_option maxRecDepth 20000 in
theorem w112_170 {ls st : List xV} {M : xM} {Q : Option xV → xM → Prop} {a : Int} {v0 : xV} {v1 : xV} {v2 : xV} : Wp 112 170 (v0 :: v1 :: v2 :: xi a :: ls) (st) (M) Q = Wp 112 173 (v0 :: v1 :: xjl v2 :: xi (a + 1) :: ls) (st) (M) Q := wp_iinc rfl rfl rfl
set_option maxRecDepth 20000 in
theorem w112_173 {ls st : List xV} {M : xM} {Q : Option xV → xM → Prop}  : Wp 112 173 (ls) (st) (M) Q = Wp 112 153 (ls) (st) (M) Q := wp_goto rfl
set_option maxRecDepth 20000 in
theorem w112_176 {ls st : List xV} {M : xM} {Q : Option xV → xM → Prop} {d : Nat} : Wp 112 176 (xr d :: ls) (st) (M) Q = Wp 112 177 (xr d :: ls) (xr d :: st) (M) Q := wp_aload rfl rfl
set_option maxRecDepth 20000 in
theorem w112_177 {ls st : List xV} {M : xM} {Q : Option xV → xM → Prop} {a : Int} {v0 : xV} {v1 : xV} : Wp 112 177 (v0 :: v1 :: xi a :: ls) (st) (M) Q = Wp 112 178 (v0 :: v1 :: xi a :: ls) (xi a :: st) (M) Q := wp_iload rfl rfl
set_option maxRecDepth 20000 in
theorem w112_178 {ls : List xV} {M : xM} {Q : Option xV → xM → Prop} {a1 : Int} {d0 : Nat} (hc : x_c d0 = 9) : Wp 112 178 (ls) (xi a1 :: xr d0 :: []) (M) Q = Wc 111 [xr d0, xi a1] M (fun r M2 => Wp 112 181 (ls) (r.toList ++ ([])) M2 Q) := wp_cV rfl rfl hc (Nat.le_of_ble_eq_true rfl) (Nat.le_of_ble_eq_true rfl) rfl rfl
set_option maxRecDepth 20000 in
theorem w112_181 {ls st : List xV} {M : xM} {Q : Option xV → xM → Prop} {a : Int} {v0 : xV} : Wp 112 181 (v0 :: xi a :: ls) (st) (M) Q = Wp 112 184 (xjl v0 :: xi (a + 1) :: ls) (st) (M) Q := wp_iinc rfl rfl rfl
set_option maxRecDepth 20000 in
theorem w112_184 {ls st : List xV} {M : xM} {Q : Option xV → xM → Prop}  : Wp 112 184 (ls) (st) (M) Q = Wp 112 74 (ls) (st) (M) Q := wp_goto rfl
set_option maxRecDepth 20000 in
theorem w112_187 {ls : List xV} {M : xM} {Q : Option xV → xM → Prop}  : Wp 112 187 (ls) ([]) (M) Q = Q none M := wp_vret rfl
theorem wc113 {M : xM} {Q : Option xV → xM → Prop} {d0 : Nat} {a1 : Int} {a2 : Int} {a3 : Int} : Wc 113 [xr d0, xi a1, xi a2, xi a3] M Q = Wp 113 0 [xr d0, xi a1, xi a2, xi a3, xj] [] M Q := rfl
theorem w113_0 {ls st : List xV} {M : xM} {Q : Option xV → xM → Prop} {d : Nat} : Wp 113 0 (xr d :: ls) (st) (M) Q = Wp 113 1 (xr d :: ls) (xr d :: st) (M) Q := wp_aload rfl rfl
theorem w113_1 {ls st : List xV} {M : xM} {Q : Option xV → xM → Prop} {a : Int} {v0 : xV} : Wp 113 1 (v0 :: xi a :: ls) (st) (M) Q = Wp 113 2 (v0 :: xi a :: ls) (xi a :: st) (M) Q := wp_iload rfl rfl
theorem w113_2 {ls : List xV} {M : xM} {Q : Option xV → xM → Prop} {a1 : Int} {d0 : Nat} (hc : x_c d0 = 9) : Wp 113 2 (ls) (xi a1 :: xr d0 :: []) (M) Q = Wc 81 [xr d0, xi a1] M (fun r M2 => Wp 113 5 (ls) (r.toList ++ ([])) M2 Q) := wp_cV rfl rfl hc (Nat.le_of_ble_eq_true rfl) (Nat.le_of_ble_eq_true rfl) rfl rfl
theorem w113_5 {ls st : List xV} {M : xM} {Q : Option xV → xM → Prop} {a : Int} (ha : xG a) : Wp 113 5 (ls) (xi a :: st) (M) Q = ((a = 0 → Wp 113 27 (ls) (st) (M) Q) ∧ (¬ (a = 0) → Wp 113 8 (ls) (st) (M) Q)) := wp_if_eq rfl ha
theorem w113_8 {ls st : List xV} {M : xM} {Q : Option xV → xM → Prop} {a : Int} {v0 : xV} {v1 : xV} : Wp 113 8 (v0 :: v1 :: xi a :: ls) (st) (M) Q = Wp 113 9 (v0 :: v1 :: xi a :: ls) (xi a :: st) (M) Q := wp_iload rfl rfl
theorem w113_9 {ls st : List xV} {M : xM} {Q : Option xV → xM → Prop}  : Wp 113 9 (ls) (st) (M) Q = Wp 113 10 (ls) (xi 0 :: st) (M) Q := wp_const rfl
theorem w113_10 {ls st : List xV} {M : xM} {Q : Option xV → xM → Prop}  : Wp 113 10 (ls) (st) (M) Q = Wp 113 12 (ls) (xi 60 :: st) (M) Q := wp_const rfl
theorem w113_12 {ls : List xV} {M : xM} {Q : Option xV → xM → Prop} {a0 : Int} {a1 : Int} {a2 : Int} : Wp 113 12 (ls) (xi a2 :: xi a1 :: xi a0 :: []) (M) Q = Wc 79 [xi a0, xi a1, xi a2] M (fun r M2 => Wp 113 15 (ls) (r.toList ++ ([])) M2 Q) := wp_cS rfl rfl (Nat.le_of_ble_eq_true rfl) (Nat.le_of_ble_eq_true rfl) rfl rfl
theorem w113_15 {ls st : List xV} {M : xM} {Q : Option xV → xM → Prop} {a : Int} (ha : xG a) : Wp 113 15 (ls) (xi a :: st) (M) Q = ((a = 0 → Wp 113 27 (ls) (st) (M) Q) ∧ (¬ (a = 0) → Wp 113 18 (ls) (st) (M) Q)) := wp_if_eq rfl ha
theorem w113_18 {ls st : List xV} {M : xM} {Q : Option xV → xM → Prop} {a : Int} {v0 : xV} {v1 : xV} {v2 : xV} : Wp 113 18 (v0 :: v1 :: v2 :: xi a :: ls) (st) (M) Q = Wp 113 19 (v0 :: v1 :: v2 :: xi a :: ls) (xi a :: st) (M) Q := wp_iload rfl rfl
theorem w113_19 {ls st : List xV} {M : xM} {Q : Option xV → xM → Prop}  : Wp 113 19 (ls) (st) (M) Q = Wp 113 20 (ls) (xi 0 :: st) (M) Q := wp_const rfl
theorem w113_20 {ls st : List xV} {M : xM} {Q : Option xV → xM → Prop}  : Wp 113 20 (ls) (st) (M) Q = Wp 113 21 (ls) (xi 2 :: st) (M) Q := wp_const rfl
theorem w113_21 {ls : List xV} {M : xM} {Q : Option xV → xM → Prop} {a0 : Int} {a1 : Int} {a2 : Int} : Wp 113 21 (ls) (xi a2 :: xi a1 :: xi a0 :: []) (M) Q = Wc 79 [xi a0, xi a1, xi a2] M (fun r M2 => Wp 113 24 (ls) (r.toList ++ ([])) M2 Q) := wp_cS rfl rfl (Nat.le_of_ble_eq_true rfl) (Nat.le_of_ble_eq_true rfl) rfl rfl
theorem w113_24 {ls st : List xV} {M : xM} {Q : Option xV → xM → Prop} {a : Int} (ha : xG a) : Wp 113 24 (ls) (xi a :: st) (M) Q = ((¬ a = 0 → Wp 113 29 (ls) (st) (M) Q) ∧ (¬ (¬ a = 0) → Wp 113 27 (ls) (st) (M) Q)) := wp_if_ne rfl ha
theorem w113_27 {ls st : List xV} {M : xM} {Q : Option xV → xM → Prop}  : Wp 113 27 (ls) (st) (M) Q = Wp 113 28 (ls) (xi (-1) :: st) (M) Q := wp_const rfl
theorem w113_28 {ls : List xV} {M : xM} {Q : Option xV → xM → Prop} {a : Int} : Wp 113 28 (ls) ([xi a]) (M) Q = Q (some (xi a)) M := wp_iret rfl
theorem w113_29 {ls st : List xV} {M : xM} {Q : Option xV → xM → Prop} {d : Nat} : Wp 113 29 (xr d :: ls) (st) (M) Q = Wp 113 30 (xr d :: ls) (xr d :: st) (M) Q := wp_aload rfl rfl
theorem w113_30 {ls : List xV} {M : xM} {Q : Option xV → xM → Prop} {d0 : Nat} (hc : x_c d0 = 9) : Wp 113 30 (ls) (xr d0 :: []) (M) Q = Wc 112 [xr d0] M (fun r M2 => Wp 113 33 (ls) (r.toList ++ ([])) M2 Q) := wp_cV rfl rfl hc (Nat.le_of_ble_eq_true rfl) (Nat.le_of_ble_eq_true rfl) rfl rfl
theorem w113_33 {ls st : List xV} {M : xM} {Q : Option xV → xM → Prop}  : Wp 113 33 (ls) (st) (M) Q = Wp 113 34 (ls) (xi 5 :: st) (M) Q := wp_const rfl
theorem w113_34 {ls st : List xV} {M : xM} {Q : Option xV → xM → Prop} {a : Int} {v0 : xV} {v1 : xV} : Wp 113 34 (v0 :: v1 :: xi a :: ls) (st) (M) Q = Wp 113 35 (v0 :: v1 :: xi a :: ls) (xi a :: st) (M) Q := wp_iload rfl rfl
theorem w113_35 {ls st : List xV} {M : xM} {Q : Option xV → xM → Prop} {a : Int} {b : Int} : Wp 113 35 (ls) (xi b :: xi a :: st) (M) Q = Wp 113 36 (ls) (xi (a * b) :: st) (M) Q := wp_bin (f := xmul) rfl
theorem w113_36 {ls st : List xV} {M : xM} {Q : Option xV → xM → Prop} {a : Int} {v0 : xV} : Wp 113 36 (v0 :: xi a :: ls) (st) (M) Q = Wp 113 37 (v0 :: xi a :: ls) (xi a :: st) (M) Q := wp_iload rfl rfl
theorem w113_37 {ls st : List xV} {M : xM} {Q : Option xV → xM → Prop} {a : Int} {b : Int} : Wp 113 37 (ls) (xi b :: xi a :: st) (M) Q = Wp 113 38 (ls) (xi (a + b) :: st) (M) Q := wp_bin (f := xadd) rfl
theorem w113_38 {ls st : List xV} {M : xM} {Q : Option xV → xM → Prop} {a : Int} {v0 : xV} {v1 : xV} {v2 : xV} {v3 : xV} {w : xV} : Wp 113 38 (v0 :: v1 :: v2 :: v3 :: w :: ls) (xi a :: st) (M) Q = Wp 113 40 (v0 :: v1 :: v2 :: xjl v3 :: xi a :: ls) (st) (M) Q := wp_istore rfl rfl
theorem w113_40 {ls st : List xV} {M : xM} {Q : Option xV → xM → Prop} {a : Int} {v0 : xV} {v1 : xV} {v2 : xV} : Wp 113 40 (v0 :: v1 :: v2 :: xi a :: ls) (st) (M) Q = Wp 113 41 (v0 :: v1 :: v2 :: xi a :: ls) (xi a :: st) (M) Q := wp_iload rfl rfl
theorem w113_41 {ls st : List xV} {M : xM} {Q : Option xV → xM → Prop} {a : Int} (ha : xG a) : Wp 113 41 (ls) (xi a :: st) (M) Q = ((¬ a = 0 → Wp 113 54 (ls) (st) (M) Q) ∧ (¬ (¬ a = 0) → Wp 113 44 (ls) (st) (M) Q)) := wp_if_ne rfl ha
theorem w113_44 {ls st : List xV} {M : xM} {Q : Option xV → xM → Prop} {d : Nat} : Wp 113 44 (xr d :: ls) (st) (M) Q = Wp 113 45 (xr d :: ls) (xr d :: st) (M) Q := wp_aload rfl rfl
theorem w113_45 {ls st : List xV} {M : xM} {Q : Option xV → xM → Prop} {d : Nat} (hc : x_c d = 9) : Wp 113 45 (ls) (xr d :: st) (M) Q = Wp 113 48 (ls) (xr (x_r d 13) :: st) (M) Q := wp_getr rfl hc
theorem w113_48 {ls st : List xV} {M : xM} {Q : Option xV → xM → Prop} {a : Int} {v0 : xV} {v1 : xV} {v2 : xV} {v3 : xV} : Wp 113 48 (v0 :: v1 :: v2 :: v3 :: xi a :: ls) (st) (M) Q = Wp 113 50 (v0 :: v1 :: v2 :: v3 :: xi a :: ls) (xi a :: st) (M) Q := wp_iload rfl rfl
theorem w113_50 {ls st : List xV} {M : xM} {Q : Option xV → xM → Prop} {a : Int} {d : Nat} (hc : x_c d = 20) (hn : x_n d = 305) (h1 : 0 ≤ a) (h2 : a < 305) : Wp 113 50 (ls) (xi a :: xr d :: st) (M) Q = Wp 113 51 (ls) (xi (M d a) :: st) (M) Q := wp_ald rfl hc h1 (by rw [hn]; exact h2)
theorem w113_51 {ls st : List xV} {M : xM} {Q : Option xV → xM → Prop}  : Wp 113 51 (ls) (st) (M) Q = Wp 113 76 (ls) (st) (M) Q := wp_goto rfl
theorem w113_54 {ls st : List xV} {M : xM} {Q : Option xV → xM → Prop} {a : Int} {v0 : xV} {v1 : xV} {v2 : xV} : Wp 113 54 (v0 :: v1 :: v2 :: xi a :: ls) (st) (M) Q = Wp 113 55 (v0 :: v1 :: v2 :: xi a :: ls) (xi a :: st) (M) Q := wp_iload rfl rfl
theorem w113_55 {ls st : List xV} {M : xM} {Q : Option xV → xM → Prop}  : Wp 113 55 (ls) (st) (M) Q = Wp 113 56 (ls) (xi 1 :: st) (M) Q := wp_const rfl
theorem w113_56 {ls st : List xV} {M : xM} {Q : Option xV → xM → Prop} {a : Int} {b : Int} (ha : xG a) (hb : xG b) : Wp 113 56 (ls) (xi b :: xi a :: st) (M) Q = ((¬ a = b → Wp 113 69 (ls) (st) (M) Q) ∧ (¬ (¬ a = b) → Wp 113 59 (ls) (st) (M) Q)) := wp_cmp_ne rfl ha hb
theorem w113_59 {ls st : List xV} {M : xM} {Q : Option xV → xM → Prop} {d : Nat} : Wp 113 59 (xr d :: ls) (st) (M) Q = Wp 113 60 (xr d :: ls) (xr d :: st) (M) Q := wp_aload rfl rfl
theorem w113_60 {ls st : List xV} {M : xM} {Q : Option xV → xM → Prop} {d : Nat} (hc : x_c d = 9) : Wp 113 60 (ls) (xr d :: st) (M) Q = Wp 113 63 (ls) (xr (x_r d 14) :: st) (M) Q := wp_getr rfl hc
theorem w113_63 {ls st : List xV} {M : xM} {Q : Option xV → xM → Prop} {a : Int} {v0 : xV} {v1 : xV} {v2 : xV} {v3 : xV} : Wp 113 63 (v0 :: v1 :: v2 :: v3 :: xi a :: ls) (st) (M) Q = Wp 113 65 (v0 :: v1 :: v2 :: v3 :: xi a :: ls) (xi a :: st) (M) Q := wp_iload rfl rfl
theorem w113_65 {ls st : List xV} {M : xM} {Q : Option xV → xM → Prop} {a : Int} {d : Nat} (hc : x_c d = 20) (hn : x_n d = 305) (h1 : 0 ≤ a) (h2 : a < 305) : Wp 113 65 (ls) (xi a :: xr d :: st) (M) Q = Wp 113 66 (ls) (xi (M d a) :: st) (M) Q := wp_ald rfl hc h1 (by rw [hn]; exact h2)
theorem w113_66 {ls st : List xV} {M : xM} {Q : Option xV → xM → Prop}  : Wp 113 66 (ls) (st) (M) Q = Wp 113 76 (ls) (st) (M) Q := wp_goto rfl
theorem w113_69 {ls st : List xV} {M : xM} {Q : Option xV → xM → Prop} {d : Nat} : Wp 113 69 (xr d :: ls) (st) (M) Q = Wp 113 70 (xr d :: ls) (xr d :: st) (M) Q := wp_aload rfl rfl
theorem w113_70 {ls st : List xV} {M : xM} {Q : Option xV → xM → Prop} {d : Nat} (hc : x_c d = 9) : Wp 113 70 (ls) (xr d :: st) (M) Q = Wp 113 73 (ls) (xr (x_r d 15) :: st) (M) Q := wp_getr rfl hc
theorem w113_73 {ls st : List xV} {M : xM} {Q : Option xV → xM → Prop} {a : Int} {v0 : xV} {v1 : xV} {v2 : xV} {v3 : xV} : Wp 113 73 (v0 :: v1 :: v2 :: v3 :: xi a :: ls) (st) (M) Q = Wp 113 75 (v0 :: v1 :: v2 :: v3 :: xi a :: ls) (xi a :: st) (M) Q := wp_iload rfl rfl
theorem w113_75 {ls st : List xV} {M : xM} {Q : Option xV → xM → Prop} {a : Int} {d : Nat} (hc : x_c d = 20) (hn : x_n d = 305) (h1 : 0 ≤ a) (h2 : a < 305) : Wp 113 75 (ls) (xi a :: xr d :: st) (M) Q = Wp 113 76 (ls) (xi (M d a) :: st) (M) Q := wp_ald rfl hc h1 (by rw [hn]; exact h2)
theorem w113_76 {ls : List xV} {M : xM} {Q : Option xV → xM → Prop} {a : Int} : Wp 113 76 (ls) ([xi a]) (M) Q = Q (some (xi a)) M := wp_iret rfl
theorem wc114 {M : xM} {Q : Option xV → xM → Prop} {d0 : Nat} {a1 : Int} {a2 : Int} {a3 : Int} : Wc 114 [xr d0, xi a1, xi a2, xi a3] M Q = Wp 114 0 [xr d0, xi a1, xi a2, xi a3] [] M Q := rfl
theorem w114_0 {ls st : List xV} {M : xM} {Q : Option xV → xM → Prop} {d : Nat} : Wp 114 0 (xr d :: ls) (st) (M) Q = Wp 114 1 (xr d :: ls) (xr d :: st) (M) Q := wp_aload rfl rfl
theorem w114_1 {ls st : List xV} {M : xM} {Q : Option xV → xM → Prop} {d : Nat} (hc : x_c d = 9) : Wp 114 1 (ls) (xr d :: st) (M) Q = Wp 114 4 (ls) (xr (x_r d 13) :: st) (M) Q := wp_getr rfl hc
theorem w114_4 {ls st : List xV} {M : xM} {Q : Option xV → xM → Prop}  : Wp 114 4 (ls) (st) (M) Q = Wp 114 5 (ls) (xi 5 :: st) (M) Q := wp_const rfl
theorem w114_5 {ls st : List xV} {M : xM} {Q : Option xV → xM → Prop} {a : Int} {v0 : xV} {v1 : xV} {v2 : xV} : Wp 114 5 (v0 :: v1 :: v2 :: xi a :: ls) (st) (M) Q = Wp 114 6 (v0 :: v1 :: v2 :: xi a :: ls) (xi a :: st) (M) Q := wp_iload rfl rfl
theorem w114_6 {ls st : List xV} {M : xM} {Q : Option xV → xM → Prop} {a : Int} {b : Int} : Wp 114 6 (ls) (xi b :: xi a :: st) (M) Q = Wp 114 7 (ls) (xi (a * b) :: st) (M) Q := wp_bin (f := xmul) rfl
theorem w114_7 {ls st : List xV} {M : xM} {Q : Option xV → xM → Prop} {a : Int} {v0 : xV} : Wp 114 7 (v0 :: xi a :: ls) (st) (M) Q = Wp 114 8 (v0 :: xi a :: ls) (xi a :: st) (M) Q := wp_iload rfl rfl
theorem w114_8 {ls st : List xV} {M : xM} {Q : Option xV → xM → Prop} {a : Int} {b : Int} : Wp 114 8 (ls) (xi b :: xi a :: st) (M) Q = Wp 114 9 (ls) (xi (a + b) :: st) (M) Q := wp_bin (f := xadd) rfl
theorem w114_9 {ls st : List xV} {M : xM} {Q : Option xV → xM → Prop} {a : Int} {d : Nat} (hc : x_c d = 20) (hn : x_n d = 305) (h1 : 0 ≤ a) (h2 : a < 305) : Wp 114 9 (ls) (xi a :: xr d :: st) (M) Q = Wp 114 10 (ls) (xi (M d a) :: st) (M) Q := wp_ald rfl hc h1 (by rw [hn]; exact h2)
theorem w114_10 {ls st : List xV} {M : xM} {Q : Option xV → xM → Prop} {d : Nat} : Wp 114 10 (xr d :: ls) (st) (M) Q = Wp 114 11 (xr d :: ls) (xr d :: st) (M) Q := wp_aload rfl rfl
theorem w114_11 {ls st : List xV} {M : xM} {Q : Option xV → xM → Prop} {d : Nat} (hc : x_c d = 9) : Wp 114 11 (ls) (xr d :: st) (M) Q = Wp 114 14 (ls) (xr (x_r d 2) :: st) (M) Q := wp_getr rfl hc
theorem w114_14 {ls st : List xV} {M : xM} {Q : Option xV → xM → Prop}  : Wp 114 14 (ls) (st) (M) Q = Wp 114 15 (ls) (xi 5 :: st) (M) Q := wp_const rfl
theorem w114_15 {ls st : List xV} {M : xM} {Q : Option xV → xM → Prop} {a : Int} {v0 : xV} {v1 : xV} : Wp 114 15 (v0 :: v1 :: xi a :: ls) (st) (M) Q = Wp 114 16 (v0 :: v1 :: xi a :: ls) (xi a :: st) (M) Q := wp_iload rfl rfl
theorem w114_16 {ls st : List xV} {M : xM} {Q : Option xV → xM → Prop} {a : Int} {b : Int} : Wp 114 16 (ls) (xi b :: xi a :: st) (M) Q = Wp 114 17 (ls) (xi (a + b) :: st) (M) Q := wp_bin (f := xadd) rfl
theorem w114_17 {ls st : List xV} {M : xM} {Q : Option xV → xM → Prop} {a : Int} {d : Nat} (hc : x_c d = 20) (hn : x_n d = 25) (h1 : 0 ≤ a) (h2 : a < 25) : Wp 114 17 (ls) (xi a :: xr d :: st) (M) Q = Wp 114 18 (ls) (xi (M d a) :: st) (M) Q := wp_ald rfl hc h1 (by rw [hn]; exact h2)
theorem w114_18 {ls st : List xV} {M : xM} {Q : Option xV → xM → Prop} {a : Int} {b : Int} (ha : xG a) (hb : xG b) : Wp 114 18 (ls) (xi b :: xi a :: st) (M) Q = ((¬ a = b → Wp 114 25 (ls) (st) (M) Q) ∧ (¬ (¬ a = b) → Wp 114 21 (ls) (st) (M) Q)) := wp_cmp_ne rfl ha hb
theorem w114_21 {ls st : List xV} {M : xM} {Q : Option xV → xM → Prop}  : Wp 114 21 (ls) (st) (M) Q = Wp 114 22 (ls) (xi 1 :: st) (M) Q := wp_const rfl
theorem w114_22 {ls st : List xV} {M : xM} {Q : Option xV → xM → Prop}  : Wp 114 22 (ls) (st) (M) Q = Wp 114 26 (ls) (st) (M) Q := wp_goto rfl
theorem w114_25 {ls st : List xV} {M : xM} {Q : Option xV → xM → Prop}  : Wp 114 25 (ls) (st) (M) Q = Wp 114 26 (ls) (xi 0 :: st) (M) Q := wp_const rfl
theorem w114_26 {ls : List xV} {M : xM} {Q : Option xV → xM → Prop} {a : Int} (ha : a = 0 ∨ a = 1) : Wp 114 26 (ls) ([xi a]) (M) Q = Q (some (xi a)) M := wp_zret rfl ha
theorem wc115 {M : xM} {Q : Option xV → xM → Prop} {d0 : Nat} {a1 : Int} {a2 : Int} : Wc 115 [xr d0, xi a1, xi a2] M Q = Wp 115 0 [xr d0, xi a1, xi a2, xj, xj] [] M Q := rfl
theorem w115_0 {ls st : List xV} {M : xM} {Q : Option xV → xM → Prop}  : Wp 115 0 (ls) (st) (M) Q = Wp 115 2 (ls) (xi (-4) :: st) (M) Q := wp_const rfl
theorem w115_2 {ls st : List xV} {M : xM} {Q : Option xV → xM → Prop} {a : Int} {v0 : xV} {v1 : xV} {v2 : xV} {w : xV} : Wp 115 2 (v0 :: v1 :: v2 :: w :: ls) (xi a :: st) (M) Q = Wp 115 3 (v0 :: v1 :: xjl v2 :: xi a :: ls) (st) (M) Q := wp_istore rfl rfl
theorem w115_3 {ls st : List xV} {M : xM} {Q : Option xV → xM → Prop}  : Wp 115 3 (ls) (st) (M) Q = Wp 115 5 (ls) (xi 60 :: st) (M) Q := wp_const rfl
theorem w115_5 {ls st : List xV} {M : xM} {Q : Option xV → xM → Prop} {a : Int} {v0 : xV} {v1 : xV} {v2 : xV} {v3 : xV} {w : xV} : Wp 115 5 (v0 :: v1 :: v2 :: v3 :: w :: ls) (xi a :: st) (M) Q = Wp 115 7 (v0 :: v1 :: v2 :: xjl v3 :: xi a :: ls) (st) (M) Q := wp_istore rfl rfl
theorem w115_7 {ls st : List xV} {M : xM} {Q : Option xV → xM → Prop} {a : Int} {v0 : xV} {v1 : xV} {v2 : xV} {v3 : xV} : Wp 115 7 (v0 :: v1 :: v2 :: v3 :: xi a :: ls) (st) (M) Q = Wp 115 9 (v0 :: v1 :: v2 :: v3 :: xi a :: ls) (xi a :: st) (M) Q := wp_iload rfl rfl
theorem w115_9 {ls st : List xV} {M : xM} {Q : Option xV → xM → Prop} {a : Int} (ha : xG a) : Wp 115 9 (ls) (xi a :: st) (M) Q = ((a < 0 → Wp 115 36 (ls) (st) (M) Q) ∧ (¬ (a < 0) → Wp 115 12 (ls) (st) (M) Q)) := wp_if_lt rfl ha
theorem w115_12 {ls st : List xV} {M : xM} {Q : Option xV → xM → Prop} {d : Nat} : Wp 115 12 (xr d :: ls) (st) (M) Q = Wp 115 13 (xr d :: ls) (xr d :: st) (M) Q := wp_aload rfl rfl
theorem w115_13 {ls st : List xV} {M : xM} {Q : Option xV → xM → Prop} {a : Int} {v0 : xV} : Wp 115 13 (v0 :: xi a :: ls) (st) (M) Q = Wp 115 14 (v0 :: xi a :: ls) (xi a :: st) (M) Q := wp_iload rfl rfl
theorem w115_14 {ls st : List xV} {M : xM} {Q : Option xV → xM → Prop} {a : Int} {v0 : xV} {v1 : xV} : Wp 115 14 (v0 :: v1 :: xi a :: ls) (st) (M) Q = Wp 115 15 (v0 :: v1 :: xi a :: ls) (xi a :: st) (M) Q := wp_iload rfl rfl
theorem w115_15 {ls st : List xV} {M : xM} {Q : Option xV → xM → Prop} {a : Int} {v0 : xV} {v1 : xV} {v2 : xV} {v3 : xV} : Wp 115 15 (v0 :: v1 :: v2 :: v3 :: xi a :: ls) (st) (M) Q = Wp 115 17 (v0 :: v1 :: v2 :: v3 :: xi a :: ls) (xi a :: st) (M) Q := wp_iload rfl rfl
theorem w115_17 {ls : List xV} {M : xM} {Q : Option xV → xM → Prop} {a1 : Int} {a2 : Int} {a3 : Int} {d0 : Nat} (hc : x_c d0 = 9) : Wp 115 17 (ls) (xi a3 :: xi a2 :: xi a1 :: xr d0 :: []) (M) Q = Wc 114 [xr d0, xi a1, xi a2, xi a3] M (fun r M2 => Wp 115 20 (ls) (r.toList ++ ([])) M2 Q) := wp_cV rfl rfl hc (Nat.le_of_ble_eq_true rfl) (Nat.le_of_ble_eq_true rfl) rfl rfl
theorem w115_20 {ls st : List xV} {M : xM} {Q : Option xV → xM → Prop} {a : Int} (ha : xG a) : Wp 115 20 (ls) (xi a :: st) (M) Q = ((a = 0 → Wp 115 28 (ls) (st) (M) Q) ∧ (¬ (a = 0) → Wp 115 23 (ls) (st) (M) Q)) := wp_if_eq rfl ha
theorem w115_23 {ls st : List xV} {M : xM} {Q : Option xV → xM → Prop} {a : Int} {v0 : xV} {v1 : xV} {v2 : xV} {v3 : xV} : Wp 115 23 (v0 :: v1 :: v2 :: v3 :: xi a :: ls) (st) (M) Q = Wp 115 25 (v0 :: v1 :: v2 :: v3 :: xi a :: ls) (xi a :: st) (M) Q := wp_iload rfl rfl
theorem w115_25 {ls st : List xV} {M : xM} {Q : Option xV → xM → Prop}  : Wp 115 25 (ls) (st) (M) Q = Wp 115 29 (ls) (st) (M) Q := wp_goto rfl
theorem w115_28 {ls st : List xV} {M : xM} {Q : Option xV → xM → Prop} {a : Int} {v0 : xV} {v1 : xV} {v2 : xV} : Wp 115 28 (v0 :: v1 :: v2 :: xi a :: ls) (st) (M) Q = Wp 115 29 (v0 :: v1 :: v2 :: xi a :: ls) (xi a :: st) (M) Q := wp_iload rfl rfl
theorem w115_29 {ls st : List xV} {M : xM} {Q : Option xV → xM → Prop} {a : Int} {v0 : xV} {v1 : xV} {v2 : xV} {w : xV} : Wp 115 29 (v0 :: v1 :: v2 :: w :: ls) (xi a :: st) (M) Q = Wp 115 30 (v0 :: v1 :: xjl v2 :: xi a :: ls) (st) (M) Q := wp_istore rfl rfl
theorem w115_30 {ls st : List xV} {M : xM} {Q : Option xV → xM → Prop} {a : Int} {v0 : xV} {v1 : xV} {v2 : xV} {v3 : xV} : Wp 115 30 (v0 :: v1 :: v2 :: v3 :: xi a :: ls) (st) (M) Q = Wp 115 33 (v0 :: v1 :: v2 :: xjl v3 :: xi (a + (-1)) :: ls) (st) (M) Q := wp_iinc rfl rfl rfl
theorem w115_33 {ls st : List xV} {M : xM} {Q : Option xV → xM → Prop}  : Wp 115 33 (ls) (st) (M) Q = Wp 115 7 (ls) (st) (M) Q := wp_goto rfl
theorem w115_36 {ls st : List xV} {M : xM} {Q : Option xV → xM → Prop} {a : Int} {v0 : xV} {v1 : xV} {v2 : xV} : Wp 115 36 (v0 :: v1 :: v2 :: xi a :: ls) (st) (M) Q = Wp 115 37 (v0 :: v1 :: v2 :: xi a :: ls) (xi a :: st) (M) Q := wp_iload rfl rfl
theorem w115_37 {ls : List xV} {M : xM} {Q : Option xV → xM → Prop} {a : Int} : Wp 115 37 (ls) ([xi a]) (M) Q = Q (some (xi a)) M := wp_iret rfl
theorem wc116 {M : xM} {Q : Option xV → xM → Prop} {d0 : Nat} {a1 : Int} {a2 : Int} : Wc 116 [xr d0, xi a1, xi a2] M Q = Wp 116 0 [xr d0, xi a1, xi a2] [] M Q := rfl
theorem w116_0 {ls st : List xV} {M : xM} {Q : Option xV → xM → Prop} {d : Nat} : Wp 116 0 (xr d :: ls) (st) (M) Q = Wp 116 1 (xr d :: ls) (xr d :: st) (M) Q := wp_aload rfl rfl
theorem w116_1 {ls st : List xV} {M : xM} {Q : Option xV → xM → Prop} {a : Int} {v0 : xV} : Wp 116 1 (v0 :: xi a :: ls) (st) (M) Q = Wp 116 2 (v0 :: xi a :: ls) (xi a :: st) (M) Q := wp_iload rfl rfl
theorem w116_2 {ls : List xV} {M : xM} {Q : Option xV → xM → Prop} {a1 : Int} {d0 : Nat} (hc : x_c d0 = 9) : Wp 116 2 (ls) (xi a1 :: xr d0 :: []) (M) Q = Wc 81 [xr d0, xi a1] M (fun r M2 => Wp 116 5 (ls) (r.toList ++ ([])) M2 Q) := wp_cV rfl rfl hc (Nat.le_of_ble_eq_true rfl) (Nat.le_of_ble_eq_true rfl) rfl rfl
theorem w116_5 {ls st : List xV} {M : xM} {Q : Option xV → xM → Prop} {a : Int} (ha : xG a) : Wp 116 5 (ls) (xi a :: st) (M) Q = ((a = 0 → Wp 116 16 (ls) (st) (M) Q) ∧ (¬ (a = 0) → Wp 116 8 (ls) (st) (M) Q)) := wp_if_eq rfl ha
theorem w116_8 {ls st : List xV} {M : xM} {Q : Option xV → xM → Prop} {d : Nat} : Wp 116 8 (xr d :: ls) (st) (M) Q = Wp 116 9 (xr d :: ls) (xr d :: st) (M) Q := wp_aload rfl rfl
theorem w116_9 {ls st : List xV} {M : xM} {Q : Option xV → xM → Prop} {a : Int} {v0 : xV} {v1 : xV} : Wp 116 9 (v0 :: v1 :: xi a :: ls) (st) (M) Q = Wp 116 10 (v0 :: v1 :: xi a :: ls) (xi a :: st) (M) Q := wp_iload rfl rfl
theorem w116_10 {ls : List xV} {M : xM} {Q : Option xV → xM → Prop} {a1 : Int} {d0 : Nat} (hc : x_c d0 = 9) : Wp 116 10 (ls) (xi a1 :: xr d0 :: []) (M) Q = Wc 80 [xr d0, xi a1] M (fun r M2 => Wp 116 13 (ls) (r.toList ++ ([])) M2 Q) := wp_cV rfl rfl hc (Nat.le_of_ble_eq_true rfl) (Nat.le_of_ble_eq_true rfl) rfl rfl
theorem w116_13 {ls st : List xV} {M : xM} {Q : Option xV → xM → Prop} {a : Int} (ha : xG a) : Wp 116 13 (ls) (xi a :: st) (M) Q = ((¬ a = 0 → Wp 116 18 (ls) (st) (M) Q) ∧ (¬ (¬ a = 0) → Wp 116 16 (ls) (st) (M) Q)) := wp_if_ne rfl ha
theorem w116_16 {ls st : List xV} {M : xM} {Q : Option xV → xM → Prop}  : Wp 116 16 (ls) (st) (M) Q = Wp 116 17 (ls) (xi (-1) :: st) (M) Q := wp_const rfl
theorem w116_17 {ls : List xV} {M : xM} {Q : Option xV → xM → Prop} {a : Int} : Wp 116 17 (ls) ([xi a]) (M) Q = Q (some (xi a)) M := wp_iret rfl
theorem w116_18 {ls st : List xV} {M : xM} {Q : Option xV → xM → Prop} {d : Nat} : Wp 116 18 (xr d :: ls) (st) (M) Q = Wp 116 19 (xr d :: ls) (xr d :: st) (M) Q := wp_aload rfl rfl
theorem w116_19 {ls : List xV} {M : xM} {Q : Option xV → xM → Prop} {d0 : Nat} (hc : x_c d0 = 9) : Wp 116 19 (ls) (xr d0 :: []) (M) Q = Wc 112 [xr d0] M (fun r M2 => Wp 116 22 (ls) (r.toList ++ ([])) M2 Q) := wp_cV rfl rfl hc (Nat.le_of_ble_eq_true rfl) (Nat.le_of_ble_eq_true rfl) rfl rfl
theorem w116_22 {ls st : List xV} {M : xM} {Q : Option xV → xM → Prop} {d : Nat} : Wp 116 22 (xr d :: ls) (st) (M) Q = Wp 116 23 (xr d :: ls) (xr d :: st) (M) Q := wp_aload rfl rfl
theorem w116_23 {ls st : List xV} {M : xM} {Q : Option xV → xM → Prop} {a : Int} {v0 : xV} : Wp 116 23 (v0 :: xi a :: ls) (st) (M) Q = Wp 116 24 (v0 :: xi a :: ls) (xi a :: st) (M) Q := wp_iload rfl rfl
theorem w116_24 {ls st : List xV} {M : xM} {Q : Option xV → xM → Prop} {a : Int} {v0 : xV} {v1 : xV} : Wp 116 24 (v0 :: v1 :: xi a :: ls) (st) (M) Q = Wp 116 25 (v0 :: v1 :: xi a :: ls) (xi a :: st) (M) Q := wp_iload rfl rfl
theorem w116_25 {ls : List xV} {M : xM} {Q : Option xV → xM → Prop} {a1 : Int} {a2 : Int} {d0 : Nat} (hc : x_c d0 = 9) : Wp 116 25 (ls) (xi a2 :: xi a1 :: xr d0 :: []) (M) Q = Wc 115 [xr d0, xi a1, xi a2] M (fun r M2 => Wp 116 28 (ls) (r.toList ++ ([])) M2 Q) := wp_cV rfl rfl hc (Nat.le_of_ble_eq_true rfl) (Nat.le_of_ble_eq_true rfl) rfl rfl
theorem w116_28 {ls : List xV} {M : xM} {Q : Option xV → xM → Prop} {a : Int} : Wp 116 28 (ls) ([xi a]) (M) Q = Q (some (xi a)) M := wp_iret rfl
theorem wc117 {M : xM} {Q : Option xV → xM → Prop} {d0 : Nat} : Wc 117 [xr d0] M Q = Wp 117 0 [xr d0] [] M Q := rfl
theorem w117_0 {ls st : List xV} {M : xM} {Q : Option xV → xM → Prop} {d : Nat} : Wp 117 0 (xr d :: ls) (st) (M) Q = Wp 117 1 (xr d :: ls) (xr d :: st) (M) Q := wp_aload rfl rfl
theorem w117_1 {ls : List xV} {M : xM} {Q : Option xV → xM → Prop} {d0 : Nat} (hc : x_c d0 = 9) : Wp 117 1 (ls) (xr d0 :: []) (M) Q = Wc 112 [xr d0] M (fun r M2 => Wp 117 4 (ls) (r.toList ++ ([])) M2 Q) := wp_cV rfl rfl hc (Nat.le_of_ble_eq_true rfl) (Nat.le_of_ble_eq_true rfl) rfl rfl
theorem w117_4 {ls st : List xV} {M : xM} {Q : Option xV → xM → Prop}  : Wp 117 4 (ls) (st) (M) Q = Wp 117 5 (ls) (xi 1 :: st) (M) Q := wp_const rfl
theorem w117_5 {ls st : List xV} {M : xM} {Q : Option xV → xM → Prop} {d : Nat} : Wp 117 5 (xr d :: ls) (st) (M) Q = Wp 117 6 (xr d :: ls) (xr d :: st) (M) Q := wp_aload rfl rfl
theorem w117_6 {ls st : List xV} {M : xM} {Q : Option xV → xM → Prop} {d : Nat} (hc : x_c d = 9) : Wp 117 6 (ls) (xr d :: st) (M) Q = Wp 117 9 (ls) (xr (x_r d 2) :: st) (M) Q := wp_getr rfl hc
theorem w117_9 {ls st : List xV} {M : xM} {Q : Option xV → xM → Prop}  : Wp 117 9 (ls) (st) (M) Q = Wp 117 10 (ls) (xi 2 :: st) (M) Q := wp_const rfl
theorem w117_10 {ls st : List xV} {M : xM} {Q : Option xV → xM → Prop} {a : Int} {d : Nat} (hc : x_c d = 20) (hn : x_n d = 25) (h1 : 0 ≤ a) (h2 : a < 25) : Wp 117 10 (ls) (xi a :: xr d :: st) (M) Q = Wp 117 11 (ls) (xi (M d a) :: st) (M) Q := wp_ald rfl hc h1 (by rw [hn]; exact h2)
theorem w117_11 {ls st : List xV} {M : xM} {Q : Option xV → xM → Prop} {a : Int} {b : Int} : Wp 117 11 (ls) (xi b :: xi a :: st) (M) Q = Wp 117 12 (ls) (xi (xshl a b) :: st) (M) Q := wp_bin (f := xshl) rfl
theorem w117_12 {ls st : List xV} {M : xM} {Q : Option xV → xM → Prop}  : Wp 117 12 (ls) (st) (M) Q = Wp 117 13 (ls) (xi 1 :: st) (M) Q := wp_const rfl
theorem w117_13 {ls st : List xV} {M : xM} {Q : Option xV → xM → Prop} {a : Int} {b : Int} : Wp 117 13 (ls) (xi b :: xi a :: st) (M) Q = Wp 117 14 (ls) (xi (a - b) :: st) (M) Q := wp_bin (f := xsub) rfl
theorem w117_14 {ls st : List xV} {M : xM} {Q : Option xV → xM → Prop} {d : Nat} : Wp 117 14 (xr d :: ls) (st) (M) Q = Wp 117 15 (xr d :: ls) (xr d :: st) (M) Q := wp_aload rfl rfl
theorem w117_15 {ls st : List xV} {M : xM} {Q : Option xV → xM → Prop} {d : Nat} (hc : x_c d = 9) : Wp 117 15 (ls) (xr d :: st) (M) Q = Wp 117 18 (ls) (xr (x_r d 5) :: st) (M) Q := wp_getr rfl hc
theorem w117_18 {ls st : List xV} {M : xM} {Q : Option xV → xM → Prop}  : Wp 117 18 (ls) (st) (M) Q = Wp 117 19 (ls) (xi 5 :: st) (M) Q := wp_const rfl
theorem w117_19 {ls st : List xV} {M : xM} {Q : Option xV → xM → Prop} {a : Int} {d : Nat} (hc : x_c d = 20) (hn : x_n d = 7) (h1 : 0 ≤ a) (h2 : a < 7) : Wp 117 19 (ls) (xi a :: xr d :: st) (M) Q = Wp 117 20 (ls) (xi (M d a) :: st) (M) Q := wp_ald rfl hc h1 (by rw [hn]; exact h2)
theorem w117_20 {ls st : List xV} {M : xM} {Q : Option xV → xM → Prop}  : Wp 117 20 (ls) (st) (M) Q = Wp 117 21 (ls) (xi (-1) :: st) (M) Q := wp_const rfl
theorem w117_21 {ls st : List xV} {M : xM} {Q : Option xV → xM → Prop} {a : Int} {b : Int} : Wp 117 21 (ls) (xi b :: xi a :: st) (M) Q = Wp 117 22 (ls) (xi (xxor a b) :: st) (M) Q := wp_bin (f := xxor) rfl
theorem w117_22 {ls st : List xV} {M : xM} {Q : Option xV → xM → Prop} {a : Int} {b : Int} : Wp 117 22 (ls) (xi b :: xi a :: st) (M) Q = Wp 117 23 (ls) (xi (xand a b) :: st) (M) Q := wp_bin (f := xand) rfl
theorem w117_23 {ls st : List xV} {M : xM} {Q : Option xV → xM → Prop} {d : Nat} : Wp 117 23 (xr d :: ls) (st) (M) Q = Wp 117 24 (xr d :: ls) (xr d :: st) (M) Q := wp_aload rfl rfl
theorem w117_24 {ls st : List xV} {M : xM} {Q : Option xV → xM → Prop} {d : Nat} (hc : x_c d = 9) : Wp 117 24 (ls) (xr d :: st) (M) Q = Wp 117 27 (ls) (xi (M d 18) :: st) (M) Q := wp_getf rfl hc
theorem w117_27 {ls st : List xV} {M : xM} {Q : Option xV → xM → Prop}  : Wp 117 27 (ls) (st) (M) Q = Wp 117 28 (ls) (xi (-1) :: st) (M) Q := wp_const rfl
theorem w117_28 {ls st : List xV} {M : xM} {Q : Option xV → xM → Prop} {a : Int} {b : Int} : Wp 117 28 (ls) (xi b :: xi a :: st) (M) Q = Wp 117 29 (ls) (xi (xxor a b) :: st) (M) Q := wp_bin (f := xxor) rfl
theorem w117_29 {ls st : List xV} {M : xM} {Q : Option xV → xM → Prop} {a : Int} {b : Int} : Wp 117 29 (ls) (xi b :: xi a :: st) (M) Q = Wp 117 30 (ls) (xi (xand a b) :: st) (M) Q := wp_bin (f := xand) rfl
theorem w117_30 {ls : List xV} {M : xM} {Q : Option xV → xM → Prop} {a : Int} : Wp 117 30 (ls) ([xi a]) (M) Q = Q (some (xi a)) M := wp_iret rfl
theorem wc118 {M : xM} {Q : Option xV → xM → Prop} {d0 : Nat} {a1 : Int} {a2 : Int} {a3 : Int} : Wc 118 [xr d0, xi a1, xi a2, xi a3] M Q = Wp 118 0 [xr d0, xi a1, xi a2, xi a3, xj, xj, xj, xj] [] M Q := rfl
theorem w118_0 {ls st : List xV} {M : xM} {Q : Option xV → xM → Prop} {d : Nat} : Wp 118 0 (xr d :: ls) (st) (M) Q = Wp 118 1 (xr d :: ls) (xr d :: st) (M) Q := wp_aload rfl rfl
theorem w118_1 {ls st : List xV} {M : xM} {Q : Option xV → xM → Prop} {a : Int} {v0 : xV} : Wp 118 1 (v0 :: xi a :: ls) (st) (M) Q = Wp 118 2 (v0 :: xi a :: ls) (xi a :: st) (M) Q := wp_iload rfl rfl
theorem w118_2 {ls : List xV} {M : xM} {Q : Option xV → xM → Prop} {a1 : Int} {d0 : Nat} (hc : x_c d0 = 9) : Wp 118 2 (ls) (xi a1 :: xr d0 :: []) (M) Q = Wc 80 [xr d0, xi a1] M (fun r M2 => Wp 118 5 (ls) (r.toList ++ ([])) M2 Q) := wp_cV rfl rfl hc (Nat.le_of_ble_eq_true rfl) (Nat.le_of_ble_eq_true rfl) rfl rfl
theorem w118_5 {ls st : List xV} {M : xM} {Q : Option xV → xM → Prop} {a : Int} (ha : xG a) : Wp 118 5 (ls) (xi a :: st) (M) Q = ((a = 0 → Wp 118 30 (ls) (st) (M) Q) ∧ (¬ (a = 0) → Wp 118 8 (ls) (st) (M) Q)) := wp_if_eq rfl ha
theorem w118_8 {ls st : List xV} {M : xM} {Q : Option xV → xM → Prop} {d : Nat} : Wp 118 8 (xr d :: ls) (st) (M) Q = Wp 118 9 (xr d :: ls) (xr d :: st) (M) Q := wp_aload rfl rfl
theorem w118_9 {ls st : List xV} {M : xM} {Q : Option xV → xM → Prop} {a : Int} {v0 : xV} {v1 : xV} : Wp 118 9 (v0 :: v1 :: xi a :: ls) (st) (M) Q = Wp 118 10 (v0 :: v1 :: xi a :: ls) (xi a :: st) (M) Q := wp_iload rfl rfl
theorem w118_10 {ls : List xV} {M : xM} {Q : Option xV → xM → Prop} {a1 : Int} {d0 : Nat} (hc : x_c d0 = 9) : Wp 118 10 (ls) (xi a1 :: xr d0 :: []) (M) Q = Wc 80 [xr d0, xi a1] M (fun r M2 => Wp 118 13 (ls) (r.toList ++ ([])) M2 Q) := wp_cV rfl rfl hc (Nat.le_of_ble_eq_true rfl) (Nat.le_of_ble_eq_true rfl) rfl rfl
theorem w118_13 {ls st : List xV} {M : xM} {Q : Option xV → xM → Prop} {a : Int} (ha : xG a) : Wp 118 13 (ls) (xi a :: st) (M) Q = ((a = 0 → Wp 118 30 (ls) (st) (M) Q) ∧ (¬ (a = 0) → Wp 118 16 (ls) (st) (M) Q)) := wp_if_eq rfl ha
theorem w118_16 {ls st : List xV} {M : xM} {Q : Option xV → xM → Prop} {a : Int} {v0 : xV} : Wp 118 16 (v0 :: xi a :: ls) (st) (M) Q = Wp 118 17 (v0 :: xi a :: ls) (xi a :: st) (M) Q := wp_iload rfl rfl
theorem w118_17 {ls st : List xV} {M : xM} {Q : Option xV → xM → Prop} {a : Int} {v0 : xV} {v1 : xV} : Wp 118 17 (v0 :: v1 :: xi a :: ls) (st) (M) Q = Wp 118 18 (v0 :: v1 :: xi a :: ls) (xi a :: st) (M) Q := wp_iload rfl rfl
theorem w118_18 {ls st : List xV} {M : xM} {Q : Option xV → xM → Prop} {a : Int} {b : Int} (ha : xG a) (hb : xG b) : Wp 118 18 (ls) (xi b :: xi a :: st) (M) Q = ((a = b → Wp 118 30 (ls) (st) (M) Q) ∧ (¬ (a = b) → Wp 118 21 (ls) (st) (M) Q)) := wp_cmp_eq rfl ha hb
theorem w118_21 {ls st : List xV} {M : xM} {Q : Option xV → xM → Prop} {a : Int} {v0 : xV} {v1 : xV} {v2 : xV} : Wp 118 21 (v0 :: v1 :: v2 :: xi a :: ls) (st) (M) Q = Wp 118 22 (v0 :: v1 :: v2 :: xi a :: ls) (xi a :: st) (M) Q := wp_iload rfl rfl
theorem w118_22 {ls st : List xV} {M : xM} {Q : Option xV → xM → Prop}  : Wp 118 22 (ls) (st) (M) Q = Wp 118 23 (ls) (xi 0 :: st) (M) Q := wp_const rfl
theorem w118_23 {ls st : List xV} {M : xM} {Q : Option xV → xM → Prop}  : Wp 118 23 (ls) (st) (M) Q = Wp 118 24 (ls) (xi 1 :: st) (M) Q := wp_const rfl
theorem w118_24 {ls : List xV} {M : xM} {Q : Option xV → xM → Prop} {a0 : Int} {a1 : Int} {a2 : Int} : Wp 118 24 (ls) (xi a2 :: xi a1 :: xi a0 :: []) (M) Q = Wc 79 [xi a0, xi a1, xi a2] M (fun r M2 => Wp 118 27 (ls) (r.toList ++ ([])) M2 Q) := wp_cS rfl rfl (Nat.le_of_ble_eq_true rfl) (Nat.le_of_ble_eq_true rfl) rfl rfl
theorem w118_27 {ls st : List xV} {M : xM} {Q : Option xV → xM → Prop} {a : Int} (ha : xG a) : Wp 118 27 (ls) (xi a :: st) (M) Q = ((¬ a = 0 → Wp 118 32 (ls) (st) (M) Q) ∧ (¬ (¬ a = 0) → Wp 118 30 (ls) (st) (M) Q)) := wp_if_ne rfl ha
theorem w118_30 {ls st : List xV} {M : xM} {Q : Option xV → xM → Prop}  : Wp 118 30 (ls) (st) (M) Q = Wp 118 31 (ls) (xi (-1) :: st) (M) Q := wp_const rfl
theorem w118_31 {ls : List xV} {M : xM} {Q : Option xV → xM → Prop} {a : Int} : Wp 118 31 (ls) ([xi a]) (M) Q = Q (some (xi a)) M := wp_iret rfl
theorem w118_32 {ls st : List xV} {M : xM} {Q : Option xV → xM → Prop} {d : Nat} : Wp 118 32 (xr d :: ls) (st) (M) Q = Wp 118 33 (xr d :: ls) (xr d :: st) (M) Q := wp_aload rfl rfl
theorem w118_33 {ls : List xV} {M : xM} {Q : Option xV → xM → Prop} {d0 : Nat} (hc : x_c d0 = 9) : Wp 118 33 (ls) (xr d0 :: []) (M) Q = Wc 112 [xr d0] M (fun r M2 => Wp 118 36 (ls) (r.toList ++ ([])) M2 Q) := wp_cV rfl rfl hc (Nat.le_of_ble_eq_true rfl) (Nat.le_of_ble_eq_true rfl) rfl rfl
theorem w118_36 {ls st : List xV} {M : xM} {Q : Option xV → xM → Prop}  : Wp 118 36 (ls) (st) (M) Q = Wp 118 37 (ls) (xi 0 :: st) (M) Q := wp_const rfl
theorem w118_37 {ls st : List xV} {M : xM} {Q : Option xV → xM → Prop} {a : Int} {v0 : xV} {v1 : xV} {v2 : xV} {v3 : xV} {w : xV} : Wp 118 37 (v0 :: v1 :: v2 :: v3 :: w :: ls) (xi a :: st) (M) Q = Wp 118 39 (v0 :: v1 :: v2 :: xjl v3 :: xi a :: ls) (st) (M) Q := wp_istore rfl rfl
theorem w118_39 {ls st : List xV} {M : xM} {Q : Option xV → xM → Prop} {a : Int} {v0 : xV} {v1 : xV} {v2 : xV} {v3 : xV} : Wp 118 39 (v0 :: v1 :: v2 :: v3 :: xi a :: ls) (st) (M) Q = Wp 118 41 (v0 :: v1 :: v2 :: v3 :: xi a :: ls) (xi a :: st) (M) Q := wp_iload rfl rfl
theorem w118_41 {ls st : List xV} {M : xM} {Q : Option xV → xM → Prop}  : Wp 118 41 (ls) (st) (M) Q = Wp 118 42 (ls) (xi 5 :: st) (M) Q := wp_const rfl
theorem w118_42 {ls st : List xV} {M : xM} {Q : Option xV → xM → Prop} {a : Int} {b : Int} (ha : xG a) (hb : xG b) : Wp 118 42 (ls) (xi b :: xi a :: st) (M) Q = ((b ≤ a → Wp 118 79 (ls) (st) (M) Q) ∧ (¬ (b ≤ a) → Wp 118 45 (ls) (st) (M) Q)) := wp_cmp_ge rfl ha hb
theorem w118_45 {ls st : List xV} {M : xM} {Q : Option xV → xM → Prop} {d : Nat} : Wp 118 45 (xr d :: ls) (st) (M) Q = Wp 118 46 (xr d :: ls) (xr d :: st) (M) Q := wp_aload rfl rfl
theorem w118_46 {ls st : List xV} {M : xM} {Q : Option xV → xM → Prop} {d : Nat} (hc : x_c d = 9) : Wp 118 46 (ls) (xr d :: st) (M) Q = Wp 118 49 (ls) (xr (x_r d 23) :: st) (M) Q := wp_getr rfl hc
theorem w118_49 {ls st : List xV} {M : xM} {Q : Option xV → xM → Prop} {a : Int} {v0 : xV} {v1 : xV} {v2 : xV} {v3 : xV} : Wp 118 49 (v0 :: v1 :: v2 :: v3 :: xi a :: ls) (st) (M) Q = Wp 118 51 (v0 :: v1 :: v2 :: v3 :: xi a :: ls) (xi a :: st) (M) Q := wp_iload rfl rfl
theorem w118_51 {ls st : List xV} {M : xM} {Q : Option xV → xM → Prop} {a : Int} {v0 : xV} {v1 : xV} {v2 : xV} {v3 : xV} : Wp 118 51 (v0 :: v1 :: v2 :: v3 :: xi a :: ls) (st) (M) Q = Wp 118 53 (v0 :: v1 :: v2 :: v3 :: xi a :: ls) (xi a :: st) (M) Q := wp_iload rfl rfl
theorem w118_53 {ls st : List xV} {M : xM} {Q : Option xV → xM → Prop} {a : Int} {v0 : xV} : Wp 118 53 (v0 :: xi a :: ls) (st) (M) Q = Wp 118 54 (v0 :: xi a :: ls) (xi a :: st) (M) Q := wp_iload rfl rfl
theorem w118_54 {ls st : List xV} {M : xM} {Q : Option xV → xM → Prop} {a : Int} {b : Int} (ha : xG a) (hb : xG b) : Wp 118 54 (ls) (xi b :: xi a :: st) (M) Q = ((¬ a = b → Wp 118 61 (ls) (st) (M) Q) ∧ (¬ (¬ a = b) → Wp 118 57 (ls) (st) (M) Q)) := wp_cmp_ne rfl ha hb
theorem w118_57 {ls st : List xV} {M : xM} {Q : Option xV → xM → Prop}  : Wp 118 57 (ls) (st) (M) Q = Wp 118 58 (ls) (xi 0 :: st) (M) Q := wp_const rfl
theorem w118_58 {ls st : List xV} {M : xM} {Q : Option xV → xM → Prop}  : Wp 118 58 (ls) (st) (M) Q = Wp 118 63 (ls) (st) (M) Q := wp_goto rfl
theorem w118_61 {ls st : List xV} {M : xM} {Q : Option xV → xM → Prop}  : Wp 118 61 (ls) (st) (M) Q = Wp 118 63 (ls) (xi 99 :: st) (M) Q := wp_const rfl
theorem w118_63 {ls st : List xV} {M : xM} {Q : Option xV → xM → Prop} {a : Int} {d : Nat} {x : Int} (hc : x_c d = 20) (hn : x_n d = 5) (h1 : 0 ≤ a) (h2 : a < 5) : Wp 118 63 (ls) (xi x :: xi a :: xr d :: st) (M) Q = Wp 118 64 (ls) (st) (xup M d a x) Q := wp_iast rfl hc h1 (by rw [hn]; exact h2)
theorem w118_64 {ls st : List xV} {M : xM} {Q : Option xV → xM → Prop} {d : Nat} : Wp 118 64 (xr d :: ls) (st) (M) Q = Wp 118 65 (xr d :: ls) (xr d :: st) (M) Q := wp_aload rfl rfl
theorem w118_65 {ls st : List xV} {M : xM} {Q : Option xV → xM → Prop} {d : Nat} (hc : x_c d = 9) : Wp 118 65 (ls) (xr d :: st) (M) Q = Wp 118 68 (ls) (xr (x_r d 24) :: st) (M) Q := wp_getr rfl hc
theorem w118_68 {ls st : List xV} {M : xM} {Q : Option xV → xM → Prop} {a : Int} {v0 : xV} {v1 : xV} {v2 : xV} {v3 : xV} : Wp 118 68 (v0 :: v1 :: v2 :: v3 :: xi a :: ls) (st) (M) Q = Wp 118 70 (v0 :: v1 :: v2 :: v3 :: xi a :: ls) (xi a :: st) (M) Q := wp_iload rfl rfl
theorem w118_70 {ls st : List xV} {M : xM} {Q : Option xV → xM → Prop}  : Wp 118 70 (ls) (st) (M) Q = Wp 118 72 (ls) (xi 99 :: st) (M) Q := wp_const rfl
theorem w118_72 {ls st : List xV} {M : xM} {Q : Option xV → xM → Prop} {a : Int} {d : Nat} {x : Int} (hc : x_c d = 20) (hn : x_n d = 5) (h1 : 0 ≤ a) (h2 : a < 5) : Wp 118 72 (ls) (xi x :: xi a :: xr d :: st) (M) Q = Wp 118 73 (ls) (st) (xup M d a x) Q := wp_iast rfl hc h1 (by rw [hn]; exact h2)
theorem w118_73 {ls st : List xV} {M : xM} {Q : Option xV → xM → Prop} {a : Int} {v0 : xV} {v1 : xV} {v2 : xV} {v3 : xV} : Wp 118 73 (v0 :: v1 :: v2 :: v3 :: xi a :: ls) (st) (M) Q = Wp 118 76 (v0 :: v1 :: v2 :: xjl v3 :: xi (a + 1) :: ls) (st) (M) Q := wp_iinc rfl rfl rfl
theorem w118_76 {ls st : List xV} {M : xM} {Q : Option xV → xM → Prop}  : Wp 118 76 (ls) (st) (M) Q = Wp 118 39 (ls) (st) (M) Q := wp_goto rfl
theorem w118_79 {ls st : List xV} {M : xM} {Q : Option xV → xM → Prop}  : Wp 118 79 (ls) (st) (M) Q = Wp 118 80 (ls) (xi 0 :: st) (M) Q := wp_const rfl
theorem w118_80 {ls st : List xV} {M : xM} {Q : Option xV → xM → Prop} {a : Int} {v0 : xV} {v1 : xV} {v2 : xV} {v3 : xV} {w : xV} : Wp 118 80 (v0 :: v1 :: v2 :: v3 :: w :: ls) (xi a :: st) (M) Q = Wp 118 82 (v0 :: v1 :: v2 :: xjl v3 :: xi a :: ls) (st) (M) Q := wp_istore rfl rfl
theorem w118_82 {ls st : List xV} {M : xM} {Q : Option xV → xM → Prop} {a : Int} {v0 : xV} {v1 : xV} {v2 : xV} {v3 : xV} : Wp 118 82 (v0 :: v1 :: v2 :: v3 :: xi a :: ls) (st) (M) Q = Wp 118 84 (v0 :: v1 :: v2 :: v3 :: xi a :: ls) (xi a :: st) (M) Q := wp_iload rfl rfl
theorem w118_84 {ls st : List xV} {M : xM} {Q : Option xV → xM → Prop}  : Wp 118 84 (ls) (st) (M) Q = Wp 118 86 (ls) (xi 60 :: st) (M) Q := wp_const rfl
theorem w118_86 {ls st : List xV} {M : xM} {Q : Option xV → xM → Prop} {a : Int} {b : Int} (ha : xG a) (hb : xG b) : Wp 118 86 (ls) (xi b :: xi a :: st) (M) Q = ((b < a → Wp 118 289 (ls) (st) (M) Q) ∧ (¬ (b < a) → Wp 118 89 (ls) (st) (M) Q)) := wp_cmp_gt rfl ha hb
theorem w118_89 {ls st : List xV} {M : xM} {Q : Option xV → xM → Prop}  : Wp 118 89 (ls) (st) (M) Q = Wp 118 90 (ls) (xi 0 :: st) (M) Q := wp_const rfl
theorem w118_90 {ls st : List xV} {M : xM} {Q : Option xV → xM → Prop} {a : Int} {v0 : xV} {v1 : xV} {v2 : xV} {v3 : xV} {v4 : xV} {w : xV} : Wp 118 90 (v0 :: v1 :: v2 :: v3 :: v4 :: w :: ls) (xi a :: st) (M) Q = Wp 118 92 (v0 :: v1 :: v2 :: v3 :: xjl v4 :: xi a :: ls) (st) (M) Q := wp_istore rfl rfl
theorem w118_92 {ls st : List xV} {M : xM} {Q : Option xV → xM → Prop} {a : Int} {v0 : xV} {v1 : xV} {v2 : xV} {v3 : xV} {v4 : xV} : Wp 118 92 (v0 :: v1 :: v2 :: v3 :: v4 :: xi a :: ls) (st) (M) Q = Wp 118 94 (v0 :: v1 :: v2 :: v3 :: v4 :: xi a :: ls) (xi a :: st) (M) Q := wp_iload rfl rfl
theorem w118_94 {ls st : List xV} {M : xM} {Q : Option xV → xM → Prop}  : Wp 118 94 (ls) (st) (M) Q = Wp 118 96 (ls) (xi 10 :: st) (M) Q := wp_const rfl
theorem w118_96 {ls st : List xV} {M : xM} {Q : Option xV → xM → Prop} {a : Int} {b : Int} (ha : xG a) (hb : xG b) : Wp 118 96 (ls) (xi b :: xi a :: st) (M) Q = ((b ≤ a → Wp 118 256 (ls) (st) (M) Q) ∧ (¬ (b ≤ a) → Wp 118 99 (ls) (st) (M) Q)) := wp_cmp_ge rfl ha hb
theorem w118_99 {ls st : List xV} {M : xM} {Q : Option xV → xM → Prop}  : Wp 118 99 (ls) (st) (M) Q = Wp 118 100 (ls) (xi 0 :: st) (M) Q := wp_const rfl
theorem w118_100 {ls st : List xV} {M : xM} {Q : Option xV → xM → Prop} {a : Int} {v0 : xV} {v1 : xV} {v2 : xV} {v3 : xV} {v4 : xV} {v5 : xV} {w : xV} : Wp 118 100 (v0 :: v1 :: v2 :: v3 :: v4 :: v5 :: w :: ls) (xi a :: st) (M) Q = Wp 118 102 (v0 :: v1 :: v2 :: v3 :: v4 :: xjl v5 :: xi a :: ls) (st) (M) Q := wp_istore rfl rfl
theorem w118_102 {ls st : List xV} {M : xM} {Q : Option xV → xM → Prop} {a : Int} {v0 : xV} {v1 : xV} {v2 : xV} {v3 : xV} {v4 : xV} {v5 : xV} : Wp 118 102 (v0 :: v1 :: v2 :: v3 :: v4 :: v5 :: xi a :: ls) (st) (M) Q = Wp 118 104 (v0 :: v1 :: v2 :: v3 :: v4 :: v5 :: xi a :: ls) (xi a :: st) (M) Q := wp_iload rfl rfl
theorem w118_104 {ls st : List xV} {M : xM} {Q : Option xV → xM → Prop} {d : Nat} : Wp 118 104 (xr d :: ls) (st) (M) Q = Wp 118 105 (xr d :: ls) (xr d :: st) (M) Q := wp_aload rfl rfl
theorem w118_105 {ls st : List xV} {M : xM} {Q : Option xV → xM → Prop} {d : Nat} (hc : x_c d = 9) : Wp 118 105 (ls) (xr d :: st) (M) Q = Wp 118 108 (ls) (xr (x_r d 2) :: st) (M) Q := wp_getr rfl hc
theorem w118_108 {ls st : List xV} {M : xM} {Q : Option xV → xM → Prop}  : Wp 118 108 (ls) (st) (M) Q = Wp 118 109 (ls) (xi 1 :: st) (M) Q := wp_const rfl
theorem w118_109 {ls st : List xV} {M : xM} {Q : Option xV → xM → Prop} {a : Int} {d : Nat} (hc : x_c d = 20) (hn : x_n d = 25) (h1 : 0 ≤ a) (h2 : a < 25) : Wp 118 109 (ls) (xi a :: xr d :: st) (M) Q = Wp 118 110 (ls) (xi (M d a) :: st) (M) Q := wp_ald rfl hc h1 (by rw [hn]; exact h2)
theorem w118_110 {ls st : List xV} {M : xM} {Q : Option xV → xM → Prop} {a : Int} {b : Int} (ha : xG a) (hb : xG b) : Wp 118 110 (ls) (xi b :: xi a :: st) (M) Q = ((b ≤ a → Wp 118 250 (ls) (st) (M) Q) ∧ (¬ (b ≤ a) → Wp 118 113 (ls) (st) (M) Q)) := wp_cmp_ge rfl ha hb
theorem w118_113 {ls st : List xV} {M : xM} {Q : Option xV → xM → Prop}  : Wp 118 113 (ls) (st) (M) Q = Wp 118 114 (ls) (xi 0 :: st) (M) Q := wp_const rfl
theorem w118_114 {ls st : List xV} {M : xM} {Q : Option xV → xM → Prop} {a : Int} {v0 : xV} {v1 : xV} {v2 : xV} {v3 : xV} {v4 : xV} {v5 : xV} {v6 : xV} {w : xV} : Wp 118 114 (v0 :: v1 :: v2 :: v3 :: v4 :: v5 :: v6 :: w :: ls) (xi a :: st) (M) Q = Wp 118 116 (v0 :: v1 :: v2 :: v3 :: v4 :: v5 :: xjl v6 :: xi a :: ls) (st) (M) Q := wp_istore rfl rfl
theorem w118_116 {ls st : List xV} {M : xM} {Q : Option xV → xM → Prop} {a : Int} {v0 : xV} {v1 : xV} {v2 : xV} {v3 : xV} {v4 : xV} {v5 : xV} {v6 : xV} : Wp 118 116 (v0 :: v1 :: v2 :: v3 :: v4 :: v5 :: v6 :: xi a :: ls) (st) (M) Q = Wp 118 118 (v0 :: v1 :: v2 :: v3 :: v4 :: v5 :: v6 :: xi a :: ls) (xi a :: st) (M) Q := wp_iload rfl rfl
theorem w118_118 {ls st : List xV} {M : xM} {Q : Option xV → xM → Prop} {d : Nat} : Wp 118 118 (xr d :: ls) (st) (M) Q = Wp 118 119 (xr d :: ls) (xr d :: st) (M) Q := wp_aload rfl rfl
theorem w118_119 {ls st : List xV} {M : xM} {Q : Option xV → xM → Prop} {d : Nat} (hc : x_c d = 9) : Wp 118 119 (ls) (xr d :: st) (M) Q = Wp 118 122 (ls) (xr (x_r d 2) :: st) (M) Q := wp_getr rfl hc
theorem w118_122 {ls st : List xV} {M : xM} {Q : Option xV → xM → Prop}  : Wp 118 122 (ls) (st) (M) Q = Wp 118 123 (ls) (xi 2 :: st) (M) Q := wp_const rfl
theorem w118_123 {ls st : List xV} {M : xM} {Q : Option xV → xM → Prop} {a : Int} {d : Nat} (hc : x_c d = 20) (hn : x_n d = 25) (h1 : 0 ≤ a) (h2 : a < 25) : Wp 118 123 (ls) (xi a :: xr d :: st) (M) Q = Wp 118 124 (ls) (xi (M d a) :: st) (M) Q := wp_ald rfl hc h1 (by rw [hn]; exact h2)
theorem w118_124 {ls st : List xV} {M : xM} {Q : Option xV → xM → Prop} {a : Int} {b : Int} (ha : xG a) (hb : xG b) : Wp 118 124 (ls) (xi b :: xi a :: st) (M) Q = ((b ≤ a → Wp 118 244 (ls) (st) (M) Q) ∧ (¬ (b ≤ a) → Wp 118 127 (ls) (st) (M) Q)) := wp_cmp_ge rfl ha hb
theorem w118_127 {ls st : List xV} {M : xM} {Q : Option xV → xM → Prop} {d : Nat} : Wp 118 127 (xr d :: ls) (st) (M) Q = Wp 118 128 (xr d :: ls) (xr d :: st) (M) Q := wp_aload rfl rfl
theorem w118_128 {ls st : List xV} {M : xM} {Q : Option xV → xM → Prop} {a : Int} {v0 : xV} {v1 : xV} {v2 : xV} {v3 : xV} {v4 : xV} {v5 : xV} {v6 : xV} : Wp 118 128 (v0 :: v1 :: v2 :: v3 :: v4 :: v5 :: v6 :: xi a :: ls) (st) (M) Q = Wp 118 130 (v0 :: v1 :: v2 :: v3 :: v4 :: v5 :: v6 :: xi a :: ls) (xi a :: st) (M) Q := wp_iload rfl rfl
theorem w118_130 {ls st : List xV} {M : xM} {Q : Option xV → xM → Prop} {a : Int} {v0 : xV} {v1 : xV} {v2 : xV} {v3 : xV} {v4 : xV} {v5 : xV} : Wp 118 130 (v0 :: v1 :: v2 :: v3 :: v4 :: v5 :: xi a :: ls) (st) (M) Q = Wp 118 132 (v0 :: v1 :: v2 :: v3 :: v4 :: v5 :: xi a :: ls) (xi a :: st) (M) Q := wp_iload rfl rfl
theorem w118_132 {ls st : List xV} {M : xM} {Q : Option xV → xM → Prop} {a : Int} {v0 : xV} {v1 : xV} {v2 : xV} {v3 : xV} : Wp 118 132 (v0 :: v1 :: v2 :: v3 :: xi a :: ls) (st) (M) Q = Wp 118 134 (v0 :: v1 :: v2 :: v3 :: xi a :: ls) (xi a :: st) (M) Q := wp_iload rfl rfl
theorem w118_134 {ls : List xV} {M : xM} {Q : Option xV → xM → Prop} {a1 : Int} {a2 : Int} {a3 : Int} {d0 : Nat} (hc : x_c d0 = 9) : Wp 118 134 (ls) (xi a3 :: xi a2 :: xi a1 :: xr d0 :: []) (M) Q = Wc 114 [xr d0, xi a1, xi a2, xi a3] M (fun r M2 => Wp 118 137 (ls) (r.toList ++ ([])) M2 Q) := wp_cV rfl rfl hc (Nat.le_of_ble_eq_true rfl) (Nat.le_of_ble_eq_true rfl) rfl rfl
theorem w118_137 {ls st : List xV} {M : xM} {Q : Option xV → xM → Prop} {a : Int} (ha : xG a) : Wp 118 137 (ls) (xi a :: st) (M) Q = ((a = 0 → Wp 118 238 (ls) (st) (M) Q) ∧ (¬ (a = 0) → Wp 118 140 (ls) (st) (M) Q)) := wp_if_eq rfl ha
theorem w118_140 {ls st : List xV} {M : xM} {Q : Option xV → xM → Prop} {d : Nat} : Wp 118 140 (xr d :: ls) (st) (M) Q = Wp 118 141 (xr d :: ls) (xr d :: st) (M) Q := wp_aload rfl rfl
theorem w118_141 {ls st : List xV} {M : xM} {Q : Option xV → xM → Prop} {d : Nat} (hc : x_c d = 9) : Wp 118 141 (ls) (xr d :: st) (M) Q = Wp 118 144 (ls) (xr (x_r d 24) :: st) (M) Q := wp_getr rfl hc
theorem w118_144 {ls st : List xV} {M : xM} {Q : Option xV → xM → Prop} {a : Int} {v0 : xV} {v1 : xV} {v2 : xV} {v3 : xV} {v4 : xV} {v5 : xV} {v6 : xV} : Wp 118 144 (v0 :: v1 :: v2 :: v3 :: v4 :: v5 :: v6 :: xi a :: ls) (st) (M) Q = Wp 118 146 (v0 :: v1 :: v2 :: v3 :: v4 :: v5 :: v6 :: xi a :: ls) (xi a :: st) (M) Q := wp_iload rfl rfl
theorem w118_146 {ls st : List xV} {M : xM} {Q : Option xV → xM → Prop} {d : Nat} : Wp 118 146 (xr d :: ls) (st) (M) Q = Wp 118 147 (xr d :: ls) (xr d :: st) (M) Q := wp_aload rfl rfl
theorem w118_147 {ls st : List xV} {M : xM} {Q : Option xV → xM → Prop} {d : Nat} (hc : x_c d = 9) : Wp 118 147 (ls) (xr d :: st) (M) Q = Wp 118 150 (ls) (xr (x_r d 23) :: st) (M) Q := wp_getr rfl hc
theorem w118_150 {ls st : List xV} {M : xM} {Q : Option xV → xM → Prop} {a : Int} {v0 : xV} {v1 : xV} {v2 : xV} {v3 : xV} {v4 : xV} {v5 : xV} : Wp 118 150 (v0 :: v1 :: v2 :: v3 :: v4 :: v5 :: xi a :: ls) (st) (M) Q = Wp 118 152 (v0 :: v1 :: v2 :: v3 :: v4 :: v5 :: xi a :: ls) (xi a :: st) (M) Q := wp_iload rfl rfl
theorem w118_152 {ls st : List xV} {M : xM} {Q : Option xV → xM → Prop} {a : Int} {d : Nat} (hc : x_c d = 20) (hn : x_n d = 5) (h1 : 0 ≤ a) (h2 : a < 5) : Wp 118 152 (ls) (xi a :: xr d :: st) (M) Q = Wp 118 153 (ls) (xi (M d a) :: st) (M) Q := wp_ald rfl hc h1 (by rw [hn]; exact h2)
theorem w118_153 {ls st : List xV} {M : xM} {Q : Option xV → xM → Prop}  : Wp 118 153 (ls) (st) (M) Q = Wp 118 155 (ls) (xi 99 :: st) (M) Q := wp_const rfl
theorem w118_155 {ls st : List xV} {M : xM} {Q : Option xV → xM → Prop} {a : Int} {b : Int} (ha : xG a) (hb : xG b) : Wp 118 155 (ls) (xi b :: xi a :: st) (M) Q = ((b ≤ a → Wp 118 189 (ls) (st) (M) Q) ∧ (¬ (b ≤ a) → Wp 118 158 (ls) (st) (M) Q)) := wp_cmp_ge rfl ha hb
theorem w118_158 {ls st : List xV} {M : xM} {Q : Option xV → xM → Prop} {d : Nat} : Wp 118 158 (xr d :: ls) (st) (M) Q = Wp 118 159 (xr d :: ls) (xr d :: st) (M) Q := wp_aload rfl rfl
theorem w118_159 {ls st : List xV} {M : xM} {Q : Option xV → xM → Prop} {d : Nat} (hc : x_c d = 9) : Wp 118 159 (ls) (xr d :: st) (M) Q = Wp 118 162 (ls) (xr (x_r d 23) :: st) (M) Q := wp_getr rfl hc
theorem w118_162 {ls st : List xV} {M : xM} {Q : Option xV → xM → Prop} {a : Int} {v0 : xV} {v1 : xV} {v2 : xV} {v3 : xV} {v4 : xV} {v5 : xV} : Wp 118 162 (v0 :: v1 :: v2 :: v3 :: v4 :: v5 :: xi a :: ls) (st) (M) Q = Wp 118 164 (v0 :: v1 :: v2 :: v3 :: v4 :: v5 :: xi a :: ls) (xi a :: st) (M) Q := wp_iload rfl rfl
theorem w118_164 {ls st : List xV} {M : xM} {Q : Option xV → xM → Prop} {a : Int} {d : Nat} (hc : x_c d = 20) (hn : x_n d = 5) (h1 : 0 ≤ a) (h2 : a < 5) : Wp 118 164 (ls) (xi a :: xr d :: st) (M) Q = Wp 118 165 (ls) (xi (M d a) :: st) (M) Q := wp_ald rfl hc h1 (by rw [hn]; exact h2)
theorem w118_165 {ls st : List xV} {M : xM} {Q : Option xV → xM → Prop}  : Wp 118 165 (ls) (st) (M) Q = Wp 118 166 (ls) (xi 1 :: st) (M) Q := wp_const rfl
theorem w118_166 {ls st : List xV} {M : xM} {Q : Option xV → xM → Prop} {a : Int} {b : Int} : Wp 118 166 (ls) (xi b :: xi a :: st) (M) Q = Wp 118 167 (ls) (xi (a + b) :: st) (M) Q := wp_bin (f := xadd) rfl
theorem w118_167 {ls st : List xV} {M : xM} {Q : Option xV → xM → Prop} {d : Nat} : Wp 118 167 (xr d :: ls) (st) (M) Q = Wp 118 168 (xr d :: ls) (xr d :: st) (M) Q := wp_aload rfl rfl
theorem w118_168 {ls st : List xV} {M : xM} {Q : Option xV → xM → Prop} {d : Nat} (hc : x_c d = 9) : Wp 118 168 (ls) (xr d :: st) (M) Q = Wp 118 171 (ls) (xr (x_r d 24) :: st) (M) Q := wp_getr rfl hc
set_option maxRecDepth 20000 in
theorem w118_171 {ls st : List xV} {M : xM} {Q : Option xV → xM → Prop} {a : Int} {v0 : xV} {v1 : xV} {v2 : xV} {v3 : xV} {v4 : xV} {v5 : xV} {v6 : xV} : Wp 118 171 (v0 :: v1 :: v2 :: v3 :: v4 :: v5 :: v6 :: xi a :: ls) (st) (M) Q = Wp 118 173 (v0 :: v1 :: v2 :: v3 :: v4 :: v5 :: v6 :: xi a :: ls) (xi a :: st) (M) Q := wp_iload rfl rfl
set_option maxRecDepth 20000 in
theorem w118_173 {ls st : List xV} {M : xM} {Q : Option xV → xM → Prop} {a : Int} {d : Nat} (hc : x_c d = 20) (hn : x_n d = 5) (h1 : 0 ≤ a) (h2 : a < 5) : Wp 118 173 (ls) (xi a :: xr d :: st) (M) Q = Wp 118 174 (ls) (xi (M d a) :: st) (M) Q := wp_ald rfl hc h1 (by rw [hn]; exact h2)
set_option maxRecDepth 20000 in
theorem w118_174 {ls st : List xV} {M : xM} {Q : Option xV → xM → Prop} {a : Int} {b : Int} (ha : xG a) (hb : xG b) : Wp 118 174 (ls) (xi b :: xi a :: st) (M) Q = ((b ≤ a → Wp 118 189 (ls) (st) (M) Q) ∧ (¬ (b ≤ a) → Wp 118 177 (ls) (st) (M) Q)) := wp_cmp_ge rfl ha hb
set_option maxRecDepth 20000 in
theorem w118_177 {ls st : List xV} {M : xM} {Q : Option xV → xM → Prop} {d : Nat} : Wp 118 177 (xr d :: ls) (st) (M) Q = Wp 118 178 (xr d :: ls) (xr d :: st) (M) Q := wp_aload rfl rfl
set_option maxRecDepth 20000 in
theorem w118_178 {ls st : List xV} {M : xM} {Q : Option xV → xM → Prop} {d : Nat} (hc : x_c d = 9) : Wp 118 178 (ls) (xr d :: st) (M) Q = Wp 118 181 (ls) (xr (x_r d 23) :: st) (M) Q := wp_getr rfl hc
set_option maxRecDepth 20000 in
theorem w118_181 {ls st : List xV} {M : xM} {Q : Option xV → xM → Prop} {a : Int} {v0 : xV} {v1 : xV} {v2 : xV} {v3 : xV} {v4 : xV} {v5 : xV} : Wp 118 181 (v0 :: v1 :: v2 :: v3 :: v4 :: v5 :: xi a :: ls) (st) (M) Q = Wp 118 183 (v0 :: v1 :: v2 :: v3 :: v4 :: v5 :: xi a :: ls) (xi a :: st) (M) Q := wp_iload rfl rfl
set_option maxRecDepth 20000 in
theorem w118_183 {ls st : List xV} {M : xM} {Q : Option xV → xM → Prop} {a : Int} {d : Nat} (hc : x_c d = 20) (hn : x_n d = 5) (h1 : 0 ≤ a) (h2 : a < 5) : Wp 118 183 (ls) (xi a :: xr d :: st) (M) Q = Wp 118 184 (ls) (xi (M d a) :: st) (M) Q := wp_ald rfl hc h1 (by rw [hn]; exact h2)
set_option maxRecDepth 20000 in
theorem w118_184 {ls st : List xV} {M : xM} {Q : Option xV → xM → Prop}  : Wp 118 184 (ls) (st) (M) Q = Wp 118 185 (ls) (xi 1 :: st) (M) Q := wp_const rfl
set_option maxRecDepth 20000 in
theorem w118_185 {ls st : List xV} {M : xM} {Q : Option xV → xM → Prop} {a : Int} {b : Int} : Wp 118 185 (ls) (xi b :: xi a :: st) (M) Q = Wp 118 186 (ls) (xi (a + b) :: st) (M) Q := wp_bin (f := xadd) rfl
set_option maxRecDepth 20000 in
theorem w118_186 {ls st : List xV} {M : xM} {Q : Option xV → xM → Prop}  : Wp 118 186 (ls) (st) (M) Q = Wp 118 196 (ls) (st) (M) Q := wp_goto rfl
set_option maxRecDepth 20000 in
theorem w118_189 {ls st : List xV} {M : xM} {Q : Option xV → xM → Prop} {d : Nat} : Wp 118 189 (xr d :: ls) (st) (M) Q = Wp 118 190 (xr d :: ls) (xr d :: st) (M) Q := wp_aload rfl rfl
set_option maxRecDepth 20000 in
theorem w118_190 {ls st : List xV} {M : xM} {Q : Option xV → xM → Prop} {d : Nat} (hc : x_c d = 9) : Wp 118 190 (ls) (xr d :: st) (M) Q = Wp 118 193 (ls) (xr (x_r d 24) :: st) (M) Q := wp_getr rfl hc
set_option maxRecDepth 20000 in
theorem w118_193 {ls st : List xV} {M : xM} {Q : Option xV → xM → Prop} {a : Int} {v0 : xV} {v1 : xV} {v2 : xV} {v3 : xV} {v4 : xV} {v5 : xV} {v6 : xV} : Wp 118 193 (v0 :: v1 :: v2 :: v3 :: v4 :: v5 :: v6 :: xi a :: ls) (st) (M) Q = Wp 118 195 (v0 :: v1 :: v2 :: v3 :: v4 :: v5 :: v6 :: xi a :: ls) (xi a :: st) (M) Q := wp_iload rfl rfl
set_option maxRecDepth 20000 in
theorem w118_195 {ls st : List xV} {M : xM} {Q : Option xV → xM → Prop} {a : Int} {d : Nat} (hc : x_c d = 20) (hn : x_n d = 5) (h1 : 0 ≤ a) (h2 : a < 5) : Wp 118 195 (ls) (xi a :: xr d :: st) (M) Q = Wp 118 196 (ls) (xi (M d a) :: st) (M) Q := wp_ald rfl hc h1 (by rw [hn]; exact h2)
set_option maxRecDepth 20000 in
theorem w118_196 {ls st : List xV} {M : xM} {Q : Option xV → xM → Prop} {a : Int} {d : Nat} {x : Int} (hc : x_c d = 20) (hn : x_n d = 5) (h1 : 0 ≤ a) (h2 : a < 5) : Wp 118 196 (ls) (xi x :: xi a :: xr d :: st) (M) Q = Wp 118 197 (ls) (st) (xup M d a x) Q := wp_iast rfl hc h1 (by rw [hn]; exact h2)
set_option maxRecDepth 20000 in
theorem w118_197 {ls st : List xV} {M : xM} {Q : Option xV → xM → Prop} {d : Nat} : Wp 118 197 (xr d :: ls) (st) (M) Q = Wp 118 198 (xr d :: ls) (xr d :: st) (M) Q := wp_aload rfl rfl
set_option maxRecDepth 20000 in
theorem w118_198 {ls st : List xV} {M : xM} {Q : Option xV → xM → Prop} {d : Nat} (hc : x_c d = 9) : Wp 118 198 (ls) (xr d :: st) (M) Q = Wp 118 201 (ls) (xr (x_r d 23) :: st) (M) Q := wp_getr rfl hc
set_option maxRecDepth 20000 in
theorem w118_201 {ls st : List xV} {M : xM} {Q : Option xV → xM → Prop} {a : Int} {v0 : xV} {v1 : xV} {v2 : xV} {v3 : xV} {v4 : xV} {v5 : xV} : Wp 118 201 (v0 :: v1 :: v2 :: v3 :: v4 :: v5 :: xi a :: ls) (st) (M) Q = Wp 118 203 (v0 :: v1 :: v2 :: v3 :: v4 :: v5 :: xi a :: ls) (xi a :: st) (M) Q := wp_iload rfl rfl
set_option maxRecDepth 20000 in
theorem w118_203 {ls st : List xV} {M : xM} {Q : Option xV → xM → Prop} {d : Nat} : Wp 118 203 (xr d :: ls) (st) (M) Q = Wp 118 204 (xr d :: ls) (xr d :: st) (M) Q := wp_aload rfl rfl
set_option maxRecDepth 20000 in
theorem w118_204 {ls st : List xV} {M : xM} {Q : Option xV → xM → Prop} {d : Nat} (hc : x_c d = 9) : Wp 118 204 (ls) (xr d :: st) (M) Q = Wp 118 207 (ls) (xr (x_r d 24) :: st) (M) Q := wp_getr rfl hc
set_option maxRecDepth 20000 in
theorem w118_207 {ls st : List xV} {M : xM} {Q : Option xV → xM → Prop} {a : Int} {v0 : xV} {v1 : xV} {v2 : xV} {v3 : xV} {v4 : xV} {v5 : xV} {v6 : xV} : Wp 118 207 (v0 :: v1 :: v2 :: v3 :: v4 :: v5 :: v6 :: xi a :: ls) (st) (M) Q = Wp 118 209 (v0 :: v1 :: v2 :: v3 :: v4 :: v5 :: v6 :: xi a :: ls) (xi a :: st) (M) Q := wp_iload rfl rfl
set_option maxRecDepth 20000 in
theorem w118_209 {ls st : List xV} {M : xM} {Q : Option xV → xM → Prop} {a : Int} {d : Nat} (hc : x_c d = 20) (hn : x_n d = 5) (h1 : 0 ≤ a) (h2 : a < 5) : Wp 118 209 (ls) (xi a :: xr d :: st) (M) Q = Wp 118 210 (ls) (xi (M d a) :: st) (M) Q := wp_ald rfl hc h1 (by rw [hn]; exact h2)
set_option maxRecDepth 20000 in
theorem w118_210 {ls st : List xV} {M : xM} {Q : Option xV → xM → Prop} {d : Nat} : Wp 118 210 (xr d :: ls) (st) (M) Q = Wp 118 211 (xr d :: ls) (xr d :: st) (M) Q := wp_aload rfl rfl
set_option maxRecDepth 20000 in
theorem w118_211 {ls st : List xV} {M : xM} {Q : Option xV → xM → Prop} {d : Nat} (hc : x_c d = 9) : Wp 118 211 (ls) (xr d :: st) (M) Q = Wp 118 214 (ls) (xr (x_r d 23) :: st) (M) Q := wp_getr rfl hc
set_option maxRecDepth 20000 in
theorem w118_214 {ls st : List xV} {M : xM} {Q : Option xV → xM → Prop} {a : Int} {v0 : xV} {v1 : xV} {v2 : xV} {v3 : xV} {v4 : xV} {v5 : xV} : Wp 118 214 (v0 :: v1 :: v2 :: v3 :: v4 :: v5 :: xi a :: ls) (st) (M) Q = Wp 118 216 (v0 :: v1 :: v2 :: v3 :: v4 :: v5 :: xi a :: ls) (xi a :: st) (M) Q := wp_iload rfl rfl
set_option maxRecDepth 20000 in
theorem w118_216 {ls st : List xV} {M : xM} {Q : Option xV → xM → Prop} {a : Int} {d : Nat} (hc : x_c d = 20) (hn : x_n d = 5) (h1 : 0 ≤ a) (h2 : a < 5) : Wp 118 216 (ls) (xi a :: xr d :: st) (M) Q = Wp 118 217 (ls) (xi (M d a) :: st) (M) Q := wp_ald rfl hc h1 (by rw [hn]; exact h2)
set_option maxRecDepth 20000 in
theorem w118_217 {ls st : List xV} {M : xM} {Q : Option xV → xM → Prop} {a : Int} {b : Int} (ha : xG a) (hb : xG b) : Wp 118 217 (ls) (xi b :: xi a :: st) (M) Q = ((b ≤ a → Wp 118 230 (ls) (st) (M) Q) ∧ (¬ (b ≤ a) → Wp 118 220 (ls) (st) (M) Q)) := wp_cmp_ge rfl ha hb
set_option maxRecDepth 20000 in
theorem w118_220 {ls st : List xV} {M : xM} {Q : Option xV → xM → Prop} {d : Nat} : Wp 118 220 (xr d :: ls) (st) (M) Q = Wp 118 221 (xr d :: ls) (xr d :: st) (M) Q := wp_aload rfl rfl
set_option maxRecDepth 20000 in
theorem w118_221 {ls st : List xV} {M : xM} {Q : Option xV → xM → Prop} {d : Nat} (hc : x_c d = 9) : Wp 118 221 (ls) (xr d :: st) (M) Q = Wp 118 224 (ls) (xr (x_r d 24) :: st) (M) Q := wp_getr rfl hc
set_option maxRecDepth 20000 in
theorem w118_224 {ls st : List xV} {M : xM} {Q : Option xV → xM → Prop} {a : Int} {v0 : xV} {v1 : xV} {v2 : xV} {v3 : xV} {v4 : xV} {v5 : xV} {v6 : xV} : Wp 118 224 (v0 :: v1 :: v2 :: v3 :: v4 :: v5 :: v6 :: xi a :: ls) (st) (M) Q = Wp 118 226 (v0 :: v1 :: v2 :: v3 :: v4 :: v5 :: v6 :: xi a :: ls) (xi a :: st) (M) Q := wp_iload rfl rfl
set_option maxRecDepth 20000 in
theorem w118_226 {ls st : List xV} {M : xM} {Q : Option xV → xM → Prop} {a : Int} {d : Nat} (hc : x_c d = 20) (hn : x_n d = 5) (h1 : 0 ≤ a) (h2 : a < 5) : Wp 118 226 (ls) (xi a :: xr d :: st) (M) Q = Wp 118 227 (ls) (xi (M d a) :: st) (M) Q := wp_ald rfl hc h1 (by rw [hn]; exact h2)
set_option maxRecDepth 20000 in
theorem w118_227 {ls st : List xV} {M : xM} {Q : Option xV → xM → Prop}  : Wp 118 227 (ls) (st) (M) Q = Wp 118 237 (ls) (st) (M) Q := wp_goto rfl
set_option maxRecDepth 20000 in
theorem w118_230 {ls st : List xV} {M : xM} {Q : Option xV → xM → Prop} {d : Nat} : Wp 118 230 (xr d :: ls) (st) (M) Q = Wp 118 231 (xr d :: ls) (xr d :: st) (M) Q := wp_aload rfl rfl
set_option maxRecDepth 20000 in
theorem w118_231 {ls st : List xV} {M : xM} {Q : Option xV → xM → Prop} {d : Nat} (hc : x_c d = 9) : Wp 118 231 (ls) (xr d :: st) (M) Q = Wp 118 234 (ls) (xr (x_r d 23) :: st) (M) Q := wp_getr rfl hc
set_option maxRecDepth 20000 in
theorem w118_234 {ls st : List xV} {M : xM} {Q : Option xV → xM → Prop} {a : Int} {v0 : xV} {v1 : xV} {v2 : xV} {v3 : xV} {v4 : xV} {v5 : xV} : Wp 118 234 (v0 :: v1 :: v2 :: v3 :: v4 :: v5 :: xi a :: ls) (st) (M) Q = Wp 118 236 (v0 :: v1 :: v2 :: v3 :: v4 :: v5 :: xi a :: ls) (xi a :: st) (M) Q := wp_iload rfl rfl
set_option maxRecDepth 20000 in
theorem w118_236 {ls st : List xV} {M : xM} {Q : Option xV → xM → Prop} {a : Int} {d : Nat} (hc : x_c d = 20) (hn : x_n d = 5) (h1 : 0 ≤ a) (h2 : a < 5) : Wp 118 236 (ls) (xi a :: xr d :: st) (M) Q = Wp 118 237 (ls) (xi (M d a) :: st) (M) Q := wp_ald rfl hc h1 (by rw [hn]; exact h2)
set_option maxRecDepth 20000 in
theorem w118_237 {ls st : List xV} {M : xM} {Q : Option xV → xM → Prop} {a : Int} {d : Nat} {x : Int} (hc : x_c d = 20) (hn : x_n d = 5) (h1 : 0 ≤ a) (h2 : a < 5) : Wp 118 237 (ls) (xi x :: xi a :: xr d :: st) (M) Q = Wp 118 238 (ls) (st) (xup M d a x) Q := wp_iast rfl hc h1 (by rw [hn]; exact h2)
set_option maxRecDepth 20000 in
theorem w118_238 {ls st : List xV} {M : xM} {Q : Option xV → xM → Prop} {a : Int} {v0 : xV} {v1 : xV} {v2 : xV} {v3 : xV} {v4 : xV} {v5 : xV} {v6 : xV} : Wp 118 238 (v0 :: v1 :: v2 :: v3 :: v4 :: v5 :: v6 :: xi a :: ls) (st) (M) Q = Wp 118 241 (v0 :: v1 :: v2 :: v3 :: v4 :: v5 :: xjl v6 :: xi (a + 1) :: ls) (st) (M) Q := wp_iinc rfl rfl rfl
set_option maxRecDepth 20000 in
theorem w118_241 {ls st : List xV} {M : xM} {Q : Option xV → xM → Prop}  : Wp 118 241 (ls) (st) (M) Q = Wp 118 116 (ls) (st) (M) Q := wp_goto rfl
set_option maxRecDepth 20000 in
theorem w118_244 {ls st : List xV} {M : xM} {Q : Option xV → xM → Prop} {a : Int} {v0 : xV} {v1 : xV} {v2 : xV} {v3 : xV} {v4 : xV} {v5 : xV} : Wp 118 244 (v0 :: v1 :: v2 :: v3 :: v4 :: v5 :: xi a :: ls) (st) (M) Q = Wp 118 247 (v0 :: v1 :: v2 :: v3 :: v4 :: xjl v5 :: xi (a + 1) :: ls) (st) (M) Q := wp_iinc rfl rfl rfl
set_option maxRecDepth 20000 in
theorem w118_247 {ls st : List xV} {M : xM} {Q : Option xV → xM → Prop}  : Wp 118 247 (ls) (st) (M) Q = Wp 118 102 (ls) (st) (M) Q := wp_goto rfl
set_option maxRecDepth 20000 in
theorem w118_250 {ls st : List xV} {M : xM} {Q : Option xV → xM → Prop} {a : Int} {v0 : xV} {v1 : xV} {v2 : xV} {v3 : xV} {v4 : xV} : Wp 118 250 (v0 :: v1 :: v2 :: v3 :: v4 :: xi a :: ls) (st) (M) Q = Wp 118 253 (v0 :: v1 :: v2 :: v3 :: xjl v4 :: xi (a + 1) :: ls) (st) (M) Q := wp_iinc rfl rfl rfl
set_option maxRecDepth 20000 in
theorem w118_253 {ls st : List xV} {M : xM} {Q : Option xV → xM → Prop}  : Wp 118 253 (ls) (st) (M) Q = Wp 118 92 (ls) (st) (M) Q := wp_goto rfl
set_option maxRecDepth 20000 in
theorem w118_256 {ls st : List xV} {M : xM} {Q : Option xV → xM → Prop} {d : Nat} : Wp 118 256 (xr d :: ls) (st) (M) Q = Wp 118 257 (xr d :: ls) (xr d :: st) (M) Q := wp_aload rfl rfl
set_option maxRecDepth 20000 in
theorem w118_257 {ls st : List xV} {M : xM} {Q : Option xV → xM → Prop} {d : Nat} (hc : x_c d = 9) : Wp 118 257 (ls) (xr d :: st) (M) Q = Wp 118 260 (ls) (xr (x_r d 23) :: st) (M) Q := wp_getr rfl hc
set_option maxRecDepth 20000 in
theorem w118_260 {ls st : List xV} {M : xM} {Q : Option xV → xM → Prop} {a : Int} {v0 : xV} {v1 : xV} : Wp 118 260 (v0 :: v1 :: xi a :: ls) (st) (M) Q = Wp 118 261 (v0 :: v1 :: xi a :: ls) (xi a :: st) (M) Q := wp_iload rfl rfl
set_option maxRecDepth 20000 in
theorem w118_261 {ls st : List xV} {M : xM} {Q : Option xV → xM → Prop} {a : Int} {d : Nat} (hc : x_c d = 20) (hn : x_n d = 5) (h1 : 0 ≤ a) (h2 : a < 5) : Wp 118 261 (ls) (xi a :: xr d :: st) (M) Q = Wp 118 262 (ls) (xi (M d a) :: st) (M) Q := wp_ald rfl hc h1 (by rw [hn]; exact h2)
set_option maxRecDepth 20000 in
theorem w118_262 {ls st : List xV} {M : xM} {Q : Option xV → xM → Prop}  : Wp 118 262 (ls) (st) (M) Q = Wp 118 264 (ls) (xi 99 :: st) (M) Q := wp_const rfl
set_option maxRecDepth 20000 in
theorem w118_264 {ls st : List xV} {M : xM} {Q : Option xV → xM → Prop} {a : Int} {b : Int} (ha : xG a) (hb : xG b) : Wp 118 264 (ls) (xi b :: xi a :: st) (M) Q = ((b ≤ a → Wp 118 283 (ls) (st) (M) Q) ∧ (¬ (b ≤ a) → Wp 118 267 (ls) (st) (M) Q)) := wp_cmp_ge rfl ha hb
set_option maxRecDepth 20000 in
theorem w118_267 {ls st : List xV} {M : xM} {Q : Option xV → xM → Prop} {a : Int} {v0 : xV} {v1 : xV} {v2 : xV} : Wp 118 267 (v0 :: v1 :: v2 :: xi a :: ls) (st) (M) Q = Wp 118 268 (v0 :: v1 :: v2 :: xi a :: ls) (xi a :: st) (M) Q := wp_iload rfl rfl
set_option maxRecDepth 20000 in
theorem w118_268 {ls st : List xV} {M : xM} {Q : Option xV → xM → Prop} {a : Int} (ha : xG a) : Wp 118 268 (ls) (xi a :: st) (M) Q = ((¬ a = 0 → Wp 118 276 (ls) (st) (M) Q) ∧ (¬ (¬ a = 0) → Wp 118 271 (ls) (st) (M) Q)) := wp_if_ne rfl ha
set_option maxRecDepth 20000 in
theorem w118_271 {ls st : List xV} {M : xM} {Q : Option xV → xM → Prop} {a : Int} {v0 : xV} {v1 : xV} {v2 : xV} {v3 : xV} : Wp 118 271 (v0 :: v1 :: v2 :: v3 :: xi a :: ls) (st) (M) Q = Wp 118 273 (v0 :: v1 :: v2 :: v3 :: xi a :: ls) (xi a :: st) (M) Q := wp_iload rfl rfl
set_option maxRecDepth 20000 in
theorem w118_273 {ls st : List xV} {M : xM} {Q : Option xV → xM → Prop}  : Wp 118 273 (ls) (st) (M) Q = Wp 118 282 (ls) (st) (M) Q := wp_goto rfl
set_option maxRecDepth 20000 in
theorem w118_276 {ls st : List xV} {M : xM} {Q : Option xV → xM → Prop} {d : Nat} : Wp 118 276 (xr d :: ls) (st) (M) Q = Wp 118 277 (xr d :: ls) (xr d :: st) (M) Q := wp_aload rfl rfl
set_option maxRecDepth 20000 in
theorem w118_277 {ls st : List xV} {M : xM} {Q : Option xV → xM → Prop} {d : Nat} (hc : x_c d = 9) : Wp 118 277 (ls) (xr d :: st) (M) Q = Wp 118 280 (ls) (xr (x_r d 23) :: st) (M) Q := wp_getr rfl hc
set_option maxRecDepth 20000 in
theorem w118_280 {ls st : List xV} {M : xM} {Q : Option xV → xM → Prop} {a : Int} {v0 : xV} {v1 : xV} : Wp 118 280 (v0 :: v1 :: xi a :: ls) (st) (M) Q = Wp 118 281 (v0 :: v1 :: xi a :: ls) (xi a :: st) (M) Q := wp_iload rfl rfl
set_option maxRecDepth 20000 in
theorem w118_281 {ls st : List xV} {M : xM} {Q : Option xV → xM → Prop} {a : Int} {d : Nat} (hc : x_c d = 20) (hn : x_n d = 5) (h1 : 0 ≤ a) (h2 : a < 5) : Wp 118 281 (ls) (xi a :: xr d :: st) (M) Q = Wp 118 282 (ls) (xi (M d a) :: st) (M) Q := wp_ald rfl hc h1 (by rw [hn]; exact h2)
set_option maxRecDepth 20000 in
theorem w118_282 {ls : List xV} {M : xM} {Q : Option xV → xM → Prop} {a : Int} : Wp 118 282 (ls) ([xi a]) (M) Q = Q (some (xi a)) M := wp_iret rfl
set_option maxRecDepth 20000 in
theorem w118_283 {ls st : List xV} {M : xM} {Q : Option xV → xM → Prop} {a : Int} {v0 : xV} {v1 : xV} {v2 : xV} {v3 : xV} : Wp 118 283 (v0 :: v1 :: v2 :: v3 :: xi a :: ls) (st) (M) Q = Wp 118 286 (v0 :: v1 :: v2 :: xjl v3 :: xi (a + 1) :: ls) (st) (M) Q := wp_iinc rfl rfl rfl
set_option maxRecDepth 20000 in
theorem w118_286 {ls st : List xV} {M : xM} {Q : Option xV → xM → Prop}  : Wp 118 286 (ls) (st) (M) Q = Wp 118 82 (ls) (st) (M) Q := wp_goto rfl
set_option maxRecDepth 20000 in
theorem w118_289 {ls st : List xV} {M : xM} {Q : Option xV → xM → Prop}  : Wp 118 289 (ls) (st) (M) Q = Wp 118 291 (ls) (xi (-4) :: st) (M) Q := wp_const rfl
set_option maxRecDepth 20000 in
theorem w118_291 {ls : List xV} {M : xM} {Q : Option xV → xM → Prop} {a : Int} : Wp 118 291 (ls) ([xi a]) (M) Q = Q (some (xi a)) M := wp_iret rfl
theorem wc119 {M : xM} {Q : Option xV → xM → Prop} {d0 : Nat} {a1 : Int} {a2 : Int} {a3 : Int} : Wc 119 [xr d0, xi a1, xi a2, xi a3] M Q = Wp 119 0 [xr d0, xi a1, xi a2, xi a3, xj, xj, xj, xj, xj, xj] [] M Q := rfl
theorem w119_0 {ls st : List xV} {M : xM} {Q : Option xV → xM → Prop} {d : Nat} : Wp 119 0 (xr d :: ls) (st) (M) Q = Wp 119 1 (xr d :: ls) (xr d :: st) (M) Q := wp_aload rfl rfl
theorem w119_1 {ls st : List xV} {M : xM} {Q : Option xV → xM → Prop} {a : Int} {v0 : xV} : Wp 119 1 (v0 :: xi a :: ls) (st) (M) Q = Wp 119 2 (v0 :: xi a :: ls) (xi a :: st) (M) Q := wp_iload rfl rfl
theorem w119_2 {ls : List xV} {M : xM} {Q : Option xV → xM → Prop} {a1 : Int} {d0 : Nat} (hc : x_c d0 = 9) : Wp 119 2 (ls) (xi a1 :: xr d0 :: []) (M) Q = Wc 81 [xr d0, xi a1] M (fun r M2 => Wp 119 5 (ls) (r.toList ++ ([])) M2 Q) := wp_cV rfl rfl hc (Nat.le_of_ble_eq_true rfl) (Nat.le_of_ble_eq_true rfl) rfl rfl
theorem w119_5 {ls st : List xV} {M : xM} {Q : Option xV → xM → Prop} {a : Int} (ha : xG a) : Wp 119 5 (ls) (xi a :: st) (M) Q = ((a = 0 → Wp 119 25 (ls) (st) (M) Q) ∧ (¬ (a = 0) → Wp 119 8 (ls) (st) (M) Q)) := wp_if_eq rfl ha
theorem w119_8 {ls st : List xV} {M : xM} {Q : Option xV → xM → Prop} {d : Nat} : Wp 119 8 (xr d :: ls) (st) (M) Q = Wp 119 9 (xr d :: ls) (xr d :: st) (M) Q := wp_aload rfl rfl
theorem w119_9 {ls st : List xV} {M : xM} {Q : Option xV → xM → Prop} {a : Int} {v0 : xV} {v1 : xV} : Wp 119 9 (v0 :: v1 :: xi a :: ls) (st) (M) Q = Wp 119 10 (v0 :: v1 :: xi a :: ls) (xi a :: st) (M) Q := wp_iload rfl rfl
theorem w119_10 {ls : List xV} {M : xM} {Q : Option xV → xM → Prop} {a1 : Int} {d0 : Nat} (hc : x_c d0 = 9) : Wp 119 10 (ls) (xi a1 :: xr d0 :: []) (M) Q = Wc 80 [xr d0, xi a1] M (fun r M2 => Wp 119 13 (ls) (r.toList ++ ([])) M2 Q) := wp_cV rfl rfl hc (Nat.le_of_ble_eq_true rfl) (Nat.le_of_ble_eq_true rfl) rfl rfl
theorem w119_13 {ls st : List xV} {M : xM} {Q : Option xV → xM → Prop} {a : Int} (ha : xG a) : Wp 119 13 (ls) (xi a :: st) (M) Q = ((a = 0 → Wp 119 25 (ls) (st) (M) Q) ∧ (¬ (a = 0) → Wp 119 16 (ls) (st) (M) Q)) := wp_if_eq rfl ha
theorem w119_16 {ls st : List xV} {M : xM} {Q : Option xV → xM → Prop} {a : Int} {v0 : xV} {v1 : xV} {v2 : xV} : Wp 119 16 (v0 :: v1 :: v2 :: xi a :: ls) (st) (M) Q = Wp 119 17 (v0 :: v1 :: v2 :: xi a :: ls) (xi a :: st) (M) Q := wp_iload rfl rfl
theorem w119_17 {ls st : List xV} {M : xM} {Q : Option xV → xM → Prop}  : Wp 119 17 (ls) (st) (M) Q = Wp 119 18 (ls) (xi 0 :: st) (M) Q := wp_const rfl
theorem w119_18 {ls st : List xV} {M : xM} {Q : Option xV → xM → Prop}  : Wp 119 18 (ls) (st) (M) Q = Wp 119 19 (ls) (xi 1 :: st) (M) Q := wp_const rfl
theorem w119_19 {ls : List xV} {M : xM} {Q : Option xV → xM → Prop} {a0 : Int} {a1 : Int} {a2 : Int} : Wp 119 19 (ls) (xi a2 :: xi a1 :: xi a0 :: []) (M) Q = Wc 79 [xi a0, xi a1, xi a2] M (fun r M2 => Wp 119 22 (ls) (r.toList ++ ([])) M2 Q) := wp_cS rfl rfl (Nat.le_of_ble_eq_true rfl) (Nat.le_of_ble_eq_true rfl) rfl rfl
theorem w119_22 {ls st : List xV} {M : xM} {Q : Option xV → xM → Prop} {a : Int} (ha : xG a) : Wp 119 22 (ls) (xi a :: st) (M) Q = ((¬ a = 0 → Wp 119 27 (ls) (st) (M) Q) ∧ (¬ (¬ a = 0) → Wp 119 25 (ls) (st) (M) Q)) := wp_if_ne rfl ha
theorem w119_25 {ls st : List xV} {M : xM} {Q : Option xV → xM → Prop}  : Wp 119 25 (ls) (st) (M) Q = Wp 119 26 (ls) (xi (-1) :: st) (M) Q := wp_const rfl
theorem w119_26 {ls : List xV} {M : xM} {Q : Option xV → xM → Prop} {a : Int} : Wp 119 26 (ls) ([xi a]) (M) Q = Q (some (xi a)) M := wp_iret rfl
theorem w119_27 {ls st : List xV} {M : xM} {Q : Option xV → xM → Prop} {d : Nat} : Wp 119 27 (xr d :: ls) (st) (M) Q = Wp 119 28 (xr d :: ls) (xr d :: st) (M) Q := wp_aload rfl rfl
theorem w119_28 {ls st : List xV} {M : xM} {Q : Option xV → xM → Prop} {d : Nat} (hc : x_c d = 9) : Wp 119 28 (ls) (xr d :: st) (M) Q = Wp 119 31 (ls) (xr (x_r d 5) :: st) (M) Q := wp_getr rfl hc
theorem w119_31 {ls st : List xV} {M : xM} {Q : Option xV → xM → Prop} {a : Int} {v0 : xV} : Wp 119 31 (v0 :: xi a :: ls) (st) (M) Q = Wp 119 32 (v0 :: xi a :: ls) (xi a :: st) (M) Q := wp_iload rfl rfl
theorem w119_32 {ls st : List xV} {M : xM} {Q : Option xV → xM → Prop} {a : Int} {d : Nat} (hc : x_c d = 20) (hn : x_n d = 7) (h1 : 0 ≤ a) (h2 : a < 7) : Wp 119 32 (ls) (xi a :: xr d :: st) (M) Q = Wp 119 33 (ls) (xi (M d a) :: st) (M) Q := wp_ald rfl hc h1 (by rw [hn]; exact h2)
theorem w119_33 {ls st : List xV} {M : xM} {Q : Option xV → xM → Prop} {a : Int} {v0 : xV} {v1 : xV} {v2 : xV} {v3 : xV} {w : xV} : Wp 119 33 (v0 :: v1 :: v2 :: v3 :: w :: ls) (xi a :: st) (M) Q = Wp 119 35 (v0 :: v1 :: v2 :: xjl v3 :: xi a :: ls) (st) (M) Q := wp_istore rfl rfl
theorem w119_35 {ls st : List xV} {M : xM} {Q : Option xV → xM → Prop}  : Wp 119 35 (ls) (st) (M) Q = Wp 119 37 (ls) (xi (-4) :: st) (M) Q := wp_const rfl
theorem w119_37 {ls st : List xV} {M : xM} {Q : Option xV → xM → Prop} {a : Int} {v0 : xV} {v1 : xV} {v2 : xV} {v3 : xV} {v4 : xV} {w : xV} : Wp 119 37 (v0 :: v1 :: v2 :: v3 :: v4 :: w :: ls) (xi a :: st) (M) Q = Wp 119 39 (v0 :: v1 :: v2 :: v3 :: xjl v4 :: xi a :: ls) (st) (M) Q := wp_istore rfl rfl
theorem w119_39 {ls st : List xV} {M : xM} {Q : Option xV → xM → Prop}  : Wp 119 39 (ls) (st) (M) Q = Wp 119 41 (ls) (xi (-4) :: st) (M) Q := wp_const rfl
theorem w119_41 {ls st : List xV} {M : xM} {Q : Option xV → xM → Prop} {a : Int} {v0 : xV} {v1 : xV} {v2 : xV} {v3 : xV} {v4 : xV} {v5 : xV} {w : xV} : Wp 119 41 (v0 :: v1 :: v2 :: v3 :: v4 :: v5 :: w :: ls) (xi a :: st) (M) Q = Wp 119 43 (v0 :: v1 :: v2 :: v3 :: v4 :: xjl v5 :: xi a :: ls) (st) (M) Q := wp_istore rfl rfl
theorem w119_43 {ls st : List xV} {M : xM} {Q : Option xV → xM → Prop}  : Wp 119 43 (ls) (st) (M) Q = Wp 119 45 (ls) (xi 30 :: st) (M) Q := wp_const rfl
theorem w119_45 {ls st : List xV} {M : xM} {Q : Option xV → xM → Prop} {a : Int} {v0 : xV} {v1 : xV} {v2 : xV} {v3 : xV} {v4 : xV} {v5 : xV} {v6 : xV} {w : xV} : Wp 119 45 (v0 :: v1 :: v2 :: v3 :: v4 :: v5 :: v6 :: w :: ls) (xi a :: st) (M) Q = Wp 119 47 (v0 :: v1 :: v2 :: v3 :: v4 :: v5 :: xjl v6 :: xi a :: ls) (st) (M) Q := wp_istore rfl rfl
theorem w119_47 {ls st : List xV} {M : xM} {Q : Option xV → xM → Prop} {a : Int} {v0 : xV} {v1 : xV} {v2 : xV} {v3 : xV} {v4 : xV} {v5 : xV} {v6 : xV} : Wp 119 47 (v0 :: v1 :: v2 :: v3 :: v4 :: v5 :: v6 :: xi a :: ls) (st) (M) Q = Wp 119 49 (v0 :: v1 :: v2 :: v3 :: v4 :: v5 :: v6 :: xi a :: ls) (xi a :: st) (M) Q := wp_iload rfl rfl
theorem w119_49 {ls st : List xV} {M : xM} {Q : Option xV → xM → Prop} {a : Int} (ha : xG a) : Wp 119 49 (ls) (xi a :: st) (M) Q = ((a < 0 → Wp 119 134 (ls) (st) (M) Q) ∧ (¬ (a < 0) → Wp 119 52 (ls) (st) (M) Q)) := wp_if_lt rfl ha
theorem w119_52 {ls st : List xV} {M : xM} {Q : Option xV → xM → Prop} {d : Nat} : Wp 119 52 (xr d :: ls) (st) (M) Q = Wp 119 53 (xr d :: ls) (xr d :: st) (M) Q := wp_aload rfl rfl
theorem w119_53 {ls st : List xV} {M : xM} {Q : Option xV → xM → Prop} {d : Nat} (hc : x_c d = 9) : Wp 119 53 (ls) (xr d :: st) (M) Q = Wp 119 56 (ls) (xr (x_r d 5) :: st) (M) Q := wp_getr rfl hc
theorem w119_56 {ls st : List xV} {M : xM} {Q : Option xV → xM → Prop} {a : Int} {v0 : xV} : Wp 119 56 (v0 :: xi a :: ls) (st) (M) Q = Wp 119 57 (v0 :: xi a :: ls) (xi a :: st) (M) Q := wp_iload rfl rfl
theorem w119_57 {ls st : List xV} {M : xM} {Q : Option xV → xM → Prop} {a : Int} {v0 : xV} {v1 : xV} {v2 : xV} {v3 : xV} {v4 : xV} {v5 : xV} {v6 : xV} : Wp 119 57 (v0 :: v1 :: v2 :: v3 :: v4 :: v5 :: v6 :: xi a :: ls) (st) (M) Q = Wp 119 59 (v0 :: v1 :: v2 :: v3 :: v4 :: v5 :: v6 :: xi a :: ls) (xi a :: st) (M) Q := wp_iload rfl rfl
theorem w119_59 {ls st : List xV} {M : xM} {Q : Option xV → xM → Prop} {a : Int} {d : Nat} {x : Int} (hc : x_c d = 20) (hn : x_n d = 7) (h1 : 0 ≤ a) (h2 : a < 7) : Wp 119 59 (ls) (xi x :: xi a :: xr d :: st) (M) Q = Wp 119 60 (ls) (st) (xup M d a x) Q := wp_iast rfl hc h1 (by rw [hn]; exact h2)
theorem w119_60 {ls st : List xV} {M : xM} {Q : Option xV → xM → Prop} {d : Nat} : Wp 119 60 (xr d :: ls) (st) (M) Q = Wp 119 61 (xr d :: ls) (xr d :: st) (M) Q := wp_aload rfl rfl
theorem w119_61 {ls : List xV} {M : xM} {Q : Option xV → xM → Prop} {d0 : Nat} (hc : x_c d0 = 9) : Wp 119 61 (ls) (xr d0 :: []) (M) Q = Wc 112 [xr d0] M (fun r M2 => Wp 119 64 (ls) (r.toList ++ ([])) M2 Q) := wp_cV rfl rfl hc (Nat.le_of_ble_eq_true rfl) (Nat.le_of_ble_eq_true rfl) rfl rfl
theorem w119_64 {ls st : List xV} {M : xM} {Q : Option xV → xM → Prop} {d : Nat} : Wp 119 64 (xr d :: ls) (st) (M) Q = Wp 119 65 (xr d :: ls) (xr d :: st) (M) Q := wp_aload rfl rfl
theorem w119_65 {ls st : List xV} {M : xM} {Q : Option xV → xM → Prop} {a : Int} {v0 : xV} : Wp 119 65 (v0 :: xi a :: ls) (st) (M) Q = Wp 119 66 (v0 :: xi a :: ls) (xi a :: st) (M) Q := wp_iload rfl rfl
theorem w119_66 {ls st : List xV} {M : xM} {Q : Option xV → xM → Prop} {a : Int} {v0 : xV} {v1 : xV} : Wp 119 66 (v0 :: v1 :: xi a :: ls) (st) (M) Q = Wp 119 67 (v0 :: v1 :: xi a :: ls) (xi a :: st) (M) Q := wp_iload rfl rfl
theorem w119_67 {ls : List xV} {M : xM} {Q : Option xV → xM → Prop} {a1 : Int} {a2 : Int} {d0 : Nat} (hc : x_c d0 = 9) : Wp 119 67 (ls) (xi a2 :: xi a1 :: xr d0 :: []) (M) Q = Wc 115 [xr d0, xi a1, xi a2] M (fun r M2 => Wp 119 70 (ls) (r.toList ++ ([])) M2 Q) := wp_cV rfl rfl hc (Nat.le_of_ble_eq_true rfl) (Nat.le_of_ble_eq_true rfl) rfl rfl
theorem w119_70 {ls st : List xV} {M : xM} {Q : Option xV → xM → Prop} {a : Int} {v0 : xV} {v1 : xV} {v2 : xV} {v3 : xV} {v4 : xV} {v5 : xV} {v6 : xV} {v7 : xV} {w : xV} : Wp 119 70 (v0 :: v1 :: v2 :: v3 :: v4 :: v5 :: v6 :: v7 :: w :: ls) (xi a :: st) (M) Q = Wp 119 72 (v0 :: v1 :: v2 :: v3 :: v4 :: v5 :: v6 :: xjl v7 :: xi a :: ls) (st) (M) Q := wp_istore rfl rfl
theorem w119_72 {ls st : List xV} {M : xM} {Q : Option xV → xM → Prop} {a : Int} {v0 : xV} {v1 : xV} {v2 : xV} {v3 : xV} {v4 : xV} {v5 : xV} {v6 : xV} {v7 : xV} : Wp 119 72 (v0 :: v1 :: v2 :: v3 :: v4 :: v5 :: v6 :: v7 :: xi a :: ls) (st) (M) Q = Wp 119 74 (v0 :: v1 :: v2 :: v3 :: v4 :: v5 :: v6 :: v7 :: xi a :: ls) (xi a :: st) (M) Q := wp_iload rfl rfl
theorem w119_74 {ls st : List xV} {M : xM} {Q : Option xV → xM → Prop}  : Wp 119 74 (ls) (st) (M) Q = Wp 119 76 (ls) (xi (-4) :: st) (M) Q := wp_const rfl
theorem w119_76 {ls st : List xV} {M : xM} {Q : Option xV → xM → Prop} {a : Int} {b : Int} (ha : xG a) (hb : xG b) : Wp 119 76 (ls) (xi b :: xi a :: st) (M) Q = ((a = b → Wp 119 97 (ls) (st) (M) Q) ∧ (¬ (a = b) → Wp 119 79 (ls) (st) (M) Q)) := wp_cmp_eq rfl ha hb
theorem w119_79 {ls st : List xV} {M : xM} {Q : Option xV → xM → Prop} {a : Int} {v0 : xV} {v1 : xV} {v2 : xV} {v3 : xV} {v4 : xV} {v5 : xV} : Wp 119 79 (v0 :: v1 :: v2 :: v3 :: v4 :: v5 :: xi a :: ls) (st) (M) Q = Wp 119 81 (v0 :: v1 :: v2 :: v3 :: v4 :: v5 :: xi a :: ls) (xi a :: st) (M) Q := wp_iload rfl rfl
theorem w119_81 {ls st : List xV} {M : xM} {Q : Option xV → xM → Prop}  : Wp 119 81 (ls) (st) (M) Q = Wp 119 83 (ls) (xi (-4) :: st) (M) Q := wp_const rfl
theorem w119_83 {ls st : List xV} {M : xM} {Q : Option xV → xM → Prop} {a : Int} {b : Int} (ha : xG a) (hb : xG b) : Wp 119 83 (ls) (xi b :: xi a :: st) (M) Q = ((a = b → Wp 119 93 (ls) (st) (M) Q) ∧ (¬ (a = b) → Wp 119 86 (ls) (st) (M) Q)) := wp_cmp_eq rfl ha hb
theorem w119_86 {ls st : List xV} {M : xM} {Q : Option xV → xM → Prop} {a : Int} {v0 : xV} {v1 : xV} {v2 : xV} {v3 : xV} {v4 : xV} {v5 : xV} {v6 : xV} {v7 : xV} : Wp 119 86 (v0 :: v1 :: v2 :: v3 :: v4 :: v5 :: v6 :: v7 :: xi a :: ls) (st) (M) Q = Wp 119 88 (v0 :: v1 :: v2 :: v3 :: v4 :: v5 :: v6 :: v7 :: xi a :: ls) (xi a :: st) (M) Q := wp_iload rfl rfl
theorem w119_88 {ls st : List xV} {M : xM} {Q : Option xV → xM → Prop} {a : Int} {v0 : xV} {v1 : xV} {v2 : xV} {v3 : xV} {v4 : xV} {v5 : xV} : Wp 119 88 (v0 :: v1 :: v2 :: v3 :: v4 :: v5 :: xi a :: ls) (st) (M) Q = Wp 119 90 (v0 :: v1 :: v2 :: v3 :: v4 :: v5 :: xi a :: ls) (xi a :: st) (M) Q := wp_iload rfl rfl
theorem w119_90 {ls st : List xV} {M : xM} {Q : Option xV → xM → Prop} {a : Int} {b : Int} (ha : xG a) (hb : xG b) : Wp 119 90 (ls) (xi b :: xi a :: st) (M) Q = ((b ≤ a → Wp 119 97 (ls) (st) (M) Q) ∧ (¬ (b ≤ a) → Wp 119 93 (ls) (st) (M) Q)) := wp_cmp_ge rfl ha hb
theorem w119_93 {ls st : List xV} {M : xM} {Q : Option xV → xM → Prop}  : Wp 119 93 (ls) (st) (M) Q = Wp 119 94 (ls) (xi 1 :: st) (M) Q := wp_const rfl
theorem w119_94 {ls st : List xV} {M : xM} {Q : Option xV → xM → Prop}  : Wp 119 94 (ls) (st) (M) Q = Wp 119 98 (ls) (st) (M) Q := wp_goto rfl
theorem w119_97 {ls st : List xV} {M : xM} {Q : Option xV → xM → Prop}  : Wp 119 97 (ls) (st) (M) Q = Wp 119 98 (ls) (xi 0 :: st) (M) Q := wp_const rfl
theorem w119_98 {ls st : List xV} {M : xM} {Q : Option xV → xM → Prop} {a : Int} {v0 : xV} {v1 : xV} {v2 : xV} {v3 : xV} {v4 : xV} {v5 : xV} {v6 : xV} {v7 : xV} {v8 : xV} {w : xV} : Wp 119 98 (v0 :: v1 :: v2 :: v3 :: v4 :: v5 :: v6 :: v7 :: v8 :: w :: ls) (xi a :: st) (M) Q = Wp 119 100 (v0 :: v1 :: v2 :: v3 :: v4 :: v5 :: v6 :: v7 :: xjl v8 :: xi a :: ls) (st) (M) Q := wp_istore rfl rfl
theorem w119_100 {ls st : List xV} {M : xM} {Q : Option xV → xM → Prop} {a : Int} {v0 : xV} {v1 : xV} {v2 : xV} {v3 : xV} {v4 : xV} {v5 : xV} {v6 : xV} {v7 : xV} {v8 : xV} : Wp 119 100 (v0 :: v1 :: v2 :: v3 :: v4 :: v5 :: v6 :: v7 :: v8 :: xi a :: ls) (st) (M) Q = Wp 119 102 (v0 :: v1 :: v2 :: v3 :: v4 :: v5 :: v6 :: v7 :: v8 :: xi a :: ls) (xi a :: st) (M) Q := wp_iload rfl rfl
theorem w119_102 {ls st : List xV} {M : xM} {Q : Option xV → xM → Prop} {a : Int} (ha : xG a) : Wp 119 102 (ls) (xi a :: st) (M) Q = ((a = 0 → Wp 119 110 (ls) (st) (M) Q) ∧ (¬ (a = 0) → Wp 119 105 (ls) (st) (M) Q)) := wp_if_eq rfl ha
theorem w119_105 {ls st : List xV} {M : xM} {Q : Option xV → xM → Prop} {a : Int} {v0 : xV} {v1 : xV} {v2 : xV} {v3 : xV} {v4 : xV} {v5 : xV} {v6 : xV} : Wp 119 105 (v0 :: v1 :: v2 :: v3 :: v4 :: v5 :: v6 :: xi a :: ls) (st) (M) Q = Wp 119 107 (v0 :: v1 :: v2 :: v3 :: v4 :: v5 :: v6 :: xi a :: ls) (xi a :: st) (M) Q := wp_iload rfl rfl
theorem w119_107 {ls st : List xV} {M : xM} {Q : Option xV → xM → Prop}  : Wp 119 107 (ls) (st) (M) Q = Wp 119 112 (ls) (st) (M) Q := wp_goto rfl
theorem w119_110 {ls st : List xV} {M : xM} {Q : Option xV → xM → Prop} {a : Int} {v0 : xV} {v1 : xV} {v2 : xV} {v3 : xV} {v4 : xV} : Wp 119 110 (v0 :: v1 :: v2 :: v3 :: v4 :: xi a :: ls) (st) (M) Q = Wp 119 112 (v0 :: v1 :: v2 :: v3 :: v4 :: xi a :: ls) (xi a :: st) (M) Q := wp_iload rfl rfl
theorem w119_112 {ls st : List xV} {M : xM} {Q : Option xV → xM → Prop} {a : Int} {v0 : xV} {v1 : xV} {v2 : xV} {v3 : xV} {v4 : xV} {w : xV} : Wp 119 112 (v0 :: v1 :: v2 :: v3 :: v4 :: w :: ls) (xi a :: st) (M) Q = Wp 119 114 (v0 :: v1 :: v2 :: v3 :: xjl v4 :: xi a :: ls) (st) (M) Q := wp_istore rfl rfl
theorem w119_114 {ls st : List xV} {M : xM} {Q : Option xV → xM → Prop} {a : Int} {v0 : xV} {v1 : xV} {v2 : xV} {v3 : xV} {v4 : xV} {v5 : xV} {v6 : xV} {v7 : xV} {v8 : xV} : Wp 119 114 (v0 :: v1 :: v2 :: v3 :: v4 :: v5 :: v6 :: v7 :: v8 :: xi a :: ls) (st) (M) Q = Wp 119 116 (v0 :: v1 :: v2 :: v3 :: v4 :: v5 :: v6 :: v7 :: v8 :: xi a :: ls) (xi a :: st) (M) Q := wp_iload rfl rfl
theorem w119_116 {ls st : List xV} {M : xM} {Q : Option xV → xM → Prop} {a : Int} (ha : xG a) : Wp 119 116 (ls) (xi a :: st) (M) Q = ((a = 0 → Wp 119 124 (ls) (st) (M) Q) ∧ (¬ (a = 0) → Wp 119 119 (ls) (st) (M) Q)) := wp_if_eq rfl ha
theorem w119_119 {ls st : List xV} {M : xM} {Q : Option xV → xM → Prop} {a : Int} {v0 : xV} {v1 : xV} {v2 : xV} {v3 : xV} {v4 : xV} {v5 : xV} {v6 : xV} {v7 : xV} : Wp 119 119 (v0 :: v1 :: v2 :: v3 :: v4 :: v5 :: v6 :: v7 :: xi a :: ls) (st) (M) Q = Wp 119 121 (v0 :: v1 :: v2 :: v3 :: v4 :: v5 :: v6 :: v7 :: xi a :: ls) (xi a :: st) (M) Q := wp_iload rfl rfl
theorem w119_121 {ls st : List xV} {M : xM} {Q : Option xV → xM → Prop}  : Wp 119 121 (ls) (st) (M) Q = Wp 119 126 (ls) (st) (M) Q := wp_goto rfl
theorem w119_124 {ls st : List xV} {M : xM} {Q : Option xV → xM → Prop} {a : Int} {v0 : xV} {v1 : xV} {v2 : xV} {v3 : xV} {v4 : xV} {v5 : xV} : Wp 119 124 (v0 :: v1 :: v2 :: v3 :: v4 :: v5 :: xi a :: ls) (st) (M) Q = Wp 119 126 (v0 :: v1 :: v2 :: v3 :: v4 :: v5 :: xi a :: ls) (xi a :: st) (M) Q := wp_iload rfl rfl
theorem w119_126 {ls st : List xV} {M : xM} {Q : Option xV → xM → Prop} {a : Int} {v0 : xV} {v1 : xV} {v2 : xV} {v3 : xV} {v4 : xV} {v5 : xV} {w : xV} : Wp 119 126 (v0 :: v1 :: v2 :: v3 :: v4 :: v5 :: w :: ls) (xi a :: st) (M) Q = Wp 119 128 (v0 :: v1 :: v2 :: v3 :: v4 :: xjl v5 :: xi a :: ls) (st) (M) Q := wp_istore rfl rfl
theorem w119_128 {ls st : List xV} {M : xM} {Q : Option xV → xM → Prop} {a : Int} {v0 : xV} {v1 : xV} {v2 : xV} {v3 : xV} {v4 : xV} {v5 : xV} {v6 : xV} : Wp 119 128 (v0 :: v1 :: v2 :: v3 :: v4 :: v5 :: v6 :: xi a :: ls) (st) (M) Q = Wp 119 131 (v0 :: v1 :: v2 :: v3 :: v4 :: v5 :: xjl v6 :: xi (a + (-1)) :: ls) (st) (M) Q := wp_iinc rfl rfl rfl
theorem w119_131 {ls st : List xV} {M : xM} {Q : Option xV → xM → Prop}  : Wp 119 131 (ls) (st) (M) Q = Wp 119 47 (ls) (st) (M) Q := wp_goto rfl
theorem w119_134 {ls st : List xV} {M : xM} {Q : Option xV → xM → Prop} {d : Nat} : Wp 119 134 (xr d :: ls) (st) (M) Q = Wp 119 135 (xr d :: ls) (xr d :: st) (M) Q := wp_aload rfl rfl
theorem w119_135 {ls st : List xV} {M : xM} {Q : Option xV → xM → Prop} {d : Nat} (hc : x_c d = 9) : Wp 119 135 (ls) (xr d :: st) (M) Q = Wp 119 138 (ls) (xr (x_r d 5) :: st) (M) Q := wp_getr rfl hc
theorem w119_138 {ls st : List xV} {M : xM} {Q : Option xV → xM → Prop} {a : Int} {v0 : xV} : Wp 119 138 (v0 :: xi a :: ls) (st) (M) Q = Wp 119 139 (v0 :: xi a :: ls) (xi a :: st) (M) Q := wp_iload rfl rfl
theorem w119_139 {ls st : List xV} {M : xM} {Q : Option xV → xM → Prop} {a : Int} {v0 : xV} {v1 : xV} {v2 : xV} {v3 : xV} : Wp 119 139 (v0 :: v1 :: v2 :: v3 :: xi a :: ls) (st) (M) Q = Wp 119 141 (v0 :: v1 :: v2 :: v3 :: xi a :: ls) (xi a :: st) (M) Q := wp_iload rfl rfl
theorem w119_141 {ls st : List xV} {M : xM} {Q : Option xV → xM → Prop} {a : Int} {d : Nat} {x : Int} (hc : x_c d = 20) (hn : x_n d = 7) (h1 : 0 ≤ a) (h2 : a < 7) : Wp 119 141 (ls) (xi x :: xi a :: xr d :: st) (M) Q = Wp 119 142 (ls) (st) (xup M d a x) Q := wp_iast rfl hc h1 (by rw [hn]; exact h2)
theorem w119_142 {ls st : List xV} {M : xM} {Q : Option xV → xM → Prop} {a : Int} {v0 : xV} {v1 : xV} {v2 : xV} : Wp 119 142 (v0 :: v1 :: v2 :: xi a :: ls) (st) (M) Q = Wp 119 143 (v0 :: v1 :: v2 :: xi a :: ls) (xi a :: st) (M) Q := wp_iload rfl rfl
theorem w119_143 {ls st : List xV} {M : xM} {Q : Option xV → xM → Prop} {a : Int} (ha : xG a) : Wp 119 143 (ls) (xi a :: st) (M) Q = ((¬ a = 0 → Wp 119 151 (ls) (st) (M) Q) ∧ (¬ (¬ a = 0) → Wp 119 146 (ls) (st) (M) Q)) := wp_if_ne rfl ha
theorem w119_146 {ls st : List xV} {M : xM} {Q : Option xV → xM → Prop} {a : Int} {v0 : xV} {v1 : xV} {v2 : xV} {v3 : xV} {v4 : xV} : Wp 119 146 (v0 :: v1 :: v2 :: v3 :: v4 :: xi a :: ls) (st) (M) Q = Wp 119 148 (v0 :: v1 :: v2 :: v3 :: v4 :: xi a :: ls) (xi a :: st) (M) Q := wp_iload rfl rfl
theorem w119_148 {ls st : List xV} {M : xM} {Q : Option xV → xM → Prop}  : Wp 119 148 (ls) (st) (M) Q = Wp 119 153 (ls) (st) (M) Q := wp_goto rfl
theorem w119_151 {ls st : List xV} {M : xM} {Q : Option xV → xM → Prop} {a : Int} {v0 : xV} {v1 : xV} {v2 : xV} {v3 : xV} {v4 : xV} {v5 : xV} : Wp 119 151 (v0 :: v1 :: v2 :: v3 :: v4 :: v5 :: xi a :: ls) (st) (M) Q = Wp 119 153 (v0 :: v1 :: v2 :: v3 :: v4 :: v5 :: xi a :: ls) (xi a :: st) (M) Q := wp_iload rfl rfl
theorem w119_153 {ls : List xV} {M : xM} {Q : Option xV → xM → Prop} {a : Int} : Wp 119 153 (ls) ([xi a]) (M) Q = Q (some (xi a)) M := wp_iret rfl
