theorem wc66 {M : xM} {Q : Option xV → xM → Prop} {d0 : Nat} {a1 : Int} {a2 : Int} {a3 : Int} : Wc 66 [xr d0, xi a1, xi a2, xi a3] M Q = Wp 66 0 [xr d0, xi a1, xi a2, xi a3, xj, xj, xj] [] M Q := rfl
theorem w66_0 {ls st : List xV} {M : xM} {Q : Option xV → xM → Prop} {d : Nat} : Wp 66 0 (xr d :: ls) (st) (M) Q = Wp 66 1 (xr d :: ls) (xr d :: st) (M) Q := wp_aload rfl rfl
theorem w66_1 {ls st : List xV} {M : xM} {Q : Option xV → xM → Prop} {d : Nat} (hc : x_c d = 8) : Wp 66 1 (ls) (xr d :: st) (M) Q = Wp 66 4 (ls) (xr (x_r d 1) :: st) (M) Q := wp_getr rfl hc
theorem w66_4 {ls st : List xV} {M : xM} {Q : Option xV → xM → Prop} {a : Int} {v0 : xV} : Wp 66 4 (v0 :: xi a :: ls) (st) (M) Q = Wp 66 5 (v0 :: xi a :: ls) (xi a :: st) (M) Q := wp_iload rfl rfl
theorem w66_5 {ls : List xV} {M : xM} {Q : Option xV → xM → Prop} {a1 : Int} {d0 : Nat} (hc : x_c d0 = 3) : Wp 66 5 (ls) (xi a1 :: xr d0 :: []) (M) Q = Wc 9 [xr d0, xi a1] M (fun r M2 => Wp 66 8 (ls) (r.toList ++ ([])) M2 Q) := wp_cV rfl rfl hc (Nat.le_of_ble_eq_true rfl) (Nat.le_of_ble_eq_true rfl) rfl rfl
theorem w66_8 {ls st : List xV} {M : xM} {Q : Option xV → xM → Prop} {a : Int} (ha : xG a) : Wp 66 8 (ls) (xi a :: st) (M) Q = ((a = 0 → Wp 66 34 (ls) (st) (M) Q) ∧ (¬ (a = 0) → Wp 66 11 (ls) (st) (M) Q)) := wp_if_eq rfl ha
theorem w66_11 {ls st : List xV} {M : xM} {Q : Option xV → xM → Prop} {d : Nat} : Wp 66 11 (xr d :: ls) (st) (M) Q = Wp 66 12 (xr d :: ls) (xr d :: st) (M) Q := wp_aload rfl rfl
theorem w66_12 {ls st : List xV} {M : xM} {Q : Option xV → xM → Prop} {d : Nat} (hc : x_c d = 8) : Wp 66 12 (ls) (xr d :: st) (M) Q = Wp 66 15 (ls) (xr (x_r d 1) :: st) (M) Q := wp_getr rfl hc
theorem w66_15 {ls st : List xV} {M : xM} {Q : Option xV → xM → Prop} {a : Int} {v0 : xV} {v1 : xV} : Wp 66 15 (v0 :: v1 :: xi a :: ls) (st) (M) Q = Wp 66 16 (v0 :: v1 :: xi a :: ls) (xi a :: st) (M) Q := wp_iload rfl rfl
theorem w66_16 {ls : List xV} {M : xM} {Q : Option xV → xM → Prop} {a1 : Int} {d0 : Nat} (hc : x_c d0 = 3) : Wp 66 16 (ls) (xi a1 :: xr d0 :: []) (M) Q = Wc 9 [xr d0, xi a1] M (fun r M2 => Wp 66 19 (ls) (r.toList ++ ([])) M2 Q) := wp_cV rfl rfl hc (Nat.le_of_ble_eq_true rfl) (Nat.le_of_ble_eq_true rfl) rfl rfl
theorem w66_19 {ls st : List xV} {M : xM} {Q : Option xV → xM → Prop} {a : Int} (ha : xG a) : Wp 66 19 (ls) (xi a :: st) (M) Q = ((a = 0 → Wp 66 34 (ls) (st) (M) Q) ∧ (¬ (a = 0) → Wp 66 22 (ls) (st) (M) Q)) := wp_if_eq rfl ha
theorem w66_22 {ls st : List xV} {M : xM} {Q : Option xV → xM → Prop} {a : Int} {v0 : xV} : Wp 66 22 (v0 :: xi a :: ls) (st) (M) Q = Wp 66 23 (v0 :: xi a :: ls) (xi a :: st) (M) Q := wp_iload rfl rfl
theorem w66_23 {ls st : List xV} {M : xM} {Q : Option xV → xM → Prop} {a : Int} {v0 : xV} {v1 : xV} : Wp 66 23 (v0 :: v1 :: xi a :: ls) (st) (M) Q = Wp 66 24 (v0 :: v1 :: xi a :: ls) (xi a :: st) (M) Q := wp_iload rfl rfl
theorem w66_24 {ls st : List xV} {M : xM} {Q : Option xV → xM → Prop} {a : Int} {b : Int} (ha : xG a) (hb : xG b) : Wp 66 24 (ls) (xi b :: xi a :: st) (M) Q = ((a = b → Wp 66 34 (ls) (st) (M) Q) ∧ (¬ (a = b) → Wp 66 27 (ls) (st) (M) Q)) := wp_cmp_eq rfl ha hb
theorem w66_27 {ls st : List xV} {M : xM} {Q : Option xV → xM → Prop} {a : Int} {v0 : xV} {v1 : xV} {v2 : xV} : Wp 66 27 (v0 :: v1 :: v2 :: xi a :: ls) (st) (M) Q = Wp 66 28 (v0 :: v1 :: v2 :: xi a :: ls) (xi a :: st) (M) Q := wp_iload rfl rfl
theorem w66_28 {ls : List xV} {M : xM} {Q : Option xV → xM → Prop} {a0 : Int} : Wp 66 28 (ls) (xi a0 :: []) (M) Q = Wc 72 [xi a0] M (fun r M2 => Wp 66 31 (ls) (r.toList ++ ([])) M2 Q) := wp_cS rfl rfl (Nat.le_of_ble_eq_true rfl) (Nat.le_of_ble_eq_true rfl) rfl rfl
theorem w66_31 {ls st : List xV} {M : xM} {Q : Option xV → xM → Prop} {a : Int} (ha : xG a) : Wp 66 31 (ls) (xi a :: st) (M) Q = ((¬ a = 0 → Wp 66 36 (ls) (st) (M) Q) ∧ (¬ (¬ a = 0) → Wp 66 34 (ls) (st) (M) Q)) := wp_if_ne rfl ha
theorem w66_34 {ls st : List xV} {M : xM} {Q : Option xV → xM → Prop}  : Wp 66 34 (ls) (st) (M) Q = Wp 66 35 (ls) (xi (-1) :: st) (M) Q := wp_const rfl
theorem w66_35 {ls : List xV} {M : xM} {Q : Option xV → xM → Prop} {a : Int} : Wp 66 35 (ls) ([xi a]) (M) Q = Q (some (xi a)) M := wp_iret rfl
theorem w66_36 {ls st : List xV} {M : xM} {Q : Option xV → xM → Prop}  : Wp 66 36 (ls) (st) (M) Q = Wp 66 37 (ls) (xi 0 :: st) (M) Q := wp_const rfl
theorem w66_37 {ls st : List xV} {M : xM} {Q : Option xV → xM → Prop} {a : Int} {v0 : xV} {v1 : xV} {v2 : xV} {v3 : xV} {w : xV} : Wp 66 37 (v0 :: v1 :: v2 :: v3 :: w :: ls) (xi a :: st) (M) Q = Wp 66 39 (v0 :: v1 :: v2 :: xjl v3 :: xi a :: ls) (st) (M) Q := wp_istore rfl rfl
theorem w66_39 {ls st : List xV} {M : xM} {Q : Option xV → xM → Prop}  : Wp 66 39 (ls) (st) (M) Q = Wp 66 41 (ls) (xi (-4) :: st) (M) Q := wp_const rfl
theorem w66_41 {ls st : List xV} {M : xM} {Q : Option xV → xM → Prop} {a : Int} {v0 : xV} {v1 : xV} {v2 : xV} {v3 : xV} {v4 : xV} {w : xV} : Wp 66 41 (v0 :: v1 :: v2 :: v3 :: v4 :: w :: ls) (xi a :: st) (M) Q = Wp 66 43 (v0 :: v1 :: v2 :: v3 :: xjl v4 :: xi a :: ls) (st) (M) Q := wp_istore rfl rfl
theorem w66_43 {ls st : List xV} {M : xM} {Q : Option xV → xM → Prop} {d : Nat} : Wp 66 43 (xr d :: ls) (st) (M) Q = Wp 66 44 (xr d :: ls) (xr d :: st) (M) Q := wp_aload rfl rfl
theorem w66_44 {ls st : List xV} {M : xM} {Q : Option xV → xM → Prop} {d : Nat} (hc : x_c d = 8) : Wp 66 44 (ls) (xr d :: st) (M) Q = Wp 66 47 (ls) (xr (x_r d 6) :: st) (M) Q := wp_getr rfl hc
theorem w66_47 {ls : List xV} {M : xM} {Q : Option xV → xM → Prop} {d0 : Nat} (hc : x_c d0 = 5) : Wp 66 47 (ls) (xr d0 :: []) (M) Q = Wc 24 [xr d0] M (fun r M2 => Wp 66 50 (ls) (r.toList ++ ([])) M2 Q) := wp_cV rfl rfl hc (Nat.le_of_ble_eq_true rfl) (Nat.le_of_ble_eq_true rfl) rfl rfl
theorem w66_50 {ls st : List xV} {M : xM} {Q : Option xV → xM → Prop}  : Wp 66 50 (ls) (st) (M) Q = Wp 66 51 (ls) (xi 0 :: st) (M) Q := wp_const rfl
theorem w66_51 {ls st : List xV} {M : xM} {Q : Option xV → xM → Prop} {a : Int} {v0 : xV} {v1 : xV} {v2 : xV} {v3 : xV} {v4 : xV} {v5 : xV} {w : xV} : Wp 66 51 (v0 :: v1 :: v2 :: v3 :: v4 :: v5 :: w :: ls) (xi a :: st) (M) Q = Wp 66 53 (v0 :: v1 :: v2 :: v3 :: v4 :: xjl v5 :: xi a :: ls) (st) (M) Q := wp_istore rfl rfl
theorem w66_53 {ls st : List xV} {M : xM} {Q : Option xV → xM → Prop} {a : Int} {v0 : xV} {v1 : xV} {v2 : xV} {v3 : xV} {v4 : xV} {v5 : xV} : Wp 66 53 (v0 :: v1 :: v2 :: v3 :: v4 :: v5 :: xi a :: ls) (st) (M) Q = Wp 66 55 (v0 :: v1 :: v2 :: v3 :: v4 :: v5 :: xi a :: ls) (xi a :: st) (M) Q := wp_iload rfl rfl
theorem w66_55 {ls st : List xV} {M : xM} {Q : Option xV → xM → Prop}  : Wp 66 55 (ls) (st) (M) Q = Wp 66 57 (ls) (xi 60 :: st) (M) Q := wp_const rfl
theorem w66_57 {ls st : List xV} {M : xM} {Q : Option xV → xM → Prop} {a : Int} {b : Int} (ha : xG a) (hb : xG b) : Wp 66 57 (ls) (xi b :: xi a :: st) (M) Q = ((b < a → Wp 66 108 (ls) (st) (M) Q) ∧ (¬ (b < a) → Wp 66 60 (ls) (st) (M) Q)) := wp_cmp_gt rfl ha hb
theorem w66_60 {ls st : List xV} {M : xM} {Q : Option xV → xM → Prop} {d : Nat} : Wp 66 60 (xr d :: ls) (st) (M) Q = Wp 66 61 (xr d :: ls) (xr d :: st) (M) Q := wp_aload rfl rfl
theorem w66_61 {ls st : List xV} {M : xM} {Q : Option xV → xM → Prop} {d : Nat} (hc : x_c d = 8) : Wp 66 61 (ls) (xr d :: st) (M) Q = Wp 66 64 (ls) (xr (x_r d 6) :: st) (M) Q := wp_getr rfl hc
theorem w66_64 {ls st : List xV} {M : xM} {Q : Option xV → xM → Prop} {a : Int} {v0 : xV} {v1 : xV} {v2 : xV} {v3 : xV} {v4 : xV} {v5 : xV} : Wp 66 64 (v0 :: v1 :: v2 :: v3 :: v4 :: v5 :: xi a :: ls) (st) (M) Q = Wp 66 66 (v0 :: v1 :: v2 :: v3 :: v4 :: v5 :: xi a :: ls) (xi a :: st) (M) Q := wp_iload rfl rfl
theorem w66_66 {ls : List xV} {M : xM} {Q : Option xV → xM → Prop} {a1 : Int} {d0 : Nat} (hc : x_c d0 = 5) : Wp 66 66 (ls) (xi a1 :: xr d0 :: []) (M) Q = Wc 25 [xr d0, xi a1] M (fun r M2 => Wp 66 69 (ls) (r.toList ++ ([])) M2 Q) := wp_cV rfl rfl hc (Nat.le_of_ble_eq_true rfl) (Nat.le_of_ble_eq_true rfl) rfl rfl
theorem w66_69 {ls st : List xV} {M : xM} {Q : Option xV → xM → Prop} {d : Nat} : Wp 66 69 (xr d :: ls) (st) (M) Q = Wp 66 70 (xr d :: ls) (xr d :: st) (M) Q := wp_aload rfl rfl
theorem w66_70 {ls st : List xV} {M : xM} {Q : Option xV → xM → Prop} {d : Nat} (hc : x_c d = 8) : Wp 66 70 (ls) (xr d :: st) (M) Q = Wp 66 73 (ls) (xr (x_r d 6) :: st) (M) Q := wp_getr rfl hc
theorem w66_73 {ls st : List xV} {M : xM} {Q : Option xV → xM → Prop} {d : Nat} (hc : x_c d = 5) : Wp 66 73 (ls) (xr d :: st) (M) Q = Wp 66 76 (ls) (xr (x_r d 2) :: st) (M) Q := wp_getr rfl hc
theorem w66_76 {ls st : List xV} {M : xM} {Q : Option xV → xM → Prop} {a : Int} {v0 : xV} : Wp 66 76 (v0 :: xi a :: ls) (st) (M) Q = Wp 66 77 (v0 :: xi a :: ls) (xi a :: st) (M) Q := wp_iload rfl rfl
theorem w66_77 {ls st : List xV} {M : xM} {Q : Option xV → xM → Prop} {a : Int} {d : Nat} (hc : x_c d = 20) (hn : x_n d = 5) (h1 : 0 ≤ a) (h2 : a < 5) : Wp 66 77 (ls) (xi a :: xr d :: st) (M) Q = Wp 66 78 (ls) (xi (M d a) :: st) (M) Q := wp_ald rfl hc h1 (by rw [hn]; exact h2)
theorem w66_78 {ls st : List xV} {M : xM} {Q : Option xV → xM → Prop} {d : Nat} : Wp 66 78 (xr d :: ls) (st) (M) Q = Wp 66 79 (xr d :: ls) (xr d :: st) (M) Q := wp_aload rfl rfl
theorem w66_79 {ls st : List xV} {M : xM} {Q : Option xV → xM → Prop} {d : Nat} (hc : x_c d = 8) : Wp 66 79 (ls) (xr d :: st) (M) Q = Wp 66 82 (ls) (xr (x_r d 6) :: st) (M) Q := wp_getr rfl hc
theorem w66_82 {ls st : List xV} {M : xM} {Q : Option xV → xM → Prop} {d : Nat} (hc : x_c d = 5) : Wp 66 82 (ls) (xr d :: st) (M) Q = Wp 66 85 (ls) (xr (x_r d 2) :: st) (M) Q := wp_getr rfl hc
theorem w66_85 {ls st : List xV} {M : xM} {Q : Option xV → xM → Prop} {a : Int} {v0 : xV} {v1 : xV} : Wp 66 85 (v0 :: v1 :: xi a :: ls) (st) (M) Q = Wp 66 86 (v0 :: v1 :: xi a :: ls) (xi a :: st) (M) Q := wp_iload rfl rfl
theorem w66_86 {ls st : List xV} {M : xM} {Q : Option xV → xM → Prop} {a : Int} {d : Nat} (hc : x_c d = 20) (hn : x_n d = 5) (h1 : 0 ≤ a) (h2 : a < 5) : Wp 66 86 (ls) (xi a :: xr d :: st) (M) Q = Wp 66 87 (ls) (xi (M d a) :: st) (M) Q := wp_ald rfl hc h1 (by rw [hn]; exact h2)
theorem w66_87 {ls st : List xV} {M : xM} {Q : Option xV → xM → Prop} {a : Int} {b : Int} (ha : xG a) (hb : xG b) : Wp 66 87 (ls) (xi b :: xi a :: st) (M) Q = ((¬ a = b → Wp 66 102 (ls) (st) (M) Q) ∧ (¬ (¬ a = b) → Wp 66 90 (ls) (st) (M) Q)) := wp_cmp_ne rfl ha hb
theorem w66_90 {ls st : List xV} {M : xM} {Q : Option xV → xM → Prop} {a : Int} {v0 : xV} {v1 : xV} {v2 : xV} {v3 : xV} : Wp 66 90 (v0 :: v1 :: v2 :: v3 :: xi a :: ls) (st) (M) Q = Wp 66 92 (v0 :: v1 :: v2 :: v3 :: xi a :: ls) (xi a :: st) (M) Q := wp_iload rfl rfl
theorem w66_92 {ls st : List xV} {M : xM} {Q : Option xV → xM → Prop} {a : Int} (ha : xG a) : Wp 66 92 (ls) (xi a :: st) (M) Q = ((¬ a = 0 → Wp 66 99 (ls) (st) (M) Q) ∧ (¬ (¬ a = 0) → Wp 66 95 (ls) (st) (M) Q)) := wp_if_ne rfl ha
theorem w66_95 {ls st : List xV} {M : xM} {Q : Option xV → xM → Prop} {a : Int} {v0 : xV} {v1 : xV} {v2 : xV} {v3 : xV} {v4 : xV} {v5 : xV} : Wp 66 95 (v0 :: v1 :: v2 :: v3 :: v4 :: v5 :: xi a :: ls) (st) (M) Q = Wp 66 97 (v0 :: v1 :: v2 :: v3 :: v4 :: v5 :: xi a :: ls) (xi a :: st) (M) Q := wp_iload rfl rfl
theorem w66_97 {ls st : List xV} {M : xM} {Q : Option xV → xM → Prop} {a : Int} {v0 : xV} {v1 : xV} {v2 : xV} {v3 : xV} {v4 : xV} {w : xV} : Wp 66 97 (v0 :: v1 :: v2 :: v3 :: v4 :: w :: ls) (xi a :: st) (M) Q = Wp 66 99 (v0 :: v1 :: v2 :: v3 :: xjl v4 :: xi a :: ls) (st) (M) Q := wp_istore rfl rfl
theorem w66_99 {ls st : List xV} {M : xM} {Q : Option xV → xM → Prop} {a : Int} {v0 : xV} {v1 : xV} {v2 : xV} {v3 : xV} : Wp 66 99 (v0 :: v1 :: v2 :: v3 :: xi a :: ls) (st) (M) Q = Wp 66 102 (v0 :: v1 :: v2 :: xjl v3 :: xi (a + 1) :: ls) (st) (M) Q := wp_iinc rfl rfl rfl
theorem w66_102 {ls st : List xV} {M : xM} {Q : Option xV → xM → Prop} {a : Int} {v0 : xV} {v1 : xV} {v2 : xV} {v3 : xV} {v4 : xV} {v5 : xV} : Wp 66 102 (v0 :: v1 :: v2 :: v3 :: v4 :: v5 :: xi a :: ls) (st) (M) Q = Wp 66 105 (v0 :: v1 :: v2 :: v3 :: v4 :: xjl v5 :: xi (a + 1) :: ls) (st) (M) Q := wp_iinc rfl rfl rfl
theorem w66_105 {ls st : List xV} {M : xM} {Q : Option xV → xM → Prop}  : Wp 66 105 (ls) (st) (M) Q = Wp 66 53 (ls) (st) (M) Q := wp_goto rfl
theorem w66_108 {ls st : List xV} {M : xM} {Q : Option xV → xM → Prop} {a : Int} {v0 : xV} {v1 : xV} {v2 : xV} : Wp 66 108 (v0 :: v1 :: v2 :: xi a :: ls) (st) (M) Q = Wp 66 109 (v0 :: v1 :: v2 :: xi a :: ls) (xi a :: st) (M) Q := wp_iload rfl rfl
theorem w66_109 {ls st : List xV} {M : xM} {Q : Option xV → xM → Prop} {a : Int} (ha : xG a) : Wp 66 109 (ls) (xi a :: st) (M) Q = ((¬ a = 0 → Wp 66 117 (ls) (st) (M) Q) ∧ (¬ (¬ a = 0) → Wp 66 112 (ls) (st) (M) Q)) := wp_if_ne rfl ha
theorem w66_112 {ls st : List xV} {M : xM} {Q : Option xV → xM → Prop} {a : Int} {v0 : xV} {v1 : xV} {v2 : xV} {v3 : xV} : Wp 66 112 (v0 :: v1 :: v2 :: v3 :: xi a :: ls) (st) (M) Q = Wp 66 114 (v0 :: v1 :: v2 :: v3 :: xi a :: ls) (xi a :: st) (M) Q := wp_iload rfl rfl
theorem w66_114 {ls st : List xV} {M : xM} {Q : Option xV → xM → Prop}  : Wp 66 114 (ls) (st) (M) Q = Wp 66 119 (ls) (st) (M) Q := wp_goto rfl
theorem w66_117 {ls st : List xV} {M : xM} {Q : Option xV → xM → Prop} {a : Int} {v0 : xV} {v1 : xV} {v2 : xV} {v3 : xV} {v4 : xV} : Wp 66 117 (v0 :: v1 :: v2 :: v3 :: v4 :: xi a :: ls) (st) (M) Q = Wp 66 119 (v0 :: v1 :: v2 :: v3 :: v4 :: xi a :: ls) (xi a :: st) (M) Q := wp_iload rfl rfl
theorem w66_119 {ls : List xV} {M : xM} {Q : Option xV → xM → Prop} {a : Int} : Wp 66 119 (ls) ([xi a]) (M) Q = Q (some (xi a)) M := wp_iret rfl
theorem wc67 {M : xM} {Q : Option xV → xM → Prop} {d0 : Nat} {a1 : Int} {a2 : Int} {a3 : Int} {a4 : Int} {a5 : Int} : Wc 67 [xr d0, xi a1, xi a2, xi a3, xi a4, xi a5] M Q = Wp 67 0 [xr d0, xi a1, xi a2, xi a3, xi a4, xi a5, xj, xj, xj] [] M Q := rfl
theorem w67_0 {ls st : List xV} {M : xM} {Q : Option xV → xM → Prop} {d : Nat} : Wp 67 0 (xr d :: ls) (st) (M) Q = Wp 67 1 (xr d :: ls) (xr d :: st) (M) Q := wp_aload rfl rfl
theorem w67_1 {ls st : List xV} {M : xM} {Q : Option xV → xM → Prop} {d : Nat} (hc : x_c d = 8) : Wp 67 1 (ls) (xr d :: st) (M) Q = Wp 67 4 (ls) (xr (x_r d 1) :: st) (M) Q := wp_getr rfl hc
theorem w67_4 {ls st : List xV} {M : xM} {Q : Option xV → xM → Prop} {a : Int} {v0 : xV} : Wp 67 4 (v0 :: xi a :: ls) (st) (M) Q = Wp 67 5 (v0 :: xi a :: ls) (xi a :: st) (M) Q := wp_iload rfl rfl
theorem w67_5 {ls : List xV} {M : xM} {Q : Option xV → xM → Prop} {a1 : Int} {d0 : Nat} (hc : x_c d0 = 3) : Wp 67 5 (ls) (xi a1 :: xr d0 :: []) (M) Q = Wc 9 [xr d0, xi a1] M (fun r M2 => Wp 67 8 (ls) (r.toList ++ ([])) M2 Q) := wp_cV rfl rfl hc (Nat.le_of_ble_eq_true rfl) (Nat.le_of_ble_eq_true rfl) rfl rfl
theorem w67_8 {ls st : List xV} {M : xM} {Q : Option xV → xM → Prop} {a : Int} (ha : xG a) : Wp 67 8 (ls) (xi a :: st) (M) Q = ((a = 0 → Wp 67 30 (ls) (st) (M) Q) ∧ (¬ (a = 0) → Wp 67 11 (ls) (st) (M) Q)) := wp_if_eq rfl ha
theorem w67_11 {ls st : List xV} {M : xM} {Q : Option xV → xM → Prop} {d : Nat} : Wp 67 11 (xr d :: ls) (st) (M) Q = Wp 67 12 (xr d :: ls) (xr d :: st) (M) Q := wp_aload rfl rfl
theorem w67_12 {ls st : List xV} {M : xM} {Q : Option xV → xM → Prop} {d : Nat} (hc : x_c d = 8) : Wp 67 12 (ls) (xr d :: st) (M) Q = Wp 67 15 (ls) (xr (x_r d 1) :: st) (M) Q := wp_getr rfl hc
theorem w67_15 {ls st : List xV} {M : xM} {Q : Option xV → xM → Prop} {a : Int} {v0 : xV} {v1 : xV} : Wp 67 15 (v0 :: v1 :: xi a :: ls) (st) (M) Q = Wp 67 16 (v0 :: v1 :: xi a :: ls) (xi a :: st) (M) Q := wp_iload rfl rfl
theorem w67_16 {ls : List xV} {M : xM} {Q : Option xV → xM → Prop} {a1 : Int} {d0 : Nat} (hc : x_c d0 = 3) : Wp 67 16 (ls) (xi a1 :: xr d0 :: []) (M) Q = Wc 8 [xr d0, xi a1] M (fun r M2 => Wp 67 19 (ls) (r.toList ++ ([])) M2 Q) := wp_cV rfl rfl hc (Nat.le_of_ble_eq_true rfl) (Nat.le_of_ble_eq_true rfl) rfl rfl
theorem w67_19 {ls st : List xV} {M : xM} {Q : Option xV → xM → Prop} {a : Int} (ha : xG a) : Wp 67 19 (ls) (xi a :: st) (M) Q = ((a = 0 → Wp 67 30 (ls) (st) (M) Q) ∧ (¬ (a = 0) → Wp 67 22 (ls) (st) (M) Q)) := wp_if_eq rfl ha
theorem w67_22 {ls st : List xV} {M : xM} {Q : Option xV → xM → Prop} {a : Int} {v0 : xV} {v1 : xV} {v2 : xV} {v3 : xV} {v4 : xV} : Wp 67 22 (v0 :: v1 :: v2 :: v3 :: v4 :: xi a :: ls) (st) (M) Q = Wp 67 24 (v0 :: v1 :: v2 :: v3 :: v4 :: xi a :: ls) (xi a :: st) (M) Q := wp_iload rfl rfl
theorem w67_24 {ls : List xV} {M : xM} {Q : Option xV → xM → Prop} {a0 : Int} : Wp 67 24 (ls) (xi a0 :: []) (M) Q = Wc 72 [xi a0] M (fun r M2 => Wp 67 27 (ls) (r.toList ++ ([])) M2 Q) := wp_cS rfl rfl (Nat.le_of_ble_eq_true rfl) (Nat.le_of_ble_eq_true rfl) rfl rfl
theorem w67_27 {ls st : List xV} {M : xM} {Q : Option xV → xM → Prop} {a : Int} (ha : xG a) : Wp 67 27 (ls) (xi a :: st) (M) Q = ((¬ a = 0 → Wp 67 32 (ls) (st) (M) Q) ∧ (¬ (¬ a = 0) → Wp 67 30 (ls) (st) (M) Q)) := wp_if_ne rfl ha
theorem w67_30 {ls st : List xV} {M : xM} {Q : Option xV → xM → Prop}  : Wp 67 30 (ls) (st) (M) Q = Wp 67 31 (ls) (xi (-1) :: st) (M) Q := wp_const rfl
theorem w67_31 {ls : List xV} {M : xM} {Q : Option xV → xM → Prop} {a : Int} : Wp 67 31 (ls) ([xi a]) (M) Q = Q (some (xi a)) M := wp_iret rfl
theorem w67_32 {ls st : List xV} {M : xM} {Q : Option xV → xM → Prop} {a : Int} {v0 : xV} {v1 : xV} {v2 : xV} : Wp 67 32 (v0 :: v1 :: v2 :: xi a :: ls) (st) (M) Q = Wp 67 33 (v0 :: v1 :: v2 :: xi a :: ls) (xi a :: st) (M) Q := wp_iload rfl rfl
theorem w67_33 {ls st : List xV} {M : xM} {Q : Option xV → xM → Prop} {a : Int} (ha : xG a) : Wp 67 33 (ls) (xi a :: st) (M) Q = ((a < 0 → Wp 67 54 (ls) (st) (M) Q) ∧ (¬ (a < 0) → Wp 67 36 (ls) (st) (M) Q)) := wp_if_lt rfl ha
theorem w67_36 {ls st : List xV} {M : xM} {Q : Option xV → xM → Prop} {a : Int} {v0 : xV} {v1 : xV} {v2 : xV} : Wp 67 36 (v0 :: v1 :: v2 :: xi a :: ls) (st) (M) Q = Wp 67 37 (v0 :: v1 :: v2 :: xi a :: ls) (xi a :: st) (M) Q := wp_iload rfl rfl
theorem w67_37 {ls st : List xV} {M : xM} {Q : Option xV → xM → Prop}  : Wp 67 37 (ls) (st) (M) Q = Wp 67 39 (ls) (xi 6 :: st) (M) Q := wp_const rfl
theorem w67_39 {ls st : List xV} {M : xM} {Q : Option xV → xM → Prop} {a : Int} {b : Int} (ha : xG a) (hb : xG b) : Wp 67 39 (ls) (xi b :: xi a :: st) (M) Q = ((b < a → Wp 67 54 (ls) (st) (M) Q) ∧ (¬ (b < a) → Wp 67 42 (ls) (st) (M) Q)) := wp_cmp_gt rfl ha hb
theorem w67_42 {ls st : List xV} {M : xM} {Q : Option xV → xM → Prop} {a : Int} {v0 : xV} {v1 : xV} {v2 : xV} {v3 : xV} : Wp 67 42 (v0 :: v1 :: v2 :: v3 :: xi a :: ls) (st) (M) Q = Wp 67 44 (v0 :: v1 :: v2 :: v3 :: xi a :: ls) (xi a :: st) (M) Q := wp_iload rfl rfl
theorem w67_44 {ls st : List xV} {M : xM} {Q : Option xV → xM → Prop} {a : Int} (ha : xG a) : Wp 67 44 (ls) (xi a :: st) (M) Q = ((a < 0 → Wp 67 54 (ls) (st) (M) Q) ∧ (¬ (a < 0) → Wp 67 47 (ls) (st) (M) Q)) := wp_if_lt rfl ha
theorem w67_47 {ls st : List xV} {M : xM} {Q : Option xV → xM → Prop} {a : Int} {v0 : xV} {v1 : xV} {v2 : xV} {v3 : xV} : Wp 67 47 (v0 :: v1 :: v2 :: v3 :: xi a :: ls) (st) (M) Q = Wp 67 49 (v0 :: v1 :: v2 :: v3 :: xi a :: ls) (xi a :: st) (M) Q := wp_iload rfl rfl
theorem w67_49 {ls st : List xV} {M : xM} {Q : Option xV → xM → Prop}  : Wp 67 49 (ls) (st) (M) Q = Wp 67 51 (ls) (xi 10 :: st) (M) Q := wp_const rfl
theorem w67_51 {ls st : List xV} {M : xM} {Q : Option xV → xM → Prop} {a : Int} {b : Int} (ha : xG a) (hb : xG b) : Wp 67 51 (ls) (xi b :: xi a :: st) (M) Q = ((a ≤ b → Wp 67 56 (ls) (st) (M) Q) ∧ (¬ (a ≤ b) → Wp 67 54 (ls) (st) (M) Q)) := wp_cmp_le rfl ha hb
theorem w67_54 {ls st : List xV} {M : xM} {Q : Option xV → xM → Prop}  : Wp 67 54 (ls) (st) (M) Q = Wp 67 55 (ls) (xi (-1) :: st) (M) Q := wp_const rfl
theorem w67_55 {ls : List xV} {M : xM} {Q : Option xV → xM → Prop} {a : Int} : Wp 67 55 (ls) ([xi a]) (M) Q = Q (some (xi a)) M := wp_iret rfl
theorem w67_56 {ls st : List xV} {M : xM} {Q : Option xV → xM → Prop}  : Wp 67 56 (ls) (st) (M) Q = Wp 67 57 (ls) (xi 0 :: st) (M) Q := wp_const rfl
theorem w67_57 {ls st : List xV} {M : xM} {Q : Option xV → xM → Prop} {a : Int} {v0 : xV} {v1 : xV} {v2 : xV} {v3 : xV} {v4 : xV} {v5 : xV} {w : xV} : Wp 67 57 (v0 :: v1 :: v2 :: v3 :: v4 :: v5 :: w :: ls) (xi a :: st) (M) Q = Wp 67 59 (v0 :: v1 :: v2 :: v3 :: v4 :: xjl v5 :: xi a :: ls) (st) (M) Q := wp_istore rfl rfl
theorem w67_59 {ls st : List xV} {M : xM} {Q : Option xV → xM → Prop}  : Wp 67 59 (ls) (st) (M) Q = Wp 67 60 (ls) (xi 1 :: st) (M) Q := wp_const rfl
theorem w67_60 {ls st : List xV} {M : xM} {Q : Option xV → xM → Prop} {a : Int} {v0 : xV} {v1 : xV} {v2 : xV} {v3 : xV} {v4 : xV} {v5 : xV} {v6 : xV} {w : xV} : Wp 67 60 (v0 :: v1 :: v2 :: v3 :: v4 :: v5 :: v6 :: w :: ls) (xi a :: st) (M) Q = Wp 67 62 (v0 :: v1 :: v2 :: v3 :: v4 :: v5 :: xjl v6 :: xi a :: ls) (st) (M) Q := wp_istore rfl rfl
theorem w67_62 {ls st : List xV} {M : xM} {Q : Option xV → xM → Prop}  : Wp 67 62 (ls) (st) (M) Q = Wp 67 63 (ls) (xi 0 :: st) (M) Q := wp_const rfl
theorem w67_63 {ls st : List xV} {M : xM} {Q : Option xV → xM → Prop} {a : Int} {v0 : xV} {v1 : xV} {v2 : xV} {v3 : xV} {v4 : xV} {v5 : xV} {v6 : xV} {v7 : xV} {w : xV} : Wp 67 63 (v0 :: v1 :: v2 :: v3 :: v4 :: v5 :: v6 :: v7 :: w :: ls) (xi a :: st) (M) Q = Wp 67 65 (v0 :: v1 :: v2 :: v3 :: v4 :: v5 :: v6 :: xjl v7 :: xi a :: ls) (st) (M) Q := wp_istore rfl rfl
theorem w67_65 {ls st : List xV} {M : xM} {Q : Option xV → xM → Prop} {a : Int} {v0 : xV} {v1 : xV} {v2 : xV} {v3 : xV} {v4 : xV} {v5 : xV} {v6 : xV} {v7 : xV} : Wp 67 65 (v0 :: v1 :: v2 :: v3 :: v4 :: v5 :: v6 :: v7 :: xi a :: ls) (st) (M) Q = Wp 67 67 (v0 :: v1 :: v2 :: v3 :: v4 :: v5 :: v6 :: v7 :: xi a :: ls) (xi a :: st) (M) Q := wp_iload rfl rfl
theorem w67_67 {ls st : List xV} {M : xM} {Q : Option xV → xM → Prop} {a : Int} {v0 : xV} {v1 : xV} {v2 : xV} : Wp 67 67 (v0 :: v1 :: v2 :: xi a :: ls) (st) (M) Q = Wp 67 68 (v0 :: v1 :: v2 :: xi a :: ls) (xi a :: st) (M) Q := wp_iload rfl rfl
theorem w67_68 {ls st : List xV} {M : xM} {Q : Option xV → xM → Prop} {a : Int} {b : Int} (ha : xG a) (hb : xG b) : Wp 67 68 (ls) (xi b :: xi a :: st) (M) Q = ((b ≤ a → Wp 67 84 (ls) (st) (M) Q) ∧ (¬ (b ≤ a) → Wp 67 71 (ls) (st) (M) Q)) := wp_cmp_ge rfl ha hb
theorem w67_71 {ls st : List xV} {M : xM} {Q : Option xV → xM → Prop} {a : Int} {v0 : xV} {v1 : xV} {v2 : xV} {v3 : xV} {v4 : xV} {v5 : xV} {v6 : xV} : Wp 67 71 (v0 :: v1 :: v2 :: v3 :: v4 :: v5 :: v6 :: xi a :: ls) (st) (M) Q = Wp 67 73 (v0 :: v1 :: v2 :: v3 :: v4 :: v5 :: v6 :: xi a :: ls) (xi a :: st) (M) Q := wp_iload rfl rfl
theorem w67_73 {ls st : List xV} {M : xM} {Q : Option xV → xM → Prop}  : Wp 67 73 (ls) (st) (M) Q = Wp 67 75 (ls) (xi 10 :: st) (M) Q := wp_const rfl
theorem w67_75 {ls st : List xV} {M : xM} {Q : Option xV → xM → Prop} {a : Int} {b : Int} : Wp 67 75 (ls) (xi b :: xi a :: st) (M) Q = Wp 67 76 (ls) (xi (a * b) :: st) (M) Q := wp_bin (f := xmul) rfl
theorem w67_76 {ls st : List xV} {M : xM} {Q : Option xV → xM → Prop} {a : Int} {v0 : xV} {v1 : xV} {v2 : xV} {v3 : xV} {v4 : xV} {v5 : xV} {v6 : xV} {w : xV} : Wp 67 76 (v0 :: v1 :: v2 :: v3 :: v4 :: v5 :: v6 :: w :: ls) (xi a :: st) (M) Q = Wp 67 78 (v0 :: v1 :: v2 :: v3 :: v4 :: v5 :: xjl v6 :: xi a :: ls) (st) (M) Q := wp_istore rfl rfl
theorem w67_78 {ls st : List xV} {M : xM} {Q : Option xV → xM → Prop} {a : Int} {v0 : xV} {v1 : xV} {v2 : xV} {v3 : xV} {v4 : xV} {v5 : xV} {v6 : xV} {v7 : xV} : Wp 67 78 (v0 :: v1 :: v2 :: v3 :: v4 :: v5 :: v6 :: v7 :: xi a :: ls) (st) (M) Q = Wp 67 81 (v0 :: v1 :: v2 :: v3 :: v4 :: v5 :: v6 :: xjl v7 :: xi (a + 1) :: ls) (st) (M) Q := wp_iinc rfl rfl rfl
theorem w67_81 {ls st : List xV} {M : xM} {Q : Option xV → xM → Prop}  : Wp 67 81 (ls) (st) (M) Q = Wp 67 65 (ls) (st) (M) Q := wp_goto rfl
theorem w67_84 {ls st : List xV} {M : xM} {Q : Option xV → xM → Prop}  : Wp 67 84 (ls) (st) (M) Q = Wp 67 85 (ls) (xi 0 :: st) (M) Q := wp_const rfl
theorem w67_85 {ls st : List xV} {M : xM} {Q : Option xV → xM → Prop} {a : Int} {v0 : xV} {v1 : xV} {v2 : xV} {v3 : xV} {v4 : xV} {v5 : xV} {v6 : xV} {v7 : xV} {w : xV} : Wp 67 85 (v0 :: v1 :: v2 :: v3 :: v4 :: v5 :: v6 :: v7 :: w :: ls) (xi a :: st) (M) Q = Wp 67 87 (v0 :: v1 :: v2 :: v3 :: v4 :: v5 :: v6 :: xjl v7 :: xi a :: ls) (st) (M) Q := wp_istore rfl rfl
theorem w67_87 {ls st : List xV} {M : xM} {Q : Option xV → xM → Prop} {a : Int} {v0 : xV} {v1 : xV} {v2 : xV} {v3 : xV} {v4 : xV} {v5 : xV} {v6 : xV} {v7 : xV} : Wp 67 87 (v0 :: v1 :: v2 :: v3 :: v4 :: v5 :: v6 :: v7 :: xi a :: ls) (st) (M) Q = Wp 67 89 (v0 :: v1 :: v2 :: v3 :: v4 :: v5 :: v6 :: v7 :: xi a :: ls) (xi a :: st) (M) Q := wp_iload rfl rfl
theorem w67_89 {ls st : List xV} {M : xM} {Q : Option xV → xM → Prop}  : Wp 67 89 (ls) (st) (M) Q = Wp 67 90 (ls) (xi 1 :: st) (M) Q := wp_const rfl
theorem w67_90 {ls st : List xV} {M : xM} {Q : Option xV → xM → Prop} {a : Int} {v0 : xV} {v1 : xV} {v2 : xV} : Wp 67 90 (v0 :: v1 :: v2 :: xi a :: ls) (st) (M) Q = Wp 67 91 (v0 :: v1 :: v2 :: xi a :: ls) (xi a :: st) (M) Q := wp_iload rfl rfl
theorem w67_91 {ls st : List xV} {M : xM} {Q : Option xV → xM → Prop} {a : Int} {b : Int} : Wp 67 91 (ls) (xi b :: xi a :: st) (M) Q = Wp 67 92 (ls) (xi (xshl a b) :: st) (M) Q := wp_bin (f := xshl) rfl
theorem w67_92 {ls st : List xV} {M : xM} {Q : Option xV → xM → Prop} {a : Int} {b : Int} (ha : xG a) (hb : xG b) : Wp 67 92 (ls) (xi b :: xi a :: st) (M) Q = ((b ≤ a → Wp 67 129 (ls) (st) (M) Q) ∧ (¬ (b ≤ a) → Wp 67 95 (ls) (st) (M) Q)) := wp_cmp_ge rfl ha hb
theorem w67_95 {ls st : List xV} {M : xM} {Q : Option xV → xM → Prop} {d : Nat} : Wp 67 95 (xr d :: ls) (st) (M) Q = Wp 67 96 (xr d :: ls) (xr d :: st) (M) Q := wp_aload rfl rfl
theorem w67_96 {ls st : List xV} {M : xM} {Q : Option xV → xM → Prop} {d : Nat} (hc : x_c d = 8) : Wp 67 96 (ls) (xr d :: st) (M) Q = Wp 67 99 (ls) (xr (x_r d 6) :: st) (M) Q := wp_getr rfl hc
theorem w67_99 {ls st : List xV} {M : xM} {Q : Option xV → xM → Prop} {a : Int} {v0 : xV} : Wp 67 99 (v0 :: xi a :: ls) (st) (M) Q = Wp 67 100 (v0 :: xi a :: ls) (xi a :: st) (M) Q := wp_iload rfl rfl
theorem w67_100 {ls st : List xV} {M : xM} {Q : Option xV → xM → Prop} {a : Int} {v0 : xV} {v1 : xV} : Wp 67 100 (v0 :: v1 :: xi a :: ls) (st) (M) Q = Wp 67 101 (v0 :: v1 :: xi a :: ls) (xi a :: st) (M) Q := wp_iload rfl rfl
theorem w67_101 {ls st : List xV} {M : xM} {Q : Option xV → xM → Prop} {a : Int} {v0 : xV} {v1 : xV} {v2 : xV} : Wp 67 101 (v0 :: v1 :: v2 :: xi a :: ls) (st) (M) Q = Wp 67 102 (v0 :: v1 :: v2 :: xi a :: ls) (xi a :: st) (M) Q := wp_iload rfl rfl
theorem w67_102 {ls st : List xV} {M : xM} {Q : Option xV → xM → Prop} {a : Int} {v0 : xV} {v1 : xV} {v2 : xV} {v3 : xV} {v4 : xV} {v5 : xV} {v6 : xV} {v7 : xV} : Wp 67 102 (v0 :: v1 :: v2 :: v3 :: v4 :: v5 :: v6 :: v7 :: xi a :: ls) (st) (M) Q = Wp 67 104 (v0 :: v1 :: v2 :: v3 :: v4 :: v5 :: v6 :: v7 :: xi a :: ls) (xi a :: st) (M) Q := wp_iload rfl rfl
theorem w67_104 {ls : List xV} {M : xM} {Q : Option xV → xM → Prop} {a1 : Int} {a2 : Int} {a3 : Int} {a4 : Int} {d0 : Nat} (hc : x_c d0 = 5) : Wp 67 104 (ls) (xi a4 :: xi a3 :: xi a2 :: xi a1 :: xr d0 :: []) (M) Q = Wc 35 [xr d0, xi a1, xi a2, xi a3, xi a4] M (fun r M2 => Wp 67 107 (ls) (r.toList ++ ([])) M2 Q) := wp_cV rfl rfl hc (Nat.le_of_ble_eq_true rfl) (Nat.le_of_ble_eq_true rfl) rfl rfl
theorem w67_107 {ls st : List xV} {M : xM} {Q : Option xV → xM → Prop} {a : Int} (ha : xG a) : Wp 67 107 (ls) (xi a :: st) (M) Q = ((a = 0 → Wp 67 123 (ls) (st) (M) Q) ∧ (¬ (a = 0) → Wp 67 110 (ls) (st) (M) Q)) := wp_if_eq rfl ha
theorem w67_110 {ls st : List xV} {M : xM} {Q : Option xV → xM → Prop} {a : Int} {v0 : xV} {v1 : xV} {v2 : xV} {v3 : xV} {v4 : xV} {v5 : xV} : Wp 67 110 (v0 :: v1 :: v2 :: v3 :: v4 :: v5 :: xi a :: ls) (st) (M) Q = Wp 67 112 (v0 :: v1 :: v2 :: v3 :: v4 :: v5 :: xi a :: ls) (xi a :: st) (M) Q := wp_iload rfl rfl
theorem w67_112 {ls st : List xV} {M : xM} {Q : Option xV → xM → Prop} {a : Int} {v0 : xV} {v1 : xV} {v2 : xV} : Wp 67 112 (v0 :: v1 :: v2 :: xi a :: ls) (st) (M) Q = Wp 67 113 (v0 :: v1 :: v2 :: xi a :: ls) (xi a :: st) (M) Q := wp_iload rfl rfl
theorem w67_113 {ls st : List xV} {M : xM} {Q : Option xV → xM → Prop} {a : Int} {v0 : xV} {v1 : xV} {v2 : xV} {v3 : xV} : Wp 67 113 (v0 :: v1 :: v2 :: v3 :: xi a :: ls) (st) (M) Q = Wp 67 115 (v0 :: v1 :: v2 :: v3 :: xi a :: ls) (xi a :: st) (M) Q := wp_iload rfl rfl
theorem w67_115 {ls st : List xV} {M : xM} {Q : Option xV → xM → Prop} {a : Int} {v0 : xV} {v1 : xV} {v2 : xV} {v3 : xV} {v4 : xV} {v5 : xV} {v6 : xV} {v7 : xV} : Wp 67 115 (v0 :: v1 :: v2 :: v3 :: v4 :: v5 :: v6 :: v7 :: xi a :: ls) (st) (M) Q = Wp 67 117 (v0 :: v1 :: v2 :: v3 :: v4 :: v5 :: v6 :: v7 :: xi a :: ls) (xi a :: st) (M) Q := wp_iload rfl rfl
theorem w67_117 {ls : List xV} {M : xM} {Q : Option xV → xM → Prop} {a0 : Int} {a1 : Int} {a2 : Int} {s0 : xV} : Wp 67 117 (ls) (xi a2 :: xi a1 :: xi a0 :: s0 :: []) (M) Q = Wc 76 [xi a0, xi a1, xi a2] M (fun r M2 => Wp 67 120 (ls) (r.toList ++ (s0 :: [])) M2 Q) := wp_cS rfl rfl (Nat.le_of_ble_eq_true rfl) (Nat.le_of_ble_eq_true rfl) rfl rfl
theorem w67_120 {ls st : List xV} {M : xM} {Q : Option xV → xM → Prop} {a : Int} {b : Int} : Wp 67 120 (ls) (xi b :: xi a :: st) (M) Q = Wp 67 121 (ls) (xi (a + b) :: st) (M) Q := wp_bin (f := xadd) rfl
theorem w67_121 {ls st : List xV} {M : xM} {Q : Option xV → xM → Prop} {a : Int} {v0 : xV} {v1 : xV} {v2 : xV} {v3 : xV} {v4 : xV} {v5 : xV} {w : xV} : Wp 67 121 (v0 :: v1 :: v2 :: v3 :: v4 :: v5 :: w :: ls) (xi a :: st) (M) Q = Wp 67 123 (v0 :: v1 :: v2 :: v3 :: v4 :: xjl v5 :: xi a :: ls) (st) (M) Q := wp_istore rfl rfl
theorem w67_123 {ls st : List xV} {M : xM} {Q : Option xV → xM → Prop} {a : Int} {v0 : xV} {v1 : xV} {v2 : xV} {v3 : xV} {v4 : xV} {v5 : xV} {v6 : xV} {v7 : xV} : Wp 67 123 (v0 :: v1 :: v2 :: v3 :: v4 :: v5 :: v6 :: v7 :: xi a :: ls) (st) (M) Q = Wp 67 126 (v0 :: v1 :: v2 :: v3 :: v4 :: v5 :: v6 :: xjl v7 :: xi (a + 1) :: ls) (st) (M) Q := wp_iinc rfl rfl rfl
theorem w67_126 {ls st : List xV} {M : xM} {Q : Option xV → xM → Prop}  : Wp 67 126 (ls) (st) (M) Q = Wp 67 87 (ls) (st) (M) Q := wp_goto rfl
theorem w67_129 {ls st : List xV} {M : xM} {Q : Option xV → xM → Prop} {a : Int} {v0 : xV} {v1 : xV} {v2 : xV} {v3 : xV} {v4 : xV} {v5 : xV} : Wp 67 129 (v0 :: v1 :: v2 :: v3 :: v4 :: v5 :: xi a :: ls) (st) (M) Q = Wp 67 131 (v0 :: v1 :: v2 :: v3 :: v4 :: v5 :: xi a :: ls) (xi a :: st) (M) Q := wp_iload rfl rfl
theorem w67_131 {ls st : List xV} {M : xM} {Q : Option xV → xM → Prop} {a : Int} {v0 : xV} {v1 : xV} {v2 : xV} {v3 : xV} {v4 : xV} {v5 : xV} {v6 : xV} : Wp 67 131 (v0 :: v1 :: v2 :: v3 :: v4 :: v5 :: v6 :: xi a :: ls) (st) (M) Q = Wp 67 133 (v0 :: v1 :: v2 :: v3 :: v4 :: v5 :: v6 :: xi a :: ls) (xi a :: st) (M) Q := wp_iload rfl rfl
theorem w67_133 {ls : List xV} {M : xM} {Q : Option xV → xM → Prop} {a0 : Int} {a1 : Int} : Wp 67 133 (ls) (xi a1 :: xi a0 :: []) (M) Q = Wc 77 [xi a0, xi a1] M (fun r M2 => Wp 67 136 (ls) (r.toList ++ ([])) M2 Q) := wp_cS rfl rfl (Nat.le_of_ble_eq_true rfl) (Nat.le_of_ble_eq_true rfl) rfl rfl
theorem w67_136 {ls st : List xV} {M : xM} {Q : Option xV → xM → Prop} {a : Int} {v0 : xV} {v1 : xV} {v2 : xV} {v3 : xV} {v4 : xV} {v5 : xV} {v6 : xV} {v7 : xV} {w : xV} : Wp 67 136 (v0 :: v1 :: v2 :: v3 :: v4 :: v5 :: v6 :: v7 :: w :: ls) (xi a :: st) (M) Q = Wp 67 138 (v0 :: v1 :: v2 :: v3 :: v4 :: v5 :: v6 :: xjl v7 :: xi a :: ls) (st) (M) Q := wp_istore rfl rfl
theorem w67_138 {ls st : List xV} {M : xM} {Q : Option xV → xM → Prop} {a : Int} {v0 : xV} {v1 : xV} {v2 : xV} {v3 : xV} {v4 : xV} {v5 : xV} {v6 : xV} {v7 : xV} : Wp 67 138 (v0 :: v1 :: v2 :: v3 :: v4 :: v5 :: v6 :: v7 :: xi a :: ls) (st) (M) Q = Wp 67 140 (v0 :: v1 :: v2 :: v3 :: v4 :: v5 :: v6 :: v7 :: xi a :: ls) (xi a :: st) (M) Q := wp_iload rfl rfl
theorem w67_140 {ls st : List xV} {M : xM} {Q : Option xV → xM → Prop}  : Wp 67 140 (ls) (st) (M) Q = Wp 67 141 (ls) (xi 1 :: st) (M) Q := wp_const rfl
theorem w67_141 {ls st : List xV} {M : xM} {Q : Option xV → xM → Prop} {a : Int} {b : Int} (ha : xG a) (hb : xG b) : Wp 67 141 (ls) (xi b :: xi a :: st) (M) Q = ((b ≤ a → Wp 67 147 (ls) (st) (M) Q) ∧ (¬ (b ≤ a) → Wp 67 144 (ls) (st) (M) Q)) := wp_cmp_ge rfl ha hb
theorem w67_144 {ls st : List xV} {M : xM} {Q : Option xV → xM → Prop}  : Wp 67 144 (ls) (st) (M) Q = Wp 67 146 (ls) (xi (-4) :: st) (M) Q := wp_const rfl
theorem w67_146 {ls : List xV} {M : xM} {Q : Option xV → xM → Prop} {a : Int} : Wp 67 146 (ls) ([xi a]) (M) Q = Q (some (xi a)) M := wp_iret rfl
theorem w67_147 {ls st : List xV} {M : xM} {Q : Option xV → xM → Prop} {a : Int} {v0 : xV} {v1 : xV} {v2 : xV} {v3 : xV} {v4 : xV} : Wp 67 147 (v0 :: v1 :: v2 :: v3 :: v4 :: xi a :: ls) (st) (M) Q = Wp 67 149 (v0 :: v1 :: v2 :: v3 :: v4 :: xi a :: ls) (xi a :: st) (M) Q := wp_iload rfl rfl
theorem w67_149 {ls st : List xV} {M : xM} {Q : Option xV → xM → Prop} {a : Int} (ha : xG a) : Wp 67 149 (ls) (xi a :: st) (M) Q = ((¬ a = 0 → Wp 67 157 (ls) (st) (M) Q) ∧ (¬ (¬ a = 0) → Wp 67 152 (ls) (st) (M) Q)) := wp_if_ne rfl ha
theorem w67_152 {ls st : List xV} {M : xM} {Q : Option xV → xM → Prop} {a : Int} {v0 : xV} {v1 : xV} {v2 : xV} {v3 : xV} {v4 : xV} {v5 : xV} : Wp 67 152 (v0 :: v1 :: v2 :: v3 :: v4 :: v5 :: xi a :: ls) (st) (M) Q = Wp 67 154 (v0 :: v1 :: v2 :: v3 :: v4 :: v5 :: xi a :: ls) (xi a :: st) (M) Q := wp_iload rfl rfl
theorem w67_154 {ls st : List xV} {M : xM} {Q : Option xV → xM → Prop}  : Wp 67 154 (ls) (st) (M) Q = Wp 67 159 (ls) (st) (M) Q := wp_goto rfl
theorem w67_157 {ls st : List xV} {M : xM} {Q : Option xV → xM → Prop} {a : Int} {v0 : xV} {v1 : xV} {v2 : xV} {v3 : xV} {v4 : xV} {v5 : xV} {v6 : xV} : Wp 67 157 (v0 :: v1 :: v2 :: v3 :: v4 :: v5 :: v6 :: xi a :: ls) (st) (M) Q = Wp 67 159 (v0 :: v1 :: v2 :: v3 :: v4 :: v5 :: v6 :: xi a :: ls) (xi a :: st) (M) Q := wp_iload rfl rfl
theorem w67_159 {ls st : List xV} {M : xM} {Q : Option xV → xM → Prop} {a : Int} {v0 : xV} {v1 : xV} {v2 : xV} {v3 : xV} {v4 : xV} {v5 : xV} {v6 : xV} {v7 : xV} : Wp 67 159 (v0 :: v1 :: v2 :: v3 :: v4 :: v5 :: v6 :: v7 :: xi a :: ls) (st) (M) Q = Wp 67 161 (v0 :: v1 :: v2 :: v3 :: v4 :: v5 :: v6 :: v7 :: xi a :: ls) (xi a :: st) (M) Q := wp_iload rfl rfl
theorem w67_161 {ls st : List xV} {M : xM} {Q : Option xV → xM → Prop} {a : Int} {b : Int} : Wp 67 161 (ls) (xi b :: xi a :: st) (M) Q = (¬ xn b = 0 ∧ Wp 67 162 (ls) (xi ((xn a).tdiv (xn b)) :: st) (M) Q) := wp_div rfl
theorem w67_162 {ls : List xV} {M : xM} {Q : Option xV → xM → Prop} {a : Int} : Wp 67 162 (ls) ([xi a]) (M) Q = Q (some (xi a)) M := wp_iret rfl
theorem wc68 {M : xM} {Q : Option xV → xM → Prop} {d0 : Nat} {a1 : Int} {a2 : Int} : Wc 68 [xr d0, xi a1, xi a2] M Q = Wp 68 0 [xr d0, xi a1, xi a2, xj] [] M Q := rfl
theorem w68_0 {ls st : List xV} {M : xM} {Q : Option xV → xM → Prop} {a : Int} {v0 : xV} : Wp 68 0 (v0 :: xi a :: ls) (st) (M) Q = Wp 68 1 (v0 :: xi a :: ls) (xi a :: st) (M) Q := wp_iload rfl rfl
theorem w68_1 {ls st : List xV} {M : xM} {Q : Option xV → xM → Prop} {a : Int} (ha : xG a) : Wp 68 1 (ls) (xi a :: st) (M) Q = ((a < 0 → Wp 68 18 (ls) (st) (M) Q) ∧ (¬ (a < 0) → Wp 68 4 (ls) (st) (M) Q)) := wp_if_lt rfl ha
theorem w68_4 {ls st : List xV} {M : xM} {Q : Option xV → xM → Prop} {a : Int} {v0 : xV} : Wp 68 4 (v0 :: xi a :: ls) (st) (M) Q = Wp 68 5 (v0 :: xi a :: ls) (xi a :: st) (M) Q := wp_iload rfl rfl
theorem w68_5 {ls st : List xV} {M : xM} {Q : Option xV → xM → Prop}  : Wp 68 5 (ls) (st) (M) Q = Wp 68 8 (ls) (xi 9999 :: st) (M) Q := wp_const rfl
theorem w68_8 {ls st : List xV} {M : xM} {Q : Option xV → xM → Prop} {a : Int} {b : Int} (ha : xG a) (hb : xG b) : Wp 68 8 (ls) (xi b :: xi a :: st) (M) Q = ((b < a → Wp 68 18 (ls) (st) (M) Q) ∧ (¬ (b < a) → Wp 68 11 (ls) (st) (M) Q)) := wp_cmp_gt rfl ha hb
theorem w68_11 {ls st : List xV} {M : xM} {Q : Option xV → xM → Prop} {a : Int} {v0 : xV} {v1 : xV} : Wp 68 11 (v0 :: v1 :: xi a :: ls) (st) (M) Q = Wp 68 12 (v0 :: v1 :: xi a :: ls) (xi a :: st) (M) Q := wp_iload rfl rfl
theorem w68_12 {ls : List xV} {M : xM} {Q : Option xV → xM → Prop} {a0 : Int} : Wp 68 12 (ls) (xi a0 :: []) (M) Q = Wc 72 [xi a0] M (fun r M2 => Wp 68 15 (ls) (r.toList ++ ([])) M2 Q) := wp_cS rfl rfl (Nat.le_of_ble_eq_true rfl) (Nat.le_of_ble_eq_true rfl) rfl rfl
theorem w68_15 {ls st : List xV} {M : xM} {Q : Option xV → xM → Prop} {a : Int} (ha : xG a) : Wp 68 15 (ls) (xi a :: st) (M) Q = ((¬ a = 0 → Wp 68 20 (ls) (st) (M) Q) ∧ (¬ (¬ a = 0) → Wp 68 18 (ls) (st) (M) Q)) := wp_if_ne rfl ha
theorem w68_18 {ls st : List xV} {M : xM} {Q : Option xV → xM → Prop}  : Wp 68 18 (ls) (st) (M) Q = Wp 68 19 (ls) (xi (-1) :: st) (M) Q := wp_const rfl
theorem w68_19 {ls : List xV} {M : xM} {Q : Option xV → xM → Prop} {a : Int} : Wp 68 19 (ls) ([xi a]) (M) Q = Q (some (xi a)) M := wp_iret rfl
theorem w68_20 {ls st : List xV} {M : xM} {Q : Option xV → xM → Prop} {d : Nat} : Wp 68 20 (xr d :: ls) (st) (M) Q = Wp 68 21 (xr d :: ls) (xr d :: st) (M) Q := wp_aload rfl rfl
theorem w68_21 {ls st : List xV} {M : xM} {Q : Option xV → xM → Prop} {d : Nat} (hc : x_c d = 8) : Wp 68 21 (ls) (xr d :: st) (M) Q = Wp 68 24 (ls) (xr (x_r d 6) :: st) (M) Q := wp_getr rfl hc
theorem w68_24 {ls : List xV} {M : xM} {Q : Option xV → xM → Prop} {d0 : Nat} (hc : x_c d0 = 5) : Wp 68 24 (ls) (xr d0 :: []) (M) Q = Wc 24 [xr d0] M (fun r M2 => Wp 68 27 (ls) (r.toList ++ ([])) M2 Q) := wp_cV rfl rfl hc (Nat.le_of_ble_eq_true rfl) (Nat.le_of_ble_eq_true rfl) rfl rfl
theorem w68_27 {ls st : List xV} {M : xM} {Q : Option xV → xM → Prop}  : Wp 68 27 (ls) (st) (M) Q = Wp 68 28 (ls) (xi 0 :: st) (M) Q := wp_const rfl
theorem w68_28 {ls st : List xV} {M : xM} {Q : Option xV → xM → Prop} {a : Int} {v0 : xV} {v1 : xV} {v2 : xV} {w : xV} : Wp 68 28 (v0 :: v1 :: v2 :: w :: ls) (xi a :: st) (M) Q = Wp 68 29 (v0 :: v1 :: xjl v2 :: xi a :: ls) (st) (M) Q := wp_istore rfl rfl
theorem w68_29 {ls st : List xV} {M : xM} {Q : Option xV → xM → Prop} {a : Int} {v0 : xV} {v1 : xV} {v2 : xV} : Wp 68 29 (v0 :: v1 :: v2 :: xi a :: ls) (st) (M) Q = Wp 68 30 (v0 :: v1 :: v2 :: xi a :: ls) (xi a :: st) (M) Q := wp_iload rfl rfl
theorem w68_30 {ls st : List xV} {M : xM} {Q : Option xV → xM → Prop} {d : Nat} : Wp 68 30 (xr d :: ls) (st) (M) Q = Wp 68 31 (xr d :: ls) (xr d :: st) (M) Q := wp_aload rfl rfl
theorem w68_31 {ls st : List xV} {M : xM} {Q : Option xV → xM → Prop} {d : Nat} (hc : x_c d = 8) : Wp 68 31 (ls) (xr d :: st) (M) Q = Wp 68 34 (ls) (xr (x_r d 1) :: st) (M) Q := wp_getr rfl hc
theorem w68_34 {ls st : List xV} {M : xM} {Q : Option xV → xM → Prop} {d : Nat} (hc : x_c d = 3) : Wp 68 34 (ls) (xr d :: st) (M) Q = Wp 68 37 (ls) (xi (M d 2) :: st) (M) Q := wp_getf rfl hc
theorem w68_37 {ls st : List xV} {M : xM} {Q : Option xV → xM → Prop} {a : Int} {b : Int} (ha : xG a) (hb : xG b) : Wp 68 37 (ls) (xi b :: xi a :: st) (M) Q = ((b ≤ a → Wp 68 63 (ls) (st) (M) Q) ∧ (¬ (b ≤ a) → Wp 68 40 (ls) (st) (M) Q)) := wp_cmp_ge rfl ha hb
theorem w68_40 {ls st : List xV} {M : xM} {Q : Option xV → xM → Prop} {d : Nat} : Wp 68 40 (xr d :: ls) (st) (M) Q = Wp 68 41 (xr d :: ls) (xr d :: st) (M) Q := wp_aload rfl rfl
theorem w68_41 {ls st : List xV} {M : xM} {Q : Option xV → xM → Prop} {d : Nat} (hc : x_c d = 8) : Wp 68 41 (ls) (xr d :: st) (M) Q = Wp 68 44 (ls) (xr (x_r d 6) :: st) (M) Q := wp_getr rfl hc
theorem w68_44 {ls st : List xV} {M : xM} {Q : Option xV → xM → Prop} {d : Nat} (hc : x_c d = 5) : Wp 68 44 (ls) (xr d :: st) (M) Q = Wp 68 47 (ls) (xr (x_r d 1) :: st) (M) Q := wp_getr rfl hc
theorem w68_47 {ls st : List xV} {M : xM} {Q : Option xV → xM → Prop} {d : Nat} (hc : x_c d = 6) : Wp 68 47 (ls) (xr d :: st) (M) Q = Wp 68 50 (ls) (xr (x_r d 0) :: st) (M) Q := wp_getr rfl hc
theorem w68_50 {ls st : List xV} {M : xM} {Q : Option xV → xM → Prop} {a : Int} {v0 : xV} {v1 : xV} {v2 : xV} : Wp 68 50 (v0 :: v1 :: v2 :: xi a :: ls) (st) (M) Q = Wp 68 51 (v0 :: v1 :: v2 :: xi a :: ls) (xi a :: st) (M) Q := wp_iload rfl rfl
theorem w68_51 {ls st : List xV} {M : xM} {Q : Option xV → xM → Prop} {a : Int} {v0 : xV} : Wp 68 51 (v0 :: xi a :: ls) (st) (M) Q = Wp 68 52 (v0 :: xi a :: ls) (xi a :: st) (M) Q := wp_iload rfl rfl
theorem w68_52 {ls st : List xV} {M : xM} {Q : Option xV → xM → Prop} {a : Int} {v0 : xV} {v1 : xV} {v2 : xV} : Wp 68 52 (v0 :: v1 :: v2 :: xi a :: ls) (st) (M) Q = Wp 68 53 (v0 :: v1 :: v2 :: xi a :: ls) (xi a :: st) (M) Q := wp_iload rfl rfl
theorem w68_53 {ls : List xV} {M : xM} {Q : Option xV → xM → Prop} {a0 : Int} {a1 : Int} {s0 : xV} {s1 : xV} : Wp 68 53 (ls) (xi a1 :: xi a0 :: s0 :: s1 :: []) (M) Q = Wc 78 [xi a0, xi a1] M (fun r M2 => Wp 68 56 (ls) (r.toList ++ (s0 :: s1 :: [])) M2 Q) := wp_cS rfl rfl (Nat.le_of_ble_eq_true rfl) (Nat.le_of_ble_eq_true rfl) rfl rfl
theorem w68_56 {ls st : List xV} {M : xM} {Q : Option xV → xM → Prop} {a : Int} {d : Nat} {x : Int} (hc : x_c d = 20) (hn : x_n d = 5) (h1 : 0 ≤ a) (h2 : a < 5) : Wp 68 56 (ls) (xi x :: xi a :: xr d :: st) (M) Q = Wp 68 57 (ls) (st) (xup M d a x) Q := wp_iast rfl hc h1 (by rw [hn]; exact h2)
theorem w68_57 {ls st : List xV} {M : xM} {Q : Option xV → xM → Prop} {a : Int} {v0 : xV} {v1 : xV} {v2 : xV} : Wp 68 57 (v0 :: v1 :: v2 :: xi a :: ls) (st) (M) Q = Wp 68 60 (v0 :: v1 :: xjl v2 :: xi (a + 1) :: ls) (st) (M) Q := wp_iinc rfl rfl rfl
theorem w68_60 {ls st : List xV} {M : xM} {Q : Option xV → xM → Prop}  : Wp 68 60 (ls) (st) (M) Q = Wp 68 29 (ls) (st) (M) Q := wp_goto rfl
theorem w68_63 {ls st : List xV} {M : xM} {Q : Option xV → xM → Prop} {d : Nat} : Wp 68 63 (xr d :: ls) (st) (M) Q = Wp 68 64 (xr d :: ls) (xr d :: st) (M) Q := wp_aload rfl rfl
theorem w68_64 {ls st : List xV} {M : xM} {Q : Option xV → xM → Prop} {d : Nat} (hc : x_c d = 8) : Wp 68 64 (ls) (xr d :: st) (M) Q = Wp 68 67 (ls) (xr (x_r d 6) :: st) (M) Q := wp_getr rfl hc
theorem w68_67 {ls : List xV} {M : xM} {Q : Option xV → xM → Prop} {d0 : Nat} (hc : x_c d0 = 5) : Wp 68 67 (ls) (xr d0 :: []) (M) Q = Wc 36 [xr d0] M (fun r M2 => Wp 68 70 (ls) (r.toList ++ ([])) M2 Q) := wp_cV rfl rfl hc (Nat.le_of_ble_eq_true rfl) (Nat.le_of_ble_eq_true rfl) rfl rfl
theorem w68_70 {ls st : List xV} {M : xM} {Q : Option xV → xM → Prop} {a : Int} {v0 : xV} {v1 : xV} {v2 : xV} {w : xV} : Wp 68 70 (v0 :: v1 :: v2 :: w :: ls) (xi a :: st) (M) Q = Wp 68 71 (v0 :: v1 :: xjl v2 :: xi a :: ls) (st) (M) Q := wp_istore rfl rfl
theorem w68_71 {ls st : List xV} {M : xM} {Q : Option xV → xM → Prop} {a : Int} {v0 : xV} {v1 : xV} : Wp 68 71 (v0 :: v1 :: xi a :: ls) (st) (M) Q = Wp 68 72 (v0 :: v1 :: xi a :: ls) (xi a :: st) (M) Q := wp_iload rfl rfl
theorem w68_72 {ls st : List xV} {M : xM} {Q : Option xV → xM → Prop} {a : Int} (ha : xG a) : Wp 68 72 (ls) (xi a :: st) (M) Q = ((¬ a = 0 → Wp 68 85 (ls) (st) (M) Q) ∧ (¬ (¬ a = 0) → Wp 68 75 (ls) (st) (M) Q)) := wp_if_ne rfl ha
theorem w68_75 {ls st : List xV} {M : xM} {Q : Option xV → xM → Prop} {d : Nat} : Wp 68 75 (xr d :: ls) (st) (M) Q = Wp 68 76 (xr d :: ls) (xr d :: st) (M) Q := wp_aload rfl rfl
theorem w68_76 {ls st : List xV} {M : xM} {Q : Option xV → xM → Prop} {d : Nat} (hc : x_c d = 8) : Wp 68 76 (ls) (xr d :: st) (M) Q = Wp 68 79 (ls) (xr (x_r d 6) :: st) (M) Q := wp_getr rfl hc
theorem w68_79 {ls st : List xV} {M : xM} {Q : Option xV → xM → Prop} {d : Nat} (hc : x_c d = 5) : Wp 68 79 (ls) (xr d :: st) (M) Q = Wp 68 82 (ls) (xi (M d 10) :: st) (M) Q := wp_getf rfl hc
theorem w68_82 {ls st : List xV} {M : xM} {Q : Option xV → xM → Prop}  : Wp 68 82 (ls) (st) (M) Q = Wp 68 86 (ls) (st) (M) Q := wp_goto rfl
theorem w68_85 {ls st : List xV} {M : xM} {Q : Option xV → xM → Prop} {a : Int} {v0 : xV} {v1 : xV} {v2 : xV} : Wp 68 85 (v0 :: v1 :: v2 :: xi a :: ls) (st) (M) Q = Wp 68 86 (v0 :: v1 :: v2 :: xi a :: ls) (xi a :: st) (M) Q := wp_iload rfl rfl
theorem w68_86 {ls : List xV} {M : xM} {Q : Option xV → xM → Prop} {a : Int} : Wp 68 86 (ls) ([xi a]) (M) Q = Q (some (xi a)) M := wp_iret rfl
theorem wc69 {M : xM} {Q : Option xV → xM → Prop} {d0 : Nat} : Wc 69 [xr d0] M Q = Wp 69 0 [xr d0] [] M Q := rfl
theorem w69_0 {ls st : List xV} {M : xM} {Q : Option xV → xM → Prop} {d : Nat} : Wp 69 0 (xr d :: ls) (st) (M) Q = Wp 69 1 (xr d :: ls) (xr d :: st) (M) Q := wp_aload rfl rfl
theorem w69_1 {ls st : List xV} {M : xM} {Q : Option xV → xM → Prop} {d : Nat} (hc : x_c d = 8) : Wp 69 1 (ls) (xr d :: st) (M) Q = Wp 69 4 (ls) (xr (x_r d 4) :: st) (M) Q := wp_getr rfl hc
theorem w69_4 {ls st : List xV} {M : xM} {Q : Option xV → xM → Prop} {d : Nat} : Wp 69 4 (xr d :: ls) (st) (M) Q = Wp 69 5 (xr d :: ls) (xr d :: st) (M) Q := wp_aload rfl rfl
theorem w69_5 {ls st : List xV} {M : xM} {Q : Option xV → xM → Prop} {d : Nat} (hc : x_c d = 8) : Wp 69 5 (ls) (xr d :: st) (M) Q = Wp 69 8 (ls) (xr (x_r d 1) :: st) (M) Q := wp_getr rfl hc
theorem w69_8 {ls st : List xV} {M : xM} {Q : Option xV → xM → Prop} {d : Nat} (hc : x_c d = 3) : Wp 69 8 (ls) (xr d :: st) (M) Q = Wp 69 11 (ls) (xr (x_r d 8) :: st) (M) Q := wp_getr rfl hc
theorem w69_11 {ls : List xV} {M : xM} {Q : Option xV → xM → Prop} {d0 : Nat} {d1 : Nat} (hc : x_c d0 = 2) : Wp 69 11 (ls) (xr d1 :: xr d0 :: []) (M) Q = Wc 4 [xr d0, xr d1] M (fun r M2 => Wp 69 14 (ls) (r.toList ++ ([])) M2 Q) := wp_cV rfl rfl hc (Nat.le_of_ble_eq_true rfl) (Nat.le_of_ble_eq_true rfl) rfl rfl
theorem w69_14 {ls st : List xV} {M : xM} {Q : Option xV → xM → Prop} {a : Int} (ha : xG a) : Wp 69 14 (ls) (xi a :: st) (M) Q = ((a = 0 → Wp 69 27 (ls) (st) (M) Q) ∧ (¬ (a = 0) → Wp 69 17 (ls) (st) (M) Q)) := wp_if_eq rfl ha
theorem w69_17 {ls st : List xV} {M : xM} {Q : Option xV → xM → Prop} {d : Nat} : Wp 69 17 (xr d :: ls) (st) (M) Q = Wp 69 18 (xr d :: ls) (xr d :: st) (M) Q := wp_aload rfl rfl
theorem w69_18 {ls st : List xV} {M : xM} {Q : Option xV → xM → Prop} {d : Nat} (hc : x_c d = 8) : Wp 69 18 (ls) (xr d :: st) (M) Q = Wp 69 21 (ls) (xr (x_r d 4) :: st) (M) Q := wp_getr rfl hc
theorem w69_21 {ls st : List xV} {M : xM} {Q : Option xV → xM → Prop} {d : Nat} (hc : x_c d = 2) : Wp 69 21 (ls) (xr d :: st) (M) Q = Wp 69 24 (ls) (xi (M d 1) :: st) (M) Q := wp_getf rfl hc
theorem w69_24 {ls st : List xV} {M : xM} {Q : Option xV → xM → Prop}  : Wp 69 24 (ls) (st) (M) Q = Wp 69 29 (ls) (st) (M) Q := wp_goto rfl
theorem w69_27 {ls st : List xV} {M : xM} {Q : Option xV → xM → Prop}  : Wp 69 27 (ls) (st) (M) Q = Wp 69 29 (ls) (xi (-3) :: st) (M) Q := wp_const rfl
theorem w69_29 {ls : List xV} {M : xM} {Q : Option xV → xM → Prop} {a : Int} : Wp 69 29 (ls) ([xi a]) (M) Q = Q (some (xi a)) M := wp_iret rfl
theorem wc70 {M : xM} {Q : Option xV → xM → Prop} {d0 : Nat} : Wc 70 [xr d0] M Q = Wp 70 0 [xr d0] [] M Q := rfl
theorem w70_0 {ls st : List xV} {M : xM} {Q : Option xV → xM → Prop} {d : Nat} : Wp 70 0 (xr d :: ls) (st) (M) Q = Wp 70 1 (xr d :: ls) (xr d :: st) (M) Q := wp_aload rfl rfl
theorem w70_1 {ls st : List xV} {M : xM} {Q : Option xV → xM → Prop} {d : Nat} (hc : x_c d = 8) : Wp 70 1 (ls) (xr d :: st) (M) Q = Wp 70 4 (ls) (xr (x_r d 4) :: st) (M) Q := wp_getr rfl hc
theorem w70_4 {ls st : List xV} {M : xM} {Q : Option xV → xM → Prop} {d : Nat} : Wp 70 4 (xr d :: ls) (st) (M) Q = Wp 70 5 (xr d :: ls) (xr d :: st) (M) Q := wp_aload rfl rfl
theorem w70_5 {ls st : List xV} {M : xM} {Q : Option xV → xM → Prop} {d : Nat} (hc : x_c d = 8) : Wp 70 5 (ls) (xr d :: st) (M) Q = Wp 70 8 (ls) (xr (x_r d 1) :: st) (M) Q := wp_getr rfl hc
theorem w70_8 {ls st : List xV} {M : xM} {Q : Option xV → xM → Prop} {d : Nat} (hc : x_c d = 3) : Wp 70 8 (ls) (xr d :: st) (M) Q = Wp 70 11 (ls) (xr (x_r d 8) :: st) (M) Q := wp_getr rfl hc
theorem w70_11 {ls : List xV} {M : xM} {Q : Option xV → xM → Prop} {d0 : Nat} {d1 : Nat} (hc : x_c d0 = 2) : Wp 70 11 (ls) (xr d1 :: xr d0 :: []) (M) Q = Wc 5 [xr d0, xr d1] M (fun r M2 => Wp 70 14 (ls) (r.toList ++ ([])) M2 Q) := wp_cV rfl rfl hc (Nat.le_of_ble_eq_true rfl) (Nat.le_of_ble_eq_true rfl) rfl rfl
theorem w70_14 {ls st : List xV} {M : xM} {Q : Option xV → xM → Prop} {a : Int} (ha : xG a) : Wp 70 14 (ls) (xi a :: st) (M) Q = ((¬ a = 0 → Wp 70 20 (ls) (st) (M) Q) ∧ (¬ (¬ a = 0) → Wp 70 17 (ls) (st) (M) Q)) := wp_if_ne rfl ha
theorem w70_17 {ls st : List xV} {M : xM} {Q : Option xV → xM → Prop}  : Wp 70 17 (ls) (st) (M) Q = Wp 70 19 (ls) (xi (-2) :: st) (M) Q := wp_const rfl
theorem w70_19 {ls : List xV} {M : xM} {Q : Option xV → xM → Prop} {a : Int} : Wp 70 19 (ls) ([xi a]) (M) Q = Q (some (xi a)) M := wp_iret rfl
theorem w70_20 {ls st : List xV} {M : xM} {Q : Option xV → xM → Prop} {d : Nat} : Wp 70 20 (xr d :: ls) (st) (M) Q = Wp 70 21 (xr d :: ls) (xr d :: st) (M) Q := wp_aload rfl rfl
theorem w70_21 {ls st : List xV} {M : xM} {Q : Option xV → xM → Prop} {d : Nat} (hc : x_c d = 8) : Wp 70 21 (ls) (xr d :: st) (M) Q = Wp 70 24 (ls) (xr (x_r d 3) :: st) (M) Q := wp_getr rfl hc
theorem w70_24 {ls st : List xV} {M : xM} {Q : Option xV → xM → Prop}  : Wp 70 24 (ls) (st) (M) Q = Wp 70 25 (ls) (xi 0 :: st) (M) Q := wp_const rfl
theorem w70_25 {ls st : List xV} {M : xM} {Q : Option xV → xM → Prop} {a : Int} {d : Nat} (hc : x_c d = 0) : Wp 70 25 (ls) (xi a :: xr d :: st) (M) Q = Wp 70 28 (ls) (st) (xup M d 3 a) Q := wp_putf rfl hc
theorem w70_28 {ls st : List xV} {M : xM} {Q : Option xV → xM → Prop} {d : Nat} : Wp 70 28 (xr d :: ls) (st) (M) Q = Wp 70 29 (xr d :: ls) (xr d :: st) (M) Q := wp_aload rfl rfl
theorem w70_29 {ls st : List xV} {M : xM} {Q : Option xV → xM → Prop} {d : Nat} (hc : x_c d = 8) : Wp 70 29 (ls) (xr d :: st) (M) Q = Wp 70 32 (ls) (xr (x_r d 4) :: st) (M) Q := wp_getr rfl hc
theorem w70_32 {ls st : List xV} {M : xM} {Q : Option xV → xM → Prop} {d : Nat} (hc : x_c d = 2) : Wp 70 32 (ls) (xr d :: st) (M) Q = Wp 70 35 (ls) (xi (M d 1) :: st) (M) Q := wp_getf rfl hc
theorem w70_35 {ls : List xV} {M : xM} {Q : Option xV → xM → Prop} {a : Int} : Wp 70 35 (ls) ([xi a]) (M) Q = Q (some (xi a)) M := wp_iret rfl
theorem wc71 {M : xM} {Q : Option xV → xM → Prop} {d0 : Nat} {a1 : Int} : Wc 71 [xr d0, xi a1] M Q = Wp 71 0 [xr d0, xi a1] [] M Q := rfl
theorem w71_0 {ls st : List xV} {M : xM} {Q : Option xV → xM → Prop} {a : Int} {v0 : xV} : Wp 71 0 (v0 :: xi a :: ls) (st) (M) Q = Wp 71 1 (v0 :: xi a :: ls) (xi a :: st) (M) Q := wp_iload rfl rfl
theorem w71_1 {ls st : List xV} {M : xM} {Q : Option xV → xM → Prop} {a : Int} (ha : xG a) : Wp 71 1 (ls) (xi a :: st) (M) Q = Wp 71 (if 0 ≤ a ∧ a ≤ 8 then [52, 60, 68, 76, 90, 104, 112, 120, 128].getD (a - 0).toNat 136 else 136) (ls) (st) (M) Q := wp_tsw rfl ha
theorem w71_52 {ls st : List xV} {M : xM} {Q : Option xV → xM → Prop} {d : Nat} : Wp 71 52 (xr d :: ls) (st) (M) Q = Wp 71 53 (xr d :: ls) (xr d :: st) (M) Q := wp_aload rfl rfl
theorem w71_53 {ls st : List xV} {M : xM} {Q : Option xV → xM → Prop} {d : Nat} (hc : x_c d = 8) : Wp 71 53 (ls) (xr d :: st) (M) Q = Wp 71 56 (ls) (xr (x_r d 1) :: st) (M) Q := wp_getr rfl hc
theorem w71_56 {ls st : List xV} {M : xM} {Q : Option xV → xM → Prop} {d : Nat} (hc : x_c d = 3) : Wp 71 56 (ls) (xr d :: st) (M) Q = Wp 71 59 (ls) (xi (M d 0) :: st) (M) Q := wp_getf rfl hc
theorem w71_59 {ls : List xV} {M : xM} {Q : Option xV → xM → Prop} {a : Int} : Wp 71 59 (ls) ([xi a]) (M) Q = Q (some (xi a)) M := wp_iret rfl
theorem w71_60 {ls st : List xV} {M : xM} {Q : Option xV → xM → Prop} {d : Nat} : Wp 71 60 (xr d :: ls) (st) (M) Q = Wp 71 61 (xr d :: ls) (xr d :: st) (M) Q := wp_aload rfl rfl
theorem w71_61 {ls st : List xV} {M : xM} {Q : Option xV → xM → Prop} {d : Nat} (hc : x_c d = 8) : Wp 71 61 (ls) (xr d :: st) (M) Q = Wp 71 64 (ls) (xr (x_r d 1) :: st) (M) Q := wp_getr rfl hc
theorem w71_64 {ls st : List xV} {M : xM} {Q : Option xV → xM → Prop} {d : Nat} (hc : x_c d = 3) : Wp 71 64 (ls) (xr d :: st) (M) Q = Wp 71 67 (ls) (xi (M d 1) :: st) (M) Q := wp_getf rfl hc
theorem w71_67 {ls : List xV} {M : xM} {Q : Option xV → xM → Prop} {a : Int} : Wp 71 67 (ls) ([xi a]) (M) Q = Q (some (xi a)) M := wp_iret rfl
theorem w71_68 {ls st : List xV} {M : xM} {Q : Option xV → xM → Prop} {d : Nat} : Wp 71 68 (xr d :: ls) (st) (M) Q = Wp 71 69 (xr d :: ls) (xr d :: st) (M) Q := wp_aload rfl rfl
theorem w71_69 {ls st : List xV} {M : xM} {Q : Option xV → xM → Prop} {d : Nat} (hc : x_c d = 8) : Wp 71 69 (ls) (xr d :: st) (M) Q = Wp 71 72 (ls) (xr (x_r d 1) :: st) (M) Q := wp_getr rfl hc
theorem w71_72 {ls st : List xV} {M : xM} {Q : Option xV → xM → Prop} {d : Nat} (hc : x_c d = 3) : Wp 71 72 (ls) (xr d :: st) (M) Q = Wp 71 75 (ls) (xi (M d 2) :: st) (M) Q := wp_getf rfl hc
theorem w71_75 {ls : List xV} {M : xM} {Q : Option xV → xM → Prop} {a : Int} : Wp 71 75 (ls) ([xi a]) (M) Q = Q (some (xi a)) M := wp_iret rfl
theorem w71_76 {ls st : List xV} {M : xM} {Q : Option xV → xM → Prop} {d : Nat} : Wp 71 76 (xr d :: ls) (st) (M) Q = Wp 71 77 (xr d :: ls) (xr d :: st) (M) Q := wp_aload rfl rfl
theorem w71_77 {ls st : List xV} {M : xM} {Q : Option xV → xM → Prop} {d : Nat} (hc : x_c d = 8) : Wp 71 77 (ls) (xr d :: st) (M) Q = Wp 71 80 (ls) (xr (x_r d 1) :: st) (M) Q := wp_getr rfl hc
theorem w71_80 {ls st : List xV} {M : xM} {Q : Option xV → xM → Prop} {d : Nat} (hc : x_c d = 3) : Wp 71 80 (ls) (xr d :: st) (M) Q = Wp 71 83 (ls) (xr (x_r d 8) :: st) (M) Q := wp_getr rfl hc
theorem w71_83 {ls st : List xV} {M : xM} {Q : Option xV → xM → Prop} {d : Nat} (hc : x_c d = 6) : Wp 71 83 (ls) (xr d :: st) (M) Q = Wp 71 86 (ls) (xi (M d 2) :: st) (M) Q := wp_getf rfl hc
theorem w71_86 {ls : List xV} {M : xM} {Q : Option xV → xM → Prop} {a : Int} : Wp 71 86 (ls) (xi a :: []) (M) Q = Wp 71 89 (ls) (xi (xbc a) :: []) (M) Q := wp_bc rfl (Nat.le_of_ble_eq_true rfl)
theorem w71_89 {ls : List xV} {M : xM} {Q : Option xV → xM → Prop} {a : Int} : Wp 71 89 (ls) ([xi a]) (M) Q = Q (some (xi a)) M := wp_iret rfl
theorem w71_90 {ls st : List xV} {M : xM} {Q : Option xV → xM → Prop} {d : Nat} : Wp 71 90 (xr d :: ls) (st) (M) Q = Wp 71 91 (xr d :: ls) (xr d :: st) (M) Q := wp_aload rfl rfl
theorem w71_91 {ls st : List xV} {M : xM} {Q : Option xV → xM → Prop} {d : Nat} (hc : x_c d = 8) : Wp 71 91 (ls) (xr d :: st) (M) Q = Wp 71 94 (ls) (xr (x_r d 1) :: st) (M) Q := wp_getr rfl hc
theorem w71_94 {ls st : List xV} {M : xM} {Q : Option xV → xM → Prop} {d : Nat} (hc : x_c d = 3) : Wp 71 94 (ls) (xr d :: st) (M) Q = Wp 71 97 (ls) (xr (x_r d 8) :: st) (M) Q := wp_getr rfl hc
theorem w71_97 {ls st : List xV} {M : xM} {Q : Option xV → xM → Prop} {d : Nat} (hc : x_c d = 6) : Wp 71 97 (ls) (xr d :: st) (M) Q = Wp 71 100 (ls) (xi (M d 1) :: st) (M) Q := wp_getf rfl hc
theorem w71_100 {ls : List xV} {M : xM} {Q : Option xV → xM → Prop} {a : Int} : Wp 71 100 (ls) (xi a :: []) (M) Q = Wp 71 103 (ls) (xi (xbc a) :: []) (M) Q := wp_bc rfl (Nat.le_of_ble_eq_true rfl)
theorem w71_103 {ls : List xV} {M : xM} {Q : Option xV → xM → Prop} {a : Int} : Wp 71 103 (ls) ([xi a]) (M) Q = Q (some (xi a)) M := wp_iret rfl
theorem w71_104 {ls st : List xV} {M : xM} {Q : Option xV → xM → Prop} {d : Nat} : Wp 71 104 (xr d :: ls) (st) (M) Q = Wp 71 105 (xr d :: ls) (xr d :: st) (M) Q := wp_aload rfl rfl
theorem w71_105 {ls st : List xV} {M : xM} {Q : Option xV → xM → Prop} {d : Nat} (hc : x_c d = 8) : Wp 71 105 (ls) (xr d :: st) (M) Q = Wp 71 108 (ls) (xr (x_r d 5) :: st) (M) Q := wp_getr rfl hc
theorem w71_108 {ls st : List xV} {M : xM} {Q : Option xV → xM → Prop} {d : Nat} (hc : x_c d = 1) : Wp 71 108 (ls) (xr d :: st) (M) Q = Wp 71 111 (ls) (xi (M d 3) :: st) (M) Q := wp_getf rfl hc
theorem w71_111 {ls : List xV} {M : xM} {Q : Option xV → xM → Prop} {a : Int} : Wp 71 111 (ls) ([xi a]) (M) Q = Q (some (xi a)) M := wp_iret rfl
theorem w71_112 {ls st : List xV} {M : xM} {Q : Option xV → xM → Prop} {d : Nat} : Wp 71 112 (xr d :: ls) (st) (M) Q = Wp 71 113 (xr d :: ls) (xr d :: st) (M) Q := wp_aload rfl rfl
theorem w71_113 {ls st : List xV} {M : xM} {Q : Option xV → xM → Prop} {d : Nat} (hc : x_c d = 8) : Wp 71 113 (ls) (xr d :: st) (M) Q = Wp 71 116 (ls) (xr (x_r d 3) :: st) (M) Q := wp_getr rfl hc
theorem w71_116 {ls st : List xV} {M : xM} {Q : Option xV → xM → Prop} {d : Nat} (hc : x_c d = 0) : Wp 71 116 (ls) (xr d :: st) (M) Q = Wp 71 119 (ls) (xi (M d 3) :: st) (M) Q := wp_getf rfl hc
theorem w71_119 {ls : List xV} {M : xM} {Q : Option xV → xM → Prop} {a : Int} : Wp 71 119 (ls) ([xi a]) (M) Q = Q (some (xi a)) M := wp_iret rfl
theorem w71_120 {ls st : List xV} {M : xM} {Q : Option xV → xM → Prop} {d : Nat} : Wp 71 120 (xr d :: ls) (st) (M) Q = Wp 71 121 (xr d :: ls) (xr d :: st) (M) Q := wp_aload rfl rfl
theorem w71_121 {ls st : List xV} {M : xM} {Q : Option xV → xM → Prop} {d : Nat} (hc : x_c d = 8) : Wp 71 121 (ls) (xr d :: st) (M) Q = Wp 71 124 (ls) (xr (x_r d 4) :: st) (M) Q := wp_getr rfl hc
theorem w71_124 {ls st : List xV} {M : xM} {Q : Option xV → xM → Prop} {d : Nat} (hc : x_c d = 2) : Wp 71 124 (ls) (xr d :: st) (M) Q = Wp 71 127 (ls) (xi (M d 1) :: st) (M) Q := wp_getf rfl hc
theorem w71_127 {ls : List xV} {M : xM} {Q : Option xV → xM → Prop} {a : Int} : Wp 71 127 (ls) ([xi a]) (M) Q = Q (some (xi a)) M := wp_iret rfl
theorem w71_128 {ls st : List xV} {M : xM} {Q : Option xV → xM → Prop} {d : Nat} : Wp 71 128 (xr d :: ls) (st) (M) Q = Wp 71 129 (xr d :: ls) (xr d :: st) (M) Q := wp_aload rfl rfl
theorem w71_129 {ls st : List xV} {M : xM} {Q : Option xV → xM → Prop} {d : Nat} (hc : x_c d = 8) : Wp 71 129 (ls) (xr d :: st) (M) Q = Wp 71 132 (ls) (xr (x_r d 0) :: st) (M) Q := wp_getr rfl hc
theorem w71_132 {ls st : List xV} {M : xM} {Q : Option xV → xM → Prop} {d : Nat} (hc : x_c d = 7) : Wp 71 132 (ls) (xr d :: st) (M) Q = Wp 71 135 (ls) (xi (M d 2) :: st) (M) Q := wp_getf rfl hc
theorem w71_135 {ls : List xV} {M : xM} {Q : Option xV → xM → Prop} {a : Int} : Wp 71 135 (ls) ([xi a]) (M) Q = Q (some (xi a)) M := wp_iret rfl
theorem w71_136 {ls st : List xV} {M : xM} {Q : Option xV → xM → Prop}  : Wp 71 136 (ls) (st) (M) Q = Wp 71 137 (ls) (xi (-1) :: st) (M) Q := wp_const rfl
theorem w71_137 {ls : List xV} {M : xM} {Q : Option xV → xM → Prop} {a : Int} : Wp 71 137 (ls) ([xi a]) (M) Q = Q (some (xi a)) M := wp_iret rfl
theorem wc72 {M : xM} {Q : Option xV → xM → Prop} {a0 : Int} : Wc 72 [xi a0] M Q = Wp 72 0 [xi a0] [] M Q := rfl
theorem w72_0 {ls st : List xV} {M : xM} {Q : Option xV → xM → Prop} {a : Int} : Wp 72 0 (xi a :: ls) (st) (M) Q = Wp 72 1 (xi a :: ls) (xi a :: st) (M) Q := wp_iload rfl rfl
theorem w72_1 {ls st : List xV} {M : xM} {Q : Option xV → xM → Prop} {a : Int} (ha : xG a) : Wp 72 1 (ls) (xi a :: st) (M) Q = ((a = 0 → Wp 72 9 (ls) (st) (M) Q) ∧ (¬ (a = 0) → Wp 72 4 (ls) (st) (M) Q)) := wp_if_eq rfl ha
theorem w72_4 {ls st : List xV} {M : xM} {Q : Option xV → xM → Prop} {a : Int} : Wp 72 4 (xi a :: ls) (st) (M) Q = Wp 72 5 (xi a :: ls) (xi a :: st) (M) Q := wp_iload rfl rfl
theorem w72_5 {ls st : List xV} {M : xM} {Q : Option xV → xM → Prop}  : Wp 72 5 (ls) (st) (M) Q = Wp 72 6 (ls) (xi 1 :: st) (M) Q := wp_const rfl
theorem w72_6 {ls st : List xV} {M : xM} {Q : Option xV → xM → Prop} {a : Int} {b : Int} (ha : xG a) (hb : xG b) : Wp 72 6 (ls) (xi b :: xi a :: st) (M) Q = ((¬ a = b → Wp 72 13 (ls) (st) (M) Q) ∧ (¬ (¬ a = b) → Wp 72 9 (ls) (st) (M) Q)) := wp_cmp_ne rfl ha hb
theorem w72_9 {ls st : List xV} {M : xM} {Q : Option xV → xM → Prop}  : Wp 72 9 (ls) (st) (M) Q = Wp 72 10 (ls) (xi 1 :: st) (M) Q := wp_const rfl
theorem w72_10 {ls st : List xV} {M : xM} {Q : Option xV → xM → Prop}  : Wp 72 10 (ls) (st) (M) Q = Wp 72 14 (ls) (st) (M) Q := wp_goto rfl
theorem w72_13 {ls st : List xV} {M : xM} {Q : Option xV → xM → Prop}  : Wp 72 13 (ls) (st) (M) Q = Wp 72 14 (ls) (xi 0 :: st) (M) Q := wp_const rfl
theorem w72_14 {ls : List xV} {M : xM} {Q : Option xV → xM → Prop} {a : Int} (ha : a = 0 ∨ a = 1) : Wp 72 14 (ls) ([xi a]) (M) Q = Q (some (xi a)) M := wp_zret rfl ha
theorem wc73 {M : xM} {Q : Option xV → xM → Prop} {a0 : Int} {a1 : Int} : Wc 73 [xi a0, xi a1] M Q = Wp 73 0 [xi a0, xi a1] [] M Q := rfl
theorem w73_0 {ls st : List xV} {M : xM} {Q : Option xV → xM → Prop} {a : Int} : Wp 73 0 (xi a :: ls) (st) (M) Q = Wp 73 1 (xi a :: ls) (xi a :: st) (M) Q := wp_iload rfl rfl
theorem w73_1 {ls st : List xV} {M : xM} {Q : Option xV → xM → Prop} {a : Int} {v0 : xV} : Wp 73 1 (v0 :: xi a :: ls) (st) (M) Q = Wp 73 2 (v0 :: xi a :: ls) (xi a :: st) (M) Q := wp_iload rfl rfl
theorem w73_2 {ls st : List xV} {M : xM} {Q : Option xV → xM → Prop} {a : Int} {b : Int} : Wp 73 2 (ls) (xi b :: xi a :: st) (M) Q = Wp 73 3 (ls) (xi (xshr a b) :: st) (M) Q := wp_bin (f := xshr) rfl
theorem w73_3 {ls st : List xV} {M : xM} {Q : Option xV → xM → Prop}  : Wp 73 3 (ls) (st) (M) Q = Wp 73 4 (ls) (xi 1 :: st) (M) Q := wp_const rfl
theorem w73_4 {ls st : List xV} {M : xM} {Q : Option xV → xM → Prop} {a : Int} {b : Int} : Wp 73 4 (ls) (xi b :: xi a :: st) (M) Q = Wp 73 5 (ls) (xi (xand a b) :: st) (M) Q := wp_bin (f := xand) rfl
theorem w73_5 {ls : List xV} {M : xM} {Q : Option xV → xM → Prop} {a : Int} : Wp 73 5 (ls) ([xi a]) (M) Q = Q (some (xi a)) M := wp_iret rfl
theorem wc74 {M : xM} {Q : Option xV → xM → Prop} {d0 : Nat} : Wc 74 [xr d0] M Q = Wp 74 0 [xr d0, xj, xj] [] M Q := rfl
theorem w74_0 {ls st : List xV} {M : xM} {Q : Option xV → xM → Prop}  : Wp 74 0 (ls) (st) (M) Q = Wp 74 1 (ls) (xi 0 :: st) (M) Q := wp_const rfl
theorem w74_1 {ls st : List xV} {M : xM} {Q : Option xV → xM → Prop} {a : Int} {v0 : xV} {w : xV} : Wp 74 1 (v0 :: w :: ls) (xi a :: st) (M) Q = Wp 74 2 (xjl v0 :: xi a :: ls) (st) (M) Q := wp_istore rfl rfl
theorem w74_2 {ls st : List xV} {M : xM} {Q : Option xV → xM → Prop}  : Wp 74 2 (ls) (st) (M) Q = Wp 74 3 (ls) (xi 0 :: st) (M) Q := wp_const rfl
theorem w74_3 {ls st : List xV} {M : xM} {Q : Option xV → xM → Prop} {a : Int} {v0 : xV} {v1 : xV} {w : xV} : Wp 74 3 (v0 :: v1 :: w :: ls) (xi a :: st) (M) Q = Wp 74 4 (v0 :: xjl v1 :: xi a :: ls) (st) (M) Q := wp_istore rfl rfl
theorem w74_4 {ls st : List xV} {M : xM} {Q : Option xV → xM → Prop} {a : Int} {v0 : xV} {v1 : xV} : Wp 74 4 (v0 :: v1 :: xi a :: ls) (st) (M) Q = Wp 74 5 (v0 :: v1 :: xi a :: ls) (xi a :: st) (M) Q := wp_iload rfl rfl
theorem w74_5 {ls st : List xV} {M : xM} {Q : Option xV → xM → Prop}  : Wp 74 5 (ls) (st) (M) Q = Wp 74 6 (ls) (xi 2 :: st) (M) Q := wp_const rfl
theorem w74_6 {ls st : List xV} {M : xM} {Q : Option xV → xM → Prop} {a : Int} {b : Int} (ha : xG a) (hb : xG b) : Wp 74 6 (ls) (xi b :: xi a :: st) (M) Q = ((b < a → Wp 74 71 (ls) (st) (M) Q) ∧ (¬ (b < a) → Wp 74 9 (ls) (st) (M) Q)) := wp_cmp_gt rfl ha hb
theorem w74_9 {ls st : List xV} {M : xM} {Q : Option xV → xM → Prop} {d : Nat} : Wp 74 9 (xr d :: ls) (st) (M) Q = Wp 74 10 (xr d :: ls) (xr d :: st) (M) Q := wp_aload rfl rfl
theorem w74_10 {ls st : List xV} {M : xM} {Q : Option xV → xM → Prop} {d : Nat} (hc : x_c d = 8) : Wp 74 10 (ls) (xr d :: st) (M) Q = Wp 74 13 (ls) (xr (x_r d 6) :: st) (M) Q := wp_getr rfl hc
theorem w74_13 {ls : List xV} {M : xM} {Q : Option xV → xM → Prop} {d0 : Nat} (hc : x_c d0 = 5) : Wp 74 13 (ls) (xr d0 :: []) (M) Q = Wc 24 [xr d0] M (fun r M2 => Wp 74 16 (ls) (r.toList ++ ([])) M2 Q) := wp_cV rfl rfl hc (Nat.le_of_ble_eq_true rfl) (Nat.le_of_ble_eq_true rfl) rfl rfl
theorem w74_16 {ls st : List xV} {M : xM} {Q : Option xV → xM → Prop} {d : Nat} : Wp 74 16 (xr d :: ls) (st) (M) Q = Wp 74 17 (xr d :: ls) (xr d :: st) (M) Q := wp_aload rfl rfl
theorem w74_17 {ls st : List xV} {M : xM} {Q : Option xV → xM → Prop} {d : Nat} (hc : x_c d = 8) : Wp 74 17 (ls) (xr d :: st) (M) Q = Wp 74 20 (ls) (xr (x_r d 6) :: st) (M) Q := wp_getr rfl hc
theorem w74_20 {ls st : List xV} {M : xM} {Q : Option xV → xM → Prop} {d : Nat} (hc : x_c d = 5) : Wp 74 20 (ls) (xr d :: st) (M) Q = Wp 74 23 (ls) (xr (x_r d 1) :: st) (M) Q := wp_getr rfl hc
theorem w74_23 {ls st : List xV} {M : xM} {Q : Option xV → xM → Prop} {d : Nat} : Wp 74 23 (ls) (xr d :: st) (M) Q = Wp 74 24 (ls) (xr d :: xr d :: st) (M) Q := wp_dupA rfl
theorem w74_24 {ls st : List xV} {M : xM} {Q : Option xV → xM → Prop} {d : Nat} (hc : x_c d = 6) : Wp 74 24 (ls) (xr d :: st) (M) Q = Wp 74 27 (ls) (xi (M d 2) :: st) (M) Q := wp_getf rfl hc
theorem w74_27 {ls st : List xV} {M : xM} {Q : Option xV → xM → Prop} {a : Int} {v0 : xV} : Wp 74 27 (v0 :: xi a :: ls) (st) (M) Q = Wp 74 28 (v0 :: xi a :: ls) (xi a :: st) (M) Q := wp_iload rfl rfl
theorem w74_28 {ls st : List xV} {M : xM} {Q : Option xV → xM → Prop} {a : Int} {b : Int} : Wp 74 28 (ls) (xi b :: xi a :: st) (M) Q = Wp 74 29 (ls) (xi (xor_ a b) :: st) (M) Q := wp_bin (f := xor_) rfl
theorem w74_29 {ls st : List xV} {M : xM} {Q : Option xV → xM → Prop} {a : Int} {d : Nat} (hc : x_c d = 6) : Wp 74 29 (ls) (xi a :: xr d :: st) (M) Q = Wp 74 32 (ls) (st) (xup M d 2 a) Q := wp_putf rfl hc
theorem w74_32 {ls st : List xV} {M : xM} {Q : Option xV → xM → Prop} {d : Nat} : Wp 74 32 (xr d :: ls) (st) (M) Q = Wp 74 33 (xr d :: ls) (xr d :: st) (M) Q := wp_aload rfl rfl
theorem w74_33 {ls st : List xV} {M : xM} {Q : Option xV → xM → Prop} {d : Nat} (hc : x_c d = 8) : Wp 74 33 (ls) (xr d :: st) (M) Q = Wp 74 36 (ls) (xr (x_r d 6) :: st) (M) Q := wp_getr rfl hc
theorem w74_36 {ls st : List xV} {M : xM} {Q : Option xV → xM → Prop}  : Wp 74 36 (ls) (st) (M) Q = Wp 74 38 (ls) (xi 60 :: st) (M) Q := wp_const rfl
theorem w74_38 {ls : List xV} {M : xM} {Q : Option xV → xM → Prop} {a1 : Int} {d0 : Nat} (hc : x_c d0 = 5) : Wp 74 38 (ls) (xi a1 :: xr d0 :: []) (M) Q = Wc 25 [xr d0, xi a1] M (fun r M2 => Wp 74 41 (ls) (r.toList ++ ([])) M2 Q) := wp_cV rfl rfl hc (Nat.le_of_ble_eq_true rfl) (Nat.le_of_ble_eq_true rfl) rfl rfl
theorem w74_41 {ls st : List xV} {M : xM} {Q : Option xV → xM → Prop} {d : Nat} : Wp 74 41 (xr d :: ls) (st) (M) Q = Wp 74 42 (xr d :: ls) (xr d :: st) (M) Q := wp_aload rfl rfl
theorem w74_42 {ls st : List xV} {M : xM} {Q : Option xV → xM → Prop} {d : Nat} (hc : x_c d = 8) : Wp 74 42 (ls) (xr d :: st) (M) Q = Wp 74 45 (ls) (xr (x_r d 6) :: st) (M) Q := wp_getr rfl hc
theorem w74_45 {ls st : List xV} {M : xM} {Q : Option xV → xM → Prop} {d : Nat} (hc : x_c d = 5) : Wp 74 45 (ls) (xr d :: st) (M) Q = Wp 74 48 (ls) (xi (M d 10) :: st) (M) Q := wp_getf rfl hc
theorem w74_48 {ls st : List xV} {M : xM} {Q : Option xV → xM → Prop} {a : Int} (ha : xG a) : Wp 74 48 (ls) (xi a :: st) (M) Q = ((¬ a = 0 → Wp 74 53 (ls) (st) (M) Q) ∧ (¬ (¬ a = 0) → Wp 74 51 (ls) (st) (M) Q)) := wp_if_ne rfl ha
theorem w74_51 {ls st : List xV} {M : xM} {Q : Option xV → xM → Prop} {a : Int} {v0 : xV} : Wp 74 51 (v0 :: xi a :: ls) (st) (M) Q = Wp 74 52 (v0 :: xi a :: ls) (xi a :: st) (M) Q := wp_iload rfl rfl
theorem w74_52 {ls : List xV} {M : xM} {Q : Option xV → xM → Prop} {a : Int} : Wp 74 52 (ls) ([xi a]) (M) Q = Q (some (xi a)) M := wp_iret rfl
theorem w74_53 {ls st : List xV} {M : xM} {Q : Option xV → xM → Prop} {a : Int} {v0 : xV} : Wp 74 53 (v0 :: xi a :: ls) (st) (M) Q = Wp 74 54 (v0 :: xi a :: ls) (xi a :: st) (M) Q := wp_iload rfl rfl
theorem w74_54 {ls st : List xV} {M : xM} {Q : Option xV → xM → Prop}  : Wp 74 54 (ls) (st) (M) Q = Wp 74 55 (ls) (xi 1 :: st) (M) Q := wp_const rfl
theorem w74_55 {ls st : List xV} {M : xM} {Q : Option xV → xM → Prop} {d : Nat} : Wp 74 55 (xr d :: ls) (st) (M) Q = Wp 74 56 (xr d :: ls) (xr d :: st) (M) Q := wp_aload rfl rfl
theorem w74_56 {ls st : List xV} {M : xM} {Q : Option xV → xM → Prop} {d : Nat} (hc : x_c d = 8) : Wp 74 56 (ls) (xr d :: st) (M) Q = Wp 74 59 (ls) (xr (x_r d 6) :: st) (M) Q := wp_getr rfl hc
theorem w74_59 {ls st : List xV} {M : xM} {Q : Option xV → xM → Prop} {d : Nat} (hc : x_c d = 5) : Wp 74 59 (ls) (xr d :: st) (M) Q = Wp 74 62 (ls) (xi (M d 11) :: st) (M) Q := wp_getf rfl hc
theorem w74_62 {ls st : List xV} {M : xM} {Q : Option xV → xM → Prop} {a : Int} {b : Int} : Wp 74 62 (ls) (xi b :: xi a :: st) (M) Q = Wp 74 63 (ls) (xi (xshl a b) :: st) (M) Q := wp_bin (f := xshl) rfl
theorem w74_63 {ls st : List xV} {M : xM} {Q : Option xV → xM → Prop} {a : Int} {b : Int} : Wp 74 63 (ls) (xi b :: xi a :: st) (M) Q = Wp 74 64 (ls) (xi (xor_ a b) :: st) (M) Q := wp_bin (f := xor_) rfl
theorem w74_64 {ls st : List xV} {M : xM} {Q : Option xV → xM → Prop} {a : Int} {v0 : xV} {w : xV} : Wp 74 64 (v0 :: w :: ls) (xi a :: st) (M) Q = Wp 74 65 (xjl v0 :: xi a :: ls) (st) (M) Q := wp_istore rfl rfl
theorem w74_65 {ls st : List xV} {M : xM} {Q : Option xV → xM → Prop} {a : Int} {v0 : xV} {v1 : xV} : Wp 74 65 (v0 :: v1 :: xi a :: ls) (st) (M) Q = Wp 74 68 (v0 :: xjl v1 :: xi (a + 1) :: ls) (st) (M) Q := wp_iinc rfl rfl rfl
theorem w74_68 {ls st : List xV} {M : xM} {Q : Option xV → xM → Prop}  : Wp 74 68 (ls) (st) (M) Q = Wp 74 4 (ls) (st) (M) Q := wp_goto rfl
theorem w74_71 {ls st : List xV} {M : xM} {Q : Option xV → xM → Prop}  : Wp 74 71 (ls) (st) (M) Q = Wp 74 73 (ls) (xi (-4) :: st) (M) Q := wp_const rfl
theorem w74_73 {ls : List xV} {M : xM} {Q : Option xV → xM → Prop} {a : Int} : Wp 74 73 (ls) ([xi a]) (M) Q = Q (some (xi a)) M := wp_iret rfl
theorem wc75 {M : xM} {Q : Option xV → xM → Prop} {a0 : Int} {a1 : Int} : Wc 75 [xi a0, xi a1] M Q = Wp 75 0 [xi a0, xi a1, xj, xj] [] M Q := rfl
theorem w75_0 {ls st : List xV} {M : xM} {Q : Option xV → xM → Prop} {a : Int} {v0 : xV} : Wp 75 0 (v0 :: xi a :: ls) (st) (M) Q = Wp 75 1 (v0 :: xi a :: ls) (xi a :: st) (M) Q := wp_iload rfl rfl
theorem w75_1 {ls st : List xV} {M : xM} {Q : Option xV → xM → Prop} {a : Int} {v0 : xV} {v1 : xV} {w : xV} : Wp 75 1 (v0 :: v1 :: w :: ls) (xi a :: st) (M) Q = Wp 75 2 (v0 :: xjl v1 :: xi a :: ls) (st) (M) Q := wp_istore rfl rfl
theorem w75_2 {ls st : List xV} {M : xM} {Q : Option xV → xM → Prop}  : Wp 75 2 (ls) (st) (M) Q = Wp 75 3 (ls) (xi 0 :: st) (M) Q := wp_const rfl
theorem w75_3 {ls st : List xV} {M : xM} {Q : Option xV → xM → Prop} {a : Int} {v0 : xV} {v1 : xV} {v2 : xV} {w : xV} : Wp 75 3 (v0 :: v1 :: v2 :: w :: ls) (xi a :: st) (M) Q = Wp 75 4 (v0 :: v1 :: xjl v2 :: xi a :: ls) (st) (M) Q := wp_istore rfl rfl
theorem w75_4 {ls st : List xV} {M : xM} {Q : Option xV → xM → Prop} {a : Int} {v0 : xV} {v1 : xV} {v2 : xV} : Wp 75 4 (v0 :: v1 :: v2 :: xi a :: ls) (st) (M) Q = Wp 75 5 (v0 :: v1 :: v2 :: xi a :: ls) (xi a :: st) (M) Q := wp_iload rfl rfl
theorem w75_5 {ls st : List xV} {M : xM} {Q : Option xV → xM → Prop}  : Wp 75 5 (ls) (st) (M) Q = Wp 75 7 (ls) (xi 24 :: st) (M) Q := wp_const rfl
theorem w75_7 {ls st : List xV} {M : xM} {Q : Option xV → xM → Prop} {a : Int} {b : Int} (ha : xG a) (hb : xG b) : Wp 75 7 (ls) (xi b :: xi a :: st) (M) Q = ((b ≤ a → Wp 75 30 (ls) (st) (M) Q) ∧ (¬ (b ≤ a) → Wp 75 10 (ls) (st) (M) Q)) := wp_cmp_ge rfl ha hb
theorem w75_10 {ls st : List xV} {M : xM} {Q : Option xV → xM → Prop} {a : Int} {v0 : xV} {v1 : xV} : Wp 75 10 (v0 :: v1 :: xi a :: ls) (st) (M) Q = Wp 75 11 (v0 :: v1 :: xi a :: ls) (xi a :: st) (M) Q := wp_iload rfl rfl
theorem w75_11 {ls st : List xV} {M : xM} {Q : Option xV → xM → Prop} {a : Int} : Wp 75 11 (xi a :: ls) (st) (M) Q = Wp 75 12 (xi a :: ls) (xi a :: st) (M) Q := wp_iload rfl rfl
theorem w75_12 {ls st : List xV} {M : xM} {Q : Option xV → xM → Prop} {a : Int} {v0 : xV} {v1 : xV} {v2 : xV} : Wp 75 12 (v0 :: v1 :: v2 :: xi a :: ls) (st) (M) Q = Wp 75 13 (v0 :: v1 :: v2 :: xi a :: ls) (xi a :: st) (M) Q := wp_iload rfl rfl
theorem w75_13 {ls : List xV} {M : xM} {Q : Option xV → xM → Prop} {a0 : Int} {a1 : Int} {s0 : xV} : Wp 75 13 (ls) (xi a1 :: xi a0 :: s0 :: []) (M) Q = Wc 73 [xi a0, xi a1] M (fun r M2 => Wp 75 16 (ls) (r.toList ++ (s0 :: [])) M2 Q) := wp_cS rfl rfl (Nat.le_of_ble_eq_true rfl) (Nat.le_of_ble_eq_true rfl) rfl rfl
theorem w75_16 {ls st : List xV} {M : xM} {Q : Option xV → xM → Prop} {a : Int} {b : Int} : Wp 75 16 (ls) (xi b :: xi a :: st) (M) Q = Wp 75 17 (ls) (xi (a - b) :: st) (M) Q := wp_bin (f := xsub) rfl
theorem w75_17 {ls st : List xV} {M : xM} {Q : Option xV → xM → Prop} {a : Int} {v0 : xV} {v1 : xV} {w : xV} : Wp 75 17 (v0 :: v1 :: w :: ls) (xi a :: st) (M) Q = Wp 75 18 (v0 :: xjl v1 :: xi a :: ls) (st) (M) Q := wp_istore rfl rfl
theorem w75_18 {ls st : List xV} {M : xM} {Q : Option xV → xM → Prop} {a : Int} {v0 : xV} {v1 : xV} : Wp 75 18 (v0 :: v1 :: xi a :: ls) (st) (M) Q = Wp 75 19 (v0 :: v1 :: xi a :: ls) (xi a :: st) (M) Q := wp_iload rfl rfl
theorem w75_19 {ls st : List xV} {M : xM} {Q : Option xV → xM → Prop} {a : Int} (ha : xG a) : Wp 75 19 (ls) (xi a :: st) (M) Q = ((¬ a = 0 → Wp 75 24 (ls) (st) (M) Q) ∧ (¬ (¬ a = 0) → Wp 75 22 (ls) (st) (M) Q)) := wp_if_ne rfl ha
theorem w75_22 {ls st : List xV} {M : xM} {Q : Option xV → xM → Prop} {a : Int} {v0 : xV} {v1 : xV} {v2 : xV} : Wp 75 22 (v0 :: v1 :: v2 :: xi a :: ls) (st) (M) Q = Wp 75 23 (v0 :: v1 :: v2 :: xi a :: ls) (xi a :: st) (M) Q := wp_iload rfl rfl
theorem w75_23 {ls : List xV} {M : xM} {Q : Option xV → xM → Prop} {a : Int} : Wp 75 23 (ls) ([xi a]) (M) Q = Q (some (xi a)) M := wp_iret rfl
theorem w75_24 {ls st : List xV} {M : xM} {Q : Option xV → xM → Prop} {a : Int} {v0 : xV} {v1 : xV} {v2 : xV} : Wp 75 24 (v0 :: v1 :: v2 :: xi a :: ls) (st) (M) Q = Wp 75 27 (v0 :: v1 :: xjl v2 :: xi (a + 1) :: ls) (st) (M) Q := wp_iinc rfl rfl rfl
theorem w75_27 {ls st : List xV} {M : xM} {Q : Option xV → xM → Prop}  : Wp 75 27 (ls) (st) (M) Q = Wp 75 4 (ls) (st) (M) Q := wp_goto rfl
theorem w75_30 {ls st : List xV} {M : xM} {Q : Option xV → xM → Prop}  : Wp 75 30 (ls) (st) (M) Q = Wp 75 32 (ls) (xi (-4) :: st) (M) Q := wp_const rfl
theorem w75_32 {ls : List xV} {M : xM} {Q : Option xV → xM → Prop} {a : Int} : Wp 75 32 (ls) ([xi a]) (M) Q = Q (some (xi a)) M := wp_iret rfl
theorem wc76 {M : xM} {Q : Option xV → xM → Prop} {a0 : Int} {a1 : Int} {a2 : Int} : Wc 76 [xi a0, xi a1, xi a2] M Q = Wp 76 0 [xi a0, xi a1, xi a2, xj, xj] [] M Q := rfl
theorem w76_0 {ls st : List xV} {M : xM} {Q : Option xV → xM → Prop}  : Wp 76 0 (ls) (st) (M) Q = Wp 76 1 (ls) (xi 1 :: st) (M) Q := wp_const rfl
theorem w76_1 {ls st : List xV} {M : xM} {Q : Option xV → xM → Prop} {a : Int} {v0 : xV} {v1 : xV} {v2 : xV} {w : xV} : Wp 76 1 (v0 :: v1 :: v2 :: w :: ls) (xi a :: st) (M) Q = Wp 76 2 (v0 :: v1 :: xjl v2 :: xi a :: ls) (st) (M) Q := wp_istore rfl rfl
theorem w76_2 {ls st : List xV} {M : xM} {Q : Option xV → xM → Prop}  : Wp 76 2 (ls) (st) (M) Q = Wp 76 3 (ls) (xi 0 :: st) (M) Q := wp_const rfl
theorem w76_3 {ls st : List xV} {M : xM} {Q : Option xV → xM → Prop} {a : Int} {v0 : xV} {v1 : xV} {v2 : xV} {v3 : xV} {w : xV} : Wp 76 3 (v0 :: v1 :: v2 :: v3 :: w :: ls) (xi a :: st) (M) Q = Wp 76 5 (v0 :: v1 :: v2 :: xjl v3 :: xi a :: ls) (st) (M) Q := wp_istore rfl rfl
theorem w76_5 {ls st : List xV} {M : xM} {Q : Option xV → xM → Prop} {a : Int} {v0 : xV} {v1 : xV} {v2 : xV} {v3 : xV} : Wp 76 5 (v0 :: v1 :: v2 :: v3 :: xi a :: ls) (st) (M) Q = Wp 76 7 (v0 :: v1 :: v2 :: v3 :: xi a :: ls) (xi a :: st) (M) Q := wp_iload rfl rfl
theorem w76_7 {ls st : List xV} {M : xM} {Q : Option xV → xM → Prop} {a : Int} : Wp 76 7 (xi a :: ls) (st) (M) Q = Wp 76 8 (xi a :: ls) (xi a :: st) (M) Q := wp_iload rfl rfl
theorem w76_8 {ls st : List xV} {M : xM} {Q : Option xV → xM → Prop} {a : Int} {b : Int} (ha : xG a) (hb : xG b) : Wp 76 8 (ls) (xi b :: xi a :: st) (M) Q = ((b ≤ a → Wp 76 38 (ls) (st) (M) Q) ∧ (¬ (b ≤ a) → Wp 76 11 (ls) (st) (M) Q)) := wp_cmp_ge rfl ha hb
theorem w76_11 {ls st : List xV} {M : xM} {Q : Option xV → xM → Prop} {a : Int} {v0 : xV} {v1 : xV} {v2 : xV} : Wp 76 11 (v0 :: v1 :: v2 :: xi a :: ls) (st) (M) Q = Wp 76 12 (v0 :: v1 :: v2 :: xi a :: ls) (xi a :: st) (M) Q := wp_iload rfl rfl
theorem w76_12 {ls st : List xV} {M : xM} {Q : Option xV → xM → Prop} {a : Int} {v0 : xV} {v1 : xV} : Wp 76 12 (v0 :: v1 :: xi a :: ls) (st) (M) Q = Wp 76 13 (v0 :: v1 :: xi a :: ls) (xi a :: st) (M) Q := wp_iload rfl rfl
theorem w76_13 {ls st : List xV} {M : xM} {Q : Option xV → xM → Prop} {a : Int} {v0 : xV} {v1 : xV} {v2 : xV} {v3 : xV} : Wp 76 13 (v0 :: v1 :: v2 :: v3 :: xi a :: ls) (st) (M) Q = Wp 76 15 (v0 :: v1 :: v2 :: v3 :: xi a :: ls) (xi a :: st) (M) Q := wp_iload rfl rfl
theorem w76_15 {ls : List xV} {M : xM} {Q : Option xV → xM → Prop} {a0 : Int} {a1 : Int} {s0 : xV} : Wp 76 15 (ls) (xi a1 :: xi a0 :: s0 :: []) (M) Q = Wc 73 [xi a0, xi a1] M (fun r M2 => Wp 76 18 (ls) (r.toList ++ (s0 :: [])) M2 Q) := wp_cS rfl rfl (Nat.le_of_ble_eq_true rfl) (Nat.le_of_ble_eq_true rfl) rfl rfl
theorem w76_18 {ls st : List xV} {M : xM} {Q : Option xV → xM → Prop}  : Wp 76 18 (ls) (st) (M) Q = Wp 76 19 (ls) (xi 1 :: st) (M) Q := wp_const rfl
theorem w76_19 {ls st : List xV} {M : xM} {Q : Option xV → xM → Prop} {a : Int} {b : Int} (ha : xG a) (hb : xG b) : Wp 76 19 (ls) (xi b :: xi a :: st) (M) Q = ((¬ a = b → Wp 76 26 (ls) (st) (M) Q) ∧ (¬ (¬ a = b) → Wp 76 22 (ls) (st) (M) Q)) := wp_cmp_ne rfl ha hb
theorem w76_22 {ls st : List xV} {M : xM} {Q : Option xV → xM → Prop} {a : Int} {v0 : xV} : Wp 76 22 (v0 :: xi a :: ls) (st) (M) Q = Wp 76 23 (v0 :: xi a :: ls) (xi a :: st) (M) Q := wp_iload rfl rfl
theorem w76_23 {ls st : List xV} {M : xM} {Q : Option xV → xM → Prop}  : Wp 76 23 (ls) (st) (M) Q = Wp 76 30 (ls) (st) (M) Q := wp_goto rfl
theorem w76_26 {ls st : List xV} {M : xM} {Q : Option xV → xM → Prop}  : Wp 76 26 (ls) (st) (M) Q = Wp 76 28 (ls) (xi 10 :: st) (M) Q := wp_const rfl
theorem w76_28 {ls st : List xV} {M : xM} {Q : Option xV → xM → Prop} {a : Int} {v0 : xV} : Wp 76 28 (v0 :: xi a :: ls) (st) (M) Q = Wp 76 29 (v0 :: xi a :: ls) (xi a :: st) (M) Q := wp_iload rfl rfl
theorem w76_29 {ls st : List xV} {M : xM} {Q : Option xV → xM → Prop} {a : Int} {b : Int} : Wp 76 29 (ls) (xi b :: xi a :: st) (M) Q = Wp 76 30 (ls) (xi (a - b) :: st) (M) Q := wp_bin (f := xsub) rfl
theorem w76_30 {ls st : List xV} {M : xM} {Q : Option xV → xM → Prop} {a : Int} {b : Int} : Wp 76 30 (ls) (xi b :: xi a :: st) (M) Q = Wp 76 31 (ls) (xi (a * b) :: st) (M) Q := wp_bin (f := xmul) rfl
theorem w76_31 {ls st : List xV} {M : xM} {Q : Option xV → xM → Prop} {a : Int} {v0 : xV} {v1 : xV} {v2 : xV} {w : xV} : Wp 76 31 (v0 :: v1 :: v2 :: w :: ls) (xi a :: st) (M) Q = Wp 76 32 (v0 :: v1 :: xjl v2 :: xi a :: ls) (st) (M) Q := wp_istore rfl rfl
theorem w76_32 {ls st : List xV} {M : xM} {Q : Option xV → xM → Prop} {a : Int} {v0 : xV} {v1 : xV} {v2 : xV} {v3 : xV} : Wp 76 32 (v0 :: v1 :: v2 :: v3 :: xi a :: ls) (st) (M) Q = Wp 76 35 (v0 :: v1 :: v2 :: xjl v3 :: xi (a + 1) :: ls) (st) (M) Q := wp_iinc rfl rfl rfl
theorem w76_35 {ls st : List xV} {M : xM} {Q : Option xV → xM → Prop}  : Wp 76 35 (ls) (st) (M) Q = Wp 76 5 (ls) (st) (M) Q := wp_goto rfl
theorem w76_38 {ls st : List xV} {M : xM} {Q : Option xV → xM → Prop} {a : Int} {v0 : xV} {v1 : xV} {v2 : xV} : Wp 76 38 (v0 :: v1 :: v2 :: xi a :: ls) (st) (M) Q = Wp 76 39 (v0 :: v1 :: v2 :: xi a :: ls) (xi a :: st) (M) Q := wp_iload rfl rfl
theorem w76_39 {ls : List xV} {M : xM} {Q : Option xV → xM → Prop} {a : Int} : Wp 76 39 (ls) ([xi a]) (M) Q = Q (some (xi a)) M := wp_iret rfl
theorem wc77 {M : xM} {Q : Option xV → xM → Prop} {a0 : Int} {a1 : Int} : Wc 77 [xi a0, xi a1] M Q = Wp 77 0 [xi a0, xi a1, xj, xj, xj, xj] [] M Q := rfl
theorem w77_0 {ls st : List xV} {M : xM} {Q : Option xV → xM → Prop} {a : Int} : Wp 77 0 (xi a :: ls) (st) (M) Q = Wp 77 1 (xi a :: ls) (xi a :: st) (M) Q := wp_iload rfl rfl
theorem w77_1 {ls st : List xV} {M : xM} {Q : Option xV → xM → Prop} {a : Int} {v0 : xV} {v1 : xV} {w : xV} : Wp 77 1 (v0 :: v1 :: w :: ls) (xi a :: st) (M) Q = Wp 77 2 (v0 :: xjl v1 :: xi a :: ls) (st) (M) Q := wp_istore rfl rfl
theorem w77_2 {ls st : List xV} {M : xM} {Q : Option xV → xM → Prop} {a : Int} {v0 : xV} : Wp 77 2 (v0 :: xi a :: ls) (st) (M) Q = Wp 77 3 (v0 :: xi a :: ls) (xi a :: st) (M) Q := wp_iload rfl rfl
theorem w77_3 {ls st : List xV} {M : xM} {Q : Option xV → xM → Prop} {a : Int} {v0 : xV} {v1 : xV} {v2 : xV} {w : xV} : Wp 77 3 (v0 :: v1 :: v2 :: w :: ls) (xi a :: st) (M) Q = Wp 77 4 (v0 :: v1 :: xjl v2 :: xi a :: ls) (st) (M) Q := wp_istore rfl rfl
theorem w77_4 {ls st : List xV} {M : xM} {Q : Option xV → xM → Prop}  : Wp 77 4 (ls) (st) (M) Q = Wp 77 5 (ls) (xi 0 :: st) (M) Q := wp_const rfl
theorem w77_5 {ls st : List xV} {M : xM} {Q : Option xV → xM → Prop} {a : Int} {v0 : xV} {v1 : xV} {v2 : xV} {v3 : xV} {w : xV} : Wp 77 5 (v0 :: v1 :: v2 :: v3 :: w :: ls) (xi a :: st) (M) Q = Wp 77 7 (v0 :: v1 :: v2 :: xjl v3 :: xi a :: ls) (st) (M) Q := wp_istore rfl rfl
theorem w77_7 {ls st : List xV} {M : xM} {Q : Option xV → xM → Prop} {a : Int} {v0 : xV} {v1 : xV} {v2 : xV} {v3 : xV} : Wp 77 7 (v0 :: v1 :: v2 :: v3 :: xi a :: ls) (st) (M) Q = Wp 77 9 (v0 :: v1 :: v2 :: v3 :: xi a :: ls) (xi a :: st) (M) Q := wp_iload rfl rfl
theorem w77_9 {ls st : List xV} {M : xM} {Q : Option xV → xM → Prop}  : Wp 77 9 (ls) (st) (M) Q = Wp 77 11 (ls) (xi 100 :: st) (M) Q := wp_const rfl
theorem w77_11 {ls st : List xV} {M : xM} {Q : Option xV → xM → Prop} {a : Int} {b : Int} (ha : xG a) (hb : xG b) : Wp 77 11 (ls) (xi b :: xi a :: st) (M) Q = ((b ≤ a → Wp 77 34 (ls) (st) (M) Q) ∧ (¬ (b ≤ a) → Wp 77 14 (ls) (st) (M) Q)) := wp_cmp_ge rfl ha hb
theorem w77_14 {ls st : List xV} {M : xM} {Q : Option xV → xM → Prop} {a : Int} {v0 : xV} {v1 : xV} {v2 : xV} : Wp 77 14 (v0 :: v1 :: v2 :: xi a :: ls) (st) (M) Q = Wp 77 15 (v0 :: v1 :: v2 :: xi a :: ls) (xi a :: st) (M) Q := wp_iload rfl rfl
theorem w77_15 {ls st : List xV} {M : xM} {Q : Option xV → xM → Prop} {a : Int} (ha : xG a) : Wp 77 15 (ls) (xi a :: st) (M) Q = ((a = 0 → Wp 77 34 (ls) (st) (M) Q) ∧ (¬ (a = 0) → Wp 77 18 (ls) (st) (M) Q)) := wp_if_eq rfl ha
theorem w77_18 {ls st : List xV} {M : xM} {Q : Option xV → xM → Prop} {a : Int} {v0 : xV} {v1 : xV} : Wp 77 18 (v0 :: v1 :: xi a :: ls) (st) (M) Q = Wp 77 19 (v0 :: v1 :: xi a :: ls) (xi a :: st) (M) Q := wp_iload rfl rfl
theorem w77_19 {ls st : List xV} {M : xM} {Q : Option xV → xM → Prop} {a : Int} {v0 : xV} {v1 : xV} {v2 : xV} : Wp 77 19 (v0 :: v1 :: v2 :: xi a :: ls) (st) (M) Q = Wp 77 20 (v0 :: v1 :: v2 :: xi a :: ls) (xi a :: st) (M) Q := wp_iload rfl rfl
theorem w77_20 {ls st : List xV} {M : xM} {Q : Option xV → xM → Prop} {a : Int} {b : Int} : Wp 77 20 (ls) (xi b :: xi a :: st) (M) Q = (¬ xn b = 0 ∧ Wp 77 21 (ls) (xi ((xn a).tmod (xn b)) :: st) (M) Q) := wp_rem rfl
theorem w77_21 {ls st : List xV} {M : xM} {Q : Option xV → xM → Prop} {a : Int} {v0 : xV} {v1 : xV} {v2 : xV} {v3 : xV} {v4 : xV} {w : xV} : Wp 77 21 (v0 :: v1 :: v2 :: v3 :: v4 :: w :: ls) (xi a :: st) (M) Q = Wp 77 23 (v0 :: v1 :: v2 :: v3 :: xjl v4 :: xi a :: ls) (st) (M) Q := wp_istore rfl rfl
theorem w77_23 {ls st : List xV} {M : xM} {Q : Option xV → xM → Prop} {a : Int} {v0 : xV} {v1 : xV} {v2 : xV} : Wp 77 23 (v0 :: v1 :: v2 :: xi a :: ls) (st) (M) Q = Wp 77 24 (v0 :: v1 :: v2 :: xi a :: ls) (xi a :: st) (M) Q := wp_iload rfl rfl
theorem w77_24 {ls st : List xV} {M : xM} {Q : Option xV → xM → Prop} {a : Int} {v0 : xV} {v1 : xV} {w : xV} : Wp 77 24 (v0 :: v1 :: w :: ls) (xi a :: st) (M) Q = Wp 77 25 (v0 :: xjl v1 :: xi a :: ls) (st) (M) Q := wp_istore rfl rfl
theorem w77_25 {ls st : List xV} {M : xM} {Q : Option xV → xM → Prop} {a : Int} {v0 : xV} {v1 : xV} {v2 : xV} {v3 : xV} {v4 : xV} : Wp 77 25 (v0 :: v1 :: v2 :: v3 :: v4 :: xi a :: ls) (st) (M) Q = Wp 77 27 (v0 :: v1 :: v2 :: v3 :: v4 :: xi a :: ls) (xi a :: st) (M) Q := wp_iload rfl rfl
theorem w77_27 {ls st : List xV} {M : xM} {Q : Option xV → xM → Prop} {a : Int} {v0 : xV} {v1 : xV} {v2 : xV} {w : xV} : Wp 77 27 (v0 :: v1 :: v2 :: w :: ls) (xi a :: st) (M) Q = Wp 77 28 (v0 :: v1 :: xjl v2 :: xi a :: ls) (st) (M) Q := wp_istore rfl rfl
theorem w77_28 {ls st : List xV} {M : xM} {Q : Option xV → xM → Prop} {a : Int} {v0 : xV} {v1 : xV} {v2 : xV} {v3 : xV} : Wp 77 28 (v0 :: v1 :: v2 :: v3 :: xi a :: ls) (st) (M) Q = Wp 77 31 (v0 :: v1 :: v2 :: xjl v3 :: xi (a + 1) :: ls) (st) (M) Q := wp_iinc rfl rfl rfl
theorem w77_31 {ls st : List xV} {M : xM} {Q : Option xV → xM → Prop}  : Wp 77 31 (ls) (st) (M) Q = Wp 77 7 (ls) (st) (M) Q := wp_goto rfl
theorem w77_34 {ls st : List xV} {M : xM} {Q : Option xV → xM → Prop} {a : Int} {v0 : xV} {v1 : xV} : Wp 77 34 (v0 :: v1 :: xi a :: ls) (st) (M) Q = Wp 77 35 (v0 :: v1 :: xi a :: ls) (xi a :: st) (M) Q := wp_iload rfl rfl
theorem w77_35 {ls : List xV} {M : xM} {Q : Option xV → xM → Prop} {a : Int} : Wp 77 35 (ls) ([xi a]) (M) Q = Q (some (xi a)) M := wp_iret rfl
theorem wc78 {M : xM} {Q : Option xV → xM → Prop} {a0 : Int} {a1 : Int} : Wc 78 [xi a0, xi a1] M Q = Wp 78 0 [xi a0, xi a1, xj, xj, xj, xj] [] M Q := rfl
theorem w78_0 {ls st : List xV} {M : xM} {Q : Option xV → xM → Prop}  : Wp 78 0 (ls) (st) (M) Q = Wp 78 3 (ls) (xl 7919 :: st) (M) Q := wp_lconst rfl
theorem w78_3 {ls st : List xV} {M : xM} {Q : Option xV → xM → Prop} {a : Int} : Wp 78 3 (xi a :: ls) (st) (M) Q = Wp 78 4 (xi a :: ls) (xi a :: st) (M) Q := wp_iload rfl rfl
theorem w78_4 {ls st : List xV} {M : xM} {Q : Option xV → xM → Prop} {a : Int} : Wp 78 4 (ls) (xi a :: st) (M) Q = Wp 78 5 (ls) (xl (xn a) :: st) (M) Q := wp_i2l' rfl
theorem w78_5 {ls st : List xV} {M : xM} {Q : Option xV → xM → Prop} {a : Int} {b : Int} : Wp 78 5 (ls) (xl b :: xl a :: st) (M) Q = Wp 78 6 (ls) (xl (a * b) :: st) (M) Q := wp_lbin (f := xmul) rfl
theorem w78_6 {ls st : List xV} {M : xM} {Q : Option xV → xM → Prop}  : Wp 78 6 (ls) (st) (M) Q = Wp 78 9 (ls) (xl 331 :: st) (M) Q := wp_lconst rfl
theorem w78_9 {ls st : List xV} {M : xM} {Q : Option xV → xM → Prop} {a : Int} {v0 : xV} : Wp 78 9 (v0 :: xi a :: ls) (st) (M) Q = Wp 78 10 (v0 :: xi a :: ls) (xi a :: st) (M) Q := wp_iload rfl rfl
theorem w78_10 {ls st : List xV} {M : xM} {Q : Option xV → xM → Prop} {a : Int} : Wp 78 10 (ls) (xi a :: st) (M) Q = Wp 78 11 (ls) (xl (xn a) :: st) (M) Q := wp_i2l' rfl
theorem w78_11 {ls st : List xV} {M : xM} {Q : Option xV → xM → Prop} {a : Int} {b : Int} : Wp 78 11 (ls) (xl b :: xl a :: st) (M) Q = Wp 78 12 (ls) (xl (a * b) :: st) (M) Q := wp_lbin (f := xmul) rfl
theorem w78_12 {ls st : List xV} {M : xM} {Q : Option xV → xM → Prop} {a : Int} {b : Int} : Wp 78 12 (ls) (xl b :: xl a :: st) (M) Q = Wp 78 13 (ls) (xl (a + b) :: st) (M) Q := wp_lbin (f := xadd) rfl
theorem w78_13 {ls st : List xV} {M : xM} {Q : Option xV → xM → Prop}  : Wp 78 13 (ls) (st) (M) Q = Wp 78 14 (ls) (xl 1 :: st) (M) Q := wp_lconst rfl
theorem w78_14 {ls st : List xV} {M : xM} {Q : Option xV → xM → Prop} {a : Int} {b : Int} : Wp 78 14 (ls) (xl b :: xl a :: st) (M) Q = Wp 78 15 (ls) (xl (a + b) :: st) (M) Q := wp_lbin (f := xadd) rfl
theorem w78_15 {ls st : List xV} {M : xM} {Q : Option xV → xM → Prop} {a : Int} {v0 : xV} {v1 : xV} {w : xV} {w2 : xV} : Wp 78 15 (v0 :: v1 :: w :: w2 :: ls) (xl a :: st) (M) Q = Wp 78 16 (v0 :: xjl v1 :: xl a :: xj :: ls) (st) (M) Q := wp_lstore rfl rfl
theorem w78_16 {ls st : List xV} {M : xM} {Q : Option xV → xM → Prop} {a : Int} {v0 : xV} {v1 : xV} : Wp 78 16 (v0 :: v1 :: xl a :: ls) (st) (M) Q = Wp 78 17 (v0 :: v1 :: xl a :: ls) (xl a :: st) (M) Q := wp_lload rfl rfl
theorem w78_17 {ls st : List xV} {M : xM} {Q : Option xV → xM → Prop} {a : Int} {v0 : xV} {v1 : xV} : Wp 78 17 (v0 :: v1 :: xl a :: ls) (st) (M) Q = Wp 78 18 (v0 :: v1 :: xl a :: ls) (xl a :: st) (M) Q := wp_lload rfl rfl
theorem w78_18 {ls st : List xV} {M : xM} {Q : Option xV → xM → Prop} {a : Int} {b : Int} : Wp 78 18 (ls) (xl b :: xl a :: st) (M) Q = Wp 78 19 (ls) (xl (a * b) :: st) (M) Q := wp_lbin (f := xmul) rfl
theorem w78_19 {ls st : List xV} {M : xM} {Q : Option xV → xM → Prop}  : Wp 78 19 (ls) (st) (M) Q = Wp 78 22 (ls) (xl 65521 :: st) (M) Q := wp_lconst rfl
theorem w78_22 {ls st : List xV} {M : xM} {Q : Option xV → xM → Prop} {a : Int} {b : Int} : Wp 78 22 (ls) (xl b :: xl a :: st) (M) Q = (¬ xnl64 b = 0 ∧ Wp 78 23 (ls) (xl ((xnl64 a).tmod (xnl64 b)) :: st) (M) Q) := wp_lrem rfl
theorem w78_23 {ls st : List xV} {M : xM} {Q : Option xV → xM → Prop}  : Wp 78 23 (ls) (st) (M) Q = Wp 78 26 (ls) (xl 8 :: st) (M) Q := wp_lconst rfl
theorem w78_26 {ls st : List xV} {M : xM} {Q : Option xV → xM → Prop} {a : Int} {b : Int} : Wp 78 26 (ls) (xl b :: xl a :: st) (M) Q = (¬ xnl64 b = 0 ∧ Wp 78 27 (ls) (xl ((xnl64 a).tdiv (xnl64 b)) :: st) (M) Q) := wp_ldiv rfl
theorem w78_27 {ls st : List xV} {M : xM} {Q : Option xV → xM → Prop} {a : Int} {v0 : xV} {v1 : xV} {v2 : xV} {v3 : xV} {w : xV} {w2 : xV} : Wp 78 27 (v0 :: v1 :: v2 :: v3 :: w :: w2 :: ls) (xl a :: st) (M) Q = Wp 78 29 (v0 :: v1 :: v2 :: xjl v3 :: xl a :: xj :: ls) (st) (M) Q := wp_lstore rfl rfl
theorem w78_29 {ls st : List xV} {M : xM} {Q : Option xV → xM → Prop} {a : Int} {v0 : xV} {v1 : xV} {v2 : xV} {v3 : xV} : Wp 78 29 (v0 :: v1 :: v2 :: v3 :: xl a :: ls) (st) (M) Q = Wp 78 31 (v0 :: v1 :: v2 :: v3 :: xl a :: ls) (xl a :: st) (M) Q := wp_lload rfl rfl
theorem w78_31 {ls st : List xV} {M : xM} {Q : Option xV → xM → Prop}  : Wp 78 31 (ls) (st) (M) Q = Wp 78 34 (ls) (xl 31 :: st) (M) Q := wp_lconst rfl
theorem w78_34 {ls st : List xV} {M : xM} {Q : Option xV → xM → Prop} {a : Int} {b : Int} : Wp 78 34 (ls) (xl b :: xl a :: st) (M) Q = (¬ xnl64 b = 0 ∧ Wp 78 35 (ls) (xl ((xnl64 a).tmod (xnl64 b)) :: st) (M) Q) := wp_lrem rfl
theorem w78_35 {ls st : List xV} {M : xM} {Q : Option xV → xM → Prop} {a : Int} : Wp 78 35 (ls) (xl a :: st) (M) Q = Wp 78 36 (ls) (xi a :: st) (M) Q := wp_l2i rfl
theorem w78_36 {ls : List xV} {M : xM} {Q : Option xV → xM → Prop} {a : Int} : Wp 78 36 (ls) ([xi a]) (M) Q = Q (some (xi a)) M := wp_iret rfl
theorem wc79 {M : xM} {Q : Option xV → xM → Prop} {a0 : Int} {a1 : Int} {a2 : Int} : Wc 79 [xi a0, xi a1, xi a2] M Q = Wp 79 0 [xi a0, xi a1, xi a2] [] M Q := rfl
theorem w79_0 {ls st : List xV} {M : xM} {Q : Option xV → xM → Prop} {a : Int} : Wp 79 0 (xi a :: ls) (st) (M) Q = Wp 79 1 (xi a :: ls) (xi a :: st) (M) Q := wp_iload rfl rfl
theorem w79_1 {ls st : List xV} {M : xM} {Q : Option xV → xM → Prop} {a : Int} {v0 : xV} : Wp 79 1 (v0 :: xi a :: ls) (st) (M) Q = Wp 79 2 (v0 :: xi a :: ls) (xi a :: st) (M) Q := wp_iload rfl rfl
theorem w79_2 {ls st : List xV} {M : xM} {Q : Option xV → xM → Prop} {a : Int} {b : Int} (ha : xG a) (hb : xG b) : Wp 79 2 (ls) (xi b :: xi a :: st) (M) Q = ((a < b → Wp 79 14 (ls) (st) (M) Q) ∧ (¬ (a < b) → Wp 79 5 (ls) (st) (M) Q)) := wp_cmp_lt rfl ha hb
theorem w79_5 {ls st : List xV} {M : xM} {Q : Option xV → xM → Prop} {a : Int} : Wp 79 5 (xi a :: ls) (st) (M) Q = Wp 79 6 (xi a :: ls) (xi a :: st) (M) Q := wp_iload rfl rfl
theorem w79_6 {ls st : List xV} {M : xM} {Q : Option xV → xM → Prop} {a : Int} {v0 : xV} {v1 : xV} : Wp 79 6 (v0 :: v1 :: xi a :: ls) (st) (M) Q = Wp 79 7 (v0 :: v1 :: xi a :: ls) (xi a :: st) (M) Q := wp_iload rfl rfl
theorem w79_7 {ls st : List xV} {M : xM} {Q : Option xV → xM → Prop} {a : Int} {b : Int} (ha : xG a) (hb : xG b) : Wp 79 7 (ls) (xi b :: xi a :: st) (M) Q = ((b < a → Wp 79 14 (ls) (st) (M) Q) ∧ (¬ (b < a) → Wp 79 10 (ls) (st) (M) Q)) := wp_cmp_gt rfl ha hb
theorem w79_10 {ls st : List xV} {M : xM} {Q : Option xV → xM → Prop}  : Wp 79 10 (ls) (st) (M) Q = Wp 79 11 (ls) (xi 1 :: st) (M) Q := wp_const rfl
theorem w79_11 {ls st : List xV} {M : xM} {Q : Option xV → xM → Prop}  : Wp 79 11 (ls) (st) (M) Q = Wp 79 15 (ls) (st) (M) Q := wp_goto rfl
theorem w79_14 {ls st : List xV} {M : xM} {Q : Option xV → xM → Prop}  : Wp 79 14 (ls) (st) (M) Q = Wp 79 15 (ls) (xi 0 :: st) (M) Q := wp_const rfl
theorem w79_15 {ls : List xV} {M : xM} {Q : Option xV → xM → Prop} {a : Int} (ha : a = 0 ∨ a = 1) : Wp 79 15 (ls) ([xi a]) (M) Q = Q (some (xi a)) M := wp_zret rfl ha
theorem wc80 {M : xM} {Q : Option xV → xM → Prop} {d0 : Nat} {a1 : Int} : Wc 80 [xr d0, xi a1] M Q = Wp 80 0 [xr d0, xi a1] [] M Q := rfl
theorem w80_0 {ls st : List xV} {M : xM} {Q : Option xV → xM → Prop} {a : Int} {v0 : xV} : Wp 80 0 (v0 :: xi a :: ls) (st) (M) Q = Wp 80 1 (v0 :: xi a :: ls) (xi a :: st) (M) Q := wp_iload rfl rfl
theorem w80_1 {ls st : List xV} {M : xM} {Q : Option xV → xM → Prop}  : Wp 80 1 (ls) (st) (M) Q = Wp 80 2 (ls) (xi 0 :: st) (M) Q := wp_const rfl
theorem w80_2 {ls st : List xV} {M : xM} {Q : Option xV → xM → Prop} {d : Nat} : Wp 80 2 (xr d :: ls) (st) (M) Q = Wp 80 3 (xr d :: ls) (xr d :: st) (M) Q := wp_aload rfl rfl
theorem w80_3 {ls st : List xV} {M : xM} {Q : Option xV → xM → Prop} {d : Nat} (hc : x_c d = 9) : Wp 80 3 (ls) (xr d :: st) (M) Q = Wp 80 6 (ls) (xr (x_r d 2) :: st) (M) Q := wp_getr rfl hc
theorem w80_6 {ls st : List xV} {M : xM} {Q : Option xV → xM → Prop}  : Wp 80 6 (ls) (st) (M) Q = Wp 80 7 (ls) (xi 1 :: st) (M) Q := wp_const rfl
theorem w80_7 {ls st : List xV} {M : xM} {Q : Option xV → xM → Prop} {a : Int} {d : Nat} (hc : x_c d = 20) (hn : x_n d = 25) (h1 : 0 ≤ a) (h2 : a < 25) : Wp 80 7 (ls) (xi a :: xr d :: st) (M) Q = Wp 80 8 (ls) (xi (M d a) :: st) (M) Q := wp_ald rfl hc h1 (by rw [hn]; exact h2)
theorem w80_8 {ls st : List xV} {M : xM} {Q : Option xV → xM → Prop}  : Wp 80 8 (ls) (st) (M) Q = Wp 80 9 (ls) (xi 1 :: st) (M) Q := wp_const rfl
theorem w80_9 {ls st : List xV} {M : xM} {Q : Option xV → xM → Prop} {a : Int} {b : Int} : Wp 80 9 (ls) (xi b :: xi a :: st) (M) Q = Wp 80 10 (ls) (xi (a - b) :: st) (M) Q := wp_bin (f := xsub) rfl
theorem w80_10 {ls : List xV} {M : xM} {Q : Option xV → xM → Prop} {a0 : Int} {a1 : Int} {a2 : Int} : Wp 80 10 (ls) (xi a2 :: xi a1 :: xi a0 :: []) (M) Q = Wc 79 [xi a0, xi a1, xi a2] M (fun r M2 => Wp 80 13 (ls) (r.toList ++ ([])) M2 Q) := wp_cS rfl rfl (Nat.le_of_ble_eq_true rfl) (Nat.le_of_ble_eq_true rfl) rfl rfl
theorem w80_13 {ls : List xV} {M : xM} {Q : Option xV → xM → Prop} {a : Int} (ha : a = 0 ∨ a = 1) : Wp 80 13 (ls) ([xi a]) (M) Q = Q (some (xi a)) M := wp_zret rfl ha
theorem wc81 {M : xM} {Q : Option xV → xM → Prop} {d0 : Nat} {a1 : Int} : Wc 81 [xr d0, xi a1] M Q = Wp 81 0 [xr d0, xi a1] [] M Q := rfl
theorem w81_0 {ls st : List xV} {M : xM} {Q : Option xV → xM → Prop} {a : Int} {v0 : xV} : Wp 81 0 (v0 :: xi a :: ls) (st) (M) Q = Wp 81 1 (v0 :: xi a :: ls) (xi a :: st) (M) Q := wp_iload rfl rfl
theorem w81_1 {ls st : List xV} {M : xM} {Q : Option xV → xM → Prop}  : Wp 81 1 (ls) (st) (M) Q = Wp 81 2 (ls) (xi 0 :: st) (M) Q := wp_const rfl
theorem w81_2 {ls st : List xV} {M : xM} {Q : Option xV → xM → Prop} {d : Nat} : Wp 81 2 (xr d :: ls) (st) (M) Q = Wp 81 3 (xr d :: ls) (xr d :: st) (M) Q := wp_aload rfl rfl
theorem w81_3 {ls st : List xV} {M : xM} {Q : Option xV → xM → Prop} {d : Nat} (hc : x_c d = 9) : Wp 81 3 (ls) (xr d :: st) (M) Q = Wp 81 6 (ls) (xr (x_r d 2) :: st) (M) Q := wp_getr rfl hc
theorem w81_6 {ls st : List xV} {M : xM} {Q : Option xV → xM → Prop}  : Wp 81 6 (ls) (st) (M) Q = Wp 81 7 (ls) (xi 2 :: st) (M) Q := wp_const rfl
theorem w81_7 {ls st : List xV} {M : xM} {Q : Option xV → xM → Prop} {a : Int} {d : Nat} (hc : x_c d = 20) (hn : x_n d = 25) (h1 : 0 ≤ a) (h2 : a < 25) : Wp 81 7 (ls) (xi a :: xr d :: st) (M) Q = Wp 81 8 (ls) (xi (M d a) :: st) (M) Q := wp_ald rfl hc h1 (by rw [hn]; exact h2)
theorem w81_8 {ls st : List xV} {M : xM} {Q : Option xV → xM → Prop}  : Wp 81 8 (ls) (st) (M) Q = Wp 81 9 (ls) (xi 1 :: st) (M) Q := wp_const rfl
theorem w81_9 {ls st : List xV} {M : xM} {Q : Option xV → xM → Prop} {a : Int} {b : Int} : Wp 81 9 (ls) (xi b :: xi a :: st) (M) Q = Wp 81 10 (ls) (xi (a - b) :: st) (M) Q := wp_bin (f := xsub) rfl
theorem w81_10 {ls : List xV} {M : xM} {Q : Option xV → xM → Prop} {a0 : Int} {a1 : Int} {a2 : Int} : Wp 81 10 (ls) (xi a2 :: xi a1 :: xi a0 :: []) (M) Q = Wc 79 [xi a0, xi a1, xi a2] M (fun r M2 => Wp 81 13 (ls) (r.toList ++ ([])) M2 Q) := wp_cS rfl rfl (Nat.le_of_ble_eq_true rfl) (Nat.le_of_ble_eq_true rfl) rfl rfl
theorem w81_13 {ls : List xV} {M : xM} {Q : Option xV → xM → Prop} {a : Int} (ha : a = 0 ∨ a = 1) : Wp 81 13 (ls) ([xi a]) (M) Q = Q (some (xi a)) M := wp_zret rfl ha
theorem wc82 {M : xM} {Q : Option xV → xM → Prop} {d0 : Nat} {a1 : Int} : Wc 82 [xr d0, xi a1] M Q = Wp 82 0 [xr d0, xi a1] [] M Q := rfl
theorem w82_0 {ls st : List xV} {M : xM} {Q : Option xV → xM → Prop} {a : Int} {v0 : xV} : Wp 82 0 (v0 :: xi a :: ls) (st) (M) Q = Wp 82 1 (v0 :: xi a :: ls) (xi a :: st) (M) Q := wp_iload rfl rfl
theorem w82_1 {ls st : List xV} {M : xM} {Q : Option xV → xM → Prop}  : Wp 82 1 (ls) (st) (M) Q = Wp 82 2 (ls) (xi 0 :: st) (M) Q := wp_const rfl
theorem w82_2 {ls st : List xV} {M : xM} {Q : Option xV → xM → Prop} {d : Nat} : Wp 82 2 (xr d :: ls) (st) (M) Q = Wp 82 3 (xr d :: ls) (xr d :: st) (M) Q := wp_aload rfl rfl
theorem w82_3 {ls st : List xV} {M : xM} {Q : Option xV → xM → Prop} {d : Nat} (hc : x_c d = 9) : Wp 82 3 (ls) (xr d :: st) (M) Q = Wp 82 6 (ls) (xr (x_r d 2) :: st) (M) Q := wp_getr rfl hc
theorem w82_6 {ls st : List xV} {M : xM} {Q : Option xV → xM → Prop}  : Wp 82 6 (ls) (st) (M) Q = Wp 82 7 (ls) (xi 0 :: st) (M) Q := wp_const rfl
theorem w82_7 {ls st : List xV} {M : xM} {Q : Option xV → xM → Prop} {a : Int} {d : Nat} (hc : x_c d = 20) (hn : x_n d = 25) (h1 : 0 ≤ a) (h2 : a < 25) : Wp 82 7 (ls) (xi a :: xr d :: st) (M) Q = Wp 82 8 (ls) (xi (M d a) :: st) (M) Q := wp_ald rfl hc h1 (by rw [hn]; exact h2)
theorem w82_8 {ls st : List xV} {M : xM} {Q : Option xV → xM → Prop}  : Wp 82 8 (ls) (st) (M) Q = Wp 82 9 (ls) (xi 1 :: st) (M) Q := wp_const rfl
theorem w82_9 {ls st : List xV} {M : xM} {Q : Option xV → xM → Prop} {a : Int} {b : Int} : Wp 82 9 (ls) (xi b :: xi a :: st) (M) Q = Wp 82 10 (ls) (xi (a - b) :: st) (M) Q := wp_bin (f := xsub) rfl
theorem w82_10 {ls : List xV} {M : xM} {Q : Option xV → xM → Prop} {a0 : Int} {a1 : Int} {a2 : Int} : Wp 82 10 (ls) (xi a2 :: xi a1 :: xi a0 :: []) (M) Q = Wc 79 [xi a0, xi a1, xi a2] M (fun r M2 => Wp 82 13 (ls) (r.toList ++ ([])) M2 Q) := wp_cS rfl rfl (Nat.le_of_ble_eq_true rfl) (Nat.le_of_ble_eq_true rfl) rfl rfl
theorem w82_13 {ls : List xV} {M : xM} {Q : Option xV → xM → Prop} {a : Int} (ha : a = 0 ∨ a = 1) : Wp 82 13 (ls) ([xi a]) (M) Q = Q (some (xi a)) M := wp_zret rfl ha
theorem wc83 {M : xM} {Q : Option xV → xM → Prop} {a0 : Int} : Wc 83 [xi a0] M Q = Wp 83 0 [xi a0, xj, xj] [] M Q := rfl
theorem w83_0 {ls st : List xV} {M : xM} {Q : Option xV → xM → Prop}  : Wp 83 0 (ls) (st) (M) Q = Wp 83 1 (ls) (xi 0 :: st) (M) Q := wp_const rfl
theorem w83_1 {ls st : List xV} {M : xM} {Q : Option xV → xM → Prop} {a : Int} {v0 : xV} {w : xV} : Wp 83 1 (v0 :: w :: ls) (xi a :: st) (M) Q = Wp 83 2 (xjl v0 :: xi a :: ls) (st) (M) Q := wp_istore rfl rfl
theorem w83_2 {ls st : List xV} {M : xM} {Q : Option xV → xM → Prop}  : Wp 83 2 (ls) (st) (M) Q = Wp 83 3 (ls) (xi 0 :: st) (M) Q := wp_const rfl
theorem w83_3 {ls st : List xV} {M : xM} {Q : Option xV → xM → Prop} {a : Int} {v0 : xV} {v1 : xV} {w : xV} : Wp 83 3 (v0 :: v1 :: w :: ls) (xi a :: st) (M) Q = Wp 83 4 (v0 :: xjl v1 :: xi a :: ls) (st) (M) Q := wp_istore rfl rfl
theorem w83_4 {ls st : List xV} {M : xM} {Q : Option xV → xM → Prop} {a : Int} {v0 : xV} {v1 : xV} : Wp 83 4 (v0 :: v1 :: xi a :: ls) (st) (M) Q = Wp 83 5 (v0 :: v1 :: xi a :: ls) (xi a :: st) (M) Q := wp_iload rfl rfl
theorem w83_5 {ls st : List xV} {M : xM} {Q : Option xV → xM → Prop}  : Wp 83 5 (ls) (st) (M) Q = Wp 83 7 (ls) (xi 24 :: st) (M) Q := wp_const rfl
theorem w83_7 {ls st : List xV} {M : xM} {Q : Option xV → xM → Prop} {a : Int} {b : Int} (ha : xG a) (hb : xG b) : Wp 83 7 (ls) (xi b :: xi a :: st) (M) Q = ((b ≤ a → Wp 83 24 (ls) (st) (M) Q) ∧ (¬ (b ≤ a) → Wp 83 10 (ls) (st) (M) Q)) := wp_cmp_ge rfl ha hb
theorem w83_10 {ls st : List xV} {M : xM} {Q : Option xV → xM → Prop} {a : Int} {v0 : xV} : Wp 83 10 (v0 :: xi a :: ls) (st) (M) Q = Wp 83 11 (v0 :: xi a :: ls) (xi a :: st) (M) Q := wp_iload rfl rfl
theorem w83_11 {ls st : List xV} {M : xM} {Q : Option xV → xM → Prop} {a : Int} : Wp 83 11 (xi a :: ls) (st) (M) Q = Wp 83 12 (xi a :: ls) (xi a :: st) (M) Q := wp_iload rfl rfl
theorem w83_12 {ls st : List xV} {M : xM} {Q : Option xV → xM → Prop} {a : Int} {v0 : xV} {v1 : xV} : Wp 83 12 (v0 :: v1 :: xi a :: ls) (st) (M) Q = Wp 83 13 (v0 :: v1 :: xi a :: ls) (xi a :: st) (M) Q := wp_iload rfl rfl
theorem w83_13 {ls st : List xV} {M : xM} {Q : Option xV → xM → Prop} {a : Int} {b : Int} : Wp 83 13 (ls) (xi b :: xi a :: st) (M) Q = Wp 83 14 (ls) (xi (xshr a b) :: st) (M) Q := wp_bin (f := xshr) rfl
theorem w83_14 {ls st : List xV} {M : xM} {Q : Option xV → xM → Prop}  : Wp 83 14 (ls) (st) (M) Q = Wp 83 15 (ls) (xi 1 :: st) (M) Q := wp_const rfl
theorem w83_15 {ls st : List xV} {M : xM} {Q : Option xV → xM → Prop} {a : Int} {b : Int} : Wp 83 15 (ls) (xi b :: xi a :: st) (M) Q = Wp 83 16 (ls) (xi (xand a b) :: st) (M) Q := wp_bin (f := xand) rfl
theorem w83_16 {ls st : List xV} {M : xM} {Q : Option xV → xM → Prop} {a : Int} {b : Int} : Wp 83 16 (ls) (xi b :: xi a :: st) (M) Q = Wp 83 17 (ls) (xi (a + b) :: st) (M) Q := wp_bin (f := xadd) rfl
theorem w83_17 {ls st : List xV} {M : xM} {Q : Option xV → xM → Prop} {a : Int} {v0 : xV} {w : xV} : Wp 83 17 (v0 :: w :: ls) (xi a :: st) (M) Q = Wp 83 18 (xjl v0 :: xi a :: ls) (st) (M) Q := wp_istore rfl rfl
theorem w83_18 {ls st : List xV} {M : xM} {Q : Option xV → xM → Prop} {a : Int} {v0 : xV} {v1 : xV} : Wp 83 18 (v0 :: v1 :: xi a :: ls) (st) (M) Q = Wp 83 21 (v0 :: xjl v1 :: xi (a + 1) :: ls) (st) (M) Q := wp_iinc rfl rfl rfl
theorem w83_21 {ls st : List xV} {M : xM} {Q : Option xV → xM → Prop}  : Wp 83 21 (ls) (st) (M) Q = Wp 83 4 (ls) (st) (M) Q := wp_goto rfl
theorem w83_24 {ls st : List xV} {M : xM} {Q : Option xV → xM → Prop} {a : Int} {v0 : xV} : Wp 83 24 (v0 :: xi a :: ls) (st) (M) Q = Wp 83 25 (v0 :: xi a :: ls) (xi a :: st) (M) Q := wp_iload rfl rfl
theorem w83_25 {ls : List xV} {M : xM} {Q : Option xV → xM → Prop} {a : Int} : Wp 83 25 (ls) ([xi a]) (M) Q = Q (some (xi a)) M := wp_iret rfl
theorem wc84 {M : xM} {Q : Option xV → xM → Prop} {d0 : Nat} {a1 : Int} : Wc 84 [xr d0, xi a1] M Q = Wp 84 0 [xr d0, xi a1] [] M Q := rfl
theorem w84_0 {ls st : List xV} {M : xM} {Q : Option xV → xM → Prop} {a : Int} {v0 : xV} : Wp 84 0 (v0 :: xi a :: ls) (st) (M) Q = Wp 84 1 (v0 :: xi a :: ls) (xi a :: st) (M) Q := wp_iload rfl rfl
theorem w84_1 {ls st : List xV} {M : xM} {Q : Option xV → xM → Prop}  : Wp 84 1 (ls) (st) (M) Q = Wp 84 3 (ls) (xi 32 :: st) (M) Q := wp_const rfl
theorem w84_3 {ls st : List xV} {M : xM} {Q : Option xV → xM → Prop}  : Wp 84 3 (ls) (st) (M) Q = Wp 84 5 (ls) (xi 126 :: st) (M) Q := wp_const rfl
theorem w84_5 {ls : List xV} {M : xM} {Q : Option xV → xM → Prop} {a0 : Int} {a1 : Int} {a2 : Int} : Wp 84 5 (ls) (xi a2 :: xi a1 :: xi a0 :: []) (M) Q = Wc 79 [xi a0, xi a1, xi a2] M (fun r M2 => Wp 84 8 (ls) (r.toList ++ ([])) M2 Q) := wp_cS rfl rfl (Nat.le_of_ble_eq_true rfl) (Nat.le_of_ble_eq_true rfl) rfl rfl
theorem w84_8 {ls st : List xV} {M : xM} {Q : Option xV → xM → Prop} {a : Int} (ha : xG a) : Wp 84 8 (ls) (xi a :: st) (M) Q = ((¬ a = 0 → Wp 84 13 (ls) (st) (M) Q) ∧ (¬ (¬ a = 0) → Wp 84 11 (ls) (st) (M) Q)) := wp_if_ne rfl ha
theorem w84_11 {ls st : List xV} {M : xM} {Q : Option xV → xM → Prop}  : Wp 84 11 (ls) (st) (M) Q = Wp 84 12 (ls) (xi (-1) :: st) (M) Q := wp_const rfl
theorem w84_12 {ls : List xV} {M : xM} {Q : Option xV → xM → Prop} {a : Int} : Wp 84 12 (ls) ([xi a]) (M) Q = Q (some (xi a)) M := wp_iret rfl
theorem w84_13 {ls st : List xV} {M : xM} {Q : Option xV → xM → Prop} {d : Nat} : Wp 84 13 (xr d :: ls) (st) (M) Q = Wp 84 14 (xr d :: ls) (xr d :: st) (M) Q := wp_aload rfl rfl
theorem w84_14 {ls st : List xV} {M : xM} {Q : Option xV → xM → Prop} {d : Nat} (hc : x_c d = 9) : Wp 84 14 (ls) (xr d :: st) (M) Q = Wp 84 17 (ls) (xi (M d 1) :: st) (M) Q := wp_getf rfl hc
theorem w84_17 {ls st : List xV} {M : xM} {Q : Option xV → xM → Prop}  : Wp 84 17 (ls) (st) (M) Q = Wp 84 20 (ls) (xi 200 :: st) (M) Q := wp_const rfl
theorem w84_20 {ls st : List xV} {M : xM} {Q : Option xV → xM → Prop} {a : Int} {b : Int} (ha : xG a) (hb : xG b) : Wp 84 20 (ls) (xi b :: xi a :: st) (M) Q = ((¬ a = b → Wp 84 26 (ls) (st) (M) Q) ∧ (¬ (¬ a = b) → Wp 84 23 (ls) (st) (M) Q)) := wp_cmp_ne rfl ha hb
theorem w84_23 {ls st : List xV} {M : xM} {Q : Option xV → xM → Prop}  : Wp 84 23 (ls) (st) (M) Q = Wp 84 25 (ls) (xi (-3) :: st) (M) Q := wp_const rfl
theorem w84_25 {ls : List xV} {M : xM} {Q : Option xV → xM → Prop} {a : Int} : Wp 84 25 (ls) ([xi a]) (M) Q = Q (some (xi a)) M := wp_iret rfl
theorem w84_26 {ls st : List xV} {M : xM} {Q : Option xV → xM → Prop} {d : Nat} : Wp 84 26 (xr d :: ls) (st) (M) Q = Wp 84 27 (xr d :: ls) (xr d :: st) (M) Q := wp_aload rfl rfl
theorem w84_27 {ls st : List xV} {M : xM} {Q : Option xV → xM → Prop} {d : Nat} (hc : x_c d = 9) : Wp 84 27 (ls) (xr d :: st) (M) Q = Wp 84 30 (ls) (xr (x_r d 0) :: st) (M) Q := wp_getr rfl hc
theorem w84_30 {ls st : List xV} {M : xM} {Q : Option xV → xM → Prop} {d : Nat} : Wp 84 30 (xr d :: ls) (st) (M) Q = Wp 84 31 (xr d :: ls) (xr d :: st) (M) Q := wp_aload rfl rfl
theorem w84_31 {ls st : List xV} {M : xM} {Q : Option xV → xM → Prop} {d : Nat} (hc : x_c d = 9) : Wp 84 31 (ls) (xr d :: st) (M) Q = Wp 84 34 (ls) (xi (M d 1) :: st) (M) Q := wp_getf rfl hc
theorem w84_34 {ls st : List xV} {M : xM} {Q : Option xV → xM → Prop} {a : Int} {v0 : xV} : Wp 84 34 (v0 :: xi a :: ls) (st) (M) Q = Wp 84 35 (v0 :: xi a :: ls) (xi a :: st) (M) Q := wp_iload rfl rfl
theorem w84_35 {ls st : List xV} {M : xM} {Q : Option xV → xM → Prop} {a : Int} {d : Nat} {x : Int} (hc : x_c d = 20) (hn : x_n d = 200) (h1 : 0 ≤ a) (h2 : a < 200) : Wp 84 35 (ls) (xi x :: xi a :: xr d :: st) (M) Q = Wp 84 36 (ls) (st) (xup M d a x) Q := wp_iast rfl hc h1 (by rw [hn]; exact h2)
theorem w84_36 {ls st : List xV} {M : xM} {Q : Option xV → xM → Prop} {d : Nat} : Wp 84 36 (xr d :: ls) (st) (M) Q = Wp 84 37 (xr d :: ls) (xr d :: st) (M) Q := wp_aload rfl rfl
theorem w84_37 {ls st : List xV} {M : xM} {Q : Option xV → xM → Prop} {d : Nat} : Wp 84 37 (ls) (xr d :: st) (M) Q = Wp 84 38 (ls) (xr d :: xr d :: st) (M) Q := wp_dupA rfl
theorem w84_38 {ls st : List xV} {M : xM} {Q : Option xV → xM → Prop} {d : Nat} (hc : x_c d = 9) : Wp 84 38 (ls) (xr d :: st) (M) Q = Wp 84 41 (ls) (xi (M d 1) :: st) (M) Q := wp_getf rfl hc
theorem w84_41 {ls st : List xV} {M : xM} {Q : Option xV → xM → Prop}  : Wp 84 41 (ls) (st) (M) Q = Wp 84 42 (ls) (xi 1 :: st) (M) Q := wp_const rfl
theorem w84_42 {ls st : List xV} {M : xM} {Q : Option xV → xM → Prop} {a : Int} {b : Int} : Wp 84 42 (ls) (xi b :: xi a :: st) (M) Q = Wp 84 43 (ls) (xi (a + b) :: st) (M) Q := wp_bin (f := xadd) rfl
theorem w84_43 {ls st : List xV} {M : xM} {Q : Option xV → xM → Prop} {a : Int} {d : Nat} (hc : x_c d = 9) : Wp 84 43 (ls) (xi a :: xr d :: st) (M) Q = Wp 84 46 (ls) (st) (xup M d 1 a) Q := wp_putf rfl hc
theorem w84_46 {ls st : List xV} {M : xM} {Q : Option xV → xM → Prop} {d : Nat} : Wp 84 46 (xr d :: ls) (st) (M) Q = Wp 84 47 (xr d :: ls) (xr d :: st) (M) Q := wp_aload rfl rfl
theorem w84_47 {ls st : List xV} {M : xM} {Q : Option xV → xM → Prop} {d : Nat} (hc : x_c d = 9) : Wp 84 47 (ls) (xr d :: st) (M) Q = Wp 84 50 (ls) (xi (M d 1) :: st) (M) Q := wp_getf rfl hc
theorem w84_50 {ls : List xV} {M : xM} {Q : Option xV → xM → Prop} {a : Int} : Wp 84 50 (ls) ([xi a]) (M) Q = Q (some (xi a)) M := wp_iret rfl
theorem wc85 {M : xM} {Q : Option xV → xM → Prop} {d0 : Nat} : Wc 85 [xr d0] M Q = Wp 85 0 [xr d0, xj] [] M Q := rfl
theorem w85_0 {ls st : List xV} {M : xM} {Q : Option xV → xM → Prop} {d : Nat} : Wp 85 0 (xr d :: ls) (st) (M) Q = Wp 85 1 (xr d :: ls) (xr d :: st) (M) Q := wp_aload rfl rfl
theorem w85_1 {ls st : List xV} {M : xM} {Q : Option xV → xM → Prop} {d : Nat} (hc : x_c d = 9) : Wp 85 1 (ls) (xr d :: st) (M) Q = Wp 85 4 (ls) (xi (M d 1) :: st) (M) Q := wp_getf rfl hc
theorem w85_4 {ls st : List xV} {M : xM} {Q : Option xV → xM → Prop} {a : Int} {v0 : xV} {w : xV} : Wp 85 4 (v0 :: w :: ls) (xi a :: st) (M) Q = Wp 85 5 (xjl v0 :: xi a :: ls) (st) (M) Q := wp_istore rfl rfl
theorem w85_5 {ls st : List xV} {M : xM} {Q : Option xV → xM → Prop} {d : Nat} : Wp 85 5 (xr d :: ls) (st) (M) Q = Wp 85 6 (xr d :: ls) (xr d :: st) (M) Q := wp_aload rfl rfl
theorem w85_6 {ls st : List xV} {M : xM} {Q : Option xV → xM → Prop}  : Wp 85 6 (ls) (st) (M) Q = Wp 85 7 (ls) (xi 0 :: st) (M) Q := wp_const rfl
theorem w85_7 {ls st : List xV} {M : xM} {Q : Option xV → xM → Prop} {a : Int} {d : Nat} (hc : x_c d = 9) : Wp 85 7 (ls) (xi a :: xr d :: st) (M) Q = Wp 85 10 (ls) (st) (xup M d 1 a) Q := wp_putf rfl hc
theorem w85_10 {ls st : List xV} {M : xM} {Q : Option xV → xM → Prop} {a : Int} {v0 : xV} : Wp 85 10 (v0 :: xi a :: ls) (st) (M) Q = Wp 85 11 (v0 :: xi a :: ls) (xi a :: st) (M) Q := wp_iload rfl rfl
theorem w85_11 {ls : List xV} {M : xM} {Q : Option xV → xM → Prop} {a : Int} : Wp 85 11 (ls) ([xi a]) (M) Q = Q (some (xi a)) M := wp_iret rfl
theorem wc86 {M : xM} {Q : Option xV → xM → Prop} {d0 : Nat} {a1 : Int} : Wc 86 [xr d0, xi a1] M Q = Wp 86 0 [xr d0, xi a1] [] M Q := rfl
theorem w86_0 {ls st : List xV} {M : xM} {Q : Option xV → xM → Prop} {a : Int} {v0 : xV} : Wp 86 0 (v0 :: xi a :: ls) (st) (M) Q = Wp 86 1 (v0 :: xi a :: ls) (xi a :: st) (M) Q := wp_iload rfl rfl
theorem w86_1 {ls st : List xV} {M : xM} {Q : Option xV → xM → Prop} {d : Nat} : Wp 86 1 (xr d :: ls) (st) (M) Q = Wp 86 2 (xr d :: ls) (xr d :: st) (M) Q := wp_aload rfl rfl
theorem w86_2 {ls st : List xV} {M : xM} {Q : Option xV → xM → Prop} {d : Nat} (hc : x_c d = 9) : Wp 86 2 (ls) (xr d :: st) (M) Q = Wp 86 5 (ls) (xi (M d 1) :: st) (M) Q := wp_getf rfl hc
theorem w86_5 {ls st : List xV} {M : xM} {Q : Option xV → xM → Prop} {a : Int} {b : Int} (ha : xG a) (hb : xG b) : Wp 86 5 (ls) (xi b :: xi a :: st) (M) Q = ((b ≤ a → Wp 86 17 (ls) (st) (M) Q) ∧ (¬ (b ≤ a) → Wp 86 8 (ls) (st) (M) Q)) := wp_cmp_ge rfl ha hb
theorem w86_8 {ls st : List xV} {M : xM} {Q : Option xV → xM → Prop} {d : Nat} : Wp 86 8 (xr d :: ls) (st) (M) Q = Wp 86 9 (xr d :: ls) (xr d :: st) (M) Q := wp_aload rfl rfl
theorem w86_9 {ls st : List xV} {M : xM} {Q : Option xV → xM → Prop} {d : Nat} (hc : x_c d = 9) : Wp 86 9 (ls) (xr d :: st) (M) Q = Wp 86 12 (ls) (xr (x_r d 0) :: st) (M) Q := wp_getr rfl hc
theorem w86_12 {ls st : List xV} {M : xM} {Q : Option xV → xM → Prop} {a : Int} {v0 : xV} : Wp 86 12 (v0 :: xi a :: ls) (st) (M) Q = Wp 86 13 (v0 :: xi a :: ls) (xi a :: st) (M) Q := wp_iload rfl rfl
theorem w86_13 {ls st : List xV} {M : xM} {Q : Option xV → xM → Prop} {a : Int} {d : Nat} (hc : x_c d = 20) (hn : x_n d = 200) (h1 : 0 ≤ a) (h2 : a < 200) : Wp 86 13 (ls) (xi a :: xr d :: st) (M) Q = Wp 86 14 (ls) (xi (M d a) :: st) (M) Q := wp_ald rfl hc h1 (by rw [hn]; exact h2)
theorem w86_14 {ls st : List xV} {M : xM} {Q : Option xV → xM → Prop}  : Wp 86 14 (ls) (st) (M) Q = Wp 86 18 (ls) (st) (M) Q := wp_goto rfl
theorem w86_17 {ls st : List xV} {M : xM} {Q : Option xV → xM → Prop}  : Wp 86 17 (ls) (st) (M) Q = Wp 86 18 (ls) (xi (-1) :: st) (M) Q := wp_const rfl
theorem w86_18 {ls : List xV} {M : xM} {Q : Option xV → xM → Prop} {a : Int} : Wp 86 18 (ls) ([xi a]) (M) Q = Q (some (xi a)) M := wp_iret rfl
theorem wc87 {M : xM} {Q : Option xV → xM → Prop} {a0 : Int} : Wc 87 [xi a0] M Q = Wp 87 0 [xi a0] [] M Q := rfl
theorem w87_0 {ls st : List xV} {M : xM} {Q : Option xV → xM → Prop} {a : Int} : Wp 87 0 (xi a :: ls) (st) (M) Q = Wp 87 1 (xi a :: ls) (xi a :: st) (M) Q := wp_iload rfl rfl
theorem w87_1 {ls st : List xV} {M : xM} {Q : Option xV → xM → Prop}  : Wp 87 1 (ls) (st) (M) Q = Wp 87 3 (ls) (xi 48 :: st) (M) Q := wp_const rfl
theorem w87_3 {ls st : List xV} {M : xM} {Q : Option xV → xM → Prop}  : Wp 87 3 (ls) (st) (M) Q = Wp 87 5 (ls) (xi 57 :: st) (M) Q := wp_const rfl
theorem w87_5 {ls : List xV} {M : xM} {Q : Option xV → xM → Prop} {a0 : Int} {a1 : Int} {a2 : Int} : Wp 87 5 (ls) (xi a2 :: xi a1 :: xi a0 :: []) (M) Q = Wc 79 [xi a0, xi a1, xi a2] M (fun r M2 => Wp 87 8 (ls) (r.toList ++ ([])) M2 Q) := wp_cS rfl rfl (Nat.le_of_ble_eq_true rfl) (Nat.le_of_ble_eq_true rfl) rfl rfl
theorem w87_8 {ls : List xV} {M : xM} {Q : Option xV → xM → Prop} {a : Int} (ha : a = 0 ∨ a = 1) : Wp 87 8 (ls) ([xi a]) (M) Q = Q (some (xi a)) M := wp_zret rfl ha
theorem wc88 {M : xM} {Q : Option xV → xM → Prop} {d0 : Nat} {a1 : Int} {a2 : Int} {a3 : Int} : Wc 88 [xr d0, xi a1, xi a2, xi a3] M Q = Wp 88 0 [xr d0, xi a1, xi a2, xi a3, xj, xj] [] M Q := rfl
theorem w88_0 {ls st : List xV} {M : xM} {Q : Option xV → xM → Prop} {d : Nat} : Wp 88 0 (xr d :: ls) (st) (M) Q = Wp 88 1 (xr d :: ls) (xr d :: st) (M) Q := wp_aload rfl rfl
theorem w88_1 {ls st : List xV} {M : xM} {Q : Option xV → xM → Prop} {d : Nat} : Wp 88 1 (xr d :: ls) (st) (M) Q = Wp 88 2 (xr d :: ls) (xr d :: st) (M) Q := wp_aload rfl rfl
theorem w88_2 {ls st : List xV} {M : xM} {Q : Option xV → xM → Prop} {d : Nat} (hc : x_c d = 9) : Wp 88 2 (ls) (xr d :: st) (M) Q = Wp 88 5 (ls) (xi (M d 12) :: st) (M) Q := wp_getf rfl hc
theorem w88_5 {ls : List xV} {M : xM} {Q : Option xV → xM → Prop} {a1 : Int} {d0 : Nat} (hc : x_c d0 = 9) : Wp 88 5 (ls) (xi a1 :: xr d0 :: []) (M) Q = Wc 86 [xr d0, xi a1] M (fun r M2 => Wp 88 8 (ls) (r.toList ++ ([])) M2 Q) := wp_cV rfl rfl hc (Nat.le_of_ble_eq_true rfl) (Nat.le_of_ble_eq_true rfl) rfl rfl
theorem w88_8 {ls : List xV} {M : xM} {Q : Option xV → xM → Prop} {a0 : Int} : Wp 88 8 (ls) (xi a0 :: []) (M) Q = Wc 87 [xi a0] M (fun r M2 => Wp 88 11 (ls) (r.toList ++ ([])) M2 Q) := wp_cS rfl rfl (Nat.le_of_ble_eq_true rfl) (Nat.le_of_ble_eq_true rfl) rfl rfl
theorem w88_11 {ls st : List xV} {M : xM} {Q : Option xV → xM → Prop} {a : Int} (ha : xG a) : Wp 88 11 (ls) (xi a :: st) (M) Q = ((¬ a = 0 → Wp 88 16 (ls) (st) (M) Q) ∧ (¬ (¬ a = 0) → Wp 88 14 (ls) (st) (M) Q)) := wp_if_ne rfl ha
theorem w88_14 {ls st : List xV} {M : xM} {Q : Option xV → xM → Prop}  : Wp 88 14 (ls) (st) (M) Q = Wp 88 15 (ls) (xi (-1) :: st) (M) Q := wp_const rfl
theorem w88_15 {ls : List xV} {M : xM} {Q : Option xV → xM → Prop} {a : Int} : Wp 88 15 (ls) ([xi a]) (M) Q = Q (some (xi a)) M := wp_iret rfl
theorem w88_16 {ls st : List xV} {M : xM} {Q : Option xV → xM → Prop} {d : Nat} : Wp 88 16 (xr d :: ls) (st) (M) Q = Wp 88 17 (xr d :: ls) (xr d :: st) (M) Q := wp_aload rfl rfl
theorem w88_17 {ls st : List xV} {M : xM} {Q : Option xV → xM → Prop} {d : Nat} : Wp 88 17 (xr d :: ls) (st) (M) Q = Wp 88 18 (xr d :: ls) (xr d :: st) (M) Q := wp_aload rfl rfl
theorem w88_18 {ls st : List xV} {M : xM} {Q : Option xV → xM → Prop} {d : Nat} (hc : x_c d = 9) : Wp 88 18 (ls) (xr d :: st) (M) Q = Wp 88 21 (ls) (xi (M d 12) :: st) (M) Q := wp_getf rfl hc
theorem w88_21 {ls : List xV} {M : xM} {Q : Option xV → xM → Prop} {a1 : Int} {d0 : Nat} (hc : x_c d0 = 9) : Wp 88 21 (ls) (xi a1 :: xr d0 :: []) (M) Q = Wc 86 [xr d0, xi a1] M (fun r M2 => Wp 88 24 (ls) (r.toList ++ ([])) M2 Q) := wp_cV rfl rfl hc (Nat.le_of_ble_eq_true rfl) (Nat.le_of_ble_eq_true rfl) rfl rfl
theorem w88_24 {ls st : List xV} {M : xM} {Q : Option xV → xM → Prop}  : Wp 88 24 (ls) (st) (M) Q = Wp 88 26 (ls) (xi 48 :: st) (M) Q := wp_const rfl
theorem w88_26 {ls st : List xV} {M : xM} {Q : Option xV → xM → Prop} {a : Int} {b : Int} : Wp 88 26 (ls) (xi b :: xi a :: st) (M) Q = Wp 88 27 (ls) (xi (a - b) :: st) (M) Q := wp_bin (f := xsub) rfl
theorem w88_27 {ls st : List xV} {M : xM} {Q : Option xV → xM → Prop} {a : Int} {v0 : xV} {v1 : xV} {v2 : xV} {v3 : xV} {w : xV} : Wp 88 27 (v0 :: v1 :: v2 :: v3 :: w :: ls) (xi a :: st) (M) Q = Wp 88 29 (v0 :: v1 :: v2 :: xjl v3 :: xi a :: ls) (st) (M) Q := wp_istore rfl rfl
theorem w88_29 {ls st : List xV} {M : xM} {Q : Option xV → xM → Prop} {d : Nat} : Wp 88 29 (xr d :: ls) (st) (M) Q = Wp 88 30 (xr d :: ls) (xr d :: st) (M) Q := wp_aload rfl rfl
theorem w88_30 {ls st : List xV} {M : xM} {Q : Option xV → xM → Prop} {d : Nat} : Wp 88 30 (ls) (xr d :: st) (M) Q = Wp 88 31 (ls) (xr d :: xr d :: st) (M) Q := wp_dupA rfl
theorem w88_31 {ls st : List xV} {M : xM} {Q : Option xV → xM → Prop} {d : Nat} (hc : x_c d = 9) : Wp 88 31 (ls) (xr d :: st) (M) Q = Wp 88 34 (ls) (xi (M d 12) :: st) (M) Q := wp_getf rfl hc
theorem w88_34 {ls st : List xV} {M : xM} {Q : Option xV → xM → Prop}  : Wp 88 34 (ls) (st) (M) Q = Wp 88 35 (ls) (xi 1 :: st) (M) Q := wp_const rfl
theorem w88_35 {ls st : List xV} {M : xM} {Q : Option xV → xM → Prop} {a : Int} {b : Int} : Wp 88 35 (ls) (xi b :: xi a :: st) (M) Q = Wp 88 36 (ls) (xi (a + b) :: st) (M) Q := wp_bin (f := xadd) rfl
theorem w88_36 {ls st : List xV} {M : xM} {Q : Option xV → xM → Prop} {a : Int} {d : Nat} (hc : x_c d = 9) : Wp 88 36 (ls) (xi a :: xr d :: st) (M) Q = Wp 88 39 (ls) (st) (xup M d 12 a) Q := wp_putf rfl hc
theorem w88_39 {ls st : List xV} {M : xM} {Q : Option xV → xM → Prop} {d : Nat} : Wp 88 39 (xr d :: ls) (st) (M) Q = Wp 88 40 (xr d :: ls) (xr d :: st) (M) Q := wp_aload rfl rfl
theorem w88_40 {ls st : List xV} {M : xM} {Q : Option xV → xM → Prop} {d : Nat} : Wp 88 40 (xr d :: ls) (st) (M) Q = Wp 88 41 (xr d :: ls) (xr d :: st) (M) Q := wp_aload rfl rfl
theorem w88_41 {ls st : List xV} {M : xM} {Q : Option xV → xM → Prop} {d : Nat} (hc : x_c d = 9) : Wp 88 41 (ls) (xr d :: st) (M) Q = Wp 88 44 (ls) (xi (M d 12) :: st) (M) Q := wp_getf rfl hc
theorem w88_44 {ls : List xV} {M : xM} {Q : Option xV → xM → Prop} {a1 : Int} {d0 : Nat} (hc : x_c d0 = 9) : Wp 88 44 (ls) (xi a1 :: xr d0 :: []) (M) Q = Wc 86 [xr d0, xi a1] M (fun r M2 => Wp 88 47 (ls) (r.toList ++ ([])) M2 Q) := wp_cV rfl rfl hc (Nat.le_of_ble_eq_true rfl) (Nat.le_of_ble_eq_true rfl) rfl rfl
theorem w88_47 {ls : List xV} {M : xM} {Q : Option xV → xM → Prop} {a0 : Int} : Wp 88 47 (ls) (xi a0 :: []) (M) Q = Wc 87 [xi a0] M (fun r M2 => Wp 88 50 (ls) (r.toList ++ ([])) M2 Q) := wp_cS rfl rfl (Nat.le_of_ble_eq_true rfl) (Nat.le_of_ble_eq_true rfl) rfl rfl
theorem w88_50 {ls st : List xV} {M : xM} {Q : Option xV → xM → Prop} {a : Int} (ha : xG a) : Wp 88 50 (ls) (xi a :: st) (M) Q = ((a = 0 → Wp 88 82 (ls) (st) (M) Q) ∧ (¬ (a = 0) → Wp 88 53 (ls) (st) (M) Q)) := wp_if_eq rfl ha
theorem w88_53 {ls st : List xV} {M : xM} {Q : Option xV → xM → Prop}  : Wp 88 53 (ls) (st) (M) Q = Wp 88 55 (ls) (xi 10 :: st) (M) Q := wp_const rfl
theorem w88_55 {ls st : List xV} {M : xM} {Q : Option xV → xM → Prop} {a : Int} {v0 : xV} {v1 : xV} {v2 : xV} {v3 : xV} : Wp 88 55 (v0 :: v1 :: v2 :: v3 :: xi a :: ls) (st) (M) Q = Wp 88 57 (v0 :: v1 :: v2 :: v3 :: xi a :: ls) (xi a :: st) (M) Q := wp_iload rfl rfl
theorem w88_57 {ls st : List xV} {M : xM} {Q : Option xV → xM → Prop} {a : Int} {b : Int} : Wp 88 57 (ls) (xi b :: xi a :: st) (M) Q = Wp 88 58 (ls) (xi (a * b) :: st) (M) Q := wp_bin (f := xmul) rfl
theorem w88_58 {ls st : List xV} {M : xM} {Q : Option xV → xM → Prop} {d : Nat} : Wp 88 58 (xr d :: ls) (st) (M) Q = Wp 88 59 (xr d :: ls) (xr d :: st) (M) Q := wp_aload rfl rfl
theorem w88_59 {ls st : List xV} {M : xM} {Q : Option xV → xM → Prop} {d : Nat} : Wp 88 59 (xr d :: ls) (st) (M) Q = Wp 88 60 (xr d :: ls) (xr d :: st) (M) Q := wp_aload rfl rfl
theorem w88_60 {ls st : List xV} {M : xM} {Q : Option xV → xM → Prop} {d : Nat} (hc : x_c d = 9) : Wp 88 60 (ls) (xr d :: st) (M) Q = Wp 88 63 (ls) (xi (M d 12) :: st) (M) Q := wp_getf rfl hc
theorem w88_63 {ls : List xV} {M : xM} {Q : Option xV → xM → Prop} {a1 : Int} {d0 : Nat} {s0 : xV} (hc : x_c d0 = 9) : Wp 88 63 (ls) (xi a1 :: xr d0 :: s0 :: []) (M) Q = Wc 86 [xr d0, xi a1] M (fun r M2 => Wp 88 66 (ls) (r.toList ++ (s0 :: [])) M2 Q) := wp_cV rfl rfl hc (Nat.le_of_ble_eq_true rfl) (Nat.le_of_ble_eq_true rfl) rfl rfl
theorem w88_66 {ls st : List xV} {M : xM} {Q : Option xV → xM → Prop} {a : Int} {b : Int} : Wp 88 66 (ls) (xi b :: xi a :: st) (M) Q = Wp 88 67 (ls) (xi (a + b) :: st) (M) Q := wp_bin (f := xadd) rfl
theorem w88_67 {ls st : List xV} {M : xM} {Q : Option xV → xM → Prop}  : Wp 88 67 (ls) (st) (M) Q = Wp 88 69 (ls) (xi 48 :: st) (M) Q := wp_const rfl
theorem w88_69 {ls st : List xV} {M : xM} {Q : Option xV → xM → Prop} {a : Int} {b : Int} : Wp 88 69 (ls) (xi b :: xi a :: st) (M) Q = Wp 88 70 (ls) (xi (a - b) :: st) (M) Q := wp_bin (f := xsub) rfl
theorem w88_70 {ls st : List xV} {M : xM} {Q : Option xV → xM → Prop} {a : Int} {v0 : xV} {v1 : xV} {v2 : xV} {v3 : xV} {w : xV} : Wp 88 70 (v0 :: v1 :: v2 :: v3 :: w :: ls) (xi a :: st) (M) Q = Wp 88 72 (v0 :: v1 :: v2 :: xjl v3 :: xi a :: ls) (st) (M) Q := wp_istore rfl rfl
theorem w88_72 {ls st : List xV} {M : xM} {Q : Option xV → xM → Prop} {d : Nat} : Wp 88 72 (xr d :: ls) (st) (M) Q = Wp 88 73 (xr d :: ls) (xr d :: st) (M) Q := wp_aload rfl rfl
theorem w88_73 {ls st : List xV} {M : xM} {Q : Option xV → xM → Prop} {d : Nat} : Wp 88 73 (ls) (xr d :: st) (M) Q = Wp 88 74 (ls) (xr d :: xr d :: st) (M) Q := wp_dupA rfl
theorem w88_74 {ls st : List xV} {M : xM} {Q : Option xV → xM → Prop} {d : Nat} (hc : x_c d = 9) : Wp 88 74 (ls) (xr d :: st) (M) Q = Wp 88 77 (ls) (xi (M d 12) :: st) (M) Q := wp_getf rfl hc
theorem w88_77 {ls st : List xV} {M : xM} {Q : Option xV → xM → Prop}  : Wp 88 77 (ls) (st) (M) Q = Wp 88 78 (ls) (xi 1 :: st) (M) Q := wp_const rfl
theorem w88_78 {ls st : List xV} {M : xM} {Q : Option xV → xM → Prop} {a : Int} {b : Int} : Wp 88 78 (ls) (xi b :: xi a :: st) (M) Q = Wp 88 79 (ls) (xi (a + b) :: st) (M) Q := wp_bin (f := xadd) rfl
theorem w88_79 {ls st : List xV} {M : xM} {Q : Option xV → xM → Prop} {a : Int} {d : Nat} (hc : x_c d = 9) : Wp 88 79 (ls) (xi a :: xr d :: st) (M) Q = Wp 88 82 (ls) (st) (xup M d 12 a) Q := wp_putf rfl hc
theorem w88_82 {ls st : List xV} {M : xM} {Q : Option xV → xM → Prop} {d : Nat} : Wp 88 82 (xr d :: ls) (st) (M) Q = Wp 88 83 (xr d :: ls) (xr d :: st) (M) Q := wp_aload rfl rfl
theorem w88_83 {ls st : List xV} {M : xM} {Q : Option xV → xM → Prop} {d : Nat} : Wp 88 83 (xr d :: ls) (st) (M) Q = Wp 88 84 (xr d :: ls) (xr d :: st) (M) Q := wp_aload rfl rfl
theorem w88_84 {ls st : List xV} {M : xM} {Q : Option xV → xM → Prop} {d : Nat} (hc : x_c d = 9) : Wp 88 84 (ls) (xr d :: st) (M) Q = Wp 88 87 (ls) (xi (M d 12) :: st) (M) Q := wp_getf rfl hc
theorem w88_87 {ls : List xV} {M : xM} {Q : Option xV → xM → Prop} {a1 : Int} {d0 : Nat} (hc : x_c d0 = 9) : Wp 88 87 (ls) (xi a1 :: xr d0 :: []) (M) Q = Wc 86 [xr d0, xi a1] M (fun r M2 => Wp 88 90 (ls) (r.toList ++ ([])) M2 Q) := wp_cV rfl rfl hc (Nat.le_of_ble_eq_true rfl) (Nat.le_of_ble_eq_true rfl) rfl rfl
theorem w88_90 {ls st : List xV} {M : xM} {Q : Option xV → xM → Prop} {a : Int} {v0 : xV} {v1 : xV} {v2 : xV} : Wp 88 90 (v0 :: v1 :: v2 :: xi a :: ls) (st) (M) Q = Wp 88 91 (v0 :: v1 :: v2 :: xi a :: ls) (xi a :: st) (M) Q := wp_iload rfl rfl
theorem w88_91 {ls st : List xV} {M : xM} {Q : Option xV → xM → Prop} {a : Int} {b : Int} (ha : xG a) (hb : xG b) : Wp 88 91 (ls) (xi b :: xi a :: st) (M) Q = ((¬ a = b → Wp 88 108 (ls) (st) (M) Q) ∧ (¬ (¬ a = b) → Wp 88 94 (ls) (st) (M) Q)) := wp_cmp_ne rfl ha hb
theorem w88_94 {ls st : List xV} {M : xM} {Q : Option xV → xM → Prop} {a : Int} {v0 : xV} {v1 : xV} {v2 : xV} {v3 : xV} : Wp 88 94 (v0 :: v1 :: v2 :: v3 :: xi a :: ls) (st) (M) Q = Wp 88 96 (v0 :: v1 :: v2 :: v3 :: xi a :: ls) (xi a :: st) (M) Q := wp_iload rfl rfl
theorem w88_96 {ls st : List xV} {M : xM} {Q : Option xV → xM → Prop} {a : Int} {v0 : xV} : Wp 88 96 (v0 :: xi a :: ls) (st) (M) Q = Wp 88 97 (v0 :: xi a :: ls) (xi a :: st) (M) Q := wp_iload rfl rfl
theorem w88_97 {ls st : List xV} {M : xM} {Q : Option xV → xM → Prop} {a : Int} {v0 : xV} {v1 : xV} : Wp 88 97 (v0 :: v1 :: xi a :: ls) (st) (M) Q = Wp 88 98 (v0 :: v1 :: xi a :: ls) (xi a :: st) (M) Q := wp_iload rfl rfl
theorem w88_98 {ls : List xV} {M : xM} {Q : Option xV → xM → Prop} {a0 : Int} {a1 : Int} {a2 : Int} : Wp 88 98 (ls) (xi a2 :: xi a1 :: xi a0 :: []) (M) Q = Wc 79 [xi a0, xi a1, xi a2] M (fun r M2 => Wp 88 101 (ls) (r.toList ++ ([])) M2 Q) := wp_cS rfl rfl (Nat.le_of_ble_eq_true rfl) (Nat.le_of_ble_eq_true rfl) rfl rfl
theorem w88_101 {ls st : List xV} {M : xM} {Q : Option xV → xM → Prop} {a : Int} (ha : xG a) : Wp 88 101 (ls) (xi a :: st) (M) Q = ((a = 0 → Wp 88 108 (ls) (st) (M) Q) ∧ (¬ (a = 0) → Wp 88 104 (ls) (st) (M) Q)) := wp_if_eq rfl ha
theorem w88_104 {ls st : List xV} {M : xM} {Q : Option xV → xM → Prop}  : Wp 88 104 (ls) (st) (M) Q = Wp 88 105 (ls) (xi 1 :: st) (M) Q := wp_const rfl
theorem w88_105 {ls st : List xV} {M : xM} {Q : Option xV → xM → Prop}  : Wp 88 105 (ls) (st) (M) Q = Wp 88 109 (ls) (st) (M) Q := wp_goto rfl
theorem w88_108 {ls st : List xV} {M : xM} {Q : Option xV → xM → Prop}  : Wp 88 108 (ls) (st) (M) Q = Wp 88 109 (ls) (xi 0 :: st) (M) Q := wp_const rfl
theorem w88_109 {ls st : List xV} {M : xM} {Q : Option xV → xM → Prop} {a : Int} {v0 : xV} {v1 : xV} {v2 : xV} {v3 : xV} {v4 : xV} {w : xV} : Wp 88 109 (v0 :: v1 :: v2 :: v3 :: v4 :: w :: ls) (xi a :: st) (M) Q = Wp 88 111 (v0 :: v1 :: v2 :: v3 :: xjl v4 :: xi a :: ls) (st) (M) Q := wp_istore rfl rfl
theorem w88_111 {ls st : List xV} {M : xM} {Q : Option xV → xM → Prop} {d : Nat} : Wp 88 111 (xr d :: ls) (st) (M) Q = Wp 88 112 (xr d :: ls) (xr d :: st) (M) Q := wp_aload rfl rfl
theorem w88_112 {ls st : List xV} {M : xM} {Q : Option xV → xM → Prop} {d : Nat} : Wp 88 112 (ls) (xr d :: st) (M) Q = Wp 88 113 (ls) (xr d :: xr d :: st) (M) Q := wp_dupA rfl
theorem w88_113 {ls st : List xV} {M : xM} {Q : Option xV → xM → Prop} {d : Nat} (hc : x_c d = 9) : Wp 88 113 (ls) (xr d :: st) (M) Q = Wp 88 116 (ls) (xi (M d 12) :: st) (M) Q := wp_getf rfl hc
theorem w88_116 {ls st : List xV} {M : xM} {Q : Option xV → xM → Prop}  : Wp 88 116 (ls) (st) (M) Q = Wp 88 117 (ls) (xi 1 :: st) (M) Q := wp_const rfl
theorem w88_117 {ls st : List xV} {M : xM} {Q : Option xV → xM → Prop} {a : Int} {b : Int} : Wp 88 117 (ls) (xi b :: xi a :: st) (M) Q = Wp 88 118 (ls) (xi (a + b) :: st) (M) Q := wp_bin (f := xadd) rfl
theorem w88_118 {ls st : List xV} {M : xM} {Q : Option xV → xM → Prop} {a : Int} {d : Nat} (hc : x_c d = 9) : Wp 88 118 (ls) (xi a :: xr d :: st) (M) Q = Wp 88 121 (ls) (st) (xup M d 12 a) Q := wp_putf rfl hc
theorem w88_121 {ls st : List xV} {M : xM} {Q : Option xV → xM → Prop} {a : Int} {v0 : xV} {v1 : xV} {v2 : xV} {v3 : xV} {v4 : xV} : Wp 88 121 (v0 :: v1 :: v2 :: v3 :: v4 :: xi a :: ls) (st) (M) Q = Wp 88 123 (v0 :: v1 :: v2 :: v3 :: v4 :: xi a :: ls) (xi a :: st) (M) Q := wp_iload rfl rfl
theorem w88_123 {ls st : List xV} {M : xM} {Q : Option xV → xM → Prop} {a : Int} (ha : xG a) : Wp 88 123 (ls) (xi a :: st) (M) Q = ((a = 0 → Wp 88 131 (ls) (st) (M) Q) ∧ (¬ (a = 0) → Wp 88 126 (ls) (st) (M) Q)) := wp_if_eq rfl ha
theorem w88_126 {ls st : List xV} {M : xM} {Q : Option xV → xM → Prop} {a : Int} {v0 : xV} {v1 : xV} {v2 : xV} {v3 : xV} : Wp 88 126 (v0 :: v1 :: v2 :: v3 :: xi a :: ls) (st) (M) Q = Wp 88 128 (v0 :: v1 :: v2 :: v3 :: xi a :: ls) (xi a :: st) (M) Q := wp_iload rfl rfl
theorem w88_128 {ls st : List xV} {M : xM} {Q : Option xV → xM → Prop}  : Wp 88 128 (ls) (st) (M) Q = Wp 88 132 (ls) (st) (M) Q := wp_goto rfl
theorem w88_131 {ls st : List xV} {M : xM} {Q : Option xV → xM → Prop}  : Wp 88 131 (ls) (st) (M) Q = Wp 88 132 (ls) (xi (-1) :: st) (M) Q := wp_const rfl
theorem w88_132 {ls : List xV} {M : xM} {Q : Option xV → xM → Prop} {a : Int} : Wp 88 132 (ls) ([xi a]) (M) Q = Q (some (xi a)) M := wp_iret rfl
theorem wc89 {M : xM} {Q : Option xV → xM → Prop} {d0 : Nat} : Wc 89 [xr d0] M Q = Wp 89 0 [xr d0, xj] [] M Q := rfl
theorem w89_0 {ls st : List xV} {M : xM} {Q : Option xV → xM → Prop}  : Wp 89 0 (ls) (st) (M) Q = Wp 89 1 (ls) (xi 0 :: st) (M) Q := wp_const rfl
theorem w89_1 {ls st : List xV} {M : xM} {Q : Option xV → xM → Prop} {a : Int} {v0 : xV} {w : xV} : Wp 89 1 (v0 :: w :: ls) (xi a :: st) (M) Q = Wp 89 2 (xjl v0 :: xi a :: ls) (st) (M) Q := wp_istore rfl rfl
theorem w89_2 {ls st : List xV} {M : xM} {Q : Option xV → xM → Prop} {a : Int} {v0 : xV} : Wp 89 2 (v0 :: xi a :: ls) (st) (M) Q = Wp 89 3 (v0 :: xi a :: ls) (xi a :: st) (M) Q := wp_iload rfl rfl
theorem w89_3 {ls st : List xV} {M : xM} {Q : Option xV → xM → Prop}  : Wp 89 3 (ls) (st) (M) Q = Wp 89 5 (ls) (xi 25 :: st) (M) Q := wp_const rfl
theorem w89_5 {ls st : List xV} {M : xM} {Q : Option xV → xM → Prop} {a : Int} {b : Int} (ha : xG a) (hb : xG b) : Wp 89 5 (ls) (xi b :: xi a :: st) (M) Q = ((b ≤ a → Wp 89 21 (ls) (st) (M) Q) ∧ (¬ (b ≤ a) → Wp 89 8 (ls) (st) (M) Q)) := wp_cmp_ge rfl ha hb
theorem w89_8 {ls st : List xV} {M : xM} {Q : Option xV → xM → Prop} {d : Nat} : Wp 89 8 (xr d :: ls) (st) (M) Q = Wp 89 9 (xr d :: ls) (xr d :: st) (M) Q := wp_aload rfl rfl
theorem w89_9 {ls st : List xV} {M : xM} {Q : Option xV → xM → Prop} {d : Nat} (hc : x_c d = 9) : Wp 89 9 (ls) (xr d :: st) (M) Q = Wp 89 12 (ls) (xr (x_r d 3) :: st) (M) Q := wp_getr rfl hc
theorem w89_12 {ls st : List xV} {M : xM} {Q : Option xV → xM → Prop} {a : Int} {v0 : xV} : Wp 89 12 (v0 :: xi a :: ls) (st) (M) Q = Wp 89 13 (v0 :: xi a :: ls) (xi a :: st) (M) Q := wp_iload rfl rfl
theorem w89_13 {ls st : List xV} {M : xM} {Q : Option xV → xM → Prop}  : Wp 89 13 (ls) (st) (M) Q = Wp 89 14 (ls) (xi 0 :: st) (M) Q := wp_const rfl
theorem w89_14 {ls st : List xV} {M : xM} {Q : Option xV → xM → Prop} {a : Int} {d : Nat} {x : Int} (hc : x_c d = 20) (hn : x_n d = 25) (h1 : 0 ≤ a) (h2 : a < 25) : Wp 89 14 (ls) (xi x :: xi a :: xr d :: st) (M) Q = Wp 89 15 (ls) (st) (xup M d a x) Q := wp_iast rfl hc h1 (by rw [hn]; exact h2)
theorem w89_15 {ls st : List xV} {M : xM} {Q : Option xV → xM → Prop} {a : Int} {v0 : xV} : Wp 89 15 (v0 :: xi a :: ls) (st) (M) Q = Wp 89 18 (xjl v0 :: xi (a + 1) :: ls) (st) (M) Q := wp_iinc rfl rfl rfl
theorem w89_18 {ls st : List xV} {M : xM} {Q : Option xV → xM → Prop}  : Wp 89 18 (ls) (st) (M) Q = Wp 89 2 (ls) (st) (M) Q := wp_goto rfl
theorem w89_21 {ls st : List xV} {M : xM} {Q : Option xV → xM → Prop} {d : Nat} : Wp 89 21 (xr d :: ls) (st) (M) Q = Wp 89 22 (xr d :: ls) (xr d :: st) (M) Q := wp_aload rfl rfl
theorem w89_22 {ls st : List xV} {M : xM} {Q : Option xV → xM → Prop} {d : Nat} (hc : x_c d = 9) : Wp 89 22 (ls) (xr d :: st) (M) Q = Wp 89 25 (ls) (xr (x_r d 3) :: st) (M) Q := wp_getr rfl hc
theorem w89_25 {ls st : List xV} {M : xM} {Q : Option xV → xM → Prop}  : Wp 89 25 (ls) (st) (M) Q = Wp 89 26 (ls) (xi 0 :: st) (M) Q := wp_const rfl
theorem w89_26 {ls st : List xV} {M : xM} {Q : Option xV → xM → Prop}  : Wp 89 26 (ls) (st) (M) Q = Wp 89 28 (ls) (xi 12 :: st) (M) Q := wp_const rfl
theorem w89_28 {ls st : List xV} {M : xM} {Q : Option xV → xM → Prop} {a : Int} {d : Nat} {x : Int} (hc : x_c d = 20) (hn : x_n d = 25) (h1 : 0 ≤ a) (h2 : a < 25) : Wp 89 28 (ls) (xi x :: xi a :: xr d :: st) (M) Q = Wp 89 29 (ls) (st) (xup M d a x) Q := wp_iast rfl hc h1 (by rw [hn]; exact h2)
theorem w89_29 {ls st : List xV} {M : xM} {Q : Option xV → xM → Prop}  : Wp 89 29 (ls) (st) (M) Q = Wp 89 30 (ls) (xi 0 :: st) (M) Q := wp_const rfl
theorem w89_30 {ls st : List xV} {M : xM} {Q : Option xV → xM → Prop} {a : Int} {v0 : xV} {w : xV} : Wp 89 30 (v0 :: w :: ls) (xi a :: st) (M) Q = Wp 89 31 (xjl v0 :: xi a :: ls) (st) (M) Q := wp_istore rfl rfl
theorem w89_31 {ls st : List xV} {M : xM} {Q : Option xV → xM → Prop} {a : Int} {v0 : xV} : Wp 89 31 (v0 :: xi a :: ls) (st) (M) Q = Wp 89 32 (v0 :: xi a :: ls) (xi a :: st) (M) Q := wp_iload rfl rfl
theorem w89_32 {ls st : List xV} {M : xM} {Q : Option xV → xM → Prop}  : Wp 89 32 (ls) (st) (M) Q = Wp 89 34 (ls) (xi 7 :: st) (M) Q := wp_const rfl
theorem w89_34 {ls st : List xV} {M : xM} {Q : Option xV → xM → Prop} {a : Int} {b : Int} (ha : xG a) (hb : xG b) : Wp 89 34 (ls) (xi b :: xi a :: st) (M) Q = ((b ≤ a → Wp 89 50 (ls) (st) (M) Q) ∧ (¬ (b ≤ a) → Wp 89 37 (ls) (st) (M) Q)) := wp_cmp_ge rfl ha hb
theorem w89_37 {ls st : List xV} {M : xM} {Q : Option xV → xM → Prop} {d : Nat} : Wp 89 37 (xr d :: ls) (st) (M) Q = Wp 89 38 (xr d :: ls) (xr d :: st) (M) Q := wp_aload rfl rfl
theorem w89_38 {ls st : List xV} {M : xM} {Q : Option xV → xM → Prop} {d : Nat} (hc : x_c d = 9) : Wp 89 38 (ls) (xr d :: st) (M) Q = Wp 89 41 (ls) (xr (x_r d 4) :: st) (M) Q := wp_getr rfl hc
theorem w89_41 {ls st : List xV} {M : xM} {Q : Option xV → xM → Prop} {a : Int} {v0 : xV} : Wp 89 41 (v0 :: xi a :: ls) (st) (M) Q = Wp 89 42 (v0 :: xi a :: ls) (xi a :: st) (M) Q := wp_iload rfl rfl
theorem w89_42 {ls st : List xV} {M : xM} {Q : Option xV → xM → Prop}  : Wp 89 42 (ls) (st) (M) Q = Wp 89 43 (ls) (xi 0 :: st) (M) Q := wp_const rfl
theorem w89_43 {ls st : List xV} {M : xM} {Q : Option xV → xM → Prop} {a : Int} {d : Nat} {x : Int} (hc : x_c d = 20) (hn : x_n d = 7) (h1 : 0 ≤ a) (h2 : a < 7) : Wp 89 43 (ls) (xi x :: xi a :: xr d :: st) (M) Q = Wp 89 44 (ls) (st) (xup M d a x) Q := wp_iast rfl hc h1 (by rw [hn]; exact h2)
theorem w89_44 {ls st : List xV} {M : xM} {Q : Option xV → xM → Prop} {a : Int} {v0 : xV} : Wp 89 44 (v0 :: xi a :: ls) (st) (M) Q = Wp 89 47 (xjl v0 :: xi (a + 1) :: ls) (st) (M) Q := wp_iinc rfl rfl rfl
theorem w89_47 {ls st : List xV} {M : xM} {Q : Option xV → xM → Prop}  : Wp 89 47 (ls) (st) (M) Q = Wp 89 31 (ls) (st) (M) Q := wp_goto rfl
theorem w89_50 {ls : List xV} {M : xM} {Q : Option xV → xM → Prop}  : Wp 89 50 (ls) ([]) (M) Q = Q none M := wp_vret rfl
theorem wc90 {M : xM} {Q : Option xV → xM → Prop} {d0 : Nat} {a1 : Int} : Wc 90 [xr d0, xi a1] M Q = Wp 90 0 [xr d0, xi a1] [] M Q := rfl
theorem w90_0 {ls st : List xV} {M : xM} {Q : Option xV → xM → Prop} {d : Nat} : Wp 90 0 (xr d :: ls) (st) (M) Q = Wp 90 1 (xr d :: ls) (xr d :: st) (M) Q := wp_aload rfl rfl
theorem w90_1 {ls st : List xV} {M : xM} {Q : Option xV → xM → Prop} {d : Nat} (hc : x_c d = 9) : Wp 90 1 (ls) (xr d :: st) (M) Q = Wp 90 4 (ls) (xr (x_r d 3) :: st) (M) Q := wp_getr rfl hc
theorem w90_4 {ls st : List xV} {M : xM} {Q : Option xV → xM → Prop}  : Wp 90 4 (ls) (st) (M) Q = Wp 90 5 (ls) (xi 5 :: st) (M) Q := wp_const rfl
theorem w90_5 {ls st : List xV} {M : xM} {Q : Option xV → xM → Prop} {d : Nat} : Wp 90 5 (xr d :: ls) (st) (M) Q = Wp 90 6 (xr d :: ls) (xr d :: st) (M) Q := wp_aload rfl rfl
theorem w90_6 {ls st : List xV} {M : xM} {Q : Option xV → xM → Prop} {d : Nat} (hc : x_c d = 9) : Wp 90 6 (ls) (xr d :: st) (M) Q = Wp 90 9 (ls) (xr (x_r d 3) :: st) (M) Q := wp_getr rfl hc
theorem w90_9 {ls st : List xV} {M : xM} {Q : Option xV → xM → Prop}  : Wp 90 9 (ls) (st) (M) Q = Wp 90 10 (ls) (xi 1 :: st) (M) Q := wp_const rfl
theorem w90_10 {ls st : List xV} {M : xM} {Q : Option xV → xM → Prop} {a : Int} {d : Nat} (hc : x_c d = 20) (hn : x_n d = 25) (h1 : 0 ≤ a) (h2 : a < 25) : Wp 90 10 (ls) (xi a :: xr d :: st) (M) Q = Wp 90 11 (ls) (xi (M d a) :: st) (M) Q := wp_ald rfl hc h1 (by rw [hn]; exact h2)
theorem w90_11 {ls st : List xV} {M : xM} {Q : Option xV → xM → Prop} {a : Int} {b : Int} : Wp 90 11 (ls) (xi b :: xi a :: st) (M) Q = Wp 90 12 (ls) (xi (a + b) :: st) (M) Q := wp_bin (f := xadd) rfl
theorem w90_12 {ls st : List xV} {M : xM} {Q : Option xV → xM → Prop} {a : Int} {v0 : xV} : Wp 90 12 (v0 :: xi a :: ls) (st) (M) Q = Wp 90 13 (v0 :: xi a :: ls) (xi a :: st) (M) Q := wp_iload rfl rfl
theorem w90_13 {ls st : List xV} {M : xM} {Q : Option xV → xM → Prop} {a : Int} {d : Nat} {x : Int} (hc : x_c d = 20) (hn : x_n d = 25) (h1 : 0 ≤ a) (h2 : a < 25) : Wp 90 13 (ls) (xi x :: xi a :: xr d :: st) (M) Q = Wp 90 14 (ls) (st) (xup M d a x) Q := wp_iast rfl hc h1 (by rw [hn]; exact h2)
theorem w90_14 {ls st : List xV} {M : xM} {Q : Option xV → xM → Prop} {d : Nat} : Wp 90 14 (xr d :: ls) (st) (M) Q = Wp 90 15 (xr d :: ls) (xr d :: st) (M) Q := wp_aload rfl rfl
theorem w90_15 {ls st : List xV} {M : xM} {Q : Option xV → xM → Prop} {d : Nat} (hc : x_c d = 9) : Wp 90 15 (ls) (xr d :: st) (M) Q = Wp 90 18 (ls) (xr (x_r d 3) :: st) (M) Q := wp_getr rfl hc
theorem w90_18 {ls st : List xV} {M : xM} {Q : Option xV → xM → Prop}  : Wp 90 18 (ls) (st) (M) Q = Wp 90 19 (ls) (xi 1 :: st) (M) Q := wp_const rfl
theorem w90_19 {ls st : List xV} {M : xM} {Q : Option xV → xM → Prop} {a : Int} {d : Nat} : Wp 90 19 (ls) (xi a :: xr d :: st) (M) Q = Wp 90 20 (ls) (xi a :: xr d :: xi a :: xr d :: st) (M) Q := wp_dup2 rfl
theorem w90_20 {ls st : List xV} {M : xM} {Q : Option xV → xM → Prop} {a : Int} {d : Nat} (hc : x_c d = 20) (hn : x_n d = 25) (h1 : 0 ≤ a) (h2 : a < 25) : Wp 90 20 (ls) (xi a :: xr d :: st) (M) Q = Wp 90 21 (ls) (xi (M d a) :: st) (M) Q := wp_ald rfl hc h1 (by rw [hn]; exact h2)
theorem w90_21 {ls st : List xV} {M : xM} {Q : Option xV → xM → Prop}  : Wp 90 21 (ls) (st) (M) Q = Wp 90 22 (ls) (xi 1 :: st) (M) Q := wp_const rfl
theorem w90_22 {ls st : List xV} {M : xM} {Q : Option xV → xM → Prop} {a : Int} {b : Int} : Wp 90 22 (ls) (xi b :: xi a :: st) (M) Q = Wp 90 23 (ls) (xi (a + b) :: st) (M) Q := wp_bin (f := xadd) rfl
theorem w90_23 {ls st : List xV} {M : xM} {Q : Option xV → xM → Prop} {a : Int} {d : Nat} {x : Int} (hc : x_c d = 20) (hn : x_n d = 25) (h1 : 0 ≤ a) (h2 : a < 25) : Wp 90 23 (ls) (xi x :: xi a :: xr d :: st) (M) Q = Wp 90 24 (ls) (st) (xup M d a x) Q := wp_iast rfl hc h1 (by rw [hn]; exact h2)
theorem w90_24 {ls : List xV} {M : xM} {Q : Option xV → xM → Prop}  : Wp 90 24 (ls) ([]) (M) Q = Q none M := wp_vret rfl
theorem wc91 {M : xM} {Q : Option xV → xM → Prop} {d0 : Nat} {a1 : Int} {a2 : Int} {a3 : Int} {a4 : Int} : Wc 91 [xr d0, xi a1, xi a2, xi a3, xi a4] M Q = Wp 91 0 [xr d0, xi a1, xi a2, xi a3, xi a4, xj] [] M Q := rfl
theorem w91_0 {ls st : List xV} {M : xM} {Q : Option xV → xM → Prop} {d : Nat} : Wp 91 0 (xr d :: ls) (st) (M) Q = Wp 91 1 (xr d :: ls) (xr d :: st) (M) Q := wp_aload rfl rfl
theorem w91_1 {ls st : List xV} {M : xM} {Q : Option xV → xM → Prop} {d : Nat} (hc : x_c d = 9) : Wp 91 1 (ls) (xr d :: st) (M) Q = Wp 91 4 (ls) (xr (x_r d 3) :: st) (M) Q := wp_getr rfl hc
theorem w91_4 {ls st : List xV} {M : xM} {Q : Option xV → xM → Prop}  : Wp 91 4 (ls) (st) (M) Q = Wp 91 5 (ls) (xi 2 :: st) (M) Q := wp_const rfl
theorem w91_5 {ls st : List xV} {M : xM} {Q : Option xV → xM → Prop} {a : Int} {d : Nat} (hc : x_c d = 20) (hn : x_n d = 25) (h1 : 0 ≤ a) (h2 : a < 25) : Wp 91 5 (ls) (xi a :: xr d :: st) (M) Q = Wp 91 6 (ls) (xi (M d a) :: st) (M) Q := wp_ald rfl hc h1 (by rw [hn]; exact h2)
theorem w91_6 {ls st : List xV} {M : xM} {Q : Option xV → xM → Prop} {a : Int} {v0 : xV} {v1 : xV} {v2 : xV} {v3 : xV} {v4 : xV} {w : xV} : Wp 91 6 (v0 :: v1 :: v2 :: v3 :: v4 :: w :: ls) (xi a :: st) (M) Q = Wp 91 8 (v0 :: v1 :: v2 :: v3 :: xjl v4 :: xi a :: ls) (st) (M) Q := wp_istore rfl rfl
theorem w91_8 {ls st : List xV} {M : xM} {Q : Option xV → xM → Prop} {d : Nat} : Wp 91 8 (xr d :: ls) (st) (M) Q = Wp 91 9 (xr d :: ls) (xr d :: st) (M) Q := wp_aload rfl rfl
theorem w91_9 {ls st : List xV} {M : xM} {Q : Option xV → xM → Prop} {d : Nat} (hc : x_c d = 9) : Wp 91 9 (ls) (xr d :: st) (M) Q = Wp 91 12 (ls) (xr (x_r d 3) :: st) (M) Q := wp_getr rfl hc
theorem w91_12 {ls st : List xV} {M : xM} {Q : Option xV → xM → Prop}  : Wp 91 12 (ls) (st) (M) Q = Wp 91 14 (ls) (xi 10 :: st) (M) Q := wp_const rfl
theorem w91_14 {ls st : List xV} {M : xM} {Q : Option xV → xM → Prop} {a : Int} {v0 : xV} {v1 : xV} {v2 : xV} {v3 : xV} {v4 : xV} : Wp 91 14 (v0 :: v1 :: v2 :: v3 :: v4 :: xi a :: ls) (st) (M) Q = Wp 91 16 (v0 :: v1 :: v2 :: v3 :: v4 :: xi a :: ls) (xi a :: st) (M) Q := wp_iload rfl rfl
theorem w91_16 {ls st : List xV} {M : xM} {Q : Option xV → xM → Prop} {a : Int} {b : Int} : Wp 91 16 (ls) (xi b :: xi a :: st) (M) Q = Wp 91 17 (ls) (xi (a + b) :: st) (M) Q := wp_bin (f := xadd) rfl
theorem w91_17 {ls st : List xV} {M : xM} {Q : Option xV → xM → Prop} {a : Int} {v0 : xV} : Wp 91 17 (v0 :: xi a :: ls) (st) (M) Q = Wp 91 18 (v0 :: xi a :: ls) (xi a :: st) (M) Q := wp_iload rfl rfl
theorem w91_18 {ls st : List xV} {M : xM} {Q : Option xV → xM → Prop} {a : Int} {d : Nat} {x : Int} (hc : x_c d = 20) (hn : x_n d = 25) (h1 : 0 ≤ a) (h2 : a < 25) : Wp 91 18 (ls) (xi x :: xi a :: xr d :: st) (M) Q = Wp 91 19 (ls) (st) (xup M d a x) Q := wp_iast rfl hc h1 (by rw [hn]; exact h2)
theorem w91_19 {ls st : List xV} {M : xM} {Q : Option xV → xM → Prop} {d : Nat} : Wp 91 19 (xr d :: ls) (st) (M) Q = Wp 91 20 (xr d :: ls) (xr d :: st) (M) Q := wp_aload rfl rfl
theorem w91_20 {ls st : List xV} {M : xM} {Q : Option xV → xM → Prop} {d : Nat} (hc : x_c d = 9) : Wp 91 20 (ls) (xr d :: st) (M) Q = Wp 91 23 (ls) (xr (x_r d 3) :: st) (M) Q := wp_getr rfl hc
theorem w91_23 {ls st : List xV} {M : xM} {Q : Option xV → xM → Prop}  : Wp 91 23 (ls) (st) (M) Q = Wp 91 25 (ls) (xi 15 :: st) (M) Q := wp_const rfl
theorem w91_25 {ls st : List xV} {M : xM} {Q : Option xV → xM → Prop} {a : Int} {v0 : xV} {v1 : xV} {v2 : xV} {v3 : xV} {v4 : xV} : Wp 91 25 (v0 :: v1 :: v2 :: v3 :: v4 :: xi a :: ls) (st) (M) Q = Wp 91 27 (v0 :: v1 :: v2 :: v3 :: v4 :: xi a :: ls) (xi a :: st) (M) Q := wp_iload rfl rfl
theorem w91_27 {ls st : List xV} {M : xM} {Q : Option xV → xM → Prop} {a : Int} {b : Int} : Wp 91 27 (ls) (xi b :: xi a :: st) (M) Q = Wp 91 28 (ls) (xi (a + b) :: st) (M) Q := wp_bin (f := xadd) rfl
theorem w91_28 {ls st : List xV} {M : xM} {Q : Option xV → xM → Prop} {a : Int} {v0 : xV} {v1 : xV} : Wp 91 28 (v0 :: v1 :: xi a :: ls) (st) (M) Q = Wp 91 29 (v0 :: v1 :: xi a :: ls) (xi a :: st) (M) Q := wp_iload rfl rfl
theorem w91_29 {ls st : List xV} {M : xM} {Q : Option xV → xM → Prop} {a : Int} {d : Nat} {x : Int} (hc : x_c d = 20) (hn : x_n d = 25) (h1 : 0 ≤ a) (h2 : a < 25) : Wp 91 29 (ls) (xi x :: xi a :: xr d :: st) (M) Q = Wp 91 30 (ls) (st) (xup M d a x) Q := wp_iast rfl hc h1 (by rw [hn]; exact h2)
theorem w91_30 {ls st : List xV} {M : xM} {Q : Option xV → xM → Prop} {d : Nat} : Wp 91 30 (xr d :: ls) (st) (M) Q = Wp 91 31 (xr d :: ls) (xr d :: st) (M) Q := wp_aload rfl rfl
theorem w91_31 {ls st : List xV} {M : xM} {Q : Option xV → xM → Prop} {d : Nat} (hc : x_c d = 9) : Wp 91 31 (ls) (xr d :: st) (M) Q = Wp 91 34 (ls) (xr (x_r d 3) :: st) (M) Q := wp_getr rfl hc
theorem w91_34 {ls st : List xV} {M : xM} {Q : Option xV → xM → Prop}  : Wp 91 34 (ls) (st) (M) Q = Wp 91 36 (ls) (xi 20 :: st) (M) Q := wp_const rfl
theorem w91_36 {ls st : List xV} {M : xM} {Q : Option xV → xM → Prop} {a : Int} {v0 : xV} {v1 : xV} {v2 : xV} {v3 : xV} {v4 : xV} : Wp 91 36 (v0 :: v1 :: v2 :: v3 :: v4 :: xi a :: ls) (st) (M) Q = Wp 91 38 (v0 :: v1 :: v2 :: v3 :: v4 :: xi a :: ls) (xi a :: st) (M) Q := wp_iload rfl rfl
theorem w91_38 {ls st : List xV} {M : xM} {Q : Option xV → xM → Prop} {a : Int} {b : Int} : Wp 91 38 (ls) (xi b :: xi a :: st) (M) Q = Wp 91 39 (ls) (xi (a + b) :: st) (M) Q := wp_bin (f := xadd) rfl
theorem w91_39 {ls st : List xV} {M : xM} {Q : Option xV → xM → Prop} {a : Int} {v0 : xV} {v1 : xV} {v2 : xV} : Wp 91 39 (v0 :: v1 :: v2 :: xi a :: ls) (st) (M) Q = Wp 91 40 (v0 :: v1 :: v2 :: xi a :: ls) (xi a :: st) (M) Q := wp_iload rfl rfl
theorem w91_40 {ls st : List xV} {M : xM} {Q : Option xV → xM → Prop} {a : Int} {d : Nat} {x : Int} (hc : x_c d = 20) (hn : x_n d = 25) (h1 : 0 ≤ a) (h2 : a < 25) : Wp 91 40 (ls) (xi x :: xi a :: xr d :: st) (M) Q = Wp 91 41 (ls) (st) (xup M d a x) Q := wp_iast rfl hc h1 (by rw [hn]; exact h2)
theorem w91_41 {ls st : List xV} {M : xM} {Q : Option xV → xM → Prop} {d : Nat} : Wp 91 41 (xr d :: ls) (st) (M) Q = Wp 91 42 (xr d :: ls) (xr d :: st) (M) Q := wp_aload rfl rfl
theorem w91_42 {ls st : List xV} {M : xM} {Q : Option xV → xM → Prop} {d : Nat} (hc : x_c d = 9) : Wp 91 42 (ls) (xr d :: st) (M) Q = Wp 91 45 (ls) (xr (x_r d 4) :: st) (M) Q := wp_getr rfl hc
theorem w91_45 {ls st : List xV} {M : xM} {Q : Option xV → xM → Prop} {a : Int} {v0 : xV} {v1 : xV} {v2 : xV} {v3 : xV} {v4 : xV} : Wp 91 45 (v0 :: v1 :: v2 :: v3 :: v4 :: xi a :: ls) (st) (M) Q = Wp 91 47 (v0 :: v1 :: v2 :: v3 :: v4 :: xi a :: ls) (xi a :: st) (M) Q := wp_iload rfl rfl
theorem w91_47 {ls st : List xV} {M : xM} {Q : Option xV → xM → Prop} {a : Int} {v0 : xV} {v1 : xV} {v2 : xV} {v3 : xV} : Wp 91 47 (v0 :: v1 :: v2 :: v3 :: xi a :: ls) (st) (M) Q = Wp 91 49 (v0 :: v1 :: v2 :: v3 :: xi a :: ls) (xi a :: st) (M) Q := wp_iload rfl rfl
theorem w91_49 {ls st : List xV} {M : xM} {Q : Option xV → xM → Prop} {a : Int} {d : Nat} {x : Int} (hc : x_c d = 20) (hn : x_n d = 7) (h1 : 0 ≤ a) (h2 : a < 7) : Wp 91 49 (ls) (xi x :: xi a :: xr d :: st) (M) Q = Wp 91 50 (ls) (st) (xup M d a x) Q := wp_iast rfl hc h1 (by rw [hn]; exact h2)
theorem w91_50 {ls st : List xV} {M : xM} {Q : Option xV → xM → Prop} {d : Nat} : Wp 91 50 (xr d :: ls) (st) (M) Q = Wp 91 51 (xr d :: ls) (xr d :: st) (M) Q := wp_aload rfl rfl
theorem w91_51 {ls st : List xV} {M : xM} {Q : Option xV → xM → Prop} {d : Nat} (hc : x_c d = 9) : Wp 91 51 (ls) (xr d :: st) (M) Q = Wp 91 54 (ls) (xr (x_r d 3) :: st) (M) Q := wp_getr rfl hc
theorem w91_54 {ls st : List xV} {M : xM} {Q : Option xV → xM → Prop}  : Wp 91 54 (ls) (st) (M) Q = Wp 91 55 (ls) (xi 2 :: st) (M) Q := wp_const rfl
theorem w91_55 {ls st : List xV} {M : xM} {Q : Option xV → xM → Prop} {a : Int} {d : Nat} : Wp 91 55 (ls) (xi a :: xr d :: st) (M) Q = Wp 91 56 (ls) (xi a :: xr d :: xi a :: xr d :: st) (M) Q := wp_dup2 rfl
theorem w91_56 {ls st : List xV} {M : xM} {Q : Option xV → xM → Prop} {a : Int} {d : Nat} (hc : x_c d = 20) (hn : x_n d = 25) (h1 : 0 ≤ a) (h2 : a < 25) : Wp 91 56 (ls) (xi a :: xr d :: st) (M) Q = Wp 91 57 (ls) (xi (M d a) :: st) (M) Q := wp_ald rfl hc h1 (by rw [hn]; exact h2)
theorem w91_57 {ls st : List xV} {M : xM} {Q : Option xV → xM → Prop}  : Wp 91 57 (ls) (st) (M) Q = Wp 91 58 (ls) (xi 1 :: st) (M) Q := wp_const rfl
theorem w91_58 {ls st : List xV} {M : xM} {Q : Option xV → xM → Prop} {a : Int} {b : Int} : Wp 91 58 (ls) (xi b :: xi a :: st) (M) Q = Wp 91 59 (ls) (xi (a + b) :: st) (M) Q := wp_bin (f := xadd) rfl
theorem w91_59 {ls st : List xV} {M : xM} {Q : Option xV → xM → Prop} {a : Int} {d : Nat} {x : Int} (hc : x_c d = 20) (hn : x_n d = 25) (h1 : 0 ≤ a) (h2 : a < 25) : Wp 91 59 (ls) (xi x :: xi a :: xr d :: st) (M) Q = Wp 91 60 (ls) (st) (xup M d a x) Q := wp_iast rfl hc h1 (by rw [hn]; exact h2)
theorem w91_60 {ls : List xV} {M : xM} {Q : Option xV → xM → Prop}  : Wp 91 60 (ls) ([]) (M) Q = Q none M := wp_vret rfl
theorem wc92 {M : xM} {Q : Option xV → xM → Prop} {d0 : Nat} : Wc 92 [xr d0] M Q = Wp 92 0 [xr d0, xj, xj, xj, xj, xj, xj] [] M Q := rfl
theorem w92_0 {ls st : List xV} {M : xM} {Q : Option xV → xM → Prop} {d : Nat} : Wp 92 0 (xr d :: ls) (st) (M) Q = Wp 92 1 (xr d :: ls) (xr d :: st) (M) Q := wp_aload rfl rfl
theorem w92_1 {ls st : List xV} {M : xM} {Q : Option xV → xM → Prop}  : Wp 92 1 (ls) (st) (M) Q = Wp 92 2 (ls) (xi 0 :: st) (M) Q := wp_const rfl
theorem w92_2 {ls st : List xV} {M : xM} {Q : Option xV → xM → Prop}  : Wp 92 2 (ls) (st) (M) Q = Wp 92 3 (ls) (xi 4 :: st) (M) Q := wp_const rfl
theorem w92_3 {ls st : List xV} {M : xM} {Q : Option xV → xM → Prop}  : Wp 92 3 (ls) (st) (M) Q = Wp 92 5 (ls) (xi 44 :: st) (M) Q := wp_const rfl
theorem w92_5 {ls : List xV} {M : xM} {Q : Option xV → xM → Prop} {a1 : Int} {a2 : Int} {a3 : Int} {d0 : Nat} (hc : x_c d0 = 9) : Wp 92 5 (ls) (xi a3 :: xi a2 :: xi a1 :: xr d0 :: []) (M) Q = Wc 88 [xr d0, xi a1, xi a2, xi a3] M (fun r M2 => Wp 92 8 (ls) (r.toList ++ ([])) M2 Q) := wp_cV rfl rfl hc (Nat.le_of_ble_eq_true rfl) (Nat.le_of_ble_eq_true rfl) rfl rfl
theorem w92_8 {ls st : List xV} {M : xM} {Q : Option xV → xM → Prop} {a : Int} {v0 : xV} {w : xV} : Wp 92 8 (v0 :: w :: ls) (xi a :: st) (M) Q = Wp 92 9 (xjl v0 :: xi a :: ls) (st) (M) Q := wp_istore rfl rfl
theorem w92_9 {ls st : List xV} {M : xM} {Q : Option xV → xM → Prop} {a : Int} {v0 : xV} : Wp 92 9 (v0 :: xi a :: ls) (st) (M) Q = Wp 92 10 (v0 :: xi a :: ls) (xi a :: st) (M) Q := wp_iload rfl rfl
theorem w92_10 {ls st : List xV} {M : xM} {Q : Option xV → xM → Prop} {a : Int} (ha : xG a) : Wp 92 10 (ls) (xi a :: st) (M) Q = ((0 ≤ a → Wp 92 17 (ls) (st) (M) Q) ∧ (¬ (0 ≤ a) → Wp 92 13 (ls) (st) (M) Q)) := wp_if_ge rfl ha
theorem w92_13 {ls st : List xV} {M : xM} {Q : Option xV → xM → Prop}  : Wp 92 13 (ls) (st) (M) Q = Wp 92 14 (ls) (xi (-1) :: st) (M) Q := wp_const rfl
theorem w92_14 {ls st : List xV} {M : xM} {Q : Option xV → xM → Prop}  : Wp 92 14 (ls) (st) (M) Q = Wp 92 32 (ls) (st) (M) Q := wp_goto rfl
theorem w92_17 {ls st : List xV} {M : xM} {Q : Option xV → xM → Prop} {d : Nat} : Wp 92 17 (xr d :: ls) (st) (M) Q = Wp 92 18 (xr d :: ls) (xr d :: st) (M) Q := wp_aload rfl rfl
theorem w92_18 {ls st : List xV} {M : xM} {Q : Option xV → xM → Prop}  : Wp 92 18 (ls) (st) (M) Q = Wp 92 19 (ls) (xi 0 :: st) (M) Q := wp_const rfl
theorem w92_19 {ls st : List xV} {M : xM} {Q : Option xV → xM → Prop} {d : Nat} : Wp 92 19 (xr d :: ls) (st) (M) Q = Wp 92 20 (xr d :: ls) (xr d :: st) (M) Q := wp_aload rfl rfl
theorem w92_20 {ls st : List xV} {M : xM} {Q : Option xV → xM → Prop} {d : Nat} (hc : x_c d = 9) : Wp 92 20 (ls) (xr d :: st) (M) Q = Wp 92 23 (ls) (xr (x_r d 3) :: st) (M) Q := wp_getr rfl hc
theorem w92_23 {ls st : List xV} {M : xM} {Q : Option xV → xM → Prop}  : Wp 92 23 (ls) (st) (M) Q = Wp 92 24 (ls) (xi 0 :: st) (M) Q := wp_const rfl
theorem w92_24 {ls st : List xV} {M : xM} {Q : Option xV → xM → Prop} {a : Int} {d : Nat} (hc : x_c d = 20) (hn : x_n d = 25) (h1 : 0 ≤ a) (h2 : a < 25) : Wp 92 24 (ls) (xi a :: xr d :: st) (M) Q = Wp 92 25 (ls) (xi (M d a) :: st) (M) Q := wp_ald rfl hc h1 (by rw [hn]; exact h2)
theorem w92_25 {ls st : List xV} {M : xM} {Q : Option xV → xM → Prop}  : Wp 92 25 (ls) (st) (M) Q = Wp 92 26 (ls) (xi 1 :: st) (M) Q := wp_const rfl
theorem w92_26 {ls st : List xV} {M : xM} {Q : Option xV → xM → Prop} {a : Int} {b : Int} : Wp 92 26 (ls) (xi b :: xi a :: st) (M) Q = Wp 92 27 (ls) (xi (a - b) :: st) (M) Q := wp_bin (f := xsub) rfl
theorem w92_27 {ls st : List xV} {M : xM} {Q : Option xV → xM → Prop}  : Wp 92 27 (ls) (st) (M) Q = Wp 92 29 (ls) (xi 44 :: st) (M) Q := wp_const rfl
theorem w92_29 {ls : List xV} {M : xM} {Q : Option xV → xM → Prop} {a1 : Int} {a2 : Int} {a3 : Int} {d0 : Nat} (hc : x_c d0 = 9) : Wp 92 29 (ls) (xi a3 :: xi a2 :: xi a1 :: xr d0 :: []) (M) Q = Wc 88 [xr d0, xi a1, xi a2, xi a3] M (fun r M2 => Wp 92 32 (ls) (r.toList ++ ([])) M2 Q) := wp_cV rfl rfl hc (Nat.le_of_ble_eq_true rfl) (Nat.le_of_ble_eq_true rfl) rfl rfl
theorem w92_32 {ls st : List xV} {M : xM} {Q : Option xV → xM → Prop} {a : Int} {v0 : xV} {v1 : xV} {w : xV} : Wp 92 32 (v0 :: v1 :: w :: ls) (xi a :: st) (M) Q = Wp 92 33 (v0 :: xjl v1 :: xi a :: ls) (st) (M) Q := wp_istore rfl rfl
theorem w92_33 {ls st : List xV} {M : xM} {Q : Option xV → xM → Prop} {a : Int} {v0 : xV} {v1 : xV} : Wp 92 33 (v0 :: v1 :: xi a :: ls) (st) (M) Q = Wp 92 34 (v0 :: v1 :: xi a :: ls) (xi a :: st) (M) Q := wp_iload rfl rfl
theorem w92_34 {ls st : List xV} {M : xM} {Q : Option xV → xM → Prop} {a : Int} (ha : xG a) : Wp 92 34 (ls) (xi a :: st) (M) Q = ((0 ≤ a → Wp 92 41 (ls) (st) (M) Q) ∧ (¬ (0 ≤ a) → Wp 92 37 (ls) (st) (M) Q)) := wp_if_ge rfl ha
theorem w92_37 {ls st : List xV} {M : xM} {Q : Option xV → xM → Prop}  : Wp 92 37 (ls) (st) (M) Q = Wp 92 38 (ls) (xi (-1) :: st) (M) Q := wp_const rfl
theorem w92_38 {ls st : List xV} {M : xM} {Q : Option xV → xM → Prop}  : Wp 92 38 (ls) (st) (M) Q = Wp 92 49 (ls) (st) (M) Q := wp_goto rfl
theorem w92_41 {ls st : List xV} {M : xM} {Q : Option xV → xM → Prop} {d : Nat} : Wp 92 41 (xr d :: ls) (st) (M) Q = Wp 92 42 (xr d :: ls) (xr d :: st) (M) Q := wp_aload rfl rfl
theorem w92_42 {ls st : List xV} {M : xM} {Q : Option xV → xM → Prop}  : Wp 92 42 (ls) (st) (M) Q = Wp 92 43 (ls) (xi 0 :: st) (M) Q := wp_const rfl
theorem w92_43 {ls st : List xV} {M : xM} {Q : Option xV → xM → Prop}  : Wp 92 43 (ls) (st) (M) Q = Wp 92 44 (ls) (xi 1 :: st) (M) Q := wp_const rfl
theorem w92_44 {ls st : List xV} {M : xM} {Q : Option xV → xM → Prop}  : Wp 92 44 (ls) (st) (M) Q = Wp 92 46 (ls) (xi 44 :: st) (M) Q := wp_const rfl
theorem w92_46 {ls : List xV} {M : xM} {Q : Option xV → xM → Prop} {a1 : Int} {a2 : Int} {a3 : Int} {d0 : Nat} (hc : x_c d0 = 9) : Wp 92 46 (ls) (xi a3 :: xi a2 :: xi a1 :: xr d0 :: []) (M) Q = Wc 88 [xr d0, xi a1, xi a2, xi a3] M (fun r M2 => Wp 92 49 (ls) (r.toList ++ ([])) M2 Q) := wp_cV rfl rfl hc (Nat.le_of_ble_eq_true rfl) (Nat.le_of_ble_eq_true rfl) rfl rfl
theorem w92_49 {ls st : List xV} {M : xM} {Q : Option xV → xM → Prop} {a : Int} {v0 : xV} {v1 : xV} {v2 : xV} {w : xV} : Wp 92 49 (v0 :: v1 :: v2 :: w :: ls) (xi a :: st) (M) Q = Wp 92 50 (v0 :: v1 :: xjl v2 :: xi a :: ls) (st) (M) Q := wp_istore rfl rfl
theorem w92_50 {ls st : List xV} {M : xM} {Q : Option xV → xM → Prop} {a : Int} {v0 : xV} {v1 : xV} {v2 : xV} : Wp 92 50 (v0 :: v1 :: v2 :: xi a :: ls) (st) (M) Q = Wp 92 51 (v0 :: v1 :: v2 :: xi a :: ls) (xi a :: st) (M) Q := wp_iload rfl rfl
theorem w92_51 {ls st : List xV} {M : xM} {Q : Option xV → xM → Prop} {a : Int} (ha : xG a) : Wp 92 51 (ls) (xi a :: st) (M) Q = ((0 ≤ a → Wp 92 58 (ls) (st) (M) Q) ∧ (¬ (0 ≤ a) → Wp 92 54 (ls) (st) (M) Q)) := wp_if_ge rfl ha
theorem w92_54 {ls st : List xV} {M : xM} {Q : Option xV → xM → Prop}  : Wp 92 54 (ls) (st) (M) Q = Wp 92 55 (ls) (xi (-1) :: st) (M) Q := wp_const rfl
theorem w92_55 {ls st : List xV} {M : xM} {Q : Option xV → xM → Prop}  : Wp 92 55 (ls) (st) (M) Q = Wp 92 67 (ls) (st) (M) Q := wp_goto rfl
theorem w92_58 {ls st : List xV} {M : xM} {Q : Option xV → xM → Prop} {d : Nat} : Wp 92 58 (xr d :: ls) (st) (M) Q = Wp 92 59 (xr d :: ls) (xr d :: st) (M) Q := wp_aload rfl rfl
theorem w92_59 {ls st : List xV} {M : xM} {Q : Option xV → xM → Prop}  : Wp 92 59 (ls) (st) (M) Q = Wp 92 60 (ls) (xi 0 :: st) (M) Q := wp_const rfl
theorem w92_60 {ls st : List xV} {M : xM} {Q : Option xV → xM → Prop}  : Wp 92 60 (ls) (st) (M) Q = Wp 92 62 (ls) (xi 30 :: st) (M) Q := wp_const rfl
theorem w92_62 {ls st : List xV} {M : xM} {Q : Option xV → xM → Prop}  : Wp 92 62 (ls) (st) (M) Q = Wp 92 64 (ls) (xi 59 :: st) (M) Q := wp_const rfl
theorem w92_64 {ls : List xV} {M : xM} {Q : Option xV → xM → Prop} {a1 : Int} {a2 : Int} {a3 : Int} {d0 : Nat} (hc : x_c d0 = 9) : Wp 92 64 (ls) (xi a3 :: xi a2 :: xi a1 :: xr d0 :: []) (M) Q = Wc 88 [xr d0, xi a1, xi a2, xi a3] M (fun r M2 => Wp 92 67 (ls) (r.toList ++ ([])) M2 Q) := wp_cV rfl rfl hc (Nat.le_of_ble_eq_true rfl) (Nat.le_of_ble_eq_true rfl) rfl rfl
theorem w92_67 {ls st : List xV} {M : xM} {Q : Option xV → xM → Prop} {a : Int} {v0 : xV} {v1 : xV} {v2 : xV} {v3 : xV} {w : xV} : Wp 92 67 (v0 :: v1 :: v2 :: v3 :: w :: ls) (xi a :: st) (M) Q = Wp 92 69 (v0 :: v1 :: v2 :: xjl v3 :: xi a :: ls) (st) (M) Q := wp_istore rfl rfl
theorem w92_69 {ls st : List xV} {M : xM} {Q : Option xV → xM → Prop} {a : Int} {v0 : xV} {v1 : xV} {v2 : xV} {v3 : xV} : Wp 92 69 (v0 :: v1 :: v2 :: v3 :: xi a :: ls) (st) (M) Q = Wp 92 71 (v0 :: v1 :: v2 :: v3 :: xi a :: ls) (xi a :: st) (M) Q := wp_iload rfl rfl
theorem w92_71 {ls st : List xV} {M : xM} {Q : Option xV → xM → Prop} {a : Int} (ha : xG a) : Wp 92 71 (ls) (xi a :: st) (M) Q = ((a < 0 → Wp 92 84 (ls) (st) (M) Q) ∧ (¬ (a < 0) → Wp 92 74 (ls) (st) (M) Q)) := wp_if_lt rfl ha
theorem w92_74 {ls st : List xV} {M : xM} {Q : Option xV → xM → Prop} {d : Nat} : Wp 92 74 (xr d :: ls) (st) (M) Q = Wp 92 75 (xr d :: ls) (xr d :: st) (M) Q := wp_aload rfl rfl
theorem w92_75 {ls st : List xV} {M : xM} {Q : Option xV → xM → Prop} {d : Nat} (hc : x_c d = 9) : Wp 92 75 (ls) (xr d :: st) (M) Q = Wp 92 78 (ls) (xr (x_r d 3) :: st) (M) Q := wp_getr rfl hc
theorem w92_78 {ls st : List xV} {M : xM} {Q : Option xV → xM → Prop}  : Wp 92 78 (ls) (st) (M) Q = Wp 92 79 (ls) (xi 2 :: st) (M) Q := wp_const rfl
theorem w92_79 {ls st : List xV} {M : xM} {Q : Option xV → xM → Prop} {a : Int} {d : Nat} (hc : x_c d = 20) (hn : x_n d = 25) (h1 : 0 ≤ a) (h2 : a < 25) : Wp 92 79 (ls) (xi a :: xr d :: st) (M) Q = Wp 92 80 (ls) (xi (M d a) :: st) (M) Q := wp_ald rfl hc h1 (by rw [hn]; exact h2)
theorem w92_80 {ls st : List xV} {M : xM} {Q : Option xV → xM → Prop}  : Wp 92 80 (ls) (st) (M) Q = Wp 92 81 (ls) (xi 5 :: st) (M) Q := wp_const rfl
theorem w92_81 {ls st : List xV} {M : xM} {Q : Option xV → xM → Prop} {a : Int} {b : Int} (ha : xG a) (hb : xG b) : Wp 92 81 (ls) (xi b :: xi a :: st) (M) Q = ((¬ a = b → Wp 92 86 (ls) (st) (M) Q) ∧ (¬ (¬ a = b) → Wp 92 84 (ls) (st) (M) Q)) := wp_cmp_ne rfl ha hb
theorem w92_84 {ls st : List xV} {M : xM} {Q : Option xV → xM → Prop}  : Wp 92 84 (ls) (st) (M) Q = Wp 92 85 (ls) (xi 0 :: st) (M) Q := wp_const rfl
theorem w92_85 {ls : List xV} {M : xM} {Q : Option xV → xM → Prop} {a : Int} (ha : a = 0 ∨ a = 1) : Wp 92 85 (ls) ([xi a]) (M) Q = Q (some (xi a)) M := wp_zret rfl ha
theorem w92_86 {ls st : List xV} {M : xM} {Q : Option xV → xM → Prop}  : Wp 92 86 (ls) (st) (M) Q = Wp 92 87 (ls) (xi 0 :: st) (M) Q := wp_const rfl
theorem w92_87 {ls st : List xV} {M : xM} {Q : Option xV → xM → Prop} {a : Int} {v0 : xV} {v1 : xV} {v2 : xV} {v3 : xV} {v4 : xV} {w : xV} : Wp 92 87 (v0 :: v1 :: v2 :: v3 :: v4 :: w :: ls) (xi a :: st) (M) Q = Wp 92 89 (v0 :: v1 :: v2 :: v3 :: xjl v4 :: xi a :: ls) (st) (M) Q := wp_istore rfl rfl
theorem w92_89 {ls st : List xV} {M : xM} {Q : Option xV → xM → Prop}  : Wp 92 89 (ls) (st) (M) Q = Wp 92 90 (ls) (xi 0 :: st) (M) Q := wp_const rfl
theorem w92_90 {ls st : List xV} {M : xM} {Q : Option xV → xM → Prop} {a : Int} {v0 : xV} {v1 : xV} {v2 : xV} {v3 : xV} {v4 : xV} {v5 : xV} {w : xV} : Wp 92 90 (v0 :: v1 :: v2 :: v3 :: v4 :: v5 :: w :: ls) (xi a :: st) (M) Q = Wp 92 92 (v0 :: v1 :: v2 :: v3 :: v4 :: xjl v5 :: xi a :: ls) (st) (M) Q := wp_istore rfl rfl
theorem w92_92 {ls st : List xV} {M : xM} {Q : Option xV → xM → Prop} {a : Int} {v0 : xV} {v1 : xV} {v2 : xV} {v3 : xV} {v4 : xV} {v5 : xV} : Wp 92 92 (v0 :: v1 :: v2 :: v3 :: v4 :: v5 :: xi a :: ls) (st) (M) Q = Wp 92 94 (v0 :: v1 :: v2 :: v3 :: v4 :: v5 :: xi a :: ls) (xi a :: st) (M) Q := wp_iload rfl rfl
theorem w92_94 {ls st : List xV} {M : xM} {Q : Option xV → xM → Prop} {d : Nat} : Wp 92 94 (xr d :: ls) (st) (M) Q = Wp 92 95 (xr d :: ls) (xr d :: st) (M) Q := wp_aload rfl rfl
theorem w92_95 {ls st : List xV} {M : xM} {Q : Option xV → xM → Prop} {d : Nat} (hc : x_c d = 9) : Wp 92 95 (ls) (xr d :: st) (M) Q = Wp 92 98 (ls) (xr (x_r d 3) :: st) (M) Q := wp_getr rfl hc
theorem w92_98 {ls st : List xV} {M : xM} {Q : Option xV → xM → Prop}  : Wp 92 98 (ls) (st) (M) Q = Wp 92 99 (ls) (xi 2 :: st) (M) Q := wp_const rfl
theorem w92_99 {ls st : List xV} {M : xM} {Q : Option xV → xM → Prop} {a : Int} {d : Nat} (hc : x_c d = 20) (hn : x_n d = 25) (h1 : 0 ≤ a) (h2 : a < 25) : Wp 92 99 (ls) (xi a :: xr d :: st) (M) Q = Wp 92 100 (ls) (xi (M d a) :: st) (M) Q := wp_ald rfl hc h1 (by rw [hn]; exact h2)
theorem w92_100 {ls st : List xV} {M : xM} {Q : Option xV → xM → Prop} {a : Int} {b : Int} (ha : xG a) (hb : xG b) : Wp 92 100 (ls) (xi b :: xi a :: st) (M) Q = ((b ≤ a → Wp 92 133 (ls) (st) (M) Q) ∧ (¬ (b ≤ a) → Wp 92 103 (ls) (st) (M) Q)) := wp_cmp_ge rfl ha hb
theorem w92_103 {ls st : List xV} {M : xM} {Q : Option xV → xM → Prop} {a : Int} {v0 : xV} {v1 : xV} {v2 : xV} {v3 : xV} {v4 : xV} : Wp 92 103 (v0 :: v1 :: v2 :: v3 :: v4 :: xi a :: ls) (st) (M) Q = Wp 92 105 (v0 :: v1 :: v2 :: v3 :: v4 :: xi a :: ls) (xi a :: st) (M) Q := wp_iload rfl rfl
theorem w92_105 {ls st : List xV} {M : xM} {Q : Option xV → xM → Prop} {d : Nat} : Wp 92 105 (xr d :: ls) (st) (M) Q = Wp 92 106 (xr d :: ls) (xr d :: st) (M) Q := wp_aload rfl rfl
theorem w92_106 {ls st : List xV} {M : xM} {Q : Option xV → xM → Prop} {d : Nat} (hc : x_c d = 9) : Wp 92 106 (ls) (xr d :: st) (M) Q = Wp 92 109 (ls) (xr (x_r d 3) :: st) (M) Q := wp_getr rfl hc
theorem w92_109 {ls st : List xV} {M : xM} {Q : Option xV → xM → Prop}  : Wp 92 109 (ls) (st) (M) Q = Wp 92 111 (ls) (xi 15 :: st) (M) Q := wp_const rfl
theorem w92_111 {ls st : List xV} {M : xM} {Q : Option xV → xM → Prop} {a : Int} {v0 : xV} {v1 : xV} {v2 : xV} {v3 : xV} {v4 : xV} {v5 : xV} : Wp 92 111 (v0 :: v1 :: v2 :: v3 :: v4 :: v5 :: xi a :: ls) (st) (M) Q = Wp 92 113 (v0 :: v1 :: v2 :: v3 :: v4 :: v5 :: xi a :: ls) (xi a :: st) (M) Q := wp_iload rfl rfl
theorem w92_113 {ls st : List xV} {M : xM} {Q : Option xV → xM → Prop} {a : Int} {b : Int} : Wp 92 113 (ls) (xi b :: xi a :: st) (M) Q = Wp 92 114 (ls) (xi (a + b) :: st) (M) Q := wp_bin (f := xadd) rfl
theorem w92_114 {ls st : List xV} {M : xM} {Q : Option xV → xM → Prop} {a : Int} {d : Nat} (hc : x_c d = 20) (hn : x_n d = 25) (h1 : 0 ≤ a) (h2 : a < 25) : Wp 92 114 (ls) (xi a :: xr d :: st) (M) Q = Wp 92 115 (ls) (xi (M d a) :: st) (M) Q := wp_ald rfl hc h1 (by rw [hn]; exact h2)
theorem w92_115 {ls st : List xV} {M : xM} {Q : Option xV → xM → Prop} {a : Int} {v0 : xV} {v1 : xV} : Wp 92 115 (v0 :: v1 :: xi a :: ls) (st) (M) Q = Wp 92 116 (v0 :: v1 :: xi a :: ls) (xi a :: st) (M) Q := wp_iload rfl rfl
theorem w92_116 {ls st : List xV} {M : xM} {Q : Option xV → xM → Prop} {a : Int} {b : Int} (ha : xG a) (hb : xG b) : Wp 92 116 (ls) (xi b :: xi a :: st) (M) Q = ((¬ a = b → Wp 92 123 (ls) (st) (M) Q) ∧ (¬ (¬ a = b) → Wp 92 119 (ls) (st) (M) Q)) := wp_cmp_ne rfl ha hb
theorem w92_119 {ls st : List xV} {M : xM} {Q : Option xV → xM → Prop}  : Wp 92 119 (ls) (st) (M) Q = Wp 92 120 (ls) (xi 1 :: st) (M) Q := wp_const rfl
theorem w92_120 {ls st : List xV} {M : xM} {Q : Option xV → xM → Prop}  : Wp 92 120 (ls) (st) (M) Q = Wp 92 124 (ls) (st) (M) Q := wp_goto rfl
theorem w92_123 {ls st : List xV} {M : xM} {Q : Option xV → xM → Prop}  : Wp 92 123 (ls) (st) (M) Q = Wp 92 124 (ls) (xi 0 :: st) (M) Q := wp_const rfl
theorem w92_124 {ls st : List xV} {M : xM} {Q : Option xV → xM → Prop} {a : Int} {b : Int} : Wp 92 124 (ls) (xi b :: xi a :: st) (M) Q = Wp 92 125 (ls) (xi (a + b) :: st) (M) Q := wp_bin (f := xadd) rfl
theorem w92_125 {ls st : List xV} {M : xM} {Q : Option xV → xM → Prop} {a : Int} {v0 : xV} {v1 : xV} {v2 : xV} {v3 : xV} {v4 : xV} {w : xV} : Wp 92 125 (v0 :: v1 :: v2 :: v3 :: v4 :: w :: ls) (xi a :: st) (M) Q = Wp 92 127 (v0 :: v1 :: v2 :: v3 :: xjl v4 :: xi a :: ls) (st) (M) Q := wp_istore rfl rfl
theorem w92_127 {ls st : List xV} {M : xM} {Q : Option xV → xM → Prop} {a : Int} {v0 : xV} {v1 : xV} {v2 : xV} {v3 : xV} {v4 : xV} {v5 : xV} : Wp 92 127 (v0 :: v1 :: v2 :: v3 :: v4 :: v5 :: xi a :: ls) (st) (M) Q = Wp 92 130 (v0 :: v1 :: v2 :: v3 :: v4 :: xjl v5 :: xi (a + 1) :: ls) (st) (M) Q := wp_iinc rfl rfl rfl
theorem w92_130 {ls st : List xV} {M : xM} {Q : Option xV → xM → Prop}  : Wp 92 130 (ls) (st) (M) Q = Wp 92 92 (ls) (st) (M) Q := wp_goto rfl
theorem w92_133 {ls st : List xV} {M : xM} {Q : Option xV → xM → Prop} {a : Int} {v0 : xV} {v1 : xV} {v2 : xV} {v3 : xV} {v4 : xV} : Wp 92 133 (v0 :: v1 :: v2 :: v3 :: v4 :: xi a :: ls) (st) (M) Q = Wp 92 135 (v0 :: v1 :: v2 :: v3 :: v4 :: xi a :: ls) (xi a :: st) (M) Q := wp_iload rfl rfl
theorem w92_135 {ls st : List xV} {M : xM} {Q : Option xV → xM → Prop} {d : Nat} : Wp 92 135 (xr d :: ls) (st) (M) Q = Wp 92 136 (xr d :: ls) (xr d :: st) (M) Q := wp_aload rfl rfl
theorem w92_136 {ls st : List xV} {M : xM} {Q : Option xV → xM → Prop} {d : Nat} (hc : x_c d = 9) : Wp 92 136 (ls) (xr d :: st) (M) Q = Wp 92 139 (ls) (xr (x_r d 4) :: st) (M) Q := wp_getr rfl hc
theorem w92_139 {ls st : List xV} {M : xM} {Q : Option xV → xM → Prop}  : Wp 92 139 (ls) (st) (M) Q = Wp 92 141 (ls) (xi 6 :: st) (M) Q := wp_const rfl
theorem w92_141 {ls st : List xV} {M : xM} {Q : Option xV → xM → Prop} {a : Int} {d : Nat} (hc : x_c d = 20) (hn : x_n d = 7) (h1 : 0 ≤ a) (h2 : a < 7) : Wp 92 141 (ls) (xi a :: xr d :: st) (M) Q = Wp 92 142 (ls) (xi (M d a) :: st) (M) Q := wp_ald rfl hc h1 (by rw [hn]; exact h2)
theorem w92_142 {ls st : List xV} {M : xM} {Q : Option xV → xM → Prop} {a : Int} {v0 : xV} {v1 : xV} : Wp 92 142 (v0 :: v1 :: xi a :: ls) (st) (M) Q = Wp 92 143 (v0 :: v1 :: xi a :: ls) (xi a :: st) (M) Q := wp_iload rfl rfl
theorem w92_143 {ls st : List xV} {M : xM} {Q : Option xV → xM → Prop} {a : Int} {b : Int} : Wp 92 143 (ls) (xi b :: xi a :: st) (M) Q = Wp 92 144 (ls) (xi (xshr a b) :: st) (M) Q := wp_bin (f := xshr) rfl
theorem w92_144 {ls st : List xV} {M : xM} {Q : Option xV → xM → Prop}  : Wp 92 144 (ls) (st) (M) Q = Wp 92 145 (ls) (xi 1 :: st) (M) Q := wp_const rfl
theorem w92_145 {ls st : List xV} {M : xM} {Q : Option xV → xM → Prop} {a : Int} {b : Int} : Wp 92 145 (ls) (xi b :: xi a :: st) (M) Q = Wp 92 146 (ls) (xi (xand a b) :: st) (M) Q := wp_bin (f := xand) rfl
theorem w92_146 {ls st : List xV} {M : xM} {Q : Option xV → xM → Prop} {a : Int} {b : Int} (ha : xG a) (hb : xG b) : Wp 92 146 (ls) (xi b :: xi a :: st) (M) Q = ((a ≤ b → Wp 92 151 (ls) (st) (M) Q) ∧ (¬ (a ≤ b) → Wp 92 149 (ls) (st) (M) Q)) := wp_cmp_le rfl ha hb
theorem w92_149 {ls st : List xV} {M : xM} {Q : Option xV → xM → Prop}  : Wp 92 149 (ls) (st) (M) Q = Wp 92 150 (ls) (xi 0 :: st) (M) Q := wp_const rfl
theorem w92_150 {ls : List xV} {M : xM} {Q : Option xV → xM → Prop} {a : Int} (ha : a = 0 ∨ a = 1) : Wp 92 150 (ls) ([xi a]) (M) Q = Q (some (xi a)) M := wp_zret rfl ha
theorem w92_151 {ls st : List xV} {M : xM} {Q : Option xV → xM → Prop} {d : Nat} : Wp 92 151 (xr d :: ls) (st) (M) Q = Wp 92 152 (xr d :: ls) (xr d :: st) (M) Q := wp_aload rfl rfl
theorem w92_152 {ls st : List xV} {M : xM} {Q : Option xV → xM → Prop} {a : Int} {v0 : xV} : Wp 92 152 (v0 :: xi a :: ls) (st) (M) Q = Wp 92 153 (v0 :: xi a :: ls) (xi a :: st) (M) Q := wp_iload rfl rfl
set_option maxRecDepth 20000 in
theorem w92_153 {ls st : List xV} {M : xM} {Q : Option xV → xM → Prop} {a : Int} {v0 : xV} {v1 : xV} : Wp 92 153 (v0 :: v1 :: xi a :: ls) (st) (M) Q = Wp 92 154 (v0 :: v1 :: xi a :: ls) (xi a :: st) (M) Q := wp_iload rfl rfl
set_option maxRecDepth 20000 in
theorem w92_154 {ls st : List xV} {M : xM} {Q : Option xV → xM → Prop} {a : Int} {v0 : xV} {v1 : xV} {v2 : xV} : Wp 92 154 (v0 :: v1 :: v2 :: xi a :: ls) (st) (M) Q = Wp 92 155 (v0 :: v1 :: v2 :: xi a :: ls) (xi a :: st) (M) Q := wp_iload rfl rfl
set_option maxRecDepth 20000 in
theorem w92_155 {ls st : List xV} {M : xM} {Q : Option xV → xM → Prop} {a : Int} {v0 : xV} {v1 : xV} {v2 : xV} {v3 : xV} : Wp 92 155 (v0 :: v1 :: v2 :: v3 :: xi a :: ls) (st) (M) Q = Wp 92 157 (v0 :: v1 :: v2 :: v3 :: xi a :: ls) (xi a :: st) (M) Q := wp_iload rfl rfl
set_option maxRecDepth 20000 in
theorem w92_157 {ls : List xV} {M : xM} {Q : Option xV → xM → Prop} {a1 : Int} {a2 : Int} {a3 : Int} {a4 : Int} {d0 : Nat} (hc : x_c d0 = 9) : Wp 92 157 (ls) (xi a4 :: xi a3 :: xi a2 :: xi a1 :: xr d0 :: []) (M) Q = Wc 91 [xr d0, xi a1, xi a2, xi a3, xi a4] M (fun r M2 => Wp 92 160 (ls) (r.toList ++ ([])) M2 Q) := wp_cV rfl rfl hc (Nat.le_of_ble_eq_true rfl) (Nat.le_of_ble_eq_true rfl) rfl rfl
set_option maxRecDepth 20000 in
theorem w92_160 {ls st : List xV} {M : xM} {Q : Option xV → xM → Prop}  : Wp 92 160 (ls) (st) (M) Q = Wp 92 161 (ls) (xi 1 :: st) (M) Q := wp_const rfl
set_option maxRecDepth 20000 in
theorem w92_161 {ls : List xV} {M : xM} {Q : Option xV → xM → Prop} {a : Int} (ha : a = 0 ∨ a = 1) : Wp 92 161 (ls) ([xi a]) (M) Q = Q (some (xi a)) M := wp_zret rfl ha
theorem wc93 {M : xM} {Q : Option xV → xM → Prop} {d0 : Nat} {a1 : Int} : Wc 93 [xr d0, xi a1] M Q = Wp 93 0 [xr d0, xi a1, xj] [] M Q := rfl
theorem w93_0 {ls st : List xV} {M : xM} {Q : Option xV → xM → Prop} {a : Int} {v0 : xV} : Wp 93 0 (v0 :: xi a :: ls) (st) (M) Q = Wp 93 1 (v0 :: xi a :: ls) (xi a :: st) (M) Q := wp_iload rfl rfl
theorem w93_1 {ls st : List xV} {M : xM} {Q : Option xV → xM → Prop}  : Wp 93 1 (ls) (st) (M) Q = Wp 93 3 (ls) (xi 110 :: st) (M) Q := wp_const rfl
theorem w93_3 {ls st : List xV} {M : xM} {Q : Option xV → xM → Prop} {a : Int} {b : Int} (ha : xG a) (hb : xG b) : Wp 93 3 (ls) (xi b :: xi a :: st) (M) Q = ((¬ a = b → Wp 93 45 (ls) (st) (M) Q) ∧ (¬ (¬ a = b) → Wp 93 6 (ls) (st) (M) Q)) := wp_cmp_ne rfl ha hb
theorem w93_6 {ls st : List xV} {M : xM} {Q : Option xV → xM → Prop} {d : Nat} : Wp 93 6 (xr d :: ls) (st) (M) Q = Wp 93 7 (xr d :: ls) (xr d :: st) (M) Q := wp_aload rfl rfl
theorem w93_7 {ls st : List xV} {M : xM} {Q : Option xV → xM → Prop} {d : Nat} (hc : x_c d = 9) : Wp 93 7 (ls) (xr d :: st) (M) Q = Wp 93 10 (ls) (xr (x_r d 3) :: st) (M) Q := wp_getr rfl hc
theorem w93_10 {ls st : List xV} {M : xM} {Q : Option xV → xM → Prop}  : Wp 93 10 (ls) (st) (M) Q = Wp 93 11 (ls) (xi 0 :: st) (M) Q := wp_const rfl
theorem w93_11 {ls st : List xV} {M : xM} {Q : Option xV → xM → Prop} {d : Nat} : Wp 93 11 (xr d :: ls) (st) (M) Q = Wp 93 12 (xr d :: ls) (xr d :: st) (M) Q := wp_aload rfl rfl
theorem w93_12 {ls st : List xV} {M : xM} {Q : Option xV → xM → Prop}  : Wp 93 12 (ls) (st) (M) Q = Wp 93 13 (ls) (xi 4 :: st) (M) Q := wp_const rfl
theorem w93_13 {ls st : List xV} {M : xM} {Q : Option xV → xM → Prop}  : Wp 93 13 (ls) (st) (M) Q = Wp 93 15 (ls) (xi 24 :: st) (M) Q := wp_const rfl
theorem w93_15 {ls st : List xV} {M : xM} {Q : Option xV → xM → Prop}  : Wp 93 15 (ls) (st) (M) Q = Wp 93 17 (ls) (xi 59 :: st) (M) Q := wp_const rfl
theorem w93_17 {ls : List xV} {M : xM} {Q : Option xV → xM → Prop} {a1 : Int} {a2 : Int} {a3 : Int} {d0 : Nat} {s0 : xV} {s1 : xV} (hc : x_c d0 = 9) : Wp 93 17 (ls) (xi a3 :: xi a2 :: xi a1 :: xr d0 :: s0 :: s1 :: []) (M) Q = Wc 88 [xr d0, xi a1, xi a2, xi a3] M (fun r M2 => Wp 93 20 (ls) (r.toList ++ (s0 :: s1 :: [])) M2 Q) := wp_cV rfl rfl hc (Nat.le_of_ble_eq_true rfl) (Nat.le_of_ble_eq_true rfl) rfl rfl
theorem w93_20 {ls st : List xV} {M : xM} {Q : Option xV → xM → Prop} {a : Int} {d : Nat} {x : Int} (hc : x_c d = 20) (hn : x_n d = 25) (h1 : 0 ≤ a) (h2 : a < 25) : Wp 93 20 (ls) (xi x :: xi a :: xr d :: st) (M) Q = Wp 93 21 (ls) (st) (xup M d a x) Q := wp_iast rfl hc h1 (by rw [hn]; exact h2)
theorem w93_21 {ls st : List xV} {M : xM} {Q : Option xV → xM → Prop} {d : Nat} : Wp 93 21 (xr d :: ls) (st) (M) Q = Wp 93 22 (xr d :: ls) (xr d :: st) (M) Q := wp_aload rfl rfl
theorem w93_22 {ls st : List xV} {M : xM} {Q : Option xV → xM → Prop} {d : Nat} (hc : x_c d = 9) : Wp 93 22 (ls) (xr d :: st) (M) Q = Wp 93 25 (ls) (xr (x_r d 3) :: st) (M) Q := wp_getr rfl hc
theorem w93_25 {ls st : List xV} {M : xM} {Q : Option xV → xM → Prop}  : Wp 93 25 (ls) (st) (M) Q = Wp 93 26 (ls) (xi 0 :: st) (M) Q := wp_const rfl
theorem w93_26 {ls st : List xV} {M : xM} {Q : Option xV → xM → Prop} {a : Int} {d : Nat} (hc : x_c d = 20) (hn : x_n d = 25) (h1 : 0 ≤ a) (h2 : a < 25) : Wp 93 26 (ls) (xi a :: xr d :: st) (M) Q = Wp 93 27 (ls) (xi (M d a) :: st) (M) Q := wp_ald rfl hc h1 (by rw [hn]; exact h2)
theorem w93_27 {ls st : List xV} {M : xM} {Q : Option xV → xM → Prop} {a : Int} (ha : xG a) : Wp 93 27 (ls) (xi a :: st) (M) Q = ((a ≤ 0 → Wp 93 43 (ls) (st) (M) Q) ∧ (¬ (a ≤ 0) → Wp 93 30 (ls) (st) (M) Q)) := wp_if_le rfl ha
theorem w93_30 {ls st : List xV} {M : xM} {Q : Option xV → xM → Prop} {d : Nat} : Wp 93 30 (xr d :: ls) (st) (M) Q = Wp 93 31 (xr d :: ls) (xr d :: st) (M) Q := wp_aload rfl rfl
theorem w93_31 {ls st : List xV} {M : xM} {Q : Option xV → xM → Prop} {d : Nat} (hc : x_c d = 9) : Wp 93 31 (ls) (xr d :: st) (M) Q = Wp 93 34 (ls) (xr (x_r d 3) :: st) (M) Q := wp_getr rfl hc
theorem w93_34 {ls st : List xV} {M : xM} {Q : Option xV → xM → Prop}  : Wp 93 34 (ls) (st) (M) Q = Wp 93 35 (ls) (xi 4 :: st) (M) Q := wp_const rfl
theorem w93_35 {ls st : List xV} {M : xM} {Q : Option xV → xM → Prop} {a : Int} {d : Nat} (hc : x_c d = 20) (hn : x_n d = 25) (h1 : 0 ≤ a) (h2 : a < 25) : Wp 93 35 (ls) (xi a :: xr d :: st) (M) Q = Wp 93 36 (ls) (xi (M d a) :: st) (M) Q := wp_ald rfl hc h1 (by rw [hn]; exact h2)
theorem w93_36 {ls st : List xV} {M : xM} {Q : Option xV → xM → Prop} {a : Int} (ha : xG a) : Wp 93 36 (ls) (xi a :: st) (M) Q = ((¬ a = 0 → Wp 93 43 (ls) (st) (M) Q) ∧ (¬ (¬ a = 0) → Wp 93 39 (ls) (st) (M) Q)) := wp_if_ne rfl ha
theorem w93_39 {ls st : List xV} {M : xM} {Q : Option xV → xM → Prop}  : Wp 93 39 (ls) (st) (M) Q = Wp 93 40 (ls) (xi 1 :: st) (M) Q := wp_const rfl
theorem w93_40 {ls st : List xV} {M : xM} {Q : Option xV → xM → Prop}  : Wp 93 40 (ls) (st) (M) Q = Wp 93 44 (ls) (st) (M) Q := wp_goto rfl
theorem w93_43 {ls st : List xV} {M : xM} {Q : Option xV → xM → Prop}  : Wp 93 43 (ls) (st) (M) Q = Wp 93 44 (ls) (xi 0 :: st) (M) Q := wp_const rfl
theorem w93_44 {ls : List xV} {M : xM} {Q : Option xV → xM → Prop} {a : Int} (ha : a = 0 ∨ a = 1) : Wp 93 44 (ls) ([xi a]) (M) Q = Q (some (xi a)) M := wp_zret rfl ha
theorem w93_45 {ls st : List xV} {M : xM} {Q : Option xV → xM → Prop} {d : Nat} : Wp 93 45 (xr d :: ls) (st) (M) Q = Wp 93 46 (xr d :: ls) (xr d :: st) (M) Q := wp_aload rfl rfl
theorem w93_46 {ls st : List xV} {M : xM} {Q : Option xV → xM → Prop} {d : Nat} (hc : x_c d = 9) : Wp 93 46 (ls) (xr d :: st) (M) Q = Wp 93 49 (ls) (xr (x_r d 3) :: st) (M) Q := wp_getr rfl hc
theorem w93_49 {ls st : List xV} {M : xM} {Q : Option xV → xM → Prop}  : Wp 93 49 (ls) (st) (M) Q = Wp 93 50 (ls) (xi 4 :: st) (M) Q := wp_const rfl
theorem w93_50 {ls st : List xV} {M : xM} {Q : Option xV → xM → Prop}  : Wp 93 50 (ls) (st) (M) Q = Wp 93 51 (ls) (xi 1 :: st) (M) Q := wp_const rfl
theorem w93_51 {ls st : List xV} {M : xM} {Q : Option xV → xM → Prop} {a : Int} {d : Nat} {x : Int} (hc : x_c d = 20) (hn : x_n d = 25) (h1 : 0 ≤ a) (h2 : a < 25) : Wp 93 51 (ls) (xi x :: xi a :: xr d :: st) (M) Q = Wp 93 52 (ls) (st) (xup M d a x) Q := wp_iast rfl hc h1 (by rw [hn]; exact h2)
theorem w93_52 {ls st : List xV} {M : xM} {Q : Option xV → xM → Prop} {a : Int} {v0 : xV} : Wp 93 52 (v0 :: xi a :: ls) (st) (M) Q = Wp 93 53 (v0 :: xi a :: ls) (xi a :: st) (M) Q := wp_iload rfl rfl
theorem w93_53 {ls st : List xV} {M : xM} {Q : Option xV → xM → Prop}  : Wp 93 53 (ls) (st) (M) Q = Wp 93 55 (ls) (xi 112 :: st) (M) Q := wp_const rfl
theorem w93_55 {ls st : List xV} {M : xM} {Q : Option xV → xM → Prop} {a : Int} {b : Int} (ha : xG a) (hb : xG b) : Wp 93 55 (ls) (xi b :: xi a :: st) (M) Q = ((¬ a = b → Wp 93 63 (ls) (st) (M) Q) ∧ (¬ (¬ a = b) → Wp 93 58 (ls) (st) (M) Q)) := wp_cmp_ne rfl ha hb
theorem w93_58 {ls st : List xV} {M : xM} {Q : Option xV → xM → Prop} {d : Nat} : Wp 93 58 (xr d :: ls) (st) (M) Q = Wp 93 59 (xr d :: ls) (xr d :: st) (M) Q := wp_aload rfl rfl
theorem w93_59 {ls : List xV} {M : xM} {Q : Option xV → xM → Prop} {d0 : Nat} (hc : x_c d0 = 9) : Wp 93 59 (ls) (xr d0 :: []) (M) Q = Wc 92 [xr d0] M (fun r M2 => Wp 93 62 (ls) (r.toList ++ ([])) M2 Q) := wp_cV rfl rfl hc (Nat.le_of_ble_eq_true rfl) (Nat.le_of_ble_eq_true rfl) rfl rfl
theorem w93_62 {ls : List xV} {M : xM} {Q : Option xV → xM → Prop} {a : Int} (ha : a = 0 ∨ a = 1) : Wp 93 62 (ls) ([xi a]) (M) Q = Q (some (xi a)) M := wp_zret rfl ha
theorem w93_63 {ls st : List xV} {M : xM} {Q : Option xV → xM → Prop} {a : Int} {v0 : xV} : Wp 93 63 (v0 :: xi a :: ls) (st) (M) Q = Wp 93 64 (v0 :: xi a :: ls) (xi a :: st) (M) Q := wp_iload rfl rfl
theorem w93_64 {ls st : List xV} {M : xM} {Q : Option xV → xM → Prop}  : Wp 93 64 (ls) (st) (M) Q = Wp 93 66 (ls) (xi 116 :: st) (M) Q := wp_const rfl
theorem w93_66 {ls st : List xV} {M : xM} {Q : Option xV → xM → Prop} {a : Int} {b : Int} (ha : xG a) (hb : xG b) : Wp 93 66 (ls) (xi b :: xi a :: st) (M) Q = ((a = b → Wp 93 83 (ls) (st) (M) Q) ∧ (¬ (a = b) → Wp 93 69 (ls) (st) (M) Q)) := wp_cmp_eq rfl ha hb
theorem w93_69 {ls st : List xV} {M : xM} {Q : Option xV → xM → Prop} {a : Int} {v0 : xV} : Wp 93 69 (v0 :: xi a :: ls) (st) (M) Q = Wp 93 70 (v0 :: xi a :: ls) (xi a :: st) (M) Q := wp_iload rfl rfl
theorem w93_70 {ls st : List xV} {M : xM} {Q : Option xV → xM → Prop}  : Wp 93 70 (ls) (st) (M) Q = Wp 93 72 (ls) (xi 97 :: st) (M) Q := wp_const rfl
theorem w93_72 {ls st : List xV} {M : xM} {Q : Option xV → xM → Prop} {a : Int} {b : Int} (ha : xG a) (hb : xG b) : Wp 93 72 (ls) (xi b :: xi a :: st) (M) Q = ((a = b → Wp 93 83 (ls) (st) (M) Q) ∧ (¬ (a = b) → Wp 93 75 (ls) (st) (M) Q)) := wp_cmp_eq rfl ha hb
theorem w93_75 {ls st : List xV} {M : xM} {Q : Option xV → xM → Prop} {a : Int} {v0 : xV} : Wp 93 75 (v0 :: xi a :: ls) (st) (M) Q = Wp 93 76 (v0 :: xi a :: ls) (xi a :: st) (M) Q := wp_iload rfl rfl
theorem w93_76 {ls st : List xV} {M : xM} {Q : Option xV → xM → Prop}  : Wp 93 76 (ls) (st) (M) Q = Wp 93 78 (ls) (xi 119 :: st) (M) Q := wp_const rfl
theorem w93_78 {ls st : List xV} {M : xM} {Q : Option xV → xM → Prop} {a : Int} {b : Int} (ha : xG a) (hb : xG b) : Wp 93 78 (ls) (xi b :: xi a :: st) (M) Q = ((a = b → Wp 93 83 (ls) (st) (M) Q) ∧ (¬ (a = b) → Wp 93 81 (ls) (st) (M) Q)) := wp_cmp_eq rfl ha hb
theorem w93_81 {ls st : List xV} {M : xM} {Q : Option xV → xM → Prop}  : Wp 93 81 (ls) (st) (M) Q = Wp 93 82 (ls) (xi 0 :: st) (M) Q := wp_const rfl
theorem w93_82 {ls : List xV} {M : xM} {Q : Option xV → xM → Prop} {a : Int} (ha : a = 0 ∨ a = 1) : Wp 93 82 (ls) ([xi a]) (M) Q = Q (some (xi a)) M := wp_zret rfl ha
theorem w93_83 {ls st : List xV} {M : xM} {Q : Option xV → xM → Prop} {d : Nat} : Wp 93 83 (xr d :: ls) (st) (M) Q = Wp 93 84 (xr d :: ls) (xr d :: st) (M) Q := wp_aload rfl rfl
theorem w93_84 {ls st : List xV} {M : xM} {Q : Option xV → xM → Prop}  : Wp 93 84 (ls) (st) (M) Q = Wp 93 85 (ls) (xi 0 :: st) (M) Q := wp_const rfl
theorem w93_85 {ls st : List xV} {M : xM} {Q : Option xV → xM → Prop} {d : Nat} : Wp 93 85 (xr d :: ls) (st) (M) Q = Wp 93 86 (xr d :: ls) (xr d :: st) (M) Q := wp_aload rfl rfl
theorem w93_86 {ls st : List xV} {M : xM} {Q : Option xV → xM → Prop} {d : Nat} (hc : x_c d = 9) : Wp 93 86 (ls) (xr d :: st) (M) Q = Wp 93 89 (ls) (xr (x_r d 3) :: st) (M) Q := wp_getr rfl hc
theorem w93_89 {ls st : List xV} {M : xM} {Q : Option xV → xM → Prop}  : Wp 93 89 (ls) (st) (M) Q = Wp 93 90 (ls) (xi 0 :: st) (M) Q := wp_const rfl
theorem w93_90 {ls st : List xV} {M : xM} {Q : Option xV → xM → Prop} {a : Int} {d : Nat} (hc : x_c d = 20) (hn : x_n d = 25) (h1 : 0 ≤ a) (h2 : a < 25) : Wp 93 90 (ls) (xi a :: xr d :: st) (M) Q = Wp 93 91 (ls) (xi (M d a) :: st) (M) Q := wp_ald rfl hc h1 (by rw [hn]; exact h2)
theorem w93_91 {ls st : List xV} {M : xM} {Q : Option xV → xM → Prop}  : Wp 93 91 (ls) (st) (M) Q = Wp 93 92 (ls) (xi 1 :: st) (M) Q := wp_const rfl
theorem w93_92 {ls st : List xV} {M : xM} {Q : Option xV → xM → Prop} {a : Int} {b : Int} : Wp 93 92 (ls) (xi b :: xi a :: st) (M) Q = Wp 93 93 (ls) (xi (a - b) :: st) (M) Q := wp_bin (f := xsub) rfl
theorem w93_93 {ls st : List xV} {M : xM} {Q : Option xV → xM → Prop}  : Wp 93 93 (ls) (st) (M) Q = Wp 93 95 (ls) (xi 59 :: st) (M) Q := wp_const rfl
theorem w93_95 {ls : List xV} {M : xM} {Q : Option xV → xM → Prop} {a1 : Int} {a2 : Int} {a3 : Int} {d0 : Nat} (hc : x_c d0 = 9) : Wp 93 95 (ls) (xi a3 :: xi a2 :: xi a1 :: xr d0 :: []) (M) Q = Wc 88 [xr d0, xi a1, xi a2, xi a3] M (fun r M2 => Wp 93 98 (ls) (r.toList ++ ([])) M2 Q) := wp_cV rfl rfl hc (Nat.le_of_ble_eq_true rfl) (Nat.le_of_ble_eq_true rfl) rfl rfl
theorem w93_98 {ls st : List xV} {M : xM} {Q : Option xV → xM → Prop} {a : Int} {v0 : xV} {v1 : xV} {w : xV} : Wp 93 98 (v0 :: v1 :: w :: ls) (xi a :: st) (M) Q = Wp 93 99 (v0 :: xjl v1 :: xi a :: ls) (st) (M) Q := wp_istore rfl rfl
theorem w93_99 {ls st : List xV} {M : xM} {Q : Option xV → xM → Prop} {a : Int} {v0 : xV} {v1 : xV} : Wp 93 99 (v0 :: v1 :: xi a :: ls) (st) (M) Q = Wp 93 100 (v0 :: v1 :: xi a :: ls) (xi a :: st) (M) Q := wp_iload rfl rfl
theorem w93_100 {ls st : List xV} {M : xM} {Q : Option xV → xM → Prop} {a : Int} (ha : xG a) : Wp 93 100 (ls) (xi a :: st) (M) Q = ((0 ≤ a → Wp 93 105 (ls) (st) (M) Q) ∧ (¬ (0 ≤ a) → Wp 93 103 (ls) (st) (M) Q)) := wp_if_ge rfl ha
theorem w93_103 {ls st : List xV} {M : xM} {Q : Option xV → xM → Prop}  : Wp 93 103 (ls) (st) (M) Q = Wp 93 104 (ls) (xi 0 :: st) (M) Q := wp_const rfl
theorem w93_104 {ls : List xV} {M : xM} {Q : Option xV → xM → Prop} {a : Int} (ha : a = 0 ∨ a = 1) : Wp 93 104 (ls) ([xi a]) (M) Q = Q (some (xi a)) M := wp_zret rfl ha
theorem w93_105 {ls st : List xV} {M : xM} {Q : Option xV → xM → Prop} {a : Int} {v0 : xV} : Wp 93 105 (v0 :: xi a :: ls) (st) (M) Q = Wp 93 106 (v0 :: xi a :: ls) (xi a :: st) (M) Q := wp_iload rfl rfl
theorem w93_106 {ls st : List xV} {M : xM} {Q : Option xV → xM → Prop}  : Wp 93 106 (ls) (st) (M) Q = Wp 93 108 (ls) (xi 116 :: st) (M) Q := wp_const rfl
theorem w93_108 {ls st : List xV} {M : xM} {Q : Option xV → xM → Prop} {a : Int} {b : Int} (ha : xG a) (hb : xG b) : Wp 93 108 (ls) (xi b :: xi a :: st) (M) Q = ((¬ a = b → Wp 93 131 (ls) (st) (M) Q) ∧ (¬ (¬ a = b) → Wp 93 111 (ls) (st) (M) Q)) := wp_cmp_ne rfl ha hb
theorem w93_111 {ls st : List xV} {M : xM} {Q : Option xV → xM → Prop} {d : Nat} : Wp 93 111 (xr d :: ls) (st) (M) Q = Wp 93 112 (xr d :: ls) (xr d :: st) (M) Q := wp_aload rfl rfl
theorem w93_112 {ls st : List xV} {M : xM} {Q : Option xV → xM → Prop} {d : Nat} (hc : x_c d = 9) : Wp 93 112 (ls) (xr d :: st) (M) Q = Wp 93 115 (ls) (xr (x_r d 3) :: st) (M) Q := wp_getr rfl hc
theorem w93_115 {ls st : List xV} {M : xM} {Q : Option xV → xM → Prop}  : Wp 93 115 (ls) (st) (M) Q = Wp 93 116 (ls) (xi 1 :: st) (M) Q := wp_const rfl
theorem w93_116 {ls st : List xV} {M : xM} {Q : Option xV → xM → Prop} {a : Int} {d : Nat} (hc : x_c d = 20) (hn : x_n d = 25) (h1 : 0 ≤ a) (h2 : a < 25) : Wp 93 116 (ls) (xi a :: xr d :: st) (M) Q = Wp 93 117 (ls) (xi (M d a) :: st) (M) Q := wp_ald rfl hc h1 (by rw [hn]; exact h2)
theorem w93_117 {ls st : List xV} {M : xM} {Q : Option xV → xM → Prop}  : Wp 93 117 (ls) (st) (M) Q = Wp 93 118 (ls) (xi 5 :: st) (M) Q := wp_const rfl
theorem w93_118 {ls st : List xV} {M : xM} {Q : Option xV → xM → Prop} {a : Int} {b : Int} (ha : xG a) (hb : xG b) : Wp 93 118 (ls) (xi b :: xi a :: st) (M) Q = ((¬ a = b → Wp 93 123 (ls) (st) (M) Q) ∧ (¬ (¬ a = b) → Wp 93 121 (ls) (st) (M) Q)) := wp_cmp_ne rfl ha hb
theorem w93_121 {ls st : List xV} {M : xM} {Q : Option xV → xM → Prop}  : Wp 93 121 (ls) (st) (M) Q = Wp 93 122 (ls) (xi 0 :: st) (M) Q := wp_const rfl
theorem w93_122 {ls : List xV} {M : xM} {Q : Option xV → xM → Prop} {a : Int} (ha : a = 0 ∨ a = 1) : Wp 93 122 (ls) ([xi a]) (M) Q = Q (some (xi a)) M := wp_zret rfl ha
theorem w93_123 {ls st : List xV} {M : xM} {Q : Option xV → xM → Prop} {d : Nat} : Wp 93 123 (xr d :: ls) (st) (M) Q = Wp 93 124 (xr d :: ls) (xr d :: st) (M) Q := wp_aload rfl rfl
theorem w93_124 {ls st : List xV} {M : xM} {Q : Option xV → xM → Prop} {a : Int} {v0 : xV} {v1 : xV} : Wp 93 124 (v0 :: v1 :: xi a :: ls) (st) (M) Q = Wp 93 125 (v0 :: v1 :: xi a :: ls) (xi a :: st) (M) Q := wp_iload rfl rfl
theorem w93_125 {ls : List xV} {M : xM} {Q : Option xV → xM → Prop} {a1 : Int} {d0 : Nat} (hc : x_c d0 = 9) : Wp 93 125 (ls) (xi a1 :: xr d0 :: []) (M) Q = Wc 90 [xr d0, xi a1] M (fun r M2 => Wp 93 128 (ls) (r.toList ++ ([])) M2 Q) := wp_cV rfl rfl hc (Nat.le_of_ble_eq_true rfl) (Nat.le_of_ble_eq_true rfl) rfl rfl
theorem w93_128 {ls st : List xV} {M : xM} {Q : Option xV → xM → Prop}  : Wp 93 128 (ls) (st) (M) Q = Wp 93 165 (ls) (st) (M) Q := wp_goto rfl
theorem w93_131 {ls st : List xV} {M : xM} {Q : Option xV → xM → Prop} {a : Int} {v0 : xV} : Wp 93 131 (v0 :: xi a :: ls) (st) (M) Q = Wp 93 132 (v0 :: xi a :: ls) (xi a :: st) (M) Q := wp_iload rfl rfl
theorem w93_132 {ls st : List xV} {M : xM} {Q : Option xV → xM → Prop}  : Wp 93 132 (ls) (st) (M) Q = Wp 93 134 (ls) (xi 97 :: st) (M) Q := wp_const rfl
theorem w93_134 {ls st : List xV} {M : xM} {Q : Option xV → xM → Prop} {a : Int} {b : Int} (ha : xG a) (hb : xG b) : Wp 93 134 (ls) (xi b :: xi a :: st) (M) Q = ((¬ a = b → Wp 93 153 (ls) (st) (M) Q) ∧ (¬ (¬ a = b) → Wp 93 137 (ls) (st) (M) Q)) := wp_cmp_ne rfl ha hb
theorem w93_137 {ls st : List xV} {M : xM} {Q : Option xV → xM → Prop} {d : Nat} : Wp 93 137 (xr d :: ls) (st) (M) Q = Wp 93 138 (xr d :: ls) (xr d :: st) (M) Q := wp_aload rfl rfl
theorem w93_138 {ls st : List xV} {M : xM} {Q : Option xV → xM → Prop} {d : Nat} (hc : x_c d = 9) : Wp 93 138 (ls) (xr d :: st) (M) Q = Wp 93 141 (ls) (xr (x_r d 4) :: st) (M) Q := wp_getr rfl hc
theorem w93_141 {ls st : List xV} {M : xM} {Q : Option xV → xM → Prop}  : Wp 93 141 (ls) (st) (M) Q = Wp 93 143 (ls) (xi 6 :: st) (M) Q := wp_const rfl
theorem w93_143 {ls st : List xV} {M : xM} {Q : Option xV → xM → Prop} {a : Int} {d : Nat} : Wp 93 143 (ls) (xi a :: xr d :: st) (M) Q = Wp 93 144 (ls) (xi a :: xr d :: xi a :: xr d :: st) (M) Q := wp_dup2 rfl
theorem w93_144 {ls st : List xV} {M : xM} {Q : Option xV → xM → Prop} {a : Int} {d : Nat} (hc : x_c d = 20) (hn : x_n d = 7) (h1 : 0 ≤ a) (h2 : a < 7) : Wp 93 144 (ls) (xi a :: xr d :: st) (M) Q = Wp 93 145 (ls) (xi (M d a) :: st) (M) Q := wp_ald rfl hc h1 (by rw [hn]; exact h2)
theorem w93_145 {ls st : List xV} {M : xM} {Q : Option xV → xM → Prop}  : Wp 93 145 (ls) (st) (M) Q = Wp 93 146 (ls) (xi 1 :: st) (M) Q := wp_const rfl
theorem w93_146 {ls st : List xV} {M : xM} {Q : Option xV → xM → Prop} {a : Int} {v0 : xV} {v1 : xV} : Wp 93 146 (v0 :: v1 :: xi a :: ls) (st) (M) Q = Wp 93 147 (v0 :: v1 :: xi a :: ls) (xi a :: st) (M) Q := wp_iload rfl rfl
theorem w93_147 {ls st : List xV} {M : xM} {Q : Option xV → xM → Prop} {a : Int} {b : Int} : Wp 93 147 (ls) (xi b :: xi a :: st) (M) Q = Wp 93 148 (ls) (xi (xshl a b) :: st) (M) Q := wp_bin (f := xshl) rfl
theorem w93_148 {ls st : List xV} {M : xM} {Q : Option xV → xM → Prop} {a : Int} {b : Int} : Wp 93 148 (ls) (xi b :: xi a :: st) (M) Q = Wp 93 149 (ls) (xi (xor_ a b) :: st) (M) Q := wp_bin (f := xor_) rfl
theorem w93_149 {ls st : List xV} {M : xM} {Q : Option xV → xM → Prop} {a : Int} {d : Nat} {x : Int} (hc : x_c d = 20) (hn : x_n d = 7) (h1 : 0 ≤ a) (h2 : a < 7) : Wp 93 149 (ls) (xi x :: xi a :: xr d :: st) (M) Q = Wp 93 150 (ls) (st) (xup M d a x) Q := wp_iast rfl hc h1 (by rw [hn]; exact h2)
set_option maxRecDepth 20000 in
theorem w93_150 {ls st : List xV} {M : xM} {Q : Option xV → xM → Prop}  : Wp 93 150 (ls) (st) (M) Q = Wp 93 165 (ls) (st) (M) Q := wp_goto rfl
set_option maxRecDepth 20000 in
theorem w93_153 {ls st : List xV} {M : xM} {Q : Option xV → xM → Prop} {d : Nat} : Wp 93 153 (xr d :: ls) (st) (M) Q = Wp 93 154 (xr d :: ls) (xr d :: st) (M) Q := wp_aload rfl rfl
set_option maxRecDepth 20000 in
theorem w93_154 {ls st : List xV} {M : xM} {Q : Option xV → xM → Prop} {d : Nat} (hc : x_c d = 9) : Wp 93 154 (ls) (xr d :: st) (M) Q = Wp 93 157 (ls) (xr (x_r d 3) :: st) (M) Q := wp_getr rfl hc
set_option maxRecDepth 20000 in
theorem w93_157 {ls st : List xV} {M : xM} {Q : Option xV → xM → Prop}  : Wp 93 157 (ls) (st) (M) Q = Wp 93 158 (ls) (xi 3 :: st) (M) Q := wp_const rfl
set_option maxRecDepth 20000 in
theorem w93_158 {ls st : List xV} {M : xM} {Q : Option xV → xM → Prop} {a : Int} {d : Nat} : Wp 93 158 (ls) (xi a :: xr d :: st) (M) Q = Wp 93 159 (ls) (xi a :: xr d :: xi a :: xr d :: st) (M) Q := wp_dup2 rfl
set_option maxRecDepth 20000 in
theorem w93_159 {ls st : List xV} {M : xM} {Q : Option xV → xM → Prop} {a : Int} {d : Nat} (hc : x_c d = 20) (hn : x_n d = 25) (h1 : 0 ≤ a) (h2 : a < 25) : Wp 93 159 (ls) (xi a :: xr d :: st) (M) Q = Wp 93 160 (ls) (xi (M d a) :: st) (M) Q := wp_ald rfl hc h1 (by rw [hn]; exact h2)
set_option maxRecDepth 20000 in
theorem w93_160 {ls st : List xV} {M : xM} {Q : Option xV → xM → Prop}  : Wp 93 160 (ls) (st) (M) Q = Wp 93 161 (ls) (xi 1 :: st) (M) Q := wp_const rfl
set_option maxRecDepth 20000 in
theorem w93_161 {ls st : List xV} {M : xM} {Q : Option xV → xM → Prop} {a : Int} {v0 : xV} {v1 : xV} : Wp 93 161 (v0 :: v1 :: xi a :: ls) (st) (M) Q = Wp 93 162 (v0 :: v1 :: xi a :: ls) (xi a :: st) (M) Q := wp_iload rfl rfl
set_option maxRecDepth 20000 in
theorem w93_162 {ls st : List xV} {M : xM} {Q : Option xV → xM → Prop} {a : Int} {b : Int} : Wp 93 162 (ls) (xi b :: xi a :: st) (M) Q = Wp 93 163 (ls) (xi (xshl a b) :: st) (M) Q := wp_bin (f := xshl) rfl
set_option maxRecDepth 20000 in
theorem w93_163 {ls st : List xV} {M : xM} {Q : Option xV → xM → Prop} {a : Int} {b : Int} : Wp 93 163 (ls) (xi b :: xi a :: st) (M) Q = Wp 93 164 (ls) (xi (xor_ a b) :: st) (M) Q := wp_bin (f := xor_) rfl
set_option maxRecDepth 20000 in
theorem w93_164 {ls st : List xV} {M : xM} {Q : Option xV → xM → Prop} {a : Int} {d : Nat} {x : Int} (hc : x_c d = 20) (hn : x_n d = 25) (h1 : 0 ≤ a) (h2 : a < 25) : Wp 93 164 (ls) (xi x :: xi a :: xr d :: st) (M) Q = Wp 93 165 (ls) (st) (xup M d a x) Q := wp_iast rfl hc h1 (by rw [hn]; exact h2)
set_option maxRecDepth 20000 in
theorem w93_165 {ls st : List xV} {M : xM} {Q : Option xV → xM → Prop}  : Wp 93 165 (ls) (st) (M) Q = Wp 93 166 (ls) (xi 1 :: st) (M) Q := wp_const rfl
set_option maxRecDepth 20000 in
theorem w93_166 {ls : List xV} {M : xM} {Q : Option xV → xM → Prop} {a : Int} (ha : a = 0 ∨ a = 1) : Wp 93 166 (ls) ([xi a]) (M) Q = Q (some (xi a)) M := wp_zret rfl ha
theorem wc94 {M : xM} {Q : Option xV → xM → Prop} {d0 : Nat} : Wc 94 [xr d0] M Q = Wp 94 0 [xr d0, xj] [] M Q := rfl
theorem w94_0 {ls st : List xV} {M : xM} {Q : Option xV → xM → Prop} {d : Nat} : Wp 94 0 (xr d :: ls) (st) (M) Q = Wp 94 1 (xr d :: ls) (xr d :: st) (M) Q := wp_aload rfl rfl
theorem w94_1 {ls : List xV} {M : xM} {Q : Option xV → xM → Prop} {d0 : Nat} (hc : x_c d0 = 9) : Wp 94 1 (ls) (xr d0 :: []) (M) Q = Wc 89 [xr d0] M (fun r M2 => Wp 94 4 (ls) (r.toList ++ ([])) M2 Q) := wp_cV rfl rfl hc (Nat.le_of_ble_eq_true rfl) (Nat.le_of_ble_eq_true rfl) rfl rfl
theorem w94_4 {ls st : List xV} {M : xM} {Q : Option xV → xM → Prop} {d : Nat} : Wp 94 4 (xr d :: ls) (st) (M) Q = Wp 94 5 (xr d :: ls) (xr d :: st) (M) Q := wp_aload rfl rfl
theorem w94_5 {ls st : List xV} {M : xM} {Q : Option xV → xM → Prop}  : Wp 94 5 (ls) (st) (M) Q = Wp 94 6 (ls) (xi 0 :: st) (M) Q := wp_const rfl
theorem w94_6 {ls st : List xV} {M : xM} {Q : Option xV → xM → Prop} {a : Int} {d : Nat} (hc : x_c d = 9) : Wp 94 6 (ls) (xi a :: xr d :: st) (M) Q = Wp 94 9 (ls) (st) (xup M d 12 a) Q := wp_putf rfl hc
theorem w94_9 {ls st : List xV} {M : xM} {Q : Option xV → xM → Prop} {d : Nat} : Wp 94 9 (xr d :: ls) (st) (M) Q = Wp 94 10 (xr d :: ls) (xr d :: st) (M) Q := wp_aload rfl rfl
theorem w94_10 {ls st : List xV} {M : xM} {Q : Option xV → xM → Prop} {d : Nat} (hc : x_c d = 9) : Wp 94 10 (ls) (xr d :: st) (M) Q = Wp 94 13 (ls) (xi (M d 12) :: st) (M) Q := wp_getf rfl hc
theorem w94_13 {ls st : List xV} {M : xM} {Q : Option xV → xM → Prop} {d : Nat} : Wp 94 13 (xr d :: ls) (st) (M) Q = Wp 94 14 (xr d :: ls) (xr d :: st) (M) Q := wp_aload rfl rfl
theorem w94_14 {ls st : List xV} {M : xM} {Q : Option xV → xM → Prop} {d : Nat} (hc : x_c d = 9) : Wp 94 14 (ls) (xr d :: st) (M) Q = Wp 94 17 (ls) (xi (M d 1) :: st) (M) Q := wp_getf rfl hc
theorem w94_17 {ls st : List xV} {M : xM} {Q : Option xV → xM → Prop} {a : Int} {b : Int} (ha : xG a) (hb : xG b) : Wp 94 17 (ls) (xi b :: xi a :: st) (M) Q = ((b ≤ a → Wp 94 53 (ls) (st) (M) Q) ∧ (¬ (b ≤ a) → Wp 94 20 (ls) (st) (M) Q)) := wp_cmp_ge rfl ha hb
theorem w94_20 {ls st : List xV} {M : xM} {Q : Option xV → xM → Prop} {d : Nat} : Wp 94 20 (xr d :: ls) (st) (M) Q = Wp 94 21 (xr d :: ls) (xr d :: st) (M) Q := wp_aload rfl rfl
theorem w94_21 {ls st : List xV} {M : xM} {Q : Option xV → xM → Prop} {d : Nat} (hc : x_c d = 9) : Wp 94 21 (ls) (xr d :: st) (M) Q = Wp 94 24 (ls) (xi (M d 12) :: st) (M) Q := wp_getf rfl hc
theorem w94_24 {ls st : List xV} {M : xM} {Q : Option xV → xM → Prop} {a : Int} {v0 : xV} {w : xV} : Wp 94 24 (v0 :: w :: ls) (xi a :: st) (M) Q = Wp 94 25 (xjl v0 :: xi a :: ls) (st) (M) Q := wp_istore rfl rfl
theorem w94_25 {ls st : List xV} {M : xM} {Q : Option xV → xM → Prop} {d : Nat} : Wp 94 25 (xr d :: ls) (st) (M) Q = Wp 94 26 (xr d :: ls) (xr d :: st) (M) Q := wp_aload rfl rfl
theorem w94_26 {ls st : List xV} {M : xM} {Q : Option xV → xM → Prop} {d : Nat} : Wp 94 26 (ls) (xr d :: st) (M) Q = Wp 94 27 (ls) (xr d :: xr d :: st) (M) Q := wp_dupA rfl
theorem w94_27 {ls st : List xV} {M : xM} {Q : Option xV → xM → Prop} {d : Nat} (hc : x_c d = 9) : Wp 94 27 (ls) (xr d :: st) (M) Q = Wp 94 30 (ls) (xi (M d 12) :: st) (M) Q := wp_getf rfl hc
theorem w94_30 {ls st : List xV} {M : xM} {Q : Option xV → xM → Prop}  : Wp 94 30 (ls) (st) (M) Q = Wp 94 31 (ls) (xi 1 :: st) (M) Q := wp_const rfl
theorem w94_31 {ls st : List xV} {M : xM} {Q : Option xV → xM → Prop} {a : Int} {b : Int} : Wp 94 31 (ls) (xi b :: xi a :: st) (M) Q = Wp 94 32 (ls) (xi (a + b) :: st) (M) Q := wp_bin (f := xadd) rfl
theorem w94_32 {ls st : List xV} {M : xM} {Q : Option xV → xM → Prop} {a : Int} {d : Nat} (hc : x_c d = 9) : Wp 94 32 (ls) (xi a :: xr d :: st) (M) Q = Wp 94 35 (ls) (st) (xup M d 12 a) Q := wp_putf rfl hc
theorem w94_35 {ls st : List xV} {M : xM} {Q : Option xV → xM → Prop} {d : Nat} : Wp 94 35 (xr d :: ls) (st) (M) Q = Wp 94 36 (xr d :: ls) (xr d :: st) (M) Q := wp_aload rfl rfl
theorem w94_36 {ls st : List xV} {M : xM} {Q : Option xV → xM → Prop} {d : Nat} : Wp 94 36 (xr d :: ls) (st) (M) Q = Wp 94 37 (xr d :: ls) (xr d :: st) (M) Q := wp_aload rfl rfl
theorem w94_37 {ls st : List xV} {M : xM} {Q : Option xV → xM → Prop} {d : Nat} (hc : x_c d = 9) : Wp 94 37 (ls) (xr d :: st) (M) Q = Wp 94 40 (ls) (xr (x_r d 0) :: st) (M) Q := wp_getr rfl hc
theorem w94_40 {ls st : List xV} {M : xM} {Q : Option xV → xM → Prop} {a : Int} {v0 : xV} : Wp 94 40 (v0 :: xi a :: ls) (st) (M) Q = Wp 94 41 (v0 :: xi a :: ls) (xi a :: st) (M) Q := wp_iload rfl rfl
theorem w94_41 {ls st : List xV} {M : xM} {Q : Option xV → xM → Prop} {a : Int} {d : Nat} (hc : x_c d = 20) (hn : x_n d = 200) (h1 : 0 ≤ a) (h2 : a < 200) : Wp 94 41 (ls) (xi a :: xr d :: st) (M) Q = Wp 94 42 (ls) (xi (M d a) :: st) (M) Q := wp_ald rfl hc h1 (by rw [hn]; exact h2)
theorem w94_42 {ls : List xV} {M : xM} {Q : Option xV → xM → Prop} {a1 : Int} {d0 : Nat} (hc : x_c d0 = 9) : Wp 94 42 (ls) (xi a1 :: xr d0 :: []) (M) Q = Wc 93 [xr d0, xi a1] M (fun r M2 => Wp 94 45 (ls) (r.toList ++ ([])) M2 Q) := wp_cV rfl rfl hc (Nat.le_of_ble_eq_true rfl) (Nat.le_of_ble_eq_true rfl) rfl rfl
theorem w94_45 {ls st : List xV} {M : xM} {Q : Option xV → xM → Prop} {a : Int} (ha : xG a) : Wp 94 45 (ls) (xi a :: st) (M) Q = ((¬ a = 0 → Wp 94 50 (ls) (st) (M) Q) ∧ (¬ (¬ a = 0) → Wp 94 48 (ls) (st) (M) Q)) := wp_if_ne rfl ha
theorem w94_48 {ls st : List xV} {M : xM} {Q : Option xV → xM → Prop} {a : Int} {v0 : xV} : Wp 94 48 (v0 :: xi a :: ls) (st) (M) Q = Wp 94 49 (v0 :: xi a :: ls) (xi a :: st) (M) Q := wp_iload rfl rfl
theorem w94_49 {ls : List xV} {M : xM} {Q : Option xV → xM → Prop} {a : Int} : Wp 94 49 (ls) ([xi a]) (M) Q = Q (some (xi a)) M := wp_iret rfl
theorem w94_50 {ls st : List xV} {M : xM} {Q : Option xV → xM → Prop}  : Wp 94 50 (ls) (st) (M) Q = Wp 94 9 (ls) (st) (M) Q := wp_goto rfl
theorem w94_53 {ls st : List xV} {M : xM} {Q : Option xV → xM → Prop}  : Wp 94 53 (ls) (st) (M) Q = Wp 94 55 (ls) (xi (-4) :: st) (M) Q := wp_const rfl
theorem w94_55 {ls : List xV} {M : xM} {Q : Option xV → xM → Prop} {a : Int} : Wp 94 55 (ls) ([xi a]) (M) Q = Q (some (xi a)) M := wp_iret rfl
theorem wc95 {M : xM} {Q : Option xV → xM → Prop} {d0 : Nat} : Wc 95 [xr d0] M Q = Wp 95 0 [xr d0] [] M Q := rfl
theorem w95_0 {ls st : List xV} {M : xM} {Q : Option xV → xM → Prop} {d : Nat} : Wp 95 0 (xr d :: ls) (st) (M) Q = Wp 95 1 (xr d :: ls) (xr d :: st) (M) Q := wp_aload rfl rfl
theorem w95_1 {ls : List xV} {M : xM} {Q : Option xV → xM → Prop} {d0 : Nat} (hc : x_c d0 = 9) : Wp 95 1 (ls) (xr d0 :: []) (M) Q = Wc 94 [xr d0] M (fun r M2 => Wp 95 4 (ls) (r.toList ++ ([])) M2 Q) := wp_cV rfl rfl hc (Nat.le_of_ble_eq_true rfl) (Nat.le_of_ble_eq_true rfl) rfl rfl
theorem w95_4 {ls : List xV} {M : xM} {Q : Option xV → xM → Prop} {a : Int} : Wp 95 4 (ls) ([xi a]) (M) Q = Q (some (xi a)) M := wp_iret rfl
theorem wc96 {M : xM} {Q : Option xV → xM → Prop} {d0 : Nat} : Wc 96 [xr d0] M Q = Wp 96 0 [xr d0, xj] [] M Q := rfl
theorem w96_0 {ls st : List xV} {M : xM} {Q : Option xV → xM → Prop}  : Wp 96 0 (ls) (st) (M) Q = Wp 96 1 (ls) (xi 0 :: st) (M) Q := wp_const rfl
theorem w96_1 {ls st : List xV} {M : xM} {Q : Option xV → xM → Prop} {a : Int} {v0 : xV} {w : xV} : Wp 96 1 (v0 :: w :: ls) (xi a :: st) (M) Q = Wp 96 2 (xjl v0 :: xi a :: ls) (st) (M) Q := wp_istore rfl rfl
theorem w96_2 {ls st : List xV} {M : xM} {Q : Option xV → xM → Prop} {a : Int} {v0 : xV} : Wp 96 2 (v0 :: xi a :: ls) (st) (M) Q = Wp 96 3 (v0 :: xi a :: ls) (xi a :: st) (M) Q := wp_iload rfl rfl
theorem w96_3 {ls st : List xV} {M : xM} {Q : Option xV → xM → Prop}  : Wp 96 3 (ls) (st) (M) Q = Wp 96 5 (ls) (xi 25 :: st) (M) Q := wp_const rfl
theorem w96_5 {ls st : List xV} {M : xM} {Q : Option xV → xM → Prop} {a : Int} {b : Int} (ha : xG a) (hb : xG b) : Wp 96 5 (ls) (xi b :: xi a :: st) (M) Q = ((b ≤ a → Wp 96 26 (ls) (st) (M) Q) ∧ (¬ (b ≤ a) → Wp 96 8 (ls) (st) (M) Q)) := wp_cmp_ge rfl ha hb
theorem w96_8 {ls st : List xV} {M : xM} {Q : Option xV → xM → Prop} {d : Nat} : Wp 96 8 (xr d :: ls) (st) (M) Q = Wp 96 9 (xr d :: ls) (xr d :: st) (M) Q := wp_aload rfl rfl
theorem w96_9 {ls st : List xV} {M : xM} {Q : Option xV → xM → Prop} {d : Nat} (hc : x_c d = 9) : Wp 96 9 (ls) (xr d :: st) (M) Q = Wp 96 12 (ls) (xr (x_r d 2) :: st) (M) Q := wp_getr rfl hc
theorem w96_12 {ls st : List xV} {M : xM} {Q : Option xV → xM → Prop} {a : Int} {v0 : xV} : Wp 96 12 (v0 :: xi a :: ls) (st) (M) Q = Wp 96 13 (v0 :: xi a :: ls) (xi a :: st) (M) Q := wp_iload rfl rfl
theorem w96_13 {ls st : List xV} {M : xM} {Q : Option xV → xM → Prop} {d : Nat} : Wp 96 13 (xr d :: ls) (st) (M) Q = Wp 96 14 (xr d :: ls) (xr d :: st) (M) Q := wp_aload rfl rfl
theorem w96_14 {ls st : List xV} {M : xM} {Q : Option xV → xM → Prop} {d : Nat} (hc : x_c d = 9) : Wp 96 14 (ls) (xr d :: st) (M) Q = Wp 96 17 (ls) (xr (x_r d 3) :: st) (M) Q := wp_getr rfl hc
theorem w96_17 {ls st : List xV} {M : xM} {Q : Option xV → xM → Prop} {a : Int} {v0 : xV} : Wp 96 17 (v0 :: xi a :: ls) (st) (M) Q = Wp 96 18 (v0 :: xi a :: ls) (xi a :: st) (M) Q := wp_iload rfl rfl
theorem w96_18 {ls st : List xV} {M : xM} {Q : Option xV → xM → Prop} {a : Int} {d : Nat} (hc : x_c d = 20) (hn : x_n d = 25) (h1 : 0 ≤ a) (h2 : a < 25) : Wp 96 18 (ls) (xi a :: xr d :: st) (M) Q = Wp 96 19 (ls) (xi (M d a) :: st) (M) Q := wp_ald rfl hc h1 (by rw [hn]; exact h2)
theorem w96_19 {ls st : List xV} {M : xM} {Q : Option xV → xM → Prop} {a : Int} {d : Nat} {x : Int} (hc : x_c d = 20) (hn : x_n d = 25) (h1 : 0 ≤ a) (h2 : a < 25) : Wp 96 19 (ls) (xi x :: xi a :: xr d :: st) (M) Q = Wp 96 20 (ls) (st) (xup M d a x) Q := wp_iast rfl hc h1 (by rw [hn]; exact h2)
theorem w96_20 {ls st : List xV} {M : xM} {Q : Option xV → xM → Prop} {a : Int} {v0 : xV} : Wp 96 20 (v0 :: xi a :: ls) (st) (M) Q = Wp 96 23 (xjl v0 :: xi (a + 1) :: ls) (st) (M) Q := wp_iinc rfl rfl rfl
theorem w96_23 {ls st : List xV} {M : xM} {Q : Option xV → xM → Prop}  : Wp 96 23 (ls) (st) (M) Q = Wp 96 2 (ls) (st) (M) Q := wp_goto rfl
theorem w96_26 {ls st : List xV} {M : xM} {Q : Option xV → xM → Prop}  : Wp 96 26 (ls) (st) (M) Q = Wp 96 27 (ls) (xi 0 :: st) (M) Q := wp_const rfl
theorem w96_27 {ls st : List xV} {M : xM} {Q : Option xV → xM → Prop} {a : Int} {v0 : xV} {w : xV} : Wp 96 27 (v0 :: w :: ls) (xi a :: st) (M) Q = Wp 96 28 (xjl v0 :: xi a :: ls) (st) (M) Q := wp_istore rfl rfl
theorem w96_28 {ls st : List xV} {M : xM} {Q : Option xV → xM → Prop} {a : Int} {v0 : xV} : Wp 96 28 (v0 :: xi a :: ls) (st) (M) Q = Wp 96 29 (v0 :: xi a :: ls) (xi a :: st) (M) Q := wp_iload rfl rfl
theorem w96_29 {ls st : List xV} {M : xM} {Q : Option xV → xM → Prop}  : Wp 96 29 (ls) (st) (M) Q = Wp 96 31 (ls) (xi 7 :: st) (M) Q := wp_const rfl
theorem w96_31 {ls st : List xV} {M : xM} {Q : Option xV → xM → Prop} {a : Int} {b : Int} (ha : xG a) (hb : xG b) : Wp 96 31 (ls) (xi b :: xi a :: st) (M) Q = ((b ≤ a → Wp 96 52 (ls) (st) (M) Q) ∧ (¬ (b ≤ a) → Wp 96 34 (ls) (st) (M) Q)) := wp_cmp_ge rfl ha hb
theorem w96_34 {ls st : List xV} {M : xM} {Q : Option xV → xM → Prop} {d : Nat} : Wp 96 34 (xr d :: ls) (st) (M) Q = Wp 96 35 (xr d :: ls) (xr d :: st) (M) Q := wp_aload rfl rfl
theorem w96_35 {ls st : List xV} {M : xM} {Q : Option xV → xM → Prop} {d : Nat} (hc : x_c d = 9) : Wp 96 35 (ls) (xr d :: st) (M) Q = Wp 96 38 (ls) (xr (x_r d 5) :: st) (M) Q := wp_getr rfl hc
theorem w96_38 {ls st : List xV} {M : xM} {Q : Option xV → xM → Prop} {a : Int} {v0 : xV} : Wp 96 38 (v0 :: xi a :: ls) (st) (M) Q = Wp 96 39 (v0 :: xi a :: ls) (xi a :: st) (M) Q := wp_iload rfl rfl
theorem w96_39 {ls st : List xV} {M : xM} {Q : Option xV → xM → Prop} {d : Nat} : Wp 96 39 (xr d :: ls) (st) (M) Q = Wp 96 40 (xr d :: ls) (xr d :: st) (M) Q := wp_aload rfl rfl
theorem w96_40 {ls st : List xV} {M : xM} {Q : Option xV → xM → Prop} {d : Nat} (hc : x_c d = 9) : Wp 96 40 (ls) (xr d :: st) (M) Q = Wp 96 43 (ls) (xr (x_r d 4) :: st) (M) Q := wp_getr rfl hc
theorem w96_43 {ls st : List xV} {M : xM} {Q : Option xV → xM → Prop} {a : Int} {v0 : xV} : Wp 96 43 (v0 :: xi a :: ls) (st) (M) Q = Wp 96 44 (v0 :: xi a :: ls) (xi a :: st) (M) Q := wp_iload rfl rfl
theorem w96_44 {ls st : List xV} {M : xM} {Q : Option xV → xM → Prop} {a : Int} {d : Nat} (hc : x_c d = 20) (hn : x_n d = 7) (h1 : 0 ≤ a) (h2 : a < 7) : Wp 96 44 (ls) (xi a :: xr d :: st) (M) Q = Wp 96 45 (ls) (xi (M d a) :: st) (M) Q := wp_ald rfl hc h1 (by rw [hn]; exact h2)
theorem w96_45 {ls st : List xV} {M : xM} {Q : Option xV → xM → Prop} {a : Int} {d : Nat} {x : Int} (hc : x_c d = 20) (hn : x_n d = 7) (h1 : 0 ≤ a) (h2 : a < 7) : Wp 96 45 (ls) (xi x :: xi a :: xr d :: st) (M) Q = Wp 96 46 (ls) (st) (xup M d a x) Q := wp_iast rfl hc h1 (by rw [hn]; exact h2)
theorem w96_46 {ls st : List xV} {M : xM} {Q : Option xV → xM → Prop} {a : Int} {v0 : xV} : Wp 96 46 (v0 :: xi a :: ls) (st) (M) Q = Wp 96 49 (xjl v0 :: xi (a + 1) :: ls) (st) (M) Q := wp_iinc rfl rfl rfl
theorem w96_49 {ls st : List xV} {M : xM} {Q : Option xV → xM → Prop}  : Wp 96 49 (ls) (st) (M) Q = Wp 96 28 (ls) (st) (M) Q := wp_goto rfl
theorem w96_52 {ls st : List xV} {M : xM} {Q : Option xV → xM → Prop} {d : Nat} : Wp 96 52 (xr d :: ls) (st) (M) Q = Wp 96 53 (xr d :: ls) (xr d :: st) (M) Q := wp_aload rfl rfl
theorem w96_53 {ls st : List xV} {M : xM} {Q : Option xV → xM → Prop}  : Wp 96 53 (ls) (st) (M) Q = Wp 96 54 (ls) (xi 0 :: st) (M) Q := wp_const rfl
theorem w96_54 {ls st : List xV} {M : xM} {Q : Option xV → xM → Prop} {a : Int} {d : Nat} (hc : x_c d = 9) : Wp 96 54 (ls) (xi a :: xr d :: st) (M) Q = Wp 96 57 (ls) (st) (xup M d 7 a) Q := wp_putf rfl hc
theorem w96_57 {ls st : List xV} {M : xM} {Q : Option xV → xM → Prop} {d : Nat} : Wp 96 57 (xr d :: ls) (st) (M) Q = Wp 96 58 (xr d :: ls) (xr d :: st) (M) Q := wp_aload rfl rfl
theorem w96_58 {ls st : List xV} {M : xM} {Q : Option xV → xM → Prop}  : Wp 96 58 (ls) (st) (M) Q = Wp 96 59 (ls) (xi 0 :: st) (M) Q := wp_const rfl
theorem w96_59 {ls st : List xV} {M : xM} {Q : Option xV → xM → Prop} {a : Int} {d : Nat} (hc : x_c d = 9) : Wp 96 59 (ls) (xi a :: xr d :: st) (M) Q = Wp 96 62 (ls) (st) (xup M d 9 a) Q := wp_putf rfl hc
theorem w96_62 {ls st : List xV} {M : xM} {Q : Option xV → xM → Prop} {d : Nat} : Wp 96 62 (xr d :: ls) (st) (M) Q = Wp 96 63 (xr d :: ls) (xr d :: st) (M) Q := wp_aload rfl rfl
theorem w96_63 {ls st : List xV} {M : xM} {Q : Option xV → xM → Prop}  : Wp 96 63 (ls) (st) (M) Q = Wp 96 64 (ls) (xi 0 :: st) (M) Q := wp_const rfl
theorem w96_64 {ls st : List xV} {M : xM} {Q : Option xV → xM → Prop} {a : Int} {d : Nat} (hc : x_c d = 9) : Wp 96 64 (ls) (xi a :: xr d :: st) (M) Q = Wp 96 67 (ls) (st) (xup M d 11 a) Q := wp_putf rfl hc
theorem w96_67 {ls : List xV} {M : xM} {Q : Option xV → xM → Prop}  : Wp 96 67 (ls) ([]) (M) Q = Q none M := wp_vret rfl
theorem wc97 {M : xM} {Q : Option xV → xM → Prop} {d0 : Nat} : Wc 97 [xr d0] M Q = Wp 97 0 [xr d0] [] M Q := rfl
theorem w97_0 {ls st : List xV} {M : xM} {Q : Option xV → xM → Prop} {d : Nat} : Wp 97 0 (xr d :: ls) (st) (M) Q = Wp 97 1 (xr d :: ls) (xr d :: st) (M) Q := wp_aload rfl rfl
theorem w97_1 {ls : List xV} {M : xM} {Q : Option xV → xM → Prop} {d0 : Nat} (hc : x_c d0 = 9) : Wp 97 1 (ls) (xr d0 :: []) (M) Q = Wc 94 [xr d0] M (fun r M2 => Wp 97 4 (ls) (r.toList ++ ([])) M2 Q) := wp_cV rfl rfl hc (Nat.le_of_ble_eq_true rfl) (Nat.le_of_ble_eq_true rfl) rfl rfl
theorem w97_4 {ls st : List xV} {M : xM} {Q : Option xV → xM → Prop}  : Wp 97 4 (ls) (st) (M) Q = Wp 97 6 (ls) (xi (-4) :: st) (M) Q := wp_const rfl
theorem w97_6 {ls st : List xV} {M : xM} {Q : Option xV → xM → Prop} {a : Int} {b : Int} (ha : xG a) (hb : xG b) : Wp 97 6 (ls) (xi b :: xi a :: st) (M) Q = ((¬ a = b → Wp 97 18 (ls) (st) (M) Q) ∧ (¬ (¬ a = b) → Wp 97 9 (ls) (st) (M) Q)) := wp_cmp_ne rfl ha hb
theorem w97_9 {ls st : List xV} {M : xM} {Q : Option xV → xM → Prop} {d : Nat} : Wp 97 9 (xr d :: ls) (st) (M) Q = Wp 97 10 (xr d :: ls) (xr d :: st) (M) Q := wp_aload rfl rfl
theorem w97_10 {ls st : List xV} {M : xM} {Q : Option xV → xM → Prop} {d : Nat} (hc : x_c d = 9) : Wp 97 10 (ls) (xr d :: st) (M) Q = Wp 97 13 (ls) (xr (x_r d 3) :: st) (M) Q := wp_getr rfl hc
theorem w97_13 {ls st : List xV} {M : xM} {Q : Option xV → xM → Prop}  : Wp 97 13 (ls) (st) (M) Q = Wp 97 14 (ls) (xi 2 :: st) (M) Q := wp_const rfl
theorem w97_14 {ls st : List xV} {M : xM} {Q : Option xV → xM → Prop} {a : Int} {d : Nat} (hc : x_c d = 20) (hn : x_n d = 25) (h1 : 0 ≤ a) (h2 : a < 25) : Wp 97 14 (ls) (xi a :: xr d :: st) (M) Q = Wp 97 15 (ls) (xi (M d a) :: st) (M) Q := wp_ald rfl hc h1 (by rw [hn]; exact h2)
theorem w97_15 {ls st : List xV} {M : xM} {Q : Option xV → xM → Prop} {a : Int} (ha : xG a) : Wp 97 15 (ls) (xi a :: st) (M) Q = ((¬ a = 0 → Wp 97 21 (ls) (st) (M) Q) ∧ (¬ (¬ a = 0) → Wp 97 18 (ls) (st) (M) Q)) := wp_if_ne rfl ha
theorem w97_18 {ls st : List xV} {M : xM} {Q : Option xV → xM → Prop}  : Wp 97 18 (ls) (st) (M) Q = Wp 97 20 (ls) (xi (-2) :: st) (M) Q := wp_const rfl
theorem w97_20 {ls : List xV} {M : xM} {Q : Option xV → xM → Prop} {a : Int} : Wp 97 20 (ls) ([xi a]) (M) Q = Q (some (xi a)) M := wp_iret rfl
theorem w97_21 {ls st : List xV} {M : xM} {Q : Option xV → xM → Prop} {d : Nat} : Wp 97 21 (xr d :: ls) (st) (M) Q = Wp 97 22 (xr d :: ls) (xr d :: st) (M) Q := wp_aload rfl rfl
theorem w97_22 {ls : List xV} {M : xM} {Q : Option xV → xM → Prop} {d0 : Nat} (hc : x_c d0 = 9) : Wp 97 22 (ls) (xr d0 :: []) (M) Q = Wc 96 [xr d0] M (fun r M2 => Wp 97 25 (ls) (r.toList ++ ([])) M2 Q) := wp_cV rfl rfl hc (Nat.le_of_ble_eq_true rfl) (Nat.le_of_ble_eq_true rfl) rfl rfl
theorem w97_25 {ls st : List xV} {M : xM} {Q : Option xV → xM → Prop} {d : Nat} : Wp 97 25 (xr d :: ls) (st) (M) Q = Wp 97 26 (xr d :: ls) (xr d :: st) (M) Q := wp_aload rfl rfl
theorem w97_26 {ls st : List xV} {M : xM} {Q : Option xV → xM → Prop} {d : Nat} (hc : x_c d = 9) : Wp 97 26 (ls) (xr d :: st) (M) Q = Wp 97 29 (ls) (xr (x_r d 2) :: st) (M) Q := wp_getr rfl hc
theorem w97_29 {ls st : List xV} {M : xM} {Q : Option xV → xM → Prop}  : Wp 97 29 (ls) (st) (M) Q = Wp 97 30 (ls) (xi 2 :: st) (M) Q := wp_const rfl
theorem w97_30 {ls st : List xV} {M : xM} {Q : Option xV → xM → Prop} {a : Int} {d : Nat} (hc : x_c d = 20) (hn : x_n d = 25) (h1 : 0 ≤ a) (h2 : a < 25) : Wp 97 30 (ls) (xi a :: xr d :: st) (M) Q = Wp 97 31 (ls) (xi (M d a) :: st) (M) Q := wp_ald rfl hc h1 (by rw [hn]; exact h2)
theorem w97_31 {ls : List xV} {M : xM} {Q : Option xV → xM → Prop} {a : Int} : Wp 97 31 (ls) ([xi a]) (M) Q = Q (some (xi a)) M := wp_iret rfl
theorem wc98 {M : xM} {Q : Option xV → xM → Prop} {d0 : Nat} {a1 : Int} {a2 : Int} : Wc 98 [xr d0, xi a1, xi a2] M Q = Wp 98 0 [xr d0, xi a1, xi a2] [] M Q := rfl
theorem w98_0 {ls st : List xV} {M : xM} {Q : Option xV → xM → Prop} {d : Nat} : Wp 98 0 (xr d :: ls) (st) (M) Q = Wp 98 1 (xr d :: ls) (xr d :: st) (M) Q := wp_aload rfl rfl
theorem w98_1 {ls st : List xV} {M : xM} {Q : Option xV → xM → Prop} {a : Int} {v0 : xV} : Wp 98 1 (v0 :: xi a :: ls) (st) (M) Q = Wp 98 2 (v0 :: xi a :: ls) (xi a :: st) (M) Q := wp_iload rfl rfl
theorem w98_2 {ls : List xV} {M : xM} {Q : Option xV → xM → Prop} {a1 : Int} {d0 : Nat} (hc : x_c d0 = 9) : Wp 98 2 (ls) (xi a1 :: xr d0 :: []) (M) Q = Wc 81 [xr d0, xi a1] M (fun r M2 => Wp 98 5 (ls) (r.toList ++ ([])) M2 Q) := wp_cV rfl rfl hc (Nat.le_of_ble_eq_true rfl) (Nat.le_of_ble_eq_true rfl) rfl rfl
theorem w98_5 {ls st : List xV} {M : xM} {Q : Option xV → xM → Prop} {a : Int} (ha : xG a) : Wp 98 5 (ls) (xi a :: st) (M) Q = ((¬ a = 0 → Wp 98 10 (ls) (st) (M) Q) ∧ (¬ (¬ a = 0) → Wp 98 8 (ls) (st) (M) Q)) := wp_if_ne rfl ha
theorem w98_8 {ls st : List xV} {M : xM} {Q : Option xV → xM → Prop}  : Wp 98 8 (ls) (st) (M) Q = Wp 98 9 (ls) (xi (-1) :: st) (M) Q := wp_const rfl
theorem w98_9 {ls : List xV} {M : xM} {Q : Option xV → xM → Prop} {a : Int} : Wp 98 9 (ls) ([xi a]) (M) Q = Q (some (xi a)) M := wp_iret rfl
theorem w98_10 {ls st : List xV} {M : xM} {Q : Option xV → xM → Prop} {a : Int} {v0 : xV} {v1 : xV} : Wp 98 10 (v0 :: v1 :: xi a :: ls) (st) (M) Q = Wp 98 11 (v0 :: v1 :: xi a :: ls) (xi a :: st) (M) Q := wp_iload rfl rfl
theorem w98_11 {ls st : List xV} {M : xM} {Q : Option xV → xM → Prop} {a : Int} (ha : xG a) : Wp 98 11 (ls) (xi a :: st) (M) Q = Wp 98 (if 0 ≤ a ∧ a ≤ 4 then [44, 54, 64, 74, 81].getD (a - 0).toNat 92 else 92) (ls) (st) (M) Q := wp_tsw rfl ha
theorem w98_44 {ls st : List xV} {M : xM} {Q : Option xV → xM → Prop} {d : Nat} : Wp 98 44 (xr d :: ls) (st) (M) Q = Wp 98 45 (xr d :: ls) (xr d :: st) (M) Q := wp_aload rfl rfl
theorem w98_45 {ls st : List xV} {M : xM} {Q : Option xV → xM → Prop} {d : Nat} (hc : x_c d = 9) : Wp 98 45 (ls) (xr d :: st) (M) Q = Wp 98 48 (ls) (xr (x_r d 2) :: st) (M) Q := wp_getr rfl hc
theorem w98_48 {ls st : List xV} {M : xM} {Q : Option xV → xM → Prop}  : Wp 98 48 (ls) (st) (M) Q = Wp 98 50 (ls) (xi 10 :: st) (M) Q := wp_const rfl
theorem w98_50 {ls st : List xV} {M : xM} {Q : Option xV → xM → Prop} {a : Int} {v0 : xV} : Wp 98 50 (v0 :: xi a :: ls) (st) (M) Q = Wp 98 51 (v0 :: xi a :: ls) (xi a :: st) (M) Q := wp_iload rfl rfl
theorem w98_51 {ls st : List xV} {M : xM} {Q : Option xV → xM → Prop} {a : Int} {b : Int} : Wp 98 51 (ls) (xi b :: xi a :: st) (M) Q = Wp 98 52 (ls) (xi (a + b) :: st) (M) Q := wp_bin (f := xadd) rfl
theorem w98_52 {ls st : List xV} {M : xM} {Q : Option xV → xM → Prop} {a : Int} {d : Nat} (hc : x_c d = 20) (hn : x_n d = 25) (h1 : 0 ≤ a) (h2 : a < 25) : Wp 98 52 (ls) (xi a :: xr d :: st) (M) Q = Wp 98 53 (ls) (xi (M d a) :: st) (M) Q := wp_ald rfl hc h1 (by rw [hn]; exact h2)
theorem w98_53 {ls : List xV} {M : xM} {Q : Option xV → xM → Prop} {a : Int} : Wp 98 53 (ls) ([xi a]) (M) Q = Q (some (xi a)) M := wp_iret rfl
theorem w98_54 {ls st : List xV} {M : xM} {Q : Option xV → xM → Prop} {d : Nat} : Wp 98 54 (xr d :: ls) (st) (M) Q = Wp 98 55 (xr d :: ls) (xr d :: st) (M) Q := wp_aload rfl rfl
theorem w98_55 {ls st : List xV} {M : xM} {Q : Option xV → xM → Prop} {d : Nat} (hc : x_c d = 9) : Wp 98 55 (ls) (xr d :: st) (M) Q = Wp 98 58 (ls) (xr (x_r d 2) :: st) (M) Q := wp_getr rfl hc
theorem w98_58 {ls st : List xV} {M : xM} {Q : Option xV → xM → Prop}  : Wp 98 58 (ls) (st) (M) Q = Wp 98 60 (ls) (xi 15 :: st) (M) Q := wp_const rfl
theorem w98_60 {ls st : List xV} {M : xM} {Q : Option xV → xM → Prop} {a : Int} {v0 : xV} : Wp 98 60 (v0 :: xi a :: ls) (st) (M) Q = Wp 98 61 (v0 :: xi a :: ls) (xi a :: st) (M) Q := wp_iload rfl rfl
theorem w98_61 {ls st : List xV} {M : xM} {Q : Option xV → xM → Prop} {a : Int} {b : Int} : Wp 98 61 (ls) (xi b :: xi a :: st) (M) Q = Wp 98 62 (ls) (xi (a + b) :: st) (M) Q := wp_bin (f := xadd) rfl
theorem w98_62 {ls st : List xV} {M : xM} {Q : Option xV → xM → Prop} {a : Int} {d : Nat} (hc : x_c d = 20) (hn : x_n d = 25) (h1 : 0 ≤ a) (h2 : a < 25) : Wp 98 62 (ls) (xi a :: xr d :: st) (M) Q = Wp 98 63 (ls) (xi (M d a) :: st) (M) Q := wp_ald rfl hc h1 (by rw [hn]; exact h2)
theorem w98_63 {ls : List xV} {M : xM} {Q : Option xV → xM → Prop} {a : Int} : Wp 98 63 (ls) ([xi a]) (M) Q = Q (some (xi a)) M := wp_iret rfl
theorem w98_64 {ls st : List xV} {M : xM} {Q : Option xV → xM → Prop} {d : Nat} : Wp 98 64 (xr d :: ls) (st) (M) Q = Wp 98 65 (xr d :: ls) (xr d :: st) (M) Q := wp_aload rfl rfl
theorem w98_65 {ls st : List xV} {M : xM} {Q : Option xV → xM → Prop} {d : Nat} (hc : x_c d = 9) : Wp 98 65 (ls) (xr d :: st) (M) Q = Wp 98 68 (ls) (xr (x_r d 2) :: st) (M) Q := wp_getr rfl hc
theorem w98_68 {ls st : List xV} {M : xM} {Q : Option xV → xM → Prop}  : Wp 98 68 (ls) (st) (M) Q = Wp 98 70 (ls) (xi 20 :: st) (M) Q := wp_const rfl
theorem w98_70 {ls st : List xV} {M : xM} {Q : Option xV → xM → Prop} {a : Int} {v0 : xV} : Wp 98 70 (v0 :: xi a :: ls) (st) (M) Q = Wp 98 71 (v0 :: xi a :: ls) (xi a :: st) (M) Q := wp_iload rfl rfl
theorem w98_71 {ls st : List xV} {M : xM} {Q : Option xV → xM → Prop} {a : Int} {b : Int} : Wp 98 71 (ls) (xi b :: xi a :: st) (M) Q = Wp 98 72 (ls) (xi (a + b) :: st) (M) Q := wp_bin (f := xadd) rfl
theorem w98_72 {ls st : List xV} {M : xM} {Q : Option xV → xM → Prop} {a : Int} {d : Nat} (hc : x_c d = 20) (hn : x_n d = 25) (h1 : 0 ≤ a) (h2 : a < 25) : Wp 98 72 (ls) (xi a :: xr d :: st) (M) Q = Wp 98 73 (ls) (xi (M d a) :: st) (M) Q := wp_ald rfl hc h1 (by rw [hn]; exact h2)
theorem w98_73 {ls : List xV} {M : xM} {Q : Option xV → xM → Prop} {a : Int} : Wp 98 73 (ls) ([xi a]) (M) Q = Q (some (xi a)) M := wp_iret rfl
theorem w98_74 {ls st : List xV} {M : xM} {Q : Option xV → xM → Prop} {d : Nat} : Wp 98 74 (xr d :: ls) (st) (M) Q = Wp 98 75 (xr d :: ls) (xr d :: st) (M) Q := wp_aload rfl rfl
theorem w98_75 {ls st : List xV} {M : xM} {Q : Option xV → xM → Prop} {d : Nat} (hc : x_c d = 9) : Wp 98 75 (ls) (xr d :: st) (M) Q = Wp 98 78 (ls) (xr (x_r d 5) :: st) (M) Q := wp_getr rfl hc
theorem w98_78 {ls st : List xV} {M : xM} {Q : Option xV → xM → Prop} {a : Int} {v0 : xV} : Wp 98 78 (v0 :: xi a :: ls) (st) (M) Q = Wp 98 79 (v0 :: xi a :: ls) (xi a :: st) (M) Q := wp_iload rfl rfl
theorem w98_79 {ls st : List xV} {M : xM} {Q : Option xV → xM → Prop} {a : Int} {d : Nat} (hc : x_c d = 20) (hn : x_n d = 7) (h1 : 0 ≤ a) (h2 : a < 7) : Wp 98 79 (ls) (xi a :: xr d :: st) (M) Q = Wp 98 80 (ls) (xi (M d a) :: st) (M) Q := wp_ald rfl hc h1 (by rw [hn]; exact h2)
theorem w98_80 {ls : List xV} {M : xM} {Q : Option xV → xM → Prop} {a : Int} : Wp 98 80 (ls) ([xi a]) (M) Q = Q (some (xi a)) M := wp_iret rfl
theorem w98_81 {ls st : List xV} {M : xM} {Q : Option xV → xM → Prop} {d : Nat} : Wp 98 81 (xr d :: ls) (st) (M) Q = Wp 98 82 (xr d :: ls) (xr d :: st) (M) Q := wp_aload rfl rfl
theorem w98_82 {ls st : List xV} {M : xM} {Q : Option xV → xM → Prop} {d : Nat} (hc : x_c d = 9) : Wp 98 82 (ls) (xr d :: st) (M) Q = Wp 98 85 (ls) (xr (x_r d 5) :: st) (M) Q := wp_getr rfl hc
theorem w98_85 {ls st : List xV} {M : xM} {Q : Option xV → xM → Prop}  : Wp 98 85 (ls) (st) (M) Q = Wp 98 86 (ls) (xi 5 :: st) (M) Q := wp_const rfl
theorem w98_86 {ls st : List xV} {M : xM} {Q : Option xV → xM → Prop} {a : Int} {d : Nat} (hc : x_c d = 20) (hn : x_n d = 7) (h1 : 0 ≤ a) (h2 : a < 7) : Wp 98 86 (ls) (xi a :: xr d :: st) (M) Q = Wp 98 87 (ls) (xi (M d a) :: st) (M) Q := wp_ald rfl hc h1 (by rw [hn]; exact h2)
theorem w98_87 {ls st : List xV} {M : xM} {Q : Option xV → xM → Prop} {a : Int} {v0 : xV} : Wp 98 87 (v0 :: xi a :: ls) (st) (M) Q = Wp 98 88 (v0 :: xi a :: ls) (xi a :: st) (M) Q := wp_iload rfl rfl
theorem w98_88 {ls st : List xV} {M : xM} {Q : Option xV → xM → Prop} {a : Int} {b : Int} : Wp 98 88 (ls) (xi b :: xi a :: st) (M) Q = Wp 98 89 (ls) (xi (xshr a b) :: st) (M) Q := wp_bin (f := xshr) rfl
theorem w98_89 {ls st : List xV} {M : xM} {Q : Option xV → xM → Prop}  : Wp 98 89 (ls) (st) (M) Q = Wp 98 90 (ls) (xi 1 :: st) (M) Q := wp_const rfl
theorem w98_90 {ls st : List xV} {M : xM} {Q : Option xV → xM → Prop} {a : Int} {b : Int} : Wp 98 90 (ls) (xi b :: xi a :: st) (M) Q = Wp 98 91 (ls) (xi (xand a b) :: st) (M) Q := wp_bin (f := xand) rfl
theorem w98_91 {ls : List xV} {M : xM} {Q : Option xV → xM → Prop} {a : Int} : Wp 98 91 (ls) ([xi a]) (M) Q = Q (some (xi a)) M := wp_iret rfl
theorem w98_92 {ls st : List xV} {M : xM} {Q : Option xV → xM → Prop}  : Wp 98 92 (ls) (st) (M) Q = Wp 98 93 (ls) (xi (-1) :: st) (M) Q := wp_const rfl
theorem w98_93 {ls : List xV} {M : xM} {Q : Option xV → xM → Prop} {a : Int} : Wp 98 93 (ls) ([xi a]) (M) Q = Q (some (xi a)) M := wp_iret rfl
