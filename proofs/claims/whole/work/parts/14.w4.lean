theorem wc120 {M : xM} {Q : Option xV → xM → Prop} {d0 : Nat} {a1 : Int} : Wc 120 [xr d0, xi a1] M Q = Wp 120 0 [xr d0, xi a1, xj, xj, xj, xj, xj, xj, xj] [] M Q := rfl
theorem w120_0 {ls st : List xV} {M : xM} {Q : Option xV → xM → Prop} {a : Int} {v0 : xV} : Wp 120 0 (v0 :: xi a :: ls) (st) (M) Q = Wp 120 1 (v0 :: xi a :: ls) (xi a :: st) (M) Q := wp_iload rfl rfl
theorem w120_1 {ls st : List xV} {M : xM} {Q : Option xV → xM → Prop}  : Wp 120 1 (ls) (st) (M) Q = Wp 120 2 (ls) (xi 0 :: st) (M) Q := wp_const rfl
theorem w120_2 {ls st : List xV} {M : xM} {Q : Option xV → xM → Prop}  : Wp 120 2 (ls) (st) (M) Q = Wp 120 3 (ls) (xi 2 :: st) (M) Q := wp_const rfl
theorem w120_3 {ls : List xV} {M : xM} {Q : Option xV → xM → Prop} {a0 : Int} {a1 : Int} {a2 : Int} : Wp 120 3 (ls) (xi a2 :: xi a1 :: xi a0 :: []) (M) Q = Wc 79 [xi a0, xi a1, xi a2] M (fun r M2 => Wp 120 6 (ls) (r.toList ++ ([])) M2 Q) := wp_cS rfl rfl (Nat.le_of_ble_eq_true rfl) (Nat.le_of_ble_eq_true rfl) rfl rfl
theorem w120_6 {ls st : List xV} {M : xM} {Q : Option xV → xM → Prop} {a : Int} (ha : xG a) : Wp 120 6 (ls) (xi a :: st) (M) Q = ((¬ a = 0 → Wp 120 11 (ls) (st) (M) Q) ∧ (¬ (¬ a = 0) → Wp 120 9 (ls) (st) (M) Q)) := wp_if_ne rfl ha
theorem w120_9 {ls st : List xV} {M : xM} {Q : Option xV → xM → Prop}  : Wp 120 9 (ls) (st) (M) Q = Wp 120 10 (ls) (xi (-1) :: st) (M) Q := wp_const rfl
theorem w120_10 {ls : List xV} {M : xM} {Q : Option xV → xM → Prop} {a : Int} : Wp 120 10 (ls) ([xi a]) (M) Q = Q (some (xi a)) M := wp_iret rfl
theorem w120_11 {ls st : List xV} {M : xM} {Q : Option xV → xM → Prop} {d : Nat} : Wp 120 11 (xr d :: ls) (st) (M) Q = Wp 120 12 (xr d :: ls) (xr d :: st) (M) Q := wp_aload rfl rfl
theorem w120_12 {ls st : List xV} {M : xM} {Q : Option xV → xM → Prop} {d : Nat} (hc : x_c d = 9) : Wp 120 12 (ls) (xr d :: st) (M) Q = Wp 120 15 (ls) (xr (x_r d 5) :: st) (M) Q := wp_getr rfl hc
theorem w120_15 {ls st : List xV} {M : xM} {Q : Option xV → xM → Prop}  : Wp 120 15 (ls) (st) (M) Q = Wp 120 17 (ls) (xi 6 :: st) (M) Q := wp_const rfl
theorem w120_17 {ls st : List xV} {M : xM} {Q : Option xV → xM → Prop} {a : Int} {d : Nat} (hc : x_c d = 20) (hn : x_n d = 7) (h1 : 0 ≤ a) (h2 : a < 7) : Wp 120 17 (ls) (xi a :: xr d :: st) (M) Q = Wp 120 18 (ls) (xi (M d a) :: st) (M) Q := wp_ald rfl hc h1 (by rw [hn]; exact h2)
theorem w120_18 {ls st : List xV} {M : xM} {Q : Option xV → xM → Prop} {a : Int} {v0 : xV} {v1 : xV} {w : xV} : Wp 120 18 (v0 :: v1 :: w :: ls) (xi a :: st) (M) Q = Wp 120 19 (v0 :: xjl v1 :: xi a :: ls) (st) (M) Q := wp_istore rfl rfl
theorem w120_19 {ls st : List xV} {M : xM} {Q : Option xV → xM → Prop} {d : Nat} : Wp 120 19 (xr d :: ls) (st) (M) Q = Wp 120 20 (xr d :: ls) (xr d :: st) (M) Q := wp_aload rfl rfl
theorem w120_20 {ls : List xV} {M : xM} {Q : Option xV → xM → Prop} {d0 : Nat} (hc : x_c d0 = 9) : Wp 120 20 (ls) (xr d0 :: []) (M) Q = Wc 112 [xr d0] M (fun r M2 => Wp 120 23 (ls) (r.toList ++ ([])) M2 Q) := wp_cV rfl rfl hc (Nat.le_of_ble_eq_true rfl) (Nat.le_of_ble_eq_true rfl) rfl rfl
theorem w120_23 {ls st : List xV} {M : xM} {Q : Option xV → xM → Prop} {d : Nat} : Wp 120 23 (xr d :: ls) (st) (M) Q = Wp 120 24 (xr d :: ls) (xr d :: st) (M) Q := wp_aload rfl rfl
theorem w120_24 {ls st : List xV} {M : xM} {Q : Option xV → xM → Prop} {d : Nat} (hc : x_c d = 9) : Wp 120 24 (ls) (xr d :: st) (M) Q = Wp 120 27 (ls) (xi (M d 19) :: st) (M) Q := wp_getf rfl hc
theorem w120_27 {ls st : List xV} {M : xM} {Q : Option xV → xM → Prop} {a : Int} (ha : xG a) : Wp 120 27 (ls) (xi a :: st) (M) Q = ((¬ a = 0 → Wp 120 34 (ls) (st) (M) Q) ∧ (¬ (¬ a = 0) → Wp 120 30 (ls) (st) (M) Q)) := wp_if_ne rfl ha
theorem w120_30 {ls st : List xV} {M : xM} {Q : Option xV → xM → Prop}  : Wp 120 30 (ls) (st) (M) Q = Wp 120 31 (ls) (xi 0 :: st) (M) Q := wp_const rfl
theorem w120_31 {ls st : List xV} {M : xM} {Q : Option xV → xM → Prop}  : Wp 120 31 (ls) (st) (M) Q = Wp 120 36 (ls) (st) (M) Q := wp_goto rfl
theorem w120_34 {ls st : List xV} {M : xM} {Q : Option xV → xM → Prop}  : Wp 120 34 (ls) (st) (M) Q = Wp 120 36 (ls) (xi (-4) :: st) (M) Q := wp_const rfl
theorem w120_36 {ls st : List xV} {M : xM} {Q : Option xV → xM → Prop} {a : Int} {v0 : xV} {v1 : xV} {v2 : xV} {w : xV} : Wp 120 36 (v0 :: v1 :: v2 :: w :: ls) (xi a :: st) (M) Q = Wp 120 37 (v0 :: v1 :: xjl v2 :: xi a :: ls) (st) (M) Q := wp_istore rfl rfl
theorem w120_37 {ls st : List xV} {M : xM} {Q : Option xV → xM → Prop}  : Wp 120 37 (ls) (st) (M) Q = Wp 120 39 (ls) (xi (-4) :: st) (M) Q := wp_const rfl
theorem w120_39 {ls st : List xV} {M : xM} {Q : Option xV → xM → Prop} {a : Int} {v0 : xV} {v1 : xV} {v2 : xV} {v3 : xV} {w : xV} : Wp 120 39 (v0 :: v1 :: v2 :: v3 :: w :: ls) (xi a :: st) (M) Q = Wp 120 41 (v0 :: v1 :: v2 :: xjl v3 :: xi a :: ls) (st) (M) Q := wp_istore rfl rfl
theorem w120_41 {ls st : List xV} {M : xM} {Q : Option xV → xM → Prop}  : Wp 120 41 (ls) (st) (M) Q = Wp 120 43 (ls) (xi (-4) :: st) (M) Q := wp_const rfl
theorem w120_43 {ls st : List xV} {M : xM} {Q : Option xV → xM → Prop} {a : Int} {v0 : xV} {v1 : xV} {v2 : xV} {v3 : xV} {v4 : xV} {w : xV} : Wp 120 43 (v0 :: v1 :: v2 :: v3 :: v4 :: w :: ls) (xi a :: st) (M) Q = Wp 120 45 (v0 :: v1 :: v2 :: v3 :: xjl v4 :: xi a :: ls) (st) (M) Q := wp_istore rfl rfl
theorem w120_45 {ls st : List xV} {M : xM} {Q : Option xV → xM → Prop} {d : Nat} : Wp 120 45 (xr d :: ls) (st) (M) Q = Wp 120 46 (xr d :: ls) (xr d :: st) (M) Q := wp_aload rfl rfl
theorem w120_46 {ls st : List xV} {M : xM} {Q : Option xV → xM → Prop} {d : Nat} (hc : x_c d = 9) : Wp 120 46 (ls) (xr d :: st) (M) Q = Wp 120 49 (ls) (xr (x_r d 2) :: st) (M) Q := wp_getr rfl hc
theorem w120_49 {ls st : List xV} {M : xM} {Q : Option xV → xM → Prop}  : Wp 120 49 (ls) (st) (M) Q = Wp 120 50 (ls) (xi 0 :: st) (M) Q := wp_const rfl
theorem w120_50 {ls st : List xV} {M : xM} {Q : Option xV → xM → Prop} {a : Int} {d : Nat} (hc : x_c d = 20) (hn : x_n d = 25) (h1 : 0 ≤ a) (h2 : a < 25) : Wp 120 50 (ls) (xi a :: xr d :: st) (M) Q = Wp 120 51 (ls) (xi (M d a) :: st) (M) Q := wp_ald rfl hc h1 (by rw [hn]; exact h2)
theorem w120_51 {ls st : List xV} {M : xM} {Q : Option xV → xM → Prop}  : Wp 120 51 (ls) (st) (M) Q = Wp 120 52 (ls) (xi 1 :: st) (M) Q := wp_const rfl
theorem w120_52 {ls st : List xV} {M : xM} {Q : Option xV → xM → Prop} {a : Int} {b : Int} : Wp 120 52 (ls) (xi b :: xi a :: st) (M) Q = Wp 120 53 (ls) (xi (a - b) :: st) (M) Q := wp_bin (f := xsub) rfl
theorem w120_53 {ls st : List xV} {M : xM} {Q : Option xV → xM → Prop} {a : Int} {v0 : xV} {v1 : xV} {v2 : xV} {v3 : xV} {v4 : xV} {v5 : xV} {w : xV} : Wp 120 53 (v0 :: v1 :: v2 :: v3 :: v4 :: v5 :: w :: ls) (xi a :: st) (M) Q = Wp 120 55 (v0 :: v1 :: v2 :: v3 :: v4 :: xjl v5 :: xi a :: ls) (st) (M) Q := wp_istore rfl rfl
theorem w120_55 {ls st : List xV} {M : xM} {Q : Option xV → xM → Prop} {a : Int} {v0 : xV} {v1 : xV} {v2 : xV} {v3 : xV} {v4 : xV} {v5 : xV} : Wp 120 55 (v0 :: v1 :: v2 :: v3 :: v4 :: v5 :: xi a :: ls) (st) (M) Q = Wp 120 57 (v0 :: v1 :: v2 :: v3 :: v4 :: v5 :: xi a :: ls) (xi a :: st) (M) Q := wp_iload rfl rfl
theorem w120_57 {ls st : List xV} {M : xM} {Q : Option xV → xM → Prop} {a : Int} (ha : xG a) : Wp 120 57 (ls) (xi a :: st) (M) Q = ((a < 0 → Wp 120 137 (ls) (st) (M) Q) ∧ (¬ (a < 0) → Wp 120 60 (ls) (st) (M) Q)) := wp_if_lt rfl ha
theorem w120_60 {ls st : List xV} {M : xM} {Q : Option xV → xM → Prop} {a : Int} {v0 : xV} {v1 : xV} {v2 : xV} : Wp 120 60 (v0 :: v1 :: v2 :: xi a :: ls) (st) (M) Q = Wp 120 61 (v0 :: v1 :: v2 :: xi a :: ls) (xi a :: st) (M) Q := wp_iload rfl rfl
theorem w120_61 {ls st : List xV} {M : xM} {Q : Option xV → xM → Prop} {a : Int} (ha : xG a) : Wp 120 61 (ls) (xi a :: st) (M) Q = ((a = 0 → Wp 120 137 (ls) (st) (M) Q) ∧ (¬ (a = 0) → Wp 120 64 (ls) (st) (M) Q)) := wp_if_eq rfl ha
theorem w120_64 {ls st : List xV} {M : xM} {Q : Option xV → xM → Prop} {d : Nat} : Wp 120 64 (xr d :: ls) (st) (M) Q = Wp 120 65 (xr d :: ls) (xr d :: st) (M) Q := wp_aload rfl rfl
theorem w120_65 {ls st : List xV} {M : xM} {Q : Option xV → xM → Prop} {d : Nat} (hc : x_c d = 9) : Wp 120 65 (ls) (xr d :: st) (M) Q = Wp 120 68 (ls) (xr (x_r d 5) :: st) (M) Q := wp_getr rfl hc
theorem w120_68 {ls st : List xV} {M : xM} {Q : Option xV → xM → Prop}  : Wp 120 68 (ls) (st) (M) Q = Wp 120 70 (ls) (xi 6 :: st) (M) Q := wp_const rfl
theorem w120_70 {ls st : List xV} {M : xM} {Q : Option xV → xM → Prop} {a : Int} {v0 : xV} {v1 : xV} : Wp 120 70 (v0 :: v1 :: xi a :: ls) (st) (M) Q = Wp 120 71 (v0 :: v1 :: xi a :: ls) (xi a :: st) (M) Q := wp_iload rfl rfl
theorem w120_71 {ls st : List xV} {M : xM} {Q : Option xV → xM → Prop}  : Wp 120 71 (ls) (st) (M) Q = Wp 120 72 (ls) (xi 1 :: st) (M) Q := wp_const rfl
theorem w120_72 {ls st : List xV} {M : xM} {Q : Option xV → xM → Prop} {a : Int} {v0 : xV} {v1 : xV} {v2 : xV} {v3 : xV} {v4 : xV} {v5 : xV} : Wp 120 72 (v0 :: v1 :: v2 :: v3 :: v4 :: v5 :: xi a :: ls) (st) (M) Q = Wp 120 74 (v0 :: v1 :: v2 :: v3 :: v4 :: v5 :: xi a :: ls) (xi a :: st) (M) Q := wp_iload rfl rfl
theorem w120_74 {ls st : List xV} {M : xM} {Q : Option xV → xM → Prop} {a : Int} {b : Int} : Wp 120 74 (ls) (xi b :: xi a :: st) (M) Q = Wp 120 75 (ls) (xi (xshl a b) :: st) (M) Q := wp_bin (f := xshl) rfl
theorem w120_75 {ls st : List xV} {M : xM} {Q : Option xV → xM → Prop} {a : Int} {b : Int} : Wp 120 75 (ls) (xi b :: xi a :: st) (M) Q = Wp 120 76 (ls) (xi (xor_ a b) :: st) (M) Q := wp_bin (f := xor_) rfl
theorem w120_76 {ls st : List xV} {M : xM} {Q : Option xV → xM → Prop} {a : Int} {d : Nat} {x : Int} (hc : x_c d = 20) (hn : x_n d = 7) (h1 : 0 ≤ a) (h2 : a < 7) : Wp 120 76 (ls) (xi x :: xi a :: xr d :: st) (M) Q = Wp 120 77 (ls) (st) (xup M d a x) Q := wp_iast rfl hc h1 (by rw [hn]; exact h2)
theorem w120_77 {ls st : List xV} {M : xM} {Q : Option xV → xM → Prop} {d : Nat} : Wp 120 77 (xr d :: ls) (st) (M) Q = Wp 120 78 (xr d :: ls) (xr d :: st) (M) Q := wp_aload rfl rfl
theorem w120_78 {ls : List xV} {M : xM} {Q : Option xV → xM → Prop} {d0 : Nat} (hc : x_c d0 = 9) : Wp 120 78 (ls) (xr d0 :: []) (M) Q = Wc 112 [xr d0] M (fun r M2 => Wp 120 81 (ls) (r.toList ++ ([])) M2 Q) := wp_cV rfl rfl hc (Nat.le_of_ble_eq_true rfl) (Nat.le_of_ble_eq_true rfl) rfl rfl
theorem w120_81 {ls st : List xV} {M : xM} {Q : Option xV → xM → Prop} {d : Nat} : Wp 120 81 (xr d :: ls) (st) (M) Q = Wp 120 82 (xr d :: ls) (xr d :: st) (M) Q := wp_aload rfl rfl
theorem w120_82 {ls st : List xV} {M : xM} {Q : Option xV → xM → Prop} {d : Nat} (hc : x_c d = 9) : Wp 120 82 (ls) (xr d :: st) (M) Q = Wp 120 85 (ls) (xr (x_r d 5) :: st) (M) Q := wp_getr rfl hc
theorem w120_85 {ls st : List xV} {M : xM} {Q : Option xV → xM → Prop}  : Wp 120 85 (ls) (st) (M) Q = Wp 120 87 (ls) (xi 6 :: st) (M) Q := wp_const rfl
theorem w120_87 {ls st : List xV} {M : xM} {Q : Option xV → xM → Prop} {a : Int} {d : Nat} (hc : x_c d = 20) (hn : x_n d = 7) (h1 : 0 ≤ a) (h2 : a < 7) : Wp 120 87 (ls) (xi a :: xr d :: st) (M) Q = Wp 120 88 (ls) (xi (M d a) :: st) (M) Q := wp_ald rfl hc h1 (by rw [hn]; exact h2)
theorem w120_88 {ls st : List xV} {M : xM} {Q : Option xV → xM → Prop} {a : Int} {v0 : xV} {v1 : xV} : Wp 120 88 (v0 :: v1 :: xi a :: ls) (st) (M) Q = Wp 120 89 (v0 :: v1 :: xi a :: ls) (xi a :: st) (M) Q := wp_iload rfl rfl
theorem w120_89 {ls st : List xV} {M : xM} {Q : Option xV → xM → Prop} {a : Int} {b : Int} (ha : xG a) (hb : xG b) : Wp 120 89 (ls) (xi b :: xi a :: st) (M) Q = ((a = b → Wp 120 103 (ls) (st) (M) Q) ∧ (¬ (a = b) → Wp 120 92 (ls) (st) (M) Q)) := wp_cmp_eq rfl ha hb
theorem w120_92 {ls st : List xV} {M : xM} {Q : Option xV → xM → Prop} {d : Nat} : Wp 120 92 (xr d :: ls) (st) (M) Q = Wp 120 93 (xr d :: ls) (xr d :: st) (M) Q := wp_aload rfl rfl
theorem w120_93 {ls st : List xV} {M : xM} {Q : Option xV → xM → Prop} {d : Nat} (hc : x_c d = 9) : Wp 120 93 (ls) (xr d :: st) (M) Q = Wp 120 96 (ls) (xi (M d 19) :: st) (M) Q := wp_getf rfl hc
theorem w120_96 {ls st : List xV} {M : xM} {Q : Option xV → xM → Prop} {a : Int} (ha : xG a) : Wp 120 96 (ls) (xi a :: st) (M) Q = ((¬ a = 0 → Wp 120 103 (ls) (st) (M) Q) ∧ (¬ (¬ a = 0) → Wp 120 99 (ls) (st) (M) Q)) := wp_if_ne rfl ha
theorem w120_99 {ls st : List xV} {M : xM} {Q : Option xV → xM → Prop}  : Wp 120 99 (ls) (st) (M) Q = Wp 120 100 (ls) (xi 1 :: st) (M) Q := wp_const rfl
theorem w120_100 {ls st : List xV} {M : xM} {Q : Option xV → xM → Prop}  : Wp 120 100 (ls) (st) (M) Q = Wp 120 104 (ls) (st) (M) Q := wp_goto rfl
theorem w120_103 {ls st : List xV} {M : xM} {Q : Option xV → xM → Prop}  : Wp 120 103 (ls) (st) (M) Q = Wp 120 104 (ls) (xi 0 :: st) (M) Q := wp_const rfl
theorem w120_104 {ls st : List xV} {M : xM} {Q : Option xV → xM → Prop} {a : Int} {v0 : xV} {v1 : xV} {v2 : xV} {v3 : xV} {v4 : xV} {v5 : xV} {v6 : xV} {w : xV} : Wp 120 104 (v0 :: v1 :: v2 :: v3 :: v4 :: v5 :: v6 :: w :: ls) (xi a :: st) (M) Q = Wp 120 106 (v0 :: v1 :: v2 :: v3 :: v4 :: v5 :: xjl v6 :: xi a :: ls) (st) (M) Q := wp_istore rfl rfl
theorem w120_106 {ls st : List xV} {M : xM} {Q : Option xV → xM → Prop} {a : Int} {v0 : xV} {v1 : xV} {v2 : xV} {v3 : xV} {v4 : xV} {v5 : xV} {v6 : xV} : Wp 120 106 (v0 :: v1 :: v2 :: v3 :: v4 :: v5 :: v6 :: xi a :: ls) (st) (M) Q = Wp 120 108 (v0 :: v1 :: v2 :: v3 :: v4 :: v5 :: v6 :: xi a :: ls) (xi a :: st) (M) Q := wp_iload rfl rfl
theorem w120_108 {ls st : List xV} {M : xM} {Q : Option xV → xM → Prop} {a : Int} (ha : xG a) : Wp 120 108 (ls) (xi a :: st) (M) Q = ((a = 0 → Wp 120 115 (ls) (st) (M) Q) ∧ (¬ (a = 0) → Wp 120 111 (ls) (st) (M) Q)) := wp_if_eq rfl ha
theorem w120_111 {ls st : List xV} {M : xM} {Q : Option xV → xM → Prop}  : Wp 120 111 (ls) (st) (M) Q = Wp 120 112 (ls) (xi 1 :: st) (M) Q := wp_const rfl
theorem w120_112 {ls st : List xV} {M : xM} {Q : Option xV → xM → Prop}  : Wp 120 112 (ls) (st) (M) Q = Wp 120 116 (ls) (st) (M) Q := wp_goto rfl
theorem w120_115 {ls st : List xV} {M : xM} {Q : Option xV → xM → Prop} {a : Int} {v0 : xV} {v1 : xV} {v2 : xV} : Wp 120 115 (v0 :: v1 :: v2 :: xi a :: ls) (st) (M) Q = Wp 120 116 (v0 :: v1 :: v2 :: xi a :: ls) (xi a :: st) (M) Q := wp_iload rfl rfl
theorem w120_116 {ls st : List xV} {M : xM} {Q : Option xV → xM → Prop} {a : Int} {v0 : xV} {v1 : xV} {v2 : xV} {w : xV} : Wp 120 116 (v0 :: v1 :: v2 :: w :: ls) (xi a :: st) (M) Q = Wp 120 117 (v0 :: v1 :: xjl v2 :: xi a :: ls) (st) (M) Q := wp_istore rfl rfl
theorem w120_117 {ls st : List xV} {M : xM} {Q : Option xV → xM → Prop} {a : Int} {v0 : xV} {v1 : xV} {v2 : xV} {v3 : xV} {v4 : xV} {v5 : xV} {v6 : xV} : Wp 120 117 (v0 :: v1 :: v2 :: v3 :: v4 :: v5 :: v6 :: xi a :: ls) (st) (M) Q = Wp 120 119 (v0 :: v1 :: v2 :: v3 :: v4 :: v5 :: v6 :: xi a :: ls) (xi a :: st) (M) Q := wp_iload rfl rfl
theorem w120_119 {ls st : List xV} {M : xM} {Q : Option xV → xM → Prop} {a : Int} (ha : xG a) : Wp 120 119 (ls) (xi a :: st) (M) Q = ((a = 0 → Wp 120 127 (ls) (st) (M) Q) ∧ (¬ (a = 0) → Wp 120 122 (ls) (st) (M) Q)) := wp_if_eq rfl ha
theorem w120_122 {ls st : List xV} {M : xM} {Q : Option xV → xM → Prop} {a : Int} {v0 : xV} {v1 : xV} {v2 : xV} {v3 : xV} {v4 : xV} {v5 : xV} : Wp 120 122 (v0 :: v1 :: v2 :: v3 :: v4 :: v5 :: xi a :: ls) (st) (M) Q = Wp 120 124 (v0 :: v1 :: v2 :: v3 :: v4 :: v5 :: xi a :: ls) (xi a :: st) (M) Q := wp_iload rfl rfl
theorem w120_124 {ls st : List xV} {M : xM} {Q : Option xV → xM → Prop}  : Wp 120 124 (ls) (st) (M) Q = Wp 120 129 (ls) (st) (M) Q := wp_goto rfl
theorem w120_127 {ls st : List xV} {M : xM} {Q : Option xV → xM → Prop} {a : Int} {v0 : xV} {v1 : xV} {v2 : xV} {v3 : xV} : Wp 120 127 (v0 :: v1 :: v2 :: v3 :: xi a :: ls) (st) (M) Q = Wp 120 129 (v0 :: v1 :: v2 :: v3 :: xi a :: ls) (xi a :: st) (M) Q := wp_iload rfl rfl
theorem w120_129 {ls st : List xV} {M : xM} {Q : Option xV → xM → Prop} {a : Int} {v0 : xV} {v1 : xV} {v2 : xV} {v3 : xV} {w : xV} : Wp 120 129 (v0 :: v1 :: v2 :: v3 :: w :: ls) (xi a :: st) (M) Q = Wp 120 131 (v0 :: v1 :: v2 :: xjl v3 :: xi a :: ls) (st) (M) Q := wp_istore rfl rfl
theorem w120_131 {ls st : List xV} {M : xM} {Q : Option xV → xM → Prop} {a : Int} {v0 : xV} {v1 : xV} {v2 : xV} {v3 : xV} {v4 : xV} {v5 : xV} : Wp 120 131 (v0 :: v1 :: v2 :: v3 :: v4 :: v5 :: xi a :: ls) (st) (M) Q = Wp 120 134 (v0 :: v1 :: v2 :: v3 :: v4 :: xjl v5 :: xi (a + (-1)) :: ls) (st) (M) Q := wp_iinc rfl rfl rfl
theorem w120_134 {ls st : List xV} {M : xM} {Q : Option xV → xM → Prop}  : Wp 120 134 (ls) (st) (M) Q = Wp 120 55 (ls) (st) (M) Q := wp_goto rfl
theorem w120_137 {ls st : List xV} {M : xM} {Q : Option xV → xM → Prop} {d : Nat} : Wp 120 137 (xr d :: ls) (st) (M) Q = Wp 120 138 (xr d :: ls) (xr d :: st) (M) Q := wp_aload rfl rfl
theorem w120_138 {ls st : List xV} {M : xM} {Q : Option xV → xM → Prop} {d : Nat} (hc : x_c d = 9) : Wp 120 138 (ls) (xr d :: st) (M) Q = Wp 120 141 (ls) (xr (x_r d 2) :: st) (M) Q := wp_getr rfl hc
theorem w120_141 {ls st : List xV} {M : xM} {Q : Option xV → xM → Prop}  : Wp 120 141 (ls) (st) (M) Q = Wp 120 142 (ls) (xi 0 :: st) (M) Q := wp_const rfl
theorem w120_142 {ls st : List xV} {M : xM} {Q : Option xV → xM → Prop} {a : Int} {d : Nat} (hc : x_c d = 20) (hn : x_n d = 25) (h1 : 0 ≤ a) (h2 : a < 25) : Wp 120 142 (ls) (xi a :: xr d :: st) (M) Q = Wp 120 143 (ls) (xi (M d a) :: st) (M) Q := wp_ald rfl hc h1 (by rw [hn]; exact h2)
theorem w120_143 {ls st : List xV} {M : xM} {Q : Option xV → xM → Prop}  : Wp 120 143 (ls) (st) (M) Q = Wp 120 144 (ls) (xi 1 :: st) (M) Q := wp_const rfl
theorem w120_144 {ls st : List xV} {M : xM} {Q : Option xV → xM → Prop} {a : Int} {b : Int} : Wp 120 144 (ls) (xi b :: xi a :: st) (M) Q = Wp 120 145 (ls) (xi (a - b) :: st) (M) Q := wp_bin (f := xsub) rfl
theorem w120_145 {ls st : List xV} {M : xM} {Q : Option xV → xM → Prop} {a : Int} {v0 : xV} {v1 : xV} {v2 : xV} {v3 : xV} {v4 : xV} {v5 : xV} {w : xV} : Wp 120 145 (v0 :: v1 :: v2 :: v3 :: v4 :: v5 :: w :: ls) (xi a :: st) (M) Q = Wp 120 147 (v0 :: v1 :: v2 :: v3 :: v4 :: xjl v5 :: xi a :: ls) (st) (M) Q := wp_istore rfl rfl
theorem w120_147 {ls st : List xV} {M : xM} {Q : Option xV → xM → Prop} {a : Int} {v0 : xV} {v1 : xV} {v2 : xV} {v3 : xV} {v4 : xV} {v5 : xV} : Wp 120 147 (v0 :: v1 :: v2 :: v3 :: v4 :: v5 :: xi a :: ls) (st) (M) Q = Wp 120 149 (v0 :: v1 :: v2 :: v3 :: v4 :: v5 :: xi a :: ls) (xi a :: st) (M) Q := wp_iload rfl rfl
theorem w120_149 {ls st : List xV} {M : xM} {Q : Option xV → xM → Prop} {a : Int} (ha : xG a) : Wp 120 149 (ls) (xi a :: st) (M) Q = ((a < 0 → Wp 120 273 (ls) (st) (M) Q) ∧ (¬ (a < 0) → Wp 120 152 (ls) (st) (M) Q)) := wp_if_lt rfl ha
theorem w120_152 {ls st : List xV} {M : xM} {Q : Option xV → xM → Prop} {a : Int} {v0 : xV} {v1 : xV} {v2 : xV} : Wp 120 152 (v0 :: v1 :: v2 :: xi a :: ls) (st) (M) Q = Wp 120 153 (v0 :: v1 :: v2 :: xi a :: ls) (xi a :: st) (M) Q := wp_iload rfl rfl
theorem w120_153 {ls st : List xV} {M : xM} {Q : Option xV → xM → Prop} {a : Int} (ha : xG a) : Wp 120 153 (ls) (xi a :: st) (M) Q = ((a = 0 → Wp 120 273 (ls) (st) (M) Q) ∧ (¬ (a = 0) → Wp 120 156 (ls) (st) (M) Q)) := wp_if_eq rfl ha
theorem w120_156 {ls st : List xV} {M : xM} {Q : Option xV → xM → Prop} {a : Int} {v0 : xV} {v1 : xV} {v2 : xV} : Wp 120 156 (v0 :: v1 :: v2 :: xi a :: ls) (st) (M) Q = Wp 120 157 (v0 :: v1 :: v2 :: xi a :: ls) (xi a :: st) (M) Q := wp_iload rfl rfl
theorem w120_157 {ls st : List xV} {M : xM} {Q : Option xV → xM → Prop}  : Wp 120 157 (ls) (st) (M) Q = Wp 120 158 (ls) (xi 1 :: st) (M) Q := wp_const rfl
theorem w120_158 {ls st : List xV} {M : xM} {Q : Option xV → xM → Prop} {a : Int} {b : Int} (ha : xG a) (hb : xG b) : Wp 120 158 (ls) (xi b :: xi a :: st) (M) Q = ((a = b → Wp 120 273 (ls) (st) (M) Q) ∧ (¬ (a = b) → Wp 120 161 (ls) (st) (M) Q)) := wp_cmp_eq rfl ha hb
theorem w120_161 {ls st : List xV} {M : xM} {Q : Option xV → xM → Prop} {d : Nat} : Wp 120 161 (xr d :: ls) (st) (M) Q = Wp 120 162 (xr d :: ls) (xr d :: st) (M) Q := wp_aload rfl rfl
theorem w120_162 {ls st : List xV} {M : xM} {Q : Option xV → xM → Prop} {d : Nat} (hc : x_c d = 9) : Wp 120 162 (ls) (xr d :: st) (M) Q = Wp 120 165 (ls) (xr (x_r d 2) :: st) (M) Q := wp_getr rfl hc
theorem w120_165 {ls st : List xV} {M : xM} {Q : Option xV → xM → Prop}  : Wp 120 165 (ls) (st) (M) Q = Wp 120 166 (ls) (xi 0 :: st) (M) Q := wp_const rfl
set_option maxRecDepth 20000 in
theorem w120_166 {ls st : List xV} {M : xM} {Q : Option xV → xM → Prop} {a : Int} {d : Nat} (hc : x_c d = 20) (hn : x_n d = 25) (h1 : 0 ≤ a) (h2 : a < 25) : Wp 120 166 (ls) (xi a :: xr d :: st) (M) Q = Wp 120 167 (ls) (xi (M d a) :: st) (M) Q := wp_ald rfl hc h1 (by rw [hn]; exact h2)
set_option maxRecDepth 20000 in
theorem w120_167 {ls st : List xV} {M : xM} {Q : Option xV → xM → Prop}  : Wp 120 167 (ls) (st) (M) Q = Wp 120 168 (ls) (xi 1 :: st) (M) Q := wp_const rfl
set_option maxRecDepth 20000 in
theorem w120_168 {ls st : List xV} {M : xM} {Q : Option xV → xM → Prop} {a : Int} {b : Int} : Wp 120 168 (ls) (xi b :: xi a :: st) (M) Q = Wp 120 169 (ls) (xi (a - b) :: st) (M) Q := wp_bin (f := xsub) rfl
set_option maxRecDepth 20000 in
theorem w120_169 {ls st : List xV} {M : xM} {Q : Option xV → xM → Prop} {a : Int} {v0 : xV} {v1 : xV} {v2 : xV} {v3 : xV} {v4 : xV} {v5 : xV} {v6 : xV} {w : xV} : Wp 120 169 (v0 :: v1 :: v2 :: v3 :: v4 :: v5 :: v6 :: w :: ls) (xi a :: st) (M) Q = Wp 120 171 (v0 :: v1 :: v2 :: v3 :: v4 :: v5 :: xjl v6 :: xi a :: ls) (st) (M) Q := wp_istore rfl rfl
set_option maxRecDepth 20000 in
theorem w120_171 {ls st : List xV} {M : xM} {Q : Option xV → xM → Prop} {a : Int} {v0 : xV} {v1 : xV} {v2 : xV} {v3 : xV} {v4 : xV} {v5 : xV} {v6 : xV} : Wp 120 171 (v0 :: v1 :: v2 :: v3 :: v4 :: v5 :: v6 :: xi a :: ls) (st) (M) Q = Wp 120 173 (v0 :: v1 :: v2 :: v3 :: v4 :: v5 :: v6 :: xi a :: ls) (xi a :: st) (M) Q := wp_iload rfl rfl
set_option maxRecDepth 20000 in
theorem w120_173 {ls st : List xV} {M : xM} {Q : Option xV → xM → Prop} {a : Int} {v0 : xV} {v1 : xV} {v2 : xV} {v3 : xV} {v4 : xV} {v5 : xV} : Wp 120 173 (v0 :: v1 :: v2 :: v3 :: v4 :: v5 :: xi a :: ls) (st) (M) Q = Wp 120 175 (v0 :: v1 :: v2 :: v3 :: v4 :: v5 :: xi a :: ls) (xi a :: st) (M) Q := wp_iload rfl rfl
set_option maxRecDepth 20000 in
theorem w120_175 {ls st : List xV} {M : xM} {Q : Option xV → xM → Prop} {a : Int} {b : Int} (ha : xG a) (hb : xG b) : Wp 120 175 (ls) (xi b :: xi a :: st) (M) Q = ((a ≤ b → Wp 120 267 (ls) (st) (M) Q) ∧ (¬ (a ≤ b) → Wp 120 178 (ls) (st) (M) Q)) := wp_cmp_le rfl ha hb
set_option maxRecDepth 20000 in
theorem w120_178 {ls st : List xV} {M : xM} {Q : Option xV → xM → Prop} {d : Nat} : Wp 120 178 (xr d :: ls) (st) (M) Q = Wp 120 179 (xr d :: ls) (xr d :: st) (M) Q := wp_aload rfl rfl
set_option maxRecDepth 20000 in
theorem w120_179 {ls st : List xV} {M : xM} {Q : Option xV → xM → Prop} {d : Nat} (hc : x_c d = 9) : Wp 120 179 (ls) (xr d :: st) (M) Q = Wp 120 182 (ls) (xr (x_r d 5) :: st) (M) Q := wp_getr rfl hc
set_option maxRecDepth 20000 in
theorem w120_182 {ls st : List xV} {M : xM} {Q : Option xV → xM → Prop}  : Wp 120 182 (ls) (st) (M) Q = Wp 120 184 (ls) (xi 6 :: st) (M) Q := wp_const rfl
set_option maxRecDepth 20000 in
theorem w120_184 {ls st : List xV} {M : xM} {Q : Option xV → xM → Prop} {a : Int} {v0 : xV} {v1 : xV} : Wp 120 184 (v0 :: v1 :: xi a :: ls) (st) (M) Q = Wp 120 185 (v0 :: v1 :: xi a :: ls) (xi a :: st) (M) Q := wp_iload rfl rfl
set_option maxRecDepth 20000 in
theorem w120_185 {ls st : List xV} {M : xM} {Q : Option xV → xM → Prop}  : Wp 120 185 (ls) (st) (M) Q = Wp 120 186 (ls) (xi 1 :: st) (M) Q := wp_const rfl
set_option maxRecDepth 20000 in
theorem w120_186 {ls st : List xV} {M : xM} {Q : Option xV → xM → Prop} {a : Int} {v0 : xV} {v1 : xV} {v2 : xV} {v3 : xV} {v4 : xV} {v5 : xV} : Wp 120 186 (v0 :: v1 :: v2 :: v3 :: v4 :: v5 :: xi a :: ls) (st) (M) Q = Wp 120 188 (v0 :: v1 :: v2 :: v3 :: v4 :: v5 :: xi a :: ls) (xi a :: st) (M) Q := wp_iload rfl rfl
set_option maxRecDepth 20000 in
theorem w120_188 {ls st : List xV} {M : xM} {Q : Option xV → xM → Prop} {a : Int} {b : Int} : Wp 120 188 (ls) (xi b :: xi a :: st) (M) Q = Wp 120 189 (ls) (xi (xshl a b) :: st) (M) Q := wp_bin (f := xshl) rfl
set_option maxRecDepth 20000 in
theorem w120_189 {ls st : List xV} {M : xM} {Q : Option xV → xM → Prop} {a : Int} {b : Int} : Wp 120 189 (ls) (xi b :: xi a :: st) (M) Q = Wp 120 190 (ls) (xi (xor_ a b) :: st) (M) Q := wp_bin (f := xor_) rfl
set_option maxRecDepth 20000 in
theorem w120_190 {ls st : List xV} {M : xM} {Q : Option xV → xM → Prop}  : Wp 120 190 (ls) (st) (M) Q = Wp 120 191 (ls) (xi 1 :: st) (M) Q := wp_const rfl
set_option maxRecDepth 20000 in
theorem w120_191 {ls st : List xV} {M : xM} {Q : Option xV → xM → Prop} {a : Int} {v0 : xV} {v1 : xV} {v2 : xV} {v3 : xV} {v4 : xV} {v5 : xV} {v6 : xV} : Wp 120 191 (v0 :: v1 :: v2 :: v3 :: v4 :: v5 :: v6 :: xi a :: ls) (st) (M) Q = Wp 120 193 (v0 :: v1 :: v2 :: v3 :: v4 :: v5 :: v6 :: xi a :: ls) (xi a :: st) (M) Q := wp_iload rfl rfl
set_option maxRecDepth 20000 in
theorem w120_193 {ls st : List xV} {M : xM} {Q : Option xV → xM → Prop} {a : Int} {b : Int} : Wp 120 193 (ls) (xi b :: xi a :: st) (M) Q = Wp 120 194 (ls) (xi (xshl a b) :: st) (M) Q := wp_bin (f := xshl) rfl
set_option maxRecDepth 20000 in
theorem w120_194 {ls st : List xV} {M : xM} {Q : Option xV → xM → Prop} {a : Int} {b : Int} : Wp 120 194 (ls) (xi b :: xi a :: st) (M) Q = Wp 120 195 (ls) (xi (xor_ a b) :: st) (M) Q := wp_bin (f := xor_) rfl
set_option maxRecDepth 20000 in
theorem w120_195 {ls st : List xV} {M : xM} {Q : Option xV → xM → Prop} {a : Int} {d : Nat} {x : Int} (hc : x_c d = 20) (hn : x_n d = 7) (h1 : 0 ≤ a) (h2 : a < 7) : Wp 120 195 (ls) (xi x :: xi a :: xr d :: st) (M) Q = Wp 120 196 (ls) (st) (xup M d a x) Q := wp_iast rfl hc h1 (by rw [hn]; exact h2)
set_option maxRecDepth 20000 in
theorem w120_196 {ls st : List xV} {M : xM} {Q : Option xV → xM → Prop} {d : Nat} : Wp 120 196 (xr d :: ls) (st) (M) Q = Wp 120 197 (xr d :: ls) (xr d :: st) (M) Q := wp_aload rfl rfl
set_option maxRecDepth 20000 in
theorem w120_197 {ls : List xV} {M : xM} {Q : Option xV → xM → Prop} {d0 : Nat} (hc : x_c d0 = 9) : Wp 120 197 (ls) (xr d0 :: []) (M) Q = Wc 112 [xr d0] M (fun r M2 => Wp 120 200 (ls) (r.toList ++ ([])) M2 Q) := wp_cV rfl rfl hc (Nat.le_of_ble_eq_true rfl) (Nat.le_of_ble_eq_true rfl) rfl rfl
set_option maxRecDepth 20000 in
theorem w120_200 {ls st : List xV} {M : xM} {Q : Option xV → xM → Prop} {d : Nat} : Wp 120 200 (xr d :: ls) (st) (M) Q = Wp 120 201 (xr d :: ls) (xr d :: st) (M) Q := wp_aload rfl rfl
set_option maxRecDepth 20000 in
theorem w120_201 {ls st : List xV} {M : xM} {Q : Option xV → xM → Prop} {d : Nat} (hc : x_c d = 9) : Wp 120 201 (ls) (xr d :: st) (M) Q = Wp 120 204 (ls) (xr (x_r d 5) :: st) (M) Q := wp_getr rfl hc
set_option maxRecDepth 20000 in
theorem w120_204 {ls st : List xV} {M : xM} {Q : Option xV → xM → Prop}  : Wp 120 204 (ls) (st) (M) Q = Wp 120 206 (ls) (xi 6 :: st) (M) Q := wp_const rfl
set_option maxRecDepth 20000 in
theorem w120_206 {ls st : List xV} {M : xM} {Q : Option xV → xM → Prop} {a : Int} {d : Nat} (hc : x_c d = 20) (hn : x_n d = 7) (h1 : 0 ≤ a) (h2 : a < 7) : Wp 120 206 (ls) (xi a :: xr d :: st) (M) Q = Wp 120 207 (ls) (xi (M d a) :: st) (M) Q := wp_ald rfl hc h1 (by rw [hn]; exact h2)
set_option maxRecDepth 20000 in
theorem w120_207 {ls : List xV} {M : xM} {Q : Option xV → xM → Prop} {a0 : Int} : Wp 120 207 (ls) (xi a0 :: []) (M) Q = Wc 83 [xi a0] M (fun r M2 => Wp 120 210 (ls) (r.toList ++ ([])) M2 Q) := wp_cS rfl rfl (Nat.le_of_ble_eq_true rfl) (Nat.le_of_ble_eq_true rfl) rfl rfl
set_option maxRecDepth 20000 in
theorem w120_210 {ls st : List xV} {M : xM} {Q : Option xV → xM → Prop} {a : Int} {v0 : xV} {v1 : xV} : Wp 120 210 (v0 :: v1 :: xi a :: ls) (st) (M) Q = Wp 120 211 (v0 :: v1 :: xi a :: ls) (xi a :: st) (M) Q := wp_iload rfl rfl
set_option maxRecDepth 20000 in
theorem w120_211 {ls : List xV} {M : xM} {Q : Option xV → xM → Prop} {a0 : Int} {s0 : xV} : Wp 120 211 (ls) (xi a0 :: s0 :: []) (M) Q = Wc 83 [xi a0] M (fun r M2 => Wp 120 214 (ls) (r.toList ++ (s0 :: [])) M2 Q) := wp_cS rfl rfl (Nat.le_of_ble_eq_true rfl) (Nat.le_of_ble_eq_true rfl) rfl rfl
set_option maxRecDepth 20000 in
theorem w120_214 {ls st : List xV} {M : xM} {Q : Option xV → xM → Prop}  : Wp 120 214 (ls) (st) (M) Q = Wp 120 215 (ls) (xi 2 :: st) (M) Q := wp_const rfl
set_option maxRecDepth 20000 in
theorem w120_215 {ls st : List xV} {M : xM} {Q : Option xV → xM → Prop} {a : Int} {b : Int} : Wp 120 215 (ls) (xi b :: xi a :: st) (M) Q = Wp 120 216 (ls) (xi (a + b) :: st) (M) Q := wp_bin (f := xadd) rfl
set_option maxRecDepth 20000 in
theorem w120_216 {ls st : List xV} {M : xM} {Q : Option xV → xM → Prop} {a : Int} {b : Int} (ha : xG a) (hb : xG b) : Wp 120 216 (ls) (xi b :: xi a :: st) (M) Q = ((¬ a = b → Wp 120 230 (ls) (st) (M) Q) ∧ (¬ (¬ a = b) → Wp 120 219 (ls) (st) (M) Q)) := wp_cmp_ne rfl ha hb
set_option maxRecDepth 20000 in
theorem w120_219 {ls st : List xV} {M : xM} {Q : Option xV → xM → Prop} {d : Nat} : Wp 120 219 (xr d :: ls) (st) (M) Q = Wp 120 220 (xr d :: ls) (xr d :: st) (M) Q := wp_aload rfl rfl
set_option maxRecDepth 20000 in
theorem w120_220 {ls st : List xV} {M : xM} {Q : Option xV → xM → Prop} {d : Nat} (hc : x_c d = 9) : Wp 120 220 (ls) (xr d :: st) (M) Q = Wp 120 223 (ls) (xi (M d 19) :: st) (M) Q := wp_getf rfl hc
set_option maxRecDepth 20000 in
theorem w120_223 {ls st : List xV} {M : xM} {Q : Option xV → xM → Prop} {a : Int} (ha : xG a) : Wp 120 223 (ls) (xi a :: st) (M) Q = ((¬ a = 0 → Wp 120 230 (ls) (st) (M) Q) ∧ (¬ (¬ a = 0) → Wp 120 226 (ls) (st) (M) Q)) := wp_if_ne rfl ha
set_option maxRecDepth 20000 in
theorem w120_226 {ls st : List xV} {M : xM} {Q : Option xV → xM → Prop}  : Wp 120 226 (ls) (st) (M) Q = Wp 120 227 (ls) (xi 1 :: st) (M) Q := wp_const rfl
set_option maxRecDepth 20000 in
theorem w120_227 {ls st : List xV} {M : xM} {Q : Option xV → xM → Prop}  : Wp 120 227 (ls) (st) (M) Q = Wp 120 231 (ls) (st) (M) Q := wp_goto rfl
set_option maxRecDepth 20000 in
theorem w120_230 {ls st : List xV} {M : xM} {Q : Option xV → xM → Prop}  : Wp 120 230 (ls) (st) (M) Q = Wp 120 231 (ls) (xi 0 :: st) (M) Q := wp_const rfl
set_option maxRecDepth 20000 in
theorem w120_231 {ls st : List xV} {M : xM} {Q : Option xV → xM → Prop} {a : Int} {v0 : xV} {v1 : xV} {v2 : xV} {v3 : xV} {v4 : xV} {v5 : xV} {v6 : xV} {v7 : xV} {w : xV} : Wp 120 231 (v0 :: v1 :: v2 :: v3 :: v4 :: v5 :: v6 :: v7 :: w :: ls) (xi a :: st) (M) Q = Wp 120 233 (v0 :: v1 :: v2 :: v3 :: v4 :: v5 :: v6 :: xjl v7 :: xi a :: ls) (st) (M) Q := wp_istore rfl rfl
set_option maxRecDepth 20000 in
theorem w120_233 {ls st : List xV} {M : xM} {Q : Option xV → xM → Prop} {a : Int} {v0 : xV} {v1 : xV} {v2 : xV} {v3 : xV} {v4 : xV} {v5 : xV} {v6 : xV} {v7 : xV} : Wp 120 233 (v0 :: v1 :: v2 :: v3 :: v4 :: v5 :: v6 :: v7 :: xi a :: ls) (st) (M) Q = Wp 120 235 (v0 :: v1 :: v2 :: v3 :: v4 :: v5 :: v6 :: v7 :: xi a :: ls) (xi a :: st) (M) Q := wp_iload rfl rfl
set_option maxRecDepth 20000 in
theorem w120_235 {ls st : List xV} {M : xM} {Q : Option xV → xM → Prop} {a : Int} (ha : xG a) : Wp 120 235 (ls) (xi a :: st) (M) Q = ((a = 0 → Wp 120 243 (ls) (st) (M) Q) ∧ (¬ (a = 0) → Wp 120 238 (ls) (st) (M) Q)) := wp_if_eq rfl ha
set_option maxRecDepth 20000 in
theorem w120_238 {ls st : List xV} {M : xM} {Q : Option xV → xM → Prop} {a : Int} {v0 : xV} {v1 : xV} {v2 : xV} {v3 : xV} {v4 : xV} {v5 : xV} : Wp 120 238 (v0 :: v1 :: v2 :: v3 :: v4 :: v5 :: xi a :: ls) (st) (M) Q = Wp 120 240 (v0 :: v1 :: v2 :: v3 :: v4 :: v5 :: xi a :: ls) (xi a :: st) (M) Q := wp_iload rfl rfl
set_option maxRecDepth 20000 in
theorem w120_240 {ls st : List xV} {M : xM} {Q : Option xV → xM → Prop}  : Wp 120 240 (ls) (st) (M) Q = Wp 120 245 (ls) (st) (M) Q := wp_goto rfl
set_option maxRecDepth 20000 in
theorem w120_243 {ls st : List xV} {M : xM} {Q : Option xV → xM → Prop} {a : Int} {v0 : xV} {v1 : xV} {v2 : xV} {v3 : xV} : Wp 120 243 (v0 :: v1 :: v2 :: v3 :: xi a :: ls) (st) (M) Q = Wp 120 245 (v0 :: v1 :: v2 :: v3 :: xi a :: ls) (xi a :: st) (M) Q := wp_iload rfl rfl
set_option maxRecDepth 20000 in
theorem w120_245 {ls st : List xV} {M : xM} {Q : Option xV → xM → Prop} {a : Int} {v0 : xV} {v1 : xV} {v2 : xV} {v3 : xV} {w : xV} : Wp 120 245 (v0 :: v1 :: v2 :: v3 :: w :: ls) (xi a :: st) (M) Q = Wp 120 247 (v0 :: v1 :: v2 :: xjl v3 :: xi a :: ls) (st) (M) Q := wp_istore rfl rfl
set_option maxRecDepth 20000 in
theorem w120_247 {ls st : List xV} {M : xM} {Q : Option xV → xM → Prop} {a : Int} {v0 : xV} {v1 : xV} {v2 : xV} {v3 : xV} {v4 : xV} {v5 : xV} {v6 : xV} {v7 : xV} : Wp 120 247 (v0 :: v1 :: v2 :: v3 :: v4 :: v5 :: v6 :: v7 :: xi a :: ls) (st) (M) Q = Wp 120 249 (v0 :: v1 :: v2 :: v3 :: v4 :: v5 :: v6 :: v7 :: xi a :: ls) (xi a :: st) (M) Q := wp_iload rfl rfl
set_option maxRecDepth 20000 in
theorem w120_249 {ls st : List xV} {M : xM} {Q : Option xV → xM → Prop} {a : Int} (ha : xG a) : Wp 120 249 (ls) (xi a :: st) (M) Q = ((a = 0 → Wp 120 257 (ls) (st) (M) Q) ∧ (¬ (a = 0) → Wp 120 252 (ls) (st) (M) Q)) := wp_if_eq rfl ha
set_option maxRecDepth 20000 in
theorem w120_252 {ls st : List xV} {M : xM} {Q : Option xV → xM → Prop} {a : Int} {v0 : xV} {v1 : xV} {v2 : xV} {v3 : xV} {v4 : xV} {v5 : xV} {v6 : xV} : Wp 120 252 (v0 :: v1 :: v2 :: v3 :: v4 :: v5 :: v6 :: xi a :: ls) (st) (M) Q = Wp 120 254 (v0 :: v1 :: v2 :: v3 :: v4 :: v5 :: v6 :: xi a :: ls) (xi a :: st) (M) Q := wp_iload rfl rfl
set_option maxRecDepth 20000 in
theorem w120_254 {ls st : List xV} {M : xM} {Q : Option xV → xM → Prop}  : Wp 120 254 (ls) (st) (M) Q = Wp 120 259 (ls) (st) (M) Q := wp_goto rfl
set_option maxRecDepth 20000 in
theorem w120_257 {ls st : List xV} {M : xM} {Q : Option xV → xM → Prop} {a : Int} {v0 : xV} {v1 : xV} {v2 : xV} {v3 : xV} {v4 : xV} : Wp 120 257 (v0 :: v1 :: v2 :: v3 :: v4 :: xi a :: ls) (st) (M) Q = Wp 120 259 (v0 :: v1 :: v2 :: v3 :: v4 :: xi a :: ls) (xi a :: st) (M) Q := wp_iload rfl rfl
set_option maxRecDepth 20000 in
theorem w120_259 {ls st : List xV} {M : xM} {Q : Option xV → xM → Prop} {a : Int} {v0 : xV} {v1 : xV} {v2 : xV} {v3 : xV} {v4 : xV} {w : xV} : Wp 120 259 (v0 :: v1 :: v2 :: v3 :: v4 :: w :: ls) (xi a :: st) (M) Q = Wp 120 261 (v0 :: v1 :: v2 :: v3 :: xjl v4 :: xi a :: ls) (st) (M) Q := wp_istore rfl rfl
set_option maxRecDepth 20000 in
theorem w120_261 {ls st : List xV} {M : xM} {Q : Option xV → xM → Prop} {a : Int} {v0 : xV} {v1 : xV} {v2 : xV} {v3 : xV} {v4 : xV} {v5 : xV} {v6 : xV} : Wp 120 261 (v0 :: v1 :: v2 :: v3 :: v4 :: v5 :: v6 :: xi a :: ls) (st) (M) Q = Wp 120 264 (v0 :: v1 :: v2 :: v3 :: v4 :: v5 :: xjl v6 :: xi (a + (-1)) :: ls) (st) (M) Q := wp_iinc rfl rfl rfl
set_option maxRecDepth 20000 in
theorem w120_264 {ls st : List xV} {M : xM} {Q : Option xV → xM → Prop}  : Wp 120 264 (ls) (st) (M) Q = Wp 120 171 (ls) (st) (M) Q := wp_goto rfl
set_option maxRecDepth 20000 in
theorem w120_267 {ls st : List xV} {M : xM} {Q : Option xV → xM → Prop} {a : Int} {v0 : xV} {v1 : xV} {v2 : xV} {v3 : xV} {v4 : xV} {v5 : xV} : Wp 120 267 (v0 :: v1 :: v2 :: v3 :: v4 :: v5 :: xi a :: ls) (st) (M) Q = Wp 120 270 (v0 :: v1 :: v2 :: v3 :: v4 :: xjl v5 :: xi (a + (-1)) :: ls) (st) (M) Q := wp_iinc rfl rfl rfl
set_option maxRecDepth 20000 in
theorem w120_270 {ls st : List xV} {M : xM} {Q : Option xV → xM → Prop}  : Wp 120 270 (ls) (st) (M) Q = Wp 120 147 (ls) (st) (M) Q := wp_goto rfl
set_option maxRecDepth 20000 in
theorem w120_273 {ls st : List xV} {M : xM} {Q : Option xV → xM → Prop} {a : Int} {v0 : xV} {v1 : xV} {v2 : xV} {v3 : xV} {v4 : xV} : Wp 120 273 (v0 :: v1 :: v2 :: v3 :: v4 :: xi a :: ls) (st) (M) Q = Wp 120 275 (v0 :: v1 :: v2 :: v3 :: v4 :: xi a :: ls) (xi a :: st) (M) Q := wp_iload rfl rfl
set_option maxRecDepth 20000 in
theorem w120_275 {ls st : List xV} {M : xM} {Q : Option xV → xM → Prop}  : Wp 120 275 (ls) (st) (M) Q = Wp 120 277 (ls) (xi (-4) :: st) (M) Q := wp_const rfl
set_option maxRecDepth 20000 in
theorem w120_277 {ls st : List xV} {M : xM} {Q : Option xV → xM → Prop} {a : Int} {b : Int} (ha : xG a) (hb : xG b) : Wp 120 277 (ls) (xi b :: xi a :: st) (M) Q = ((a = b → Wp 120 284 (ls) (st) (M) Q) ∧ (¬ (a = b) → Wp 120 280 (ls) (st) (M) Q)) := wp_cmp_eq rfl ha hb
set_option maxRecDepth 20000 in
theorem w120_280 {ls st : List xV} {M : xM} {Q : Option xV → xM → Prop}  : Wp 120 280 (ls) (st) (M) Q = Wp 120 281 (ls) (xi 2 :: st) (M) Q := wp_const rfl
set_option maxRecDepth 20000 in
theorem w120_281 {ls st : List xV} {M : xM} {Q : Option xV → xM → Prop}  : Wp 120 281 (ls) (st) (M) Q = Wp 120 285 (ls) (st) (M) Q := wp_goto rfl
set_option maxRecDepth 20000 in
theorem w120_284 {ls st : List xV} {M : xM} {Q : Option xV → xM → Prop} {a : Int} {v0 : xV} {v1 : xV} {v2 : xV} : Wp 120 284 (v0 :: v1 :: v2 :: xi a :: ls) (st) (M) Q = Wp 120 285 (v0 :: v1 :: v2 :: xi a :: ls) (xi a :: st) (M) Q := wp_iload rfl rfl
set_option maxRecDepth 20000 in
theorem w120_285 {ls st : List xV} {M : xM} {Q : Option xV → xM → Prop} {a : Int} {v0 : xV} {v1 : xV} {v2 : xV} {w : xV} : Wp 120 285 (v0 :: v1 :: v2 :: w :: ls) (xi a :: st) (M) Q = Wp 120 286 (v0 :: v1 :: xjl v2 :: xi a :: ls) (st) (M) Q := wp_istore rfl rfl
set_option maxRecDepth 20000 in
theorem w120_286 {ls st : List xV} {M : xM} {Q : Option xV → xM → Prop} {d : Nat} : Wp 120 286 (xr d :: ls) (st) (M) Q = Wp 120 287 (xr d :: ls) (xr d :: st) (M) Q := wp_aload rfl rfl
set_option maxRecDepth 20000 in
theorem w120_287 {ls st : List xV} {M : xM} {Q : Option xV → xM → Prop} {d : Nat} (hc : x_c d = 9) : Wp 120 287 (ls) (xr d :: st) (M) Q = Wp 120 290 (ls) (xr (x_r d 5) :: st) (M) Q := wp_getr rfl hc
set_option maxRecDepth 20000 in
theorem w120_290 {ls st : List xV} {M : xM} {Q : Option xV → xM → Prop}  : Wp 120 290 (ls) (st) (M) Q = Wp 120 292 (ls) (xi 6 :: st) (M) Q := wp_const rfl
set_option maxRecDepth 20000 in
theorem w120_292 {ls st : List xV} {M : xM} {Q : Option xV → xM → Prop} {a : Int} {v0 : xV} {v1 : xV} : Wp 120 292 (v0 :: v1 :: xi a :: ls) (st) (M) Q = Wp 120 293 (v0 :: v1 :: xi a :: ls) (xi a :: st) (M) Q := wp_iload rfl rfl
set_option maxRecDepth 20000 in
theorem w120_293 {ls st : List xV} {M : xM} {Q : Option xV → xM → Prop} {a : Int} {d : Nat} {x : Int} (hc : x_c d = 20) (hn : x_n d = 7) (h1 : 0 ≤ a) (h2 : a < 7) : Wp 120 293 (ls) (xi x :: xi a :: xr d :: st) (M) Q = Wp 120 294 (ls) (st) (xup M d a x) Q := wp_iast rfl hc h1 (by rw [hn]; exact h2)
set_option maxRecDepth 20000 in
theorem w120_294 {ls st : List xV} {M : xM} {Q : Option xV → xM → Prop} {a : Int} {v0 : xV} : Wp 120 294 (v0 :: xi a :: ls) (st) (M) Q = Wp 120 295 (v0 :: xi a :: ls) (xi a :: st) (M) Q := wp_iload rfl rfl
set_option maxRecDepth 20000 in
theorem w120_295 {ls st : List xV} {M : xM} {Q : Option xV → xM → Prop} {a : Int} (ha : xG a) : Wp 120 295 (ls) (xi a :: st) (M) Q = ((¬ a = 0 → Wp 120 302 (ls) (st) (M) Q) ∧ (¬ (¬ a = 0) → Wp 120 298 (ls) (st) (M) Q)) := wp_if_ne rfl ha
set_option maxRecDepth 20000 in
theorem w120_298 {ls st : List xV} {M : xM} {Q : Option xV → xM → Prop} {a : Int} {v0 : xV} {v1 : xV} {v2 : xV} : Wp 120 298 (v0 :: v1 :: v2 :: xi a :: ls) (st) (M) Q = Wp 120 299 (v0 :: v1 :: v2 :: xi a :: ls) (xi a :: st) (M) Q := wp_iload rfl rfl
set_option maxRecDepth 20000 in
theorem w120_299 {ls st : List xV} {M : xM} {Q : Option xV → xM → Prop}  : Wp 120 299 (ls) (st) (M) Q = Wp 120 314 (ls) (st) (M) Q := wp_goto rfl
set_option maxRecDepth 20000 in
theorem w120_302 {ls st : List xV} {M : xM} {Q : Option xV → xM → Prop} {a : Int} {v0 : xV} : Wp 120 302 (v0 :: xi a :: ls) (st) (M) Q = Wp 120 303 (v0 :: xi a :: ls) (xi a :: st) (M) Q := wp_iload rfl rfl
set_option maxRecDepth 20000 in
theorem w120_303 {ls st : List xV} {M : xM} {Q : Option xV → xM → Prop}  : Wp 120 303 (ls) (st) (M) Q = Wp 120 304 (ls) (xi 1 :: st) (M) Q := wp_const rfl
set_option maxRecDepth 20000 in
theorem w120_304 {ls st : List xV} {M : xM} {Q : Option xV → xM → Prop} {a : Int} {b : Int} (ha : xG a) (hb : xG b) : Wp 120 304 (ls) (xi b :: xi a :: st) (M) Q = ((¬ a = b → Wp 120 312 (ls) (st) (M) Q) ∧ (¬ (¬ a = b) → Wp 120 307 (ls) (st) (M) Q)) := wp_cmp_ne rfl ha hb
set_option maxRecDepth 20000 in
theorem w120_307 {ls st : List xV} {M : xM} {Q : Option xV → xM → Prop} {a : Int} {v0 : xV} {v1 : xV} {v2 : xV} {v3 : xV} : Wp 120 307 (v0 :: v1 :: v2 :: v3 :: xi a :: ls) (st) (M) Q = Wp 120 309 (v0 :: v1 :: v2 :: v3 :: xi a :: ls) (xi a :: st) (M) Q := wp_iload rfl rfl
set_option maxRecDepth 20000 in
theorem w120_309 {ls st : List xV} {M : xM} {Q : Option xV → xM → Prop}  : Wp 120 309 (ls) (st) (M) Q = Wp 120 314 (ls) (st) (M) Q := wp_goto rfl
set_option maxRecDepth 20000 in
theorem w120_312 {ls st : List xV} {M : xM} {Q : Option xV → xM → Prop} {a : Int} {v0 : xV} {v1 : xV} {v2 : xV} {v3 : xV} {v4 : xV} : Wp 120 312 (v0 :: v1 :: v2 :: v3 :: v4 :: xi a :: ls) (st) (M) Q = Wp 120 314 (v0 :: v1 :: v2 :: v3 :: v4 :: xi a :: ls) (xi a :: st) (M) Q := wp_iload rfl rfl
set_option maxRecDepth 20000 in
theorem w120_314 {ls : List xV} {M : xM} {Q : Option xV → xM → Prop} {a : Int} : Wp 120 314 (ls) ([xi a]) (M) Q = Q (some (xi a)) M := wp_iret rfl
theorem wc121 {M : xM} {Q : Option xV → xM → Prop} {d0 : Nat} {a1 : Int} {a2 : Int} {a3 : Int} : Wc 121 [xr d0, xi a1, xi a2, xi a3] M Q = Wp 121 0 [xr d0, xi a1, xi a2, xi a3] [] M Q := rfl
theorem w121_0 {ls st : List xV} {M : xM} {Q : Option xV → xM → Prop} {d : Nat} : Wp 121 0 (xr d :: ls) (st) (M) Q = Wp 121 1 (xr d :: ls) (xr d :: st) (M) Q := wp_aload rfl rfl
theorem w121_1 {ls st : List xV} {M : xM} {Q : Option xV → xM → Prop} {a : Int} {v0 : xV} : Wp 121 1 (v0 :: xi a :: ls) (st) (M) Q = Wp 121 2 (v0 :: xi a :: ls) (xi a :: st) (M) Q := wp_iload rfl rfl
theorem w121_2 {ls : List xV} {M : xM} {Q : Option xV → xM → Prop} {a1 : Int} {d0 : Nat} (hc : x_c d0 = 9) : Wp 121 2 (ls) (xi a1 :: xr d0 :: []) (M) Q = Wc 80 [xr d0, xi a1] M (fun r M2 => Wp 121 5 (ls) (r.toList ++ ([])) M2 Q) := wp_cV rfl rfl hc (Nat.le_of_ble_eq_true rfl) (Nat.le_of_ble_eq_true rfl) rfl rfl
theorem w121_5 {ls st : List xV} {M : xM} {Q : Option xV → xM → Prop} {a : Int} (ha : xG a) : Wp 121 5 (ls) (xi a :: st) (M) Q = ((a = 0 → Wp 121 18 (ls) (st) (M) Q) ∧ (¬ (a = 0) → Wp 121 8 (ls) (st) (M) Q)) := wp_if_eq rfl ha
theorem w121_8 {ls st : List xV} {M : xM} {Q : Option xV → xM → Prop} {a : Int} {v0 : xV} {v1 : xV} : Wp 121 8 (v0 :: v1 :: xi a :: ls) (st) (M) Q = Wp 121 9 (v0 :: v1 :: xi a :: ls) (xi a :: st) (M) Q := wp_iload rfl rfl
theorem w121_9 {ls st : List xV} {M : xM} {Q : Option xV → xM → Prop}  : Wp 121 9 (ls) (st) (M) Q = Wp 121 10 (ls) (xi 1 :: st) (M) Q := wp_const rfl
theorem w121_10 {ls st : List xV} {M : xM} {Q : Option xV → xM → Prop}  : Wp 121 10 (ls) (st) (M) Q = Wp 121 12 (ls) (xi 60 :: st) (M) Q := wp_const rfl
theorem w121_12 {ls : List xV} {M : xM} {Q : Option xV → xM → Prop} {a0 : Int} {a1 : Int} {a2 : Int} : Wp 121 12 (ls) (xi a2 :: xi a1 :: xi a0 :: []) (M) Q = Wc 79 [xi a0, xi a1, xi a2] M (fun r M2 => Wp 121 15 (ls) (r.toList ++ ([])) M2 Q) := wp_cS rfl rfl (Nat.le_of_ble_eq_true rfl) (Nat.le_of_ble_eq_true rfl) rfl rfl
theorem w121_15 {ls st : List xV} {M : xM} {Q : Option xV → xM → Prop} {a : Int} (ha : xG a) : Wp 121 15 (ls) (xi a :: st) (M) Q = ((¬ a = 0 → Wp 121 20 (ls) (st) (M) Q) ∧ (¬ (¬ a = 0) → Wp 121 18 (ls) (st) (M) Q)) := wp_if_ne rfl ha
theorem w121_18 {ls st : List xV} {M : xM} {Q : Option xV → xM → Prop}  : Wp 121 18 (ls) (st) (M) Q = Wp 121 19 (ls) (xi (-1) :: st) (M) Q := wp_const rfl
theorem w121_19 {ls : List xV} {M : xM} {Q : Option xV → xM → Prop} {a : Int} : Wp 121 19 (ls) ([xi a]) (M) Q = Q (some (xi a)) M := wp_iret rfl
theorem w121_20 {ls st : List xV} {M : xM} {Q : Option xV → xM → Prop} {d : Nat} : Wp 121 20 (xr d :: ls) (st) (M) Q = Wp 121 21 (xr d :: ls) (xr d :: st) (M) Q := wp_aload rfl rfl
theorem w121_21 {ls st : List xV} {M : xM} {Q : Option xV → xM → Prop} {d : Nat} (hc : x_c d = 9) : Wp 121 21 (ls) (xr d :: st) (M) Q = Wp 121 24 (ls) (xi (M d 11) :: st) (M) Q := wp_getf rfl hc
theorem w121_24 {ls st : List xV} {M : xM} {Q : Option xV → xM → Prop}  : Wp 121 24 (ls) (st) (M) Q = Wp 121 26 (ls) (xi 6 :: st) (M) Q := wp_const rfl
theorem w121_26 {ls st : List xV} {M : xM} {Q : Option xV → xM → Prop} {a : Int} {b : Int} (ha : xG a) (hb : xG b) : Wp 121 26 (ls) (xi b :: xi a :: st) (M) Q = ((¬ a = b → Wp 121 32 (ls) (st) (M) Q) ∧ (¬ (¬ a = b) → Wp 121 29 (ls) (st) (M) Q)) := wp_cmp_ne rfl ha hb
theorem w121_29 {ls st : List xV} {M : xM} {Q : Option xV → xM → Prop}  : Wp 121 29 (ls) (st) (M) Q = Wp 121 31 (ls) (xi (-3) :: st) (M) Q := wp_const rfl
theorem w121_31 {ls : List xV} {M : xM} {Q : Option xV → xM → Prop} {a : Int} : Wp 121 31 (ls) ([xi a]) (M) Q = Q (some (xi a)) M := wp_iret rfl
theorem w121_32 {ls st : List xV} {M : xM} {Q : Option xV → xM → Prop} {d : Nat} : Wp 121 32 (xr d :: ls) (st) (M) Q = Wp 121 33 (xr d :: ls) (xr d :: st) (M) Q := wp_aload rfl rfl
theorem w121_33 {ls st : List xV} {M : xM} {Q : Option xV → xM → Prop} {d : Nat} (hc : x_c d = 9) : Wp 121 33 (ls) (xr d :: st) (M) Q = Wp 121 36 (ls) (xr (x_r d 10) :: st) (M) Q := wp_getr rfl hc
theorem w121_36 {ls st : List xV} {M : xM} {Q : Option xV → xM → Prop} {d : Nat} : Wp 121 36 (xr d :: ls) (st) (M) Q = Wp 121 37 (xr d :: ls) (xr d :: st) (M) Q := wp_aload rfl rfl
theorem w121_37 {ls st : List xV} {M : xM} {Q : Option xV → xM → Prop} {d : Nat} (hc : x_c d = 9) : Wp 121 37 (ls) (xr d :: st) (M) Q = Wp 121 40 (ls) (xi (M d 11) :: st) (M) Q := wp_getf rfl hc
theorem w121_40 {ls st : List xV} {M : xM} {Q : Option xV → xM → Prop}  : Wp 121 40 (ls) (st) (M) Q = Wp 121 43 (ls) (xi 1000 :: st) (M) Q := wp_const rfl
theorem w121_43 {ls st : List xV} {M : xM} {Q : Option xV → xM → Prop} {a : Int} {v0 : xV} : Wp 121 43 (v0 :: xi a :: ls) (st) (M) Q = Wp 121 44 (v0 :: xi a :: ls) (xi a :: st) (M) Q := wp_iload rfl rfl
theorem w121_44 {ls st : List xV} {M : xM} {Q : Option xV → xM → Prop} {a : Int} {b : Int} : Wp 121 44 (ls) (xi b :: xi a :: st) (M) Q = Wp 121 45 (ls) (xi (a * b) :: st) (M) Q := wp_bin (f := xmul) rfl
theorem w121_45 {ls st : List xV} {M : xM} {Q : Option xV → xM → Prop}  : Wp 121 45 (ls) (st) (M) Q = Wp 121 47 (ls) (xi 10 :: st) (M) Q := wp_const rfl
theorem w121_47 {ls st : List xV} {M : xM} {Q : Option xV → xM → Prop} {a : Int} {v0 : xV} {v1 : xV} : Wp 121 47 (v0 :: v1 :: xi a :: ls) (st) (M) Q = Wp 121 48 (v0 :: v1 :: xi a :: ls) (xi a :: st) (M) Q := wp_iload rfl rfl
theorem w121_48 {ls st : List xV} {M : xM} {Q : Option xV → xM → Prop} {a : Int} {b : Int} : Wp 121 48 (ls) (xi b :: xi a :: st) (M) Q = Wp 121 49 (ls) (xi (a * b) :: st) (M) Q := wp_bin (f := xmul) rfl
theorem w121_49 {ls st : List xV} {M : xM} {Q : Option xV → xM → Prop} {a : Int} {b : Int} : Wp 121 49 (ls) (xi b :: xi a :: st) (M) Q = Wp 121 50 (ls) (xi (a + b) :: st) (M) Q := wp_bin (f := xadd) rfl
theorem w121_50 {ls st : List xV} {M : xM} {Q : Option xV → xM → Prop} {a : Int} {v0 : xV} {v1 : xV} {v2 : xV} : Wp 121 50 (v0 :: v1 :: v2 :: xi a :: ls) (st) (M) Q = Wp 121 51 (v0 :: v1 :: v2 :: xi a :: ls) (xi a :: st) (M) Q := wp_iload rfl rfl
theorem w121_51 {ls st : List xV} {M : xM} {Q : Option xV → xM → Prop} {a : Int} (ha : xG a) : Wp 121 51 (ls) (xi a :: st) (M) Q = ((a = 0 → Wp 121 58 (ls) (st) (M) Q) ∧ (¬ (a = 0) → Wp 121 54 (ls) (st) (M) Q)) := wp_if_eq rfl ha
theorem w121_54 {ls st : List xV} {M : xM} {Q : Option xV → xM → Prop}  : Wp 121 54 (ls) (st) (M) Q = Wp 121 55 (ls) (xi 1 :: st) (M) Q := wp_const rfl
theorem w121_55 {ls st : List xV} {M : xM} {Q : Option xV → xM → Prop}  : Wp 121 55 (ls) (st) (M) Q = Wp 121 59 (ls) (st) (M) Q := wp_goto rfl
theorem w121_58 {ls st : List xV} {M : xM} {Q : Option xV → xM → Prop}  : Wp 121 58 (ls) (st) (M) Q = Wp 121 59 (ls) (xi 0 :: st) (M) Q := wp_const rfl
theorem w121_59 {ls st : List xV} {M : xM} {Q : Option xV → xM → Prop} {a : Int} {b : Int} : Wp 121 59 (ls) (xi b :: xi a :: st) (M) Q = Wp 121 60 (ls) (xi (a + b) :: st) (M) Q := wp_bin (f := xadd) rfl
theorem w121_60 {ls st : List xV} {M : xM} {Q : Option xV → xM → Prop} {a : Int} {d : Nat} {x : Int} (hc : x_c d = 20) (hn : x_n d = 6) (h1 : 0 ≤ a) (h2 : a < 6) : Wp 121 60 (ls) (xi x :: xi a :: xr d :: st) (M) Q = Wp 121 61 (ls) (st) (xup M d a x) Q := wp_iast rfl hc h1 (by rw [hn]; exact h2)
theorem w121_61 {ls st : List xV} {M : xM} {Q : Option xV → xM → Prop} {d : Nat} : Wp 121 61 (xr d :: ls) (st) (M) Q = Wp 121 62 (xr d :: ls) (xr d :: st) (M) Q := wp_aload rfl rfl
theorem w121_62 {ls st : List xV} {M : xM} {Q : Option xV → xM → Prop} {d : Nat} : Wp 121 62 (ls) (xr d :: st) (M) Q = Wp 121 63 (ls) (xr d :: xr d :: st) (M) Q := wp_dupA rfl
theorem w121_63 {ls st : List xV} {M : xM} {Q : Option xV → xM → Prop} {d : Nat} (hc : x_c d = 9) : Wp 121 63 (ls) (xr d :: st) (M) Q = Wp 121 66 (ls) (xi (M d 11) :: st) (M) Q := wp_getf rfl hc
theorem w121_66 {ls st : List xV} {M : xM} {Q : Option xV → xM → Prop}  : Wp 121 66 (ls) (st) (M) Q = Wp 121 67 (ls) (xi 1 :: st) (M) Q := wp_const rfl
theorem w121_67 {ls st : List xV} {M : xM} {Q : Option xV → xM → Prop} {a : Int} {b : Int} : Wp 121 67 (ls) (xi b :: xi a :: st) (M) Q = Wp 121 68 (ls) (xi (a + b) :: st) (M) Q := wp_bin (f := xadd) rfl
theorem w121_68 {ls st : List xV} {M : xM} {Q : Option xV → xM → Prop} {a : Int} {d : Nat} (hc : x_c d = 9) : Wp 121 68 (ls) (xi a :: xr d :: st) (M) Q = Wp 121 71 (ls) (st) (xup M d 11 a) Q := wp_putf rfl hc
theorem w121_71 {ls st : List xV} {M : xM} {Q : Option xV → xM → Prop} {d : Nat} : Wp 121 71 (xr d :: ls) (st) (M) Q = Wp 121 72 (xr d :: ls) (xr d :: st) (M) Q := wp_aload rfl rfl
theorem w121_72 {ls st : List xV} {M : xM} {Q : Option xV → xM → Prop} {d : Nat} (hc : x_c d = 9) : Wp 121 72 (ls) (xr d :: st) (M) Q = Wp 121 75 (ls) (xi (M d 11) :: st) (M) Q := wp_getf rfl hc
theorem w121_75 {ls : List xV} {M : xM} {Q : Option xV → xM → Prop} {a : Int} : Wp 121 75 (ls) ([xi a]) (M) Q = Q (some (xi a)) M := wp_iret rfl
theorem wc122 {M : xM} {Q : Option xV → xM → Prop} {d0 : Nat} : Wc 122 [xr d0] M Q = Wp 122 0 [xr d0, xj] [] M Q := rfl
theorem w122_0 {ls st : List xV} {M : xM} {Q : Option xV → xM → Prop} {d : Nat} : Wp 122 0 (xr d :: ls) (st) (M) Q = Wp 122 1 (xr d :: ls) (xr d :: st) (M) Q := wp_aload rfl rfl
theorem w122_1 {ls st : List xV} {M : xM} {Q : Option xV → xM → Prop} {d : Nat} (hc : x_c d = 9) : Wp 122 1 (ls) (xr d :: st) (M) Q = Wp 122 4 (ls) (xi (M d 11) :: st) (M) Q := wp_getf rfl hc
theorem w122_4 {ls st : List xV} {M : xM} {Q : Option xV → xM → Prop} {a : Int} {v0 : xV} {w : xV} : Wp 122 4 (v0 :: w :: ls) (xi a :: st) (M) Q = Wp 122 5 (xjl v0 :: xi a :: ls) (st) (M) Q := wp_istore rfl rfl
theorem w122_5 {ls st : List xV} {M : xM} {Q : Option xV → xM → Prop} {d : Nat} : Wp 122 5 (xr d :: ls) (st) (M) Q = Wp 122 6 (xr d :: ls) (xr d :: st) (M) Q := wp_aload rfl rfl
theorem w122_6 {ls st : List xV} {M : xM} {Q : Option xV → xM → Prop}  : Wp 122 6 (ls) (st) (M) Q = Wp 122 7 (ls) (xi 0 :: st) (M) Q := wp_const rfl
theorem w122_7 {ls st : List xV} {M : xM} {Q : Option xV → xM → Prop} {a : Int} {d : Nat} (hc : x_c d = 9) : Wp 122 7 (ls) (xi a :: xr d :: st) (M) Q = Wp 122 10 (ls) (st) (xup M d 11 a) Q := wp_putf rfl hc
theorem w122_10 {ls st : List xV} {M : xM} {Q : Option xV → xM → Prop} {a : Int} {v0 : xV} : Wp 122 10 (v0 :: xi a :: ls) (st) (M) Q = Wp 122 11 (v0 :: xi a :: ls) (xi a :: st) (M) Q := wp_iload rfl rfl
theorem w122_11 {ls : List xV} {M : xM} {Q : Option xV → xM → Prop} {a : Int} : Wp 122 11 (ls) ([xi a]) (M) Q = Q (some (xi a)) M := wp_iret rfl
theorem wc123 {M : xM} {Q : Option xV → xM → Prop} {d0 : Nat} {a1 : Int} : Wc 123 [xr d0, xi a1] M Q = Wp 123 0 [xr d0, xi a1, xj, xj, xj, xj, xj, xj, xj] [] M Q := rfl
theorem w123_0 {ls st : List xV} {M : xM} {Q : Option xV → xM → Prop} {d : Nat} : Wp 123 0 (xr d :: ls) (st) (M) Q = Wp 123 1 (xr d :: ls) (xr d :: st) (M) Q := wp_aload rfl rfl
theorem w123_1 {ls st : List xV} {M : xM} {Q : Option xV → xM → Prop} {a : Int} {v0 : xV} : Wp 123 1 (v0 :: xi a :: ls) (st) (M) Q = Wp 123 2 (v0 :: xi a :: ls) (xi a :: st) (M) Q := wp_iload rfl rfl
theorem w123_2 {ls : List xV} {M : xM} {Q : Option xV → xM → Prop} {a1 : Int} {d0 : Nat} (hc : x_c d0 = 9) : Wp 123 2 (ls) (xi a1 :: xr d0 :: []) (M) Q = Wc 81 [xr d0, xi a1] M (fun r M2 => Wp 123 5 (ls) (r.toList ++ ([])) M2 Q) := wp_cV rfl rfl hc (Nat.le_of_ble_eq_true rfl) (Nat.le_of_ble_eq_true rfl) rfl rfl
theorem w123_5 {ls st : List xV} {M : xM} {Q : Option xV → xM → Prop} {a : Int} (ha : xG a) : Wp 123 5 (ls) (xi a :: st) (M) Q = ((¬ a = 0 → Wp 123 10 (ls) (st) (M) Q) ∧ (¬ (¬ a = 0) → Wp 123 8 (ls) (st) (M) Q)) := wp_if_ne rfl ha
theorem w123_8 {ls st : List xV} {M : xM} {Q : Option xV → xM → Prop}  : Wp 123 8 (ls) (st) (M) Q = Wp 123 9 (ls) (xi (-1) :: st) (M) Q := wp_const rfl
theorem w123_9 {ls : List xV} {M : xM} {Q : Option xV → xM → Prop} {a : Int} : Wp 123 9 (ls) ([xi a]) (M) Q = Q (some (xi a)) M := wp_iret rfl
theorem w123_10 {ls st : List xV} {M : xM} {Q : Option xV → xM → Prop} {d : Nat} : Wp 123 10 (xr d :: ls) (st) (M) Q = Wp 123 11 (xr d :: ls) (xr d :: st) (M) Q := wp_aload rfl rfl
theorem w123_11 {ls st : List xV} {M : xM} {Q : Option xV → xM → Prop} {d : Nat} (hc : x_c d = 9) : Wp 123 11 (ls) (xr d :: st) (M) Q = Wp 123 14 (ls) (xr (x_r d 5) :: st) (M) Q := wp_getr rfl hc
theorem w123_14 {ls st : List xV} {M : xM} {Q : Option xV → xM → Prop} {a : Int} {v0 : xV} : Wp 123 14 (v0 :: xi a :: ls) (st) (M) Q = Wp 123 15 (v0 :: xi a :: ls) (xi a :: st) (M) Q := wp_iload rfl rfl
theorem w123_15 {ls st : List xV} {M : xM} {Q : Option xV → xM → Prop} {a : Int} {d : Nat} (hc : x_c d = 20) (hn : x_n d = 7) (h1 : 0 ≤ a) (h2 : a < 7) : Wp 123 15 (ls) (xi a :: xr d :: st) (M) Q = Wp 123 16 (ls) (xi (M d a) :: st) (M) Q := wp_ald rfl hc h1 (by rw [hn]; exact h2)
theorem w123_16 {ls st : List xV} {M : xM} {Q : Option xV → xM → Prop} {a : Int} {v0 : xV} {v1 : xV} {w : xV} : Wp 123 16 (v0 :: v1 :: w :: ls) (xi a :: st) (M) Q = Wp 123 17 (v0 :: xjl v1 :: xi a :: ls) (st) (M) Q := wp_istore rfl rfl
theorem w123_17 {ls st : List xV} {M : xM} {Q : Option xV → xM → Prop}  : Wp 123 17 (ls) (st) (M) Q = Wp 123 18 (ls) (xi 0 :: st) (M) Q := wp_const rfl
theorem w123_18 {ls st : List xV} {M : xM} {Q : Option xV → xM → Prop} {a : Int} {v0 : xV} {v1 : xV} {v2 : xV} {w : xV} : Wp 123 18 (v0 :: v1 :: v2 :: w :: ls) (xi a :: st) (M) Q = Wp 123 19 (v0 :: v1 :: xjl v2 :: xi a :: ls) (st) (M) Q := wp_istore rfl rfl
theorem w123_19 {ls st : List xV} {M : xM} {Q : Option xV → xM → Prop}  : Wp 123 19 (ls) (st) (M) Q = Wp 123 20 (ls) (xi 0 :: st) (M) Q := wp_const rfl
theorem w123_20 {ls st : List xV} {M : xM} {Q : Option xV → xM → Prop} {a : Int} {v0 : xV} {v1 : xV} {v2 : xV} {v3 : xV} {w : xV} : Wp 123 20 (v0 :: v1 :: v2 :: v3 :: w :: ls) (xi a :: st) (M) Q = Wp 123 22 (v0 :: v1 :: v2 :: xjl v3 :: xi a :: ls) (st) (M) Q := wp_istore rfl rfl
theorem w123_22 {ls st : List xV} {M : xM} {Q : Option xV → xM → Prop} {a : Int} {v0 : xV} {v1 : xV} {v2 : xV} {v3 : xV} : Wp 123 22 (v0 :: v1 :: v2 :: v3 :: xi a :: ls) (st) (M) Q = Wp 123 24 (v0 :: v1 :: v2 :: v3 :: xi a :: ls) (xi a :: st) (M) Q := wp_iload rfl rfl
theorem w123_24 {ls st : List xV} {M : xM} {Q : Option xV → xM → Prop}  : Wp 123 24 (ls) (st) (M) Q = Wp 123 26 (ls) (xi 31 :: st) (M) Q := wp_const rfl
theorem w123_26 {ls st : List xV} {M : xM} {Q : Option xV → xM → Prop} {a : Int} {b : Int} (ha : xG a) (hb : xG b) : Wp 123 26 (ls) (xi b :: xi a :: st) (M) Q = ((b ≤ a → Wp 123 188 (ls) (st) (M) Q) ∧ (¬ (b ≤ a) → Wp 123 29 (ls) (st) (M) Q)) := wp_cmp_ge rfl ha hb
theorem w123_29 {ls st : List xV} {M : xM} {Q : Option xV → xM → Prop} {d : Nat} : Wp 123 29 (xr d :: ls) (st) (M) Q = Wp 123 30 (xr d :: ls) (xr d :: st) (M) Q := wp_aload rfl rfl
theorem w123_30 {ls st : List xV} {M : xM} {Q : Option xV → xM → Prop} {d : Nat} (hc : x_c d = 9) : Wp 123 30 (ls) (xr d :: st) (M) Q = Wp 123 33 (ls) (xr (x_r d 5) :: st) (M) Q := wp_getr rfl hc
theorem w123_33 {ls st : List xV} {M : xM} {Q : Option xV → xM → Prop} {a : Int} {v0 : xV} : Wp 123 33 (v0 :: xi a :: ls) (st) (M) Q = Wp 123 34 (v0 :: xi a :: ls) (xi a :: st) (M) Q := wp_iload rfl rfl
theorem w123_34 {ls st : List xV} {M : xM} {Q : Option xV → xM → Prop} {a : Int} {v0 : xV} {v1 : xV} {v2 : xV} {v3 : xV} : Wp 123 34 (v0 :: v1 :: v2 :: v3 :: xi a :: ls) (st) (M) Q = Wp 123 36 (v0 :: v1 :: v2 :: v3 :: xi a :: ls) (xi a :: st) (M) Q := wp_iload rfl rfl
theorem w123_36 {ls st : List xV} {M : xM} {Q : Option xV → xM → Prop} {a : Int} {d : Nat} {x : Int} (hc : x_c d = 20) (hn : x_n d = 7) (h1 : 0 ≤ a) (h2 : a < 7) : Wp 123 36 (ls) (xi x :: xi a :: xr d :: st) (M) Q = Wp 123 37 (ls) (st) (xup M d a x) Q := wp_iast rfl hc h1 (by rw [hn]; exact h2)
theorem w123_37 {ls st : List xV} {M : xM} {Q : Option xV → xM → Prop} {d : Nat} : Wp 123 37 (xr d :: ls) (st) (M) Q = Wp 123 38 (xr d :: ls) (xr d :: st) (M) Q := wp_aload rfl rfl
theorem w123_38 {ls : List xV} {M : xM} {Q : Option xV → xM → Prop} {d0 : Nat} (hc : x_c d0 = 9) : Wp 123 38 (ls) (xr d0 :: []) (M) Q = Wc 112 [xr d0] M (fun r M2 => Wp 123 41 (ls) (r.toList ++ ([])) M2 Q) := wp_cV rfl rfl hc (Nat.le_of_ble_eq_true rfl) (Nat.le_of_ble_eq_true rfl) rfl rfl
theorem w123_41 {ls st : List xV} {M : xM} {Q : Option xV → xM → Prop}  : Wp 123 41 (ls) (st) (M) Q = Wp 123 42 (ls) (xi 1 :: st) (M) Q := wp_const rfl
theorem w123_42 {ls st : List xV} {M : xM} {Q : Option xV → xM → Prop} {a : Int} {v0 : xV} {v1 : xV} {v2 : xV} {v3 : xV} {v4 : xV} {w : xV} : Wp 123 42 (v0 :: v1 :: v2 :: v3 :: v4 :: w :: ls) (xi a :: st) (M) Q = Wp 123 44 (v0 :: v1 :: v2 :: v3 :: xjl v4 :: xi a :: ls) (st) (M) Q := wp_istore rfl rfl
theorem w123_44 {ls st : List xV} {M : xM} {Q : Option xV → xM → Prop}  : Wp 123 44 (ls) (st) (M) Q = Wp 123 45 (ls) (xi 0 :: st) (M) Q := wp_const rfl
theorem w123_45 {ls st : List xV} {M : xM} {Q : Option xV → xM → Prop} {a : Int} {v0 : xV} {v1 : xV} {v2 : xV} {v3 : xV} {v4 : xV} {v5 : xV} {w : xV} : Wp 123 45 (v0 :: v1 :: v2 :: v3 :: v4 :: v5 :: w :: ls) (xi a :: st) (M) Q = Wp 123 47 (v0 :: v1 :: v2 :: v3 :: v4 :: xjl v5 :: xi a :: ls) (st) (M) Q := wp_istore rfl rfl
theorem w123_47 {ls st : List xV} {M : xM} {Q : Option xV → xM → Prop} {a : Int} {v0 : xV} {v1 : xV} {v2 : xV} {v3 : xV} {v4 : xV} {v5 : xV} : Wp 123 47 (v0 :: v1 :: v2 :: v3 :: v4 :: v5 :: xi a :: ls) (st) (M) Q = Wp 123 49 (v0 :: v1 :: v2 :: v3 :: v4 :: v5 :: xi a :: ls) (xi a :: st) (M) Q := wp_iload rfl rfl
theorem w123_49 {ls st : List xV} {M : xM} {Q : Option xV → xM → Prop} {d : Nat} : Wp 123 49 (xr d :: ls) (st) (M) Q = Wp 123 50 (xr d :: ls) (xr d :: st) (M) Q := wp_aload rfl rfl
theorem w123_50 {ls st : List xV} {M : xM} {Q : Option xV → xM → Prop} {d : Nat} (hc : x_c d = 9) : Wp 123 50 (ls) (xr d :: st) (M) Q = Wp 123 53 (ls) (xi (M d 11) :: st) (M) Q := wp_getf rfl hc
theorem w123_53 {ls st : List xV} {M : xM} {Q : Option xV → xM → Prop} {a : Int} {b : Int} (ha : xG a) (hb : xG b) : Wp 123 53 (ls) (xi b :: xi a :: st) (M) Q = ((b ≤ a → Wp 123 166 (ls) (st) (M) Q) ∧ (¬ (b ≤ a) → Wp 123 56 (ls) (st) (M) Q)) := wp_cmp_ge rfl ha hb
theorem w123_56 {ls st : List xV} {M : xM} {Q : Option xV → xM → Prop}  : Wp 123 56 (ls) (st) (M) Q = Wp 123 57 (ls) (xi 0 :: st) (M) Q := wp_const rfl
theorem w123_57 {ls st : List xV} {M : xM} {Q : Option xV → xM → Prop} {a : Int} {v0 : xV} {v1 : xV} {v2 : xV} {v3 : xV} {v4 : xV} {v5 : xV} {v6 : xV} {w : xV} : Wp 123 57 (v0 :: v1 :: v2 :: v3 :: v4 :: v5 :: v6 :: w :: ls) (xi a :: st) (M) Q = Wp 123 59 (v0 :: v1 :: v2 :: v3 :: v4 :: v5 :: xjl v6 :: xi a :: ls) (st) (M) Q := wp_istore rfl rfl
theorem w123_59 {ls st : List xV} {M : xM} {Q : Option xV → xM → Prop}  : Wp 123 59 (ls) (st) (M) Q = Wp 123 60 (ls) (xi 0 :: st) (M) Q := wp_const rfl
theorem w123_60 {ls st : List xV} {M : xM} {Q : Option xV → xM → Prop} {a : Int} {v0 : xV} {v1 : xV} {v2 : xV} {v3 : xV} {v4 : xV} {v5 : xV} {v6 : xV} {v7 : xV} {w : xV} : Wp 123 60 (v0 :: v1 :: v2 :: v3 :: v4 :: v5 :: v6 :: v7 :: w :: ls) (xi a :: st) (M) Q = Wp 123 62 (v0 :: v1 :: v2 :: v3 :: v4 :: v5 :: v6 :: xjl v7 :: xi a :: ls) (st) (M) Q := wp_istore rfl rfl
theorem w123_62 {ls st : List xV} {M : xM} {Q : Option xV → xM → Prop} {a : Int} {v0 : xV} {v1 : xV} {v2 : xV} {v3 : xV} {v4 : xV} {v5 : xV} {v6 : xV} {v7 : xV} : Wp 123 62 (v0 :: v1 :: v2 :: v3 :: v4 :: v5 :: v6 :: v7 :: xi a :: ls) (st) (M) Q = Wp 123 64 (v0 :: v1 :: v2 :: v3 :: v4 :: v5 :: v6 :: v7 :: xi a :: ls) (xi a :: st) (M) Q := wp_iload rfl rfl
theorem w123_64 {ls st : List xV} {M : xM} {Q : Option xV → xM → Prop} {d : Nat} : Wp 123 64 (xr d :: ls) (st) (M) Q = Wp 123 65 (xr d :: ls) (xr d :: st) (M) Q := wp_aload rfl rfl
theorem w123_65 {ls st : List xV} {M : xM} {Q : Option xV → xM → Prop} {d : Nat} (hc : x_c d = 9) : Wp 123 65 (ls) (xr d :: st) (M) Q = Wp 123 68 (ls) (xr (x_r d 2) :: st) (M) Q := wp_getr rfl hc
theorem w123_68 {ls st : List xV} {M : xM} {Q : Option xV → xM → Prop}  : Wp 123 68 (ls) (st) (M) Q = Wp 123 69 (ls) (xi 2 :: st) (M) Q := wp_const rfl
theorem w123_69 {ls st : List xV} {M : xM} {Q : Option xV → xM → Prop} {a : Int} {d : Nat} (hc : x_c d = 20) (hn : x_n d = 25) (h1 : 0 ≤ a) (h2 : a < 25) : Wp 123 69 (ls) (xi a :: xr d :: st) (M) Q = Wp 123 70 (ls) (xi (M d a) :: st) (M) Q := wp_ald rfl hc h1 (by rw [hn]; exact h2)
theorem w123_70 {ls st : List xV} {M : xM} {Q : Option xV → xM → Prop} {a : Int} {b : Int} (ha : xG a) (hb : xG b) : Wp 123 70 (ls) (xi b :: xi a :: st) (M) Q = ((b ≤ a → Wp 123 124 (ls) (st) (M) Q) ∧ (¬ (b ≤ a) → Wp 123 73 (ls) (st) (M) Q)) := wp_cmp_ge rfl ha hb
theorem w123_73 {ls st : List xV} {M : xM} {Q : Option xV → xM → Prop} {a : Int} {v0 : xV} {v1 : xV} {v2 : xV} {v3 : xV} {v4 : xV} {v5 : xV} {v6 : xV} : Wp 123 73 (v0 :: v1 :: v2 :: v3 :: v4 :: v5 :: v6 :: xi a :: ls) (st) (M) Q = Wp 123 75 (v0 :: v1 :: v2 :: v3 :: v4 :: v5 :: v6 :: xi a :: ls) (xi a :: st) (M) Q := wp_iload rfl rfl
theorem w123_75 {ls st : List xV} {M : xM} {Q : Option xV → xM → Prop} {a : Int} (ha : xG a) : Wp 123 75 (ls) (xi a :: st) (M) Q = ((¬ a = 0 → Wp 123 111 (ls) (st) (M) Q) ∧ (¬ (¬ a = 0) → Wp 123 78 (ls) (st) (M) Q)) := wp_if_ne rfl ha
theorem w123_78 {ls st : List xV} {M : xM} {Q : Option xV → xM → Prop} {d : Nat} : Wp 123 78 (xr d :: ls) (st) (M) Q = Wp 123 79 (xr d :: ls) (xr d :: st) (M) Q := wp_aload rfl rfl
theorem w123_79 {ls st : List xV} {M : xM} {Q : Option xV → xM → Prop} {a : Int} {v0 : xV} {v1 : xV} {v2 : xV} {v3 : xV} {v4 : xV} {v5 : xV} {v6 : xV} {v7 : xV} : Wp 123 79 (v0 :: v1 :: v2 :: v3 :: v4 :: v5 :: v6 :: v7 :: xi a :: ls) (st) (M) Q = Wp 123 81 (v0 :: v1 :: v2 :: v3 :: v4 :: v5 :: v6 :: v7 :: xi a :: ls) (xi a :: st) (M) Q := wp_iload rfl rfl
theorem w123_81 {ls st : List xV} {M : xM} {Q : Option xV → xM → Prop} {d : Nat} : Wp 123 81 (xr d :: ls) (st) (M) Q = Wp 123 82 (xr d :: ls) (xr d :: st) (M) Q := wp_aload rfl rfl
theorem w123_82 {ls st : List xV} {M : xM} {Q : Option xV → xM → Prop} {d : Nat} (hc : x_c d = 9) : Wp 123 82 (ls) (xr d :: st) (M) Q = Wp 123 85 (ls) (xr (x_r d 10) :: st) (M) Q := wp_getr rfl hc
theorem w123_85 {ls st : List xV} {M : xM} {Q : Option xV → xM → Prop} {a : Int} {v0 : xV} {v1 : xV} {v2 : xV} {v3 : xV} {v4 : xV} {v5 : xV} : Wp 123 85 (v0 :: v1 :: v2 :: v3 :: v4 :: v5 :: xi a :: ls) (st) (M) Q = Wp 123 87 (v0 :: v1 :: v2 :: v3 :: v4 :: v5 :: xi a :: ls) (xi a :: st) (M) Q := wp_iload rfl rfl
theorem w123_87 {ls st : List xV} {M : xM} {Q : Option xV → xM → Prop} {a : Int} {d : Nat} (hc : x_c d = 20) (hn : x_n d = 6) (h1 : 0 ≤ a) (h2 : a < 6) : Wp 123 87 (ls) (xi a :: xr d :: st) (M) Q = Wp 123 88 (ls) (xi (M d a) :: st) (M) Q := wp_ald rfl hc h1 (by rw [hn]; exact h2)
theorem w123_88 {ls st : List xV} {M : xM} {Q : Option xV → xM → Prop}  : Wp 123 88 (ls) (st) (M) Q = Wp 123 91 (ls) (xi 1000 :: st) (M) Q := wp_const rfl
theorem w123_91 {ls st : List xV} {M : xM} {Q : Option xV → xM → Prop} {a : Int} {b : Int} : Wp 123 91 (ls) (xi b :: xi a :: st) (M) Q = (¬ xn b = 0 ∧ Wp 123 92 (ls) (xi ((xn a).tdiv (xn b)) :: st) (M) Q) := wp_div rfl
theorem w123_92 {ls st : List xV} {M : xM} {Q : Option xV → xM → Prop} {d : Nat} : Wp 123 92 (xr d :: ls) (st) (M) Q = Wp 123 93 (xr d :: ls) (xr d :: st) (M) Q := wp_aload rfl rfl
theorem w123_93 {ls st : List xV} {M : xM} {Q : Option xV → xM → Prop} {d : Nat} (hc : x_c d = 9) : Wp 123 93 (ls) (xr d :: st) (M) Q = Wp 123 96 (ls) (xr (x_r d 10) :: st) (M) Q := wp_getr rfl hc
theorem w123_96 {ls st : List xV} {M : xM} {Q : Option xV → xM → Prop} {a : Int} {v0 : xV} {v1 : xV} {v2 : xV} {v3 : xV} {v4 : xV} {v5 : xV} : Wp 123 96 (v0 :: v1 :: v2 :: v3 :: v4 :: v5 :: xi a :: ls) (st) (M) Q = Wp 123 98 (v0 :: v1 :: v2 :: v3 :: v4 :: v5 :: xi a :: ls) (xi a :: st) (M) Q := wp_iload rfl rfl
theorem w123_98 {ls st : List xV} {M : xM} {Q : Option xV → xM → Prop} {a : Int} {d : Nat} (hc : x_c d = 20) (hn : x_n d = 6) (h1 : 0 ≤ a) (h2 : a < 6) : Wp 123 98 (ls) (xi a :: xr d :: st) (M) Q = Wp 123 99 (ls) (xi (M d a) :: st) (M) Q := wp_ald rfl hc h1 (by rw [hn]; exact h2)
theorem w123_99 {ls st : List xV} {M : xM} {Q : Option xV → xM → Prop}  : Wp 123 99 (ls) (st) (M) Q = Wp 123 101 (ls) (xi 10 :: st) (M) Q := wp_const rfl
theorem w123_101 {ls st : List xV} {M : xM} {Q : Option xV → xM → Prop} {a : Int} {b : Int} : Wp 123 101 (ls) (xi b :: xi a :: st) (M) Q = (¬ xn b = 0 ∧ Wp 123 102 (ls) (xi ((xn a).tdiv (xn b)) :: st) (M) Q) := wp_div rfl
theorem w123_102 {ls st : List xV} {M : xM} {Q : Option xV → xM → Prop}  : Wp 123 102 (ls) (st) (M) Q = Wp 123 104 (ls) (xi 100 :: st) (M) Q := wp_const rfl
theorem w123_104 {ls st : List xV} {M : xM} {Q : Option xV → xM → Prop} {a : Int} {b : Int} : Wp 123 104 (ls) (xi b :: xi a :: st) (M) Q = (¬ xn b = 0 ∧ Wp 123 105 (ls) (xi ((xn a).tmod (xn b)) :: st) (M) Q) := wp_rem rfl
theorem w123_105 {ls : List xV} {M : xM} {Q : Option xV → xM → Prop} {a1 : Int} {a2 : Int} {a3 : Int} {d0 : Nat} (hc : x_c d0 = 9) : Wp 123 105 (ls) (xi a3 :: xi a2 :: xi a1 :: xr d0 :: []) (M) Q = Wc 114 [xr d0, xi a1, xi a2, xi a3] M (fun r M2 => Wp 123 108 (ls) (r.toList ++ ([])) M2 Q) := wp_cV rfl rfl hc (Nat.le_of_ble_eq_true rfl) (Nat.le_of_ble_eq_true rfl) rfl rfl
theorem w123_108 {ls st : List xV} {M : xM} {Q : Option xV → xM → Prop} {a : Int} (ha : xG a) : Wp 123 108 (ls) (xi a :: st) (M) Q = ((a = 0 → Wp 123 115 (ls) (st) (M) Q) ∧ (¬ (a = 0) → Wp 123 111 (ls) (st) (M) Q)) := wp_if_eq rfl ha
theorem w123_111 {ls st : List xV} {M : xM} {Q : Option xV → xM → Prop}  : Wp 123 111 (ls) (st) (M) Q = Wp 123 112 (ls) (xi 1 :: st) (M) Q := wp_const rfl
theorem w123_112 {ls st : List xV} {M : xM} {Q : Option xV → xM → Prop}  : Wp 123 112 (ls) (st) (M) Q = Wp 123 116 (ls) (st) (M) Q := wp_goto rfl
theorem w123_115 {ls st : List xV} {M : xM} {Q : Option xV → xM → Prop}  : Wp 123 115 (ls) (st) (M) Q = Wp 123 116 (ls) (xi 0 :: st) (M) Q := wp_const rfl
theorem w123_116 {ls st : List xV} {M : xM} {Q : Option xV → xM → Prop} {a : Int} {v0 : xV} {v1 : xV} {v2 : xV} {v3 : xV} {v4 : xV} {v5 : xV} {v6 : xV} {w : xV} : Wp 123 116 (v0 :: v1 :: v2 :: v3 :: v4 :: v5 :: v6 :: w :: ls) (xi a :: st) (M) Q = Wp 123 118 (v0 :: v1 :: v2 :: v3 :: v4 :: v5 :: xjl v6 :: xi a :: ls) (st) (M) Q := wp_istore rfl rfl
theorem w123_118 {ls st : List xV} {M : xM} {Q : Option xV → xM → Prop} {a : Int} {v0 : xV} {v1 : xV} {v2 : xV} {v3 : xV} {v4 : xV} {v5 : xV} {v6 : xV} {v7 : xV} : Wp 123 118 (v0 :: v1 :: v2 :: v3 :: v4 :: v5 :: v6 :: v7 :: xi a :: ls) (st) (M) Q = Wp 123 121 (v0 :: v1 :: v2 :: v3 :: v4 :: v5 :: v6 :: xjl v7 :: xi (a + 1) :: ls) (st) (M) Q := wp_iinc rfl rfl rfl
theorem w123_121 {ls st : List xV} {M : xM} {Q : Option xV → xM → Prop}  : Wp 123 121 (ls) (st) (M) Q = Wp 123 62 (ls) (st) (M) Q := wp_goto rfl
theorem w123_124 {ls st : List xV} {M : xM} {Q : Option xV → xM → Prop} {a : Int} {v0 : xV} {v1 : xV} {v2 : xV} {v3 : xV} {v4 : xV} : Wp 123 124 (v0 :: v1 :: v2 :: v3 :: v4 :: xi a :: ls) (st) (M) Q = Wp 123 126 (v0 :: v1 :: v2 :: v3 :: v4 :: xi a :: ls) (xi a :: st) (M) Q := wp_iload rfl rfl
theorem w123_126 {ls st : List xV} {M : xM} {Q : Option xV → xM → Prop} {a : Int} (ha : xG a) : Wp 123 126 (ls) (xi a :: st) (M) Q = ((a = 0 → Wp 123 157 (ls) (st) (M) Q) ∧ (¬ (a = 0) → Wp 123 129 (ls) (st) (M) Q)) := wp_if_eq rfl ha
theorem w123_129 {ls st : List xV} {M : xM} {Q : Option xV → xM → Prop} {a : Int} {v0 : xV} {v1 : xV} {v2 : xV} {v3 : xV} {v4 : xV} {v5 : xV} {v6 : xV} : Wp 123 129 (v0 :: v1 :: v2 :: v3 :: v4 :: v5 :: v6 :: xi a :: ls) (st) (M) Q = Wp 123 131 (v0 :: v1 :: v2 :: v3 :: v4 :: v5 :: v6 :: xi a :: ls) (xi a :: st) (M) Q := wp_iload rfl rfl
theorem w123_131 {ls st : List xV} {M : xM} {Q : Option xV → xM → Prop} {d : Nat} : Wp 123 131 (xr d :: ls) (st) (M) Q = Wp 123 132 (xr d :: ls) (xr d :: st) (M) Q := wp_aload rfl rfl
theorem w123_132 {ls st : List xV} {M : xM} {Q : Option xV → xM → Prop} {d : Nat} (hc : x_c d = 9) : Wp 123 132 (ls) (xr d :: st) (M) Q = Wp 123 135 (ls) (xr (x_r d 10) :: st) (M) Q := wp_getr rfl hc
theorem w123_135 {ls st : List xV} {M : xM} {Q : Option xV → xM → Prop} {a : Int} {v0 : xV} {v1 : xV} {v2 : xV} {v3 : xV} {v4 : xV} {v5 : xV} : Wp 123 135 (v0 :: v1 :: v2 :: v3 :: v4 :: v5 :: xi a :: ls) (st) (M) Q = Wp 123 137 (v0 :: v1 :: v2 :: v3 :: v4 :: v5 :: xi a :: ls) (xi a :: st) (M) Q := wp_iload rfl rfl
theorem w123_137 {ls st : List xV} {M : xM} {Q : Option xV → xM → Prop} {a : Int} {d : Nat} (hc : x_c d = 20) (hn : x_n d = 6) (h1 : 0 ≤ a) (h2 : a < 6) : Wp 123 137 (ls) (xi a :: xr d :: st) (M) Q = Wp 123 138 (ls) (xi (M d a) :: st) (M) Q := wp_ald rfl hc h1 (by rw [hn]; exact h2)
theorem w123_138 {ls st : List xV} {M : xM} {Q : Option xV → xM → Prop}  : Wp 123 138 (ls) (st) (M) Q = Wp 123 140 (ls) (xi 10 :: st) (M) Q := wp_const rfl
theorem w123_140 {ls st : List xV} {M : xM} {Q : Option xV → xM → Prop} {a : Int} {b : Int} : Wp 123 140 (ls) (xi b :: xi a :: st) (M) Q = (¬ xn b = 0 ∧ Wp 123 141 (ls) (xi ((xn a).tmod (xn b)) :: st) (M) Q) := wp_rem rfl
theorem w123_141 {ls st : List xV} {M : xM} {Q : Option xV → xM → Prop}  : Wp 123 141 (ls) (st) (M) Q = Wp 123 142 (ls) (xi 1 :: st) (M) Q := wp_const rfl
theorem w123_142 {ls st : List xV} {M : xM} {Q : Option xV → xM → Prop} {a : Int} {b : Int} (ha : xG a) (hb : xG b) : Wp 123 142 (ls) (xi b :: xi a :: st) (M) Q = ((¬ a = b → Wp 123 149 (ls) (st) (M) Q) ∧ (¬ (¬ a = b) → Wp 123 145 (ls) (st) (M) Q)) := wp_cmp_ne rfl ha hb
theorem w123_145 {ls st : List xV} {M : xM} {Q : Option xV → xM → Prop}  : Wp 123 145 (ls) (st) (M) Q = Wp 123 146 (ls) (xi 1 :: st) (M) Q := wp_const rfl
theorem w123_146 {ls st : List xV} {M : xM} {Q : Option xV → xM → Prop}  : Wp 123 146 (ls) (st) (M) Q = Wp 123 150 (ls) (st) (M) Q := wp_goto rfl
theorem w123_149 {ls st : List xV} {M : xM} {Q : Option xV → xM → Prop}  : Wp 123 149 (ls) (st) (M) Q = Wp 123 150 (ls) (xi 0 :: st) (M) Q := wp_const rfl
theorem w123_150 {ls st : List xV} {M : xM} {Q : Option xV → xM → Prop} {a : Int} {b : Int} (ha : xG a) (hb : xG b) : Wp 123 150 (ls) (xi b :: xi a :: st) (M) Q = ((¬ a = b → Wp 123 157 (ls) (st) (M) Q) ∧ (¬ (¬ a = b) → Wp 123 153 (ls) (st) (M) Q)) := wp_cmp_ne rfl ha hb
theorem w123_153 {ls st : List xV} {M : xM} {Q : Option xV → xM → Prop}  : Wp 123 153 (ls) (st) (M) Q = Wp 123 154 (ls) (xi 1 :: st) (M) Q := wp_const rfl
theorem w123_154 {ls st : List xV} {M : xM} {Q : Option xV → xM → Prop}  : Wp 123 154 (ls) (st) (M) Q = Wp 123 158 (ls) (st) (M) Q := wp_goto rfl
theorem w123_157 {ls st : List xV} {M : xM} {Q : Option xV → xM → Prop}  : Wp 123 157 (ls) (st) (M) Q = Wp 123 158 (ls) (xi 0 :: st) (M) Q := wp_const rfl
theorem w123_158 {ls st : List xV} {M : xM} {Q : Option xV → xM → Prop} {a : Int} {v0 : xV} {v1 : xV} {v2 : xV} {v3 : xV} {v4 : xV} {w : xV} : Wp 123 158 (v0 :: v1 :: v2 :: v3 :: v4 :: w :: ls) (xi a :: st) (M) Q = Wp 123 160 (v0 :: v1 :: v2 :: v3 :: xjl v4 :: xi a :: ls) (st) (M) Q := wp_istore rfl rfl
theorem w123_160 {ls st : List xV} {M : xM} {Q : Option xV → xM → Prop} {a : Int} {v0 : xV} {v1 : xV} {v2 : xV} {v3 : xV} {v4 : xV} {v5 : xV} : Wp 123 160 (v0 :: v1 :: v2 :: v3 :: v4 :: v5 :: xi a :: ls) (st) (M) Q = Wp 123 163 (v0 :: v1 :: v2 :: v3 :: v4 :: xjl v5 :: xi (a + 1) :: ls) (st) (M) Q := wp_iinc rfl rfl rfl
theorem w123_163 {ls st : List xV} {M : xM} {Q : Option xV → xM → Prop}  : Wp 123 163 (ls) (st) (M) Q = Wp 123 47 (ls) (st) (M) Q := wp_goto rfl
theorem w123_166 {ls st : List xV} {M : xM} {Q : Option xV → xM → Prop} {a : Int} {v0 : xV} {v1 : xV} {v2 : xV} : Wp 123 166 (v0 :: v1 :: v2 :: xi a :: ls) (st) (M) Q = Wp 123 167 (v0 :: v1 :: v2 :: xi a :: ls) (xi a :: st) (M) Q := wp_iload rfl rfl
set_option maxRecDepth 20000 in
theorem w123_167 {ls st : List xV} {M : xM} {Q : Option xV → xM → Prop} {a : Int} {v0 : xV} {v1 : xV} {v2 : xV} {v3 : xV} {v4 : xV} : Wp 123 167 (v0 :: v1 :: v2 :: v3 :: v4 :: xi a :: ls) (st) (M) Q = Wp 123 169 (v0 :: v1 :: v2 :: v3 :: v4 :: xi a :: ls) (xi a :: st) (M) Q := wp_iload rfl rfl
set_option maxRecDepth 20000 in
theorem w123_169 {ls st : List xV} {M : xM} {Q : Option xV → xM → Prop} {a : Int} (ha : xG a) : Wp 123 169 (ls) (xi a :: st) (M) Q = ((a = 0 → Wp 123 179 (ls) (st) (M) Q) ∧ (¬ (a = 0) → Wp 123 172 (ls) (st) (M) Q)) := wp_if_eq rfl ha
set_option maxRecDepth 20000 in
theorem w123_172 {ls st : List xV} {M : xM} {Q : Option xV → xM → Prop}  : Wp 123 172 (ls) (st) (M) Q = Wp 123 173 (ls) (xi 1 :: st) (M) Q := wp_const rfl
set_option maxRecDepth 20000 in
theorem w123_173 {ls st : List xV} {M : xM} {Q : Option xV → xM → Prop} {a : Int} {v0 : xV} {v1 : xV} {v2 : xV} {v3 : xV} : Wp 123 173 (v0 :: v1 :: v2 :: v3 :: xi a :: ls) (st) (M) Q = Wp 123 175 (v0 :: v1 :: v2 :: v3 :: xi a :: ls) (xi a :: st) (M) Q := wp_iload rfl rfl
set_option maxRecDepth 20000 in
theorem w123_175 {ls st : List xV} {M : xM} {Q : Option xV → xM → Prop} {a : Int} {b : Int} : Wp 123 175 (ls) (xi b :: xi a :: st) (M) Q = Wp 123 176 (ls) (xi (xshl a b) :: st) (M) Q := wp_bin (f := xshl) rfl
set_option maxRecDepth 20000 in
theorem w123_176 {ls st : List xV} {M : xM} {Q : Option xV → xM → Prop}  : Wp 123 176 (ls) (st) (M) Q = Wp 123 180 (ls) (st) (M) Q := wp_goto rfl
set_option maxRecDepth 20000 in
theorem w123_179 {ls st : List xV} {M : xM} {Q : Option xV → xM → Prop}  : Wp 123 179 (ls) (st) (M) Q = Wp 123 180 (ls) (xi 0 :: st) (M) Q := wp_const rfl
set_option maxRecDepth 20000 in
theorem w123_180 {ls st : List xV} {M : xM} {Q : Option xV → xM → Prop} {a : Int} {b : Int} : Wp 123 180 (ls) (xi b :: xi a :: st) (M) Q = Wp 123 181 (ls) (xi (xor_ a b) :: st) (M) Q := wp_bin (f := xor_) rfl
set_option maxRecDepth 20000 in
theorem w123_181 {ls st : List xV} {M : xM} {Q : Option xV → xM → Prop} {a : Int} {v0 : xV} {v1 : xV} {v2 : xV} {w : xV} : Wp 123 181 (v0 :: v1 :: v2 :: w :: ls) (xi a :: st) (M) Q = Wp 123 182 (v0 :: v1 :: xjl v2 :: xi a :: ls) (st) (M) Q := wp_istore rfl rfl
set_option maxRecDepth 20000 in
theorem w123_182 {ls st : List xV} {M : xM} {Q : Option xV → xM → Prop} {a : Int} {v0 : xV} {v1 : xV} {v2 : xV} {v3 : xV} : Wp 123 182 (v0 :: v1 :: v2 :: v3 :: xi a :: ls) (st) (M) Q = Wp 123 185 (v0 :: v1 :: v2 :: xjl v3 :: xi (a + 1) :: ls) (st) (M) Q := wp_iinc rfl rfl rfl
set_option maxRecDepth 20000 in
theorem w123_185 {ls st : List xV} {M : xM} {Q : Option xV → xM → Prop}  : Wp 123 185 (ls) (st) (M) Q = Wp 123 22 (ls) (st) (M) Q := wp_goto rfl
set_option maxRecDepth 20000 in
theorem w123_188 {ls st : List xV} {M : xM} {Q : Option xV → xM → Prop} {d : Nat} : Wp 123 188 (xr d :: ls) (st) (M) Q = Wp 123 189 (xr d :: ls) (xr d :: st) (M) Q := wp_aload rfl rfl
set_option maxRecDepth 20000 in
theorem w123_189 {ls st : List xV} {M : xM} {Q : Option xV → xM → Prop} {d : Nat} (hc : x_c d = 9) : Wp 123 189 (ls) (xr d :: st) (M) Q = Wp 123 192 (ls) (xr (x_r d 5) :: st) (M) Q := wp_getr rfl hc
set_option maxRecDepth 20000 in
theorem w123_192 {ls st : List xV} {M : xM} {Q : Option xV → xM → Prop} {a : Int} {v0 : xV} : Wp 123 192 (v0 :: xi a :: ls) (st) (M) Q = Wp 123 193 (v0 :: xi a :: ls) (xi a :: st) (M) Q := wp_iload rfl rfl
set_option maxRecDepth 20000 in
theorem w123_193 {ls st : List xV} {M : xM} {Q : Option xV → xM → Prop} {a : Int} {v0 : xV} {v1 : xV} : Wp 123 193 (v0 :: v1 :: xi a :: ls) (st) (M) Q = Wp 123 194 (v0 :: v1 :: xi a :: ls) (xi a :: st) (M) Q := wp_iload rfl rfl
set_option maxRecDepth 20000 in
theorem w123_194 {ls st : List xV} {M : xM} {Q : Option xV → xM → Prop} {a : Int} {d : Nat} {x : Int} (hc : x_c d = 20) (hn : x_n d = 7) (h1 : 0 ≤ a) (h2 : a < 7) : Wp 123 194 (ls) (xi x :: xi a :: xr d :: st) (M) Q = Wp 123 195 (ls) (st) (xup M d a x) Q := wp_iast rfl hc h1 (by rw [hn]; exact h2)
set_option maxRecDepth 20000 in
theorem w123_195 {ls st : List xV} {M : xM} {Q : Option xV → xM → Prop} {a : Int} {v0 : xV} {v1 : xV} {v2 : xV} : Wp 123 195 (v0 :: v1 :: v2 :: xi a :: ls) (st) (M) Q = Wp 123 196 (v0 :: v1 :: v2 :: xi a :: ls) (xi a :: st) (M) Q := wp_iload rfl rfl
set_option maxRecDepth 20000 in
theorem w123_196 {ls : List xV} {M : xM} {Q : Option xV → xM → Prop} {a : Int} : Wp 123 196 (ls) ([xi a]) (M) Q = Q (some (xi a)) M := wp_iret rfl
theorem wc124 {M : xM} {Q : Option xV → xM → Prop} {d0 : Nat} {a1 : Int} {a2 : Int} {a3 : Int} : Wc 124 [xr d0, xi a1, xi a2, xi a3] M Q = Wp 124 0 [xr d0, xi a1, xi a2, xi a3] [] M Q := rfl
theorem w124_0 {ls st : List xV} {M : xM} {Q : Option xV → xM → Prop} {d : Nat} : Wp 124 0 (xr d :: ls) (st) (M) Q = Wp 124 1 (xr d :: ls) (xr d :: st) (M) Q := wp_aload rfl rfl
theorem w124_1 {ls st : List xV} {M : xM} {Q : Option xV → xM → Prop} {d : Nat} (hc : x_c d = 9) : Wp 124 1 (ls) (xr d :: st) (M) Q = Wp 124 4 (ls) (xr (x_r d 2) :: st) (M) Q := wp_getr rfl hc
theorem w124_4 {ls st : List xV} {M : xM} {Q : Option xV → xM → Prop}  : Wp 124 4 (ls) (st) (M) Q = Wp 124 5 (ls) (xi 5 :: st) (M) Q := wp_const rfl
theorem w124_5 {ls st : List xV} {M : xM} {Q : Option xV → xM → Prop} {a : Int} {v0 : xV} {v1 : xV} : Wp 124 5 (v0 :: v1 :: xi a :: ls) (st) (M) Q = Wp 124 6 (v0 :: v1 :: xi a :: ls) (xi a :: st) (M) Q := wp_iload rfl rfl
theorem w124_6 {ls st : List xV} {M : xM} {Q : Option xV → xM → Prop} {a : Int} {b : Int} : Wp 124 6 (ls) (xi b :: xi a :: st) (M) Q = Wp 124 7 (ls) (xi (a + b) :: st) (M) Q := wp_bin (f := xadd) rfl
theorem w124_7 {ls st : List xV} {M : xM} {Q : Option xV → xM → Prop} {a : Int} {d : Nat} (hc : x_c d = 20) (hn : x_n d = 25) (h1 : 0 ≤ a) (h2 : a < 25) : Wp 124 7 (ls) (xi a :: xr d :: st) (M) Q = Wp 124 8 (ls) (xi (M d a) :: st) (M) Q := wp_ald rfl hc h1 (by rw [hn]; exact h2)
theorem w124_8 {ls st : List xV} {M : xM} {Q : Option xV → xM → Prop} {d : Nat} : Wp 124 8 (xr d :: ls) (st) (M) Q = Wp 124 9 (xr d :: ls) (xr d :: st) (M) Q := wp_aload rfl rfl
theorem w124_9 {ls st : List xV} {M : xM} {Q : Option xV → xM → Prop} {d : Nat} (hc : x_c d = 9) : Wp 124 9 (ls) (xr d :: st) (M) Q = Wp 124 12 (ls) (xr (x_r d 13) :: st) (M) Q := wp_getr rfl hc
theorem w124_12 {ls st : List xV} {M : xM} {Q : Option xV → xM → Prop}  : Wp 124 12 (ls) (st) (M) Q = Wp 124 13 (ls) (xi 5 :: st) (M) Q := wp_const rfl
theorem w124_13 {ls st : List xV} {M : xM} {Q : Option xV → xM → Prop} {a : Int} {v0 : xV} {v1 : xV} {v2 : xV} : Wp 124 13 (v0 :: v1 :: v2 :: xi a :: ls) (st) (M) Q = Wp 124 14 (v0 :: v1 :: v2 :: xi a :: ls) (xi a :: st) (M) Q := wp_iload rfl rfl
theorem w124_14 {ls st : List xV} {M : xM} {Q : Option xV → xM → Prop} {a : Int} {b : Int} : Wp 124 14 (ls) (xi b :: xi a :: st) (M) Q = Wp 124 15 (ls) (xi (a * b) :: st) (M) Q := wp_bin (f := xmul) rfl
theorem w124_15 {ls st : List xV} {M : xM} {Q : Option xV → xM → Prop} {a : Int} {v0 : xV} : Wp 124 15 (v0 :: xi a :: ls) (st) (M) Q = Wp 124 16 (v0 :: xi a :: ls) (xi a :: st) (M) Q := wp_iload rfl rfl
theorem w124_16 {ls st : List xV} {M : xM} {Q : Option xV → xM → Prop} {a : Int} {b : Int} : Wp 124 16 (ls) (xi b :: xi a :: st) (M) Q = Wp 124 17 (ls) (xi (a + b) :: st) (M) Q := wp_bin (f := xadd) rfl
theorem w124_17 {ls st : List xV} {M : xM} {Q : Option xV → xM → Prop} {a : Int} {d : Nat} (hc : x_c d = 20) (hn : x_n d = 305) (h1 : 0 ≤ a) (h2 : a < 305) : Wp 124 17 (ls) (xi a :: xr d :: st) (M) Q = Wp 124 18 (ls) (xi (M d a) :: st) (M) Q := wp_ald rfl hc h1 (by rw [hn]; exact h2)
theorem w124_18 {ls st : List xV} {M : xM} {Q : Option xV → xM → Prop} {a : Int} {b : Int} : Wp 124 18 (ls) (xi b :: xi a :: st) (M) Q = Wp 124 19 (ls) (xi (a - b) :: st) (M) Q := wp_bin (f := xsub) rfl
theorem w124_19 {ls st : List xV} {M : xM} {Q : Option xV → xM → Prop} {d : Nat} : Wp 124 19 (xr d :: ls) (st) (M) Q = Wp 124 20 (xr d :: ls) (xr d :: st) (M) Q := wp_aload rfl rfl
theorem w124_20 {ls st : List xV} {M : xM} {Q : Option xV → xM → Prop} {d : Nat} (hc : x_c d = 9) : Wp 124 20 (ls) (xr d :: st) (M) Q = Wp 124 23 (ls) (xr (x_r d 2) :: st) (M) Q := wp_getr rfl hc
theorem w124_23 {ls st : List xV} {M : xM} {Q : Option xV → xM → Prop}  : Wp 124 23 (ls) (st) (M) Q = Wp 124 24 (ls) (xi 0 :: st) (M) Q := wp_const rfl
theorem w124_24 {ls st : List xV} {M : xM} {Q : Option xV → xM → Prop} {a : Int} {d : Nat} (hc : x_c d = 20) (hn : x_n d = 25) (h1 : 0 ≤ a) (h2 : a < 25) : Wp 124 24 (ls) (xi a :: xr d :: st) (M) Q = Wp 124 25 (ls) (xi (M d a) :: st) (M) Q := wp_ald rfl hc h1 (by rw [hn]; exact h2)
theorem w124_25 {ls st : List xV} {M : xM} {Q : Option xV → xM → Prop} {a : Int} {b : Int} : Wp 124 25 (ls) (xi b :: xi a :: st) (M) Q = Wp 124 26 (ls) (xi (a + b) :: st) (M) Q := wp_bin (f := xadd) rfl
theorem w124_26 {ls st : List xV} {M : xM} {Q : Option xV → xM → Prop} {d : Nat} : Wp 124 26 (xr d :: ls) (st) (M) Q = Wp 124 27 (xr d :: ls) (xr d :: st) (M) Q := wp_aload rfl rfl
theorem w124_27 {ls st : List xV} {M : xM} {Q : Option xV → xM → Prop} {d : Nat} (hc : x_c d = 9) : Wp 124 27 (ls) (xr d :: st) (M) Q = Wp 124 30 (ls) (xr (x_r d 2) :: st) (M) Q := wp_getr rfl hc
theorem w124_30 {ls st : List xV} {M : xM} {Q : Option xV → xM → Prop}  : Wp 124 30 (ls) (st) (M) Q = Wp 124 31 (ls) (xi 0 :: st) (M) Q := wp_const rfl
theorem w124_31 {ls st : List xV} {M : xM} {Q : Option xV → xM → Prop} {a : Int} {d : Nat} (hc : x_c d = 20) (hn : x_n d = 25) (h1 : 0 ≤ a) (h2 : a < 25) : Wp 124 31 (ls) (xi a :: xr d :: st) (M) Q = Wp 124 32 (ls) (xi (M d a) :: st) (M) Q := wp_ald rfl hc h1 (by rw [hn]; exact h2)
theorem w124_32 {ls st : List xV} {M : xM} {Q : Option xV → xM → Prop} {a : Int} {b : Int} : Wp 124 32 (ls) (xi b :: xi a :: st) (M) Q = (¬ xn b = 0 ∧ Wp 124 33 (ls) (xi ((xn a).tmod (xn b)) :: st) (M) Q) := wp_rem rfl
theorem w124_33 {ls : List xV} {M : xM} {Q : Option xV → xM → Prop} {a : Int} : Wp 124 33 (ls) ([xi a]) (M) Q = Q (some (xi a)) M := wp_iret rfl
theorem wc125 {M : xM} {Q : Option xV → xM → Prop} {d0 : Nat} {a1 : Int} {a2 : Int} {a3 : Int} {a4 : Int} : Wc 125 [xr d0, xi a1, xi a2, xi a3, xi a4] M Q = Wp 125 0 [xr d0, xi a1, xi a2, xi a3, xi a4, xj] [] M Q := rfl
theorem w125_0 {ls st : List xV} {M : xM} {Q : Option xV → xM → Prop} {d : Nat} : Wp 125 0 (xr d :: ls) (st) (M) Q = Wp 125 1 (xr d :: ls) (xr d :: st) (M) Q := wp_aload rfl rfl
theorem w125_1 {ls st : List xV} {M : xM} {Q : Option xV → xM → Prop} {a : Int} {v0 : xV} : Wp 125 1 (v0 :: xi a :: ls) (st) (M) Q = Wp 125 2 (v0 :: xi a :: ls) (xi a :: st) (M) Q := wp_iload rfl rfl
theorem w125_2 {ls : List xV} {M : xM} {Q : Option xV → xM → Prop} {a1 : Int} {d0 : Nat} (hc : x_c d0 = 9) : Wp 125 2 (ls) (xi a1 :: xr d0 :: []) (M) Q = Wc 81 [xr d0, xi a1] M (fun r M2 => Wp 125 5 (ls) (r.toList ++ ([])) M2 Q) := wp_cV rfl rfl hc (Nat.le_of_ble_eq_true rfl) (Nat.le_of_ble_eq_true rfl) rfl rfl
theorem w125_5 {ls st : List xV} {M : xM} {Q : Option xV → xM → Prop} {a : Int} (ha : xG a) : Wp 125 5 (ls) (xi a :: st) (M) Q = ((a = 0 → Wp 125 37 (ls) (st) (M) Q) ∧ (¬ (a = 0) → Wp 125 8 (ls) (st) (M) Q)) := wp_if_eq rfl ha
theorem w125_8 {ls st : List xV} {M : xM} {Q : Option xV → xM → Prop} {d : Nat} : Wp 125 8 (xr d :: ls) (st) (M) Q = Wp 125 9 (xr d :: ls) (xr d :: st) (M) Q := wp_aload rfl rfl
theorem w125_9 {ls st : List xV} {M : xM} {Q : Option xV → xM → Prop} {a : Int} {v0 : xV} {v1 : xV} : Wp 125 9 (v0 :: v1 :: xi a :: ls) (st) (M) Q = Wp 125 10 (v0 :: v1 :: xi a :: ls) (xi a :: st) (M) Q := wp_iload rfl rfl
theorem w125_10 {ls : List xV} {M : xM} {Q : Option xV → xM → Prop} {a1 : Int} {d0 : Nat} (hc : x_c d0 = 9) : Wp 125 10 (ls) (xi a1 :: xr d0 :: []) (M) Q = Wc 80 [xr d0, xi a1] M (fun r M2 => Wp 125 13 (ls) (r.toList ++ ([])) M2 Q) := wp_cV rfl rfl hc (Nat.le_of_ble_eq_true rfl) (Nat.le_of_ble_eq_true rfl) rfl rfl
theorem w125_13 {ls st : List xV} {M : xM} {Q : Option xV → xM → Prop} {a : Int} (ha : xG a) : Wp 125 13 (ls) (xi a :: st) (M) Q = ((a = 0 → Wp 125 37 (ls) (st) (M) Q) ∧ (¬ (a = 0) → Wp 125 16 (ls) (st) (M) Q)) := wp_if_eq rfl ha
theorem w125_16 {ls st : List xV} {M : xM} {Q : Option xV → xM → Prop} {a : Int} {v0 : xV} {v1 : xV} {v2 : xV} {v3 : xV} : Wp 125 16 (v0 :: v1 :: v2 :: v3 :: xi a :: ls) (st) (M) Q = Wp 125 18 (v0 :: v1 :: v2 :: v3 :: xi a :: ls) (xi a :: st) (M) Q := wp_iload rfl rfl
theorem w125_18 {ls st : List xV} {M : xM} {Q : Option xV → xM → Prop}  : Wp 125 18 (ls) (st) (M) Q = Wp 125 19 (ls) (xi 0 :: st) (M) Q := wp_const rfl
theorem w125_19 {ls st : List xV} {M : xM} {Q : Option xV → xM → Prop}  : Wp 125 19 (ls) (st) (M) Q = Wp 125 20 (ls) (xi 1 :: st) (M) Q := wp_const rfl
theorem w125_20 {ls : List xV} {M : xM} {Q : Option xV → xM → Prop} {a0 : Int} {a1 : Int} {a2 : Int} : Wp 125 20 (ls) (xi a2 :: xi a1 :: xi a0 :: []) (M) Q = Wc 79 [xi a0, xi a1, xi a2] M (fun r M2 => Wp 125 23 (ls) (r.toList ++ ([])) M2 Q) := wp_cS rfl rfl (Nat.le_of_ble_eq_true rfl) (Nat.le_of_ble_eq_true rfl) rfl rfl
theorem w125_23 {ls st : List xV} {M : xM} {Q : Option xV → xM → Prop} {a : Int} (ha : xG a) : Wp 125 23 (ls) (xi a :: st) (M) Q = ((a = 0 → Wp 125 37 (ls) (st) (M) Q) ∧ (¬ (a = 0) → Wp 125 26 (ls) (st) (M) Q)) := wp_if_eq rfl ha
theorem w125_26 {ls st : List xV} {M : xM} {Q : Option xV → xM → Prop} {a : Int} {v0 : xV} {v1 : xV} {v2 : xV} : Wp 125 26 (v0 :: v1 :: v2 :: xi a :: ls) (st) (M) Q = Wp 125 27 (v0 :: v1 :: v2 :: xi a :: ls) (xi a :: st) (M) Q := wp_iload rfl rfl
theorem w125_27 {ls st : List xV} {M : xM} {Q : Option xV → xM → Prop} {a : Int} {v0 : xV} {v1 : xV} {v2 : xV} {v3 : xV} : Wp 125 27 (v0 :: v1 :: v2 :: v3 :: xi a :: ls) (st) (M) Q = Wp 125 29 (v0 :: v1 :: v2 :: v3 :: xi a :: ls) (xi a :: st) (M) Q := wp_iload rfl rfl
theorem w125_29 {ls st : List xV} {M : xM} {Q : Option xV → xM → Prop}  : Wp 125 29 (ls) (st) (M) Q = Wp 125 31 (ls) (xi 60 :: st) (M) Q := wp_const rfl
theorem w125_31 {ls : List xV} {M : xM} {Q : Option xV → xM → Prop} {a0 : Int} {a1 : Int} {a2 : Int} : Wp 125 31 (ls) (xi a2 :: xi a1 :: xi a0 :: []) (M) Q = Wc 79 [xi a0, xi a1, xi a2] M (fun r M2 => Wp 125 34 (ls) (r.toList ++ ([])) M2 Q) := wp_cS rfl rfl (Nat.le_of_ble_eq_true rfl) (Nat.le_of_ble_eq_true rfl) rfl rfl
theorem w125_34 {ls st : List xV} {M : xM} {Q : Option xV → xM → Prop} {a : Int} (ha : xG a) : Wp 125 34 (ls) (xi a :: st) (M) Q = ((¬ a = 0 → Wp 125 39 (ls) (st) (M) Q) ∧ (¬ (¬ a = 0) → Wp 125 37 (ls) (st) (M) Q)) := wp_if_ne rfl ha
theorem w125_37 {ls st : List xV} {M : xM} {Q : Option xV → xM → Prop}  : Wp 125 37 (ls) (st) (M) Q = Wp 125 38 (ls) (xi (-1) :: st) (M) Q := wp_const rfl
theorem w125_38 {ls : List xV} {M : xM} {Q : Option xV → xM → Prop} {a : Int} : Wp 125 38 (ls) ([xi a]) (M) Q = Q (some (xi a)) M := wp_iret rfl
theorem w125_39 {ls st : List xV} {M : xM} {Q : Option xV → xM → Prop} {d : Nat} : Wp 125 39 (xr d :: ls) (st) (M) Q = Wp 125 40 (xr d :: ls) (xr d :: st) (M) Q := wp_aload rfl rfl
theorem w125_40 {ls : List xV} {M : xM} {Q : Option xV → xM → Prop} {d0 : Nat} (hc : x_c d0 = 9) : Wp 125 40 (ls) (xr d0 :: []) (M) Q = Wc 112 [xr d0] M (fun r M2 => Wp 125 43 (ls) (r.toList ++ ([])) M2 Q) := wp_cV rfl rfl hc (Nat.le_of_ble_eq_true rfl) (Nat.le_of_ble_eq_true rfl) rfl rfl
theorem w125_43 {ls st : List xV} {M : xM} {Q : Option xV → xM → Prop} {a : Int} {v0 : xV} {v1 : xV} {v2 : xV} {v3 : xV} : Wp 125 43 (v0 :: v1 :: v2 :: v3 :: xi a :: ls) (st) (M) Q = Wp 125 45 (v0 :: v1 :: v2 :: v3 :: xi a :: ls) (xi a :: st) (M) Q := wp_iload rfl rfl
theorem w125_45 {ls st : List xV} {M : xM} {Q : Option xV → xM → Prop} {a : Int} (ha : xG a) : Wp 125 45 (ls) (xi a :: st) (M) Q = ((¬ a = 0 → Wp 125 56 (ls) (st) (M) Q) ∧ (¬ (¬ a = 0) → Wp 125 48 (ls) (st) (M) Q)) := wp_if_ne rfl ha
theorem w125_48 {ls st : List xV} {M : xM} {Q : Option xV → xM → Prop} {d : Nat} : Wp 125 48 (xr d :: ls) (st) (M) Q = Wp 125 49 (xr d :: ls) (xr d :: st) (M) Q := wp_aload rfl rfl
theorem w125_49 {ls st : List xV} {M : xM} {Q : Option xV → xM → Prop} {a : Int} {v0 : xV} : Wp 125 49 (v0 :: xi a :: ls) (st) (M) Q = Wp 125 50 (v0 :: xi a :: ls) (xi a :: st) (M) Q := wp_iload rfl rfl
theorem w125_50 {ls st : List xV} {M : xM} {Q : Option xV → xM → Prop} {a : Int} {v0 : xV} {v1 : xV} : Wp 125 50 (v0 :: v1 :: xi a :: ls) (st) (M) Q = Wp 125 51 (v0 :: v1 :: xi a :: ls) (xi a :: st) (M) Q := wp_iload rfl rfl
theorem w125_51 {ls st : List xV} {M : xM} {Q : Option xV → xM → Prop} {a : Int} {v0 : xV} {v1 : xV} {v2 : xV} : Wp 125 51 (v0 :: v1 :: v2 :: xi a :: ls) (st) (M) Q = Wp 125 52 (v0 :: v1 :: v2 :: xi a :: ls) (xi a :: st) (M) Q := wp_iload rfl rfl
theorem w125_52 {ls : List xV} {M : xM} {Q : Option xV → xM → Prop} {a1 : Int} {a2 : Int} {a3 : Int} {d0 : Nat} (hc : x_c d0 = 9) : Wp 125 52 (ls) (xi a3 :: xi a2 :: xi a1 :: xr d0 :: []) (M) Q = Wc 124 [xr d0, xi a1, xi a2, xi a3] M (fun r M2 => Wp 125 55 (ls) (r.toList ++ ([])) M2 Q) := wp_cV rfl rfl hc (Nat.le_of_ble_eq_true rfl) (Nat.le_of_ble_eq_true rfl) rfl rfl
theorem w125_55 {ls : List xV} {M : xM} {Q : Option xV → xM → Prop} {a : Int} : Wp 125 55 (ls) ([xi a]) (M) Q = Q (some (xi a)) M := wp_iret rfl
theorem w125_56 {ls st : List xV} {M : xM} {Q : Option xV → xM → Prop} {d : Nat} : Wp 125 56 (xr d :: ls) (st) (M) Q = Wp 125 57 (xr d :: ls) (xr d :: st) (M) Q := wp_aload rfl rfl
theorem w125_57 {ls st : List xV} {M : xM} {Q : Option xV → xM → Prop} {a : Int} {v0 : xV} : Wp 125 57 (v0 :: xi a :: ls) (st) (M) Q = Wp 125 58 (v0 :: xi a :: ls) (xi a :: st) (M) Q := wp_iload rfl rfl
theorem w125_58 {ls st : List xV} {M : xM} {Q : Option xV → xM → Prop} {a : Int} {v0 : xV} {v1 : xV} : Wp 125 58 (v0 :: v1 :: xi a :: ls) (st) (M) Q = Wp 125 59 (v0 :: v1 :: xi a :: ls) (xi a :: st) (M) Q := wp_iload rfl rfl
theorem w125_59 {ls st : List xV} {M : xM} {Q : Option xV → xM → Prop} {a : Int} {v0 : xV} {v1 : xV} {v2 : xV} : Wp 125 59 (v0 :: v1 :: v2 :: xi a :: ls) (st) (M) Q = Wp 125 60 (v0 :: v1 :: v2 :: xi a :: ls) (xi a :: st) (M) Q := wp_iload rfl rfl
theorem w125_60 {ls st : List xV} {M : xM} {Q : Option xV → xM → Prop}  : Wp 125 60 (ls) (st) (M) Q = Wp 125 61 (ls) (xi 1 :: st) (M) Q := wp_const rfl
theorem w125_61 {ls st : List xV} {M : xM} {Q : Option xV → xM → Prop} {a : Int} {b : Int} : Wp 125 61 (ls) (xi b :: xi a :: st) (M) Q = Wp 125 62 (ls) (xi (a - b) :: st) (M) Q := wp_bin (f := xsub) rfl
theorem w125_62 {ls : List xV} {M : xM} {Q : Option xV → xM → Prop} {a1 : Int} {a2 : Int} {a3 : Int} {d0 : Nat} (hc : x_c d0 = 9) : Wp 125 62 (ls) (xi a3 :: xi a2 :: xi a1 :: xr d0 :: []) (M) Q = Wc 124 [xr d0, xi a1, xi a2, xi a3] M (fun r M2 => Wp 125 65 (ls) (r.toList ++ ([])) M2 Q) := wp_cV rfl rfl hc (Nat.le_of_ble_eq_true rfl) (Nat.le_of_ble_eq_true rfl) rfl rfl
theorem w125_65 {ls st : List xV} {M : xM} {Q : Option xV → xM → Prop} {d : Nat} : Wp 125 65 (xr d :: ls) (st) (M) Q = Wp 125 66 (xr d :: ls) (xr d :: st) (M) Q := wp_aload rfl rfl
theorem w125_66 {ls st : List xV} {M : xM} {Q : Option xV → xM → Prop} {a : Int} {v0 : xV} : Wp 125 66 (v0 :: xi a :: ls) (st) (M) Q = Wp 125 67 (v0 :: xi a :: ls) (xi a :: st) (M) Q := wp_iload rfl rfl
theorem w125_67 {ls st : List xV} {M : xM} {Q : Option xV → xM → Prop} {a : Int} {v0 : xV} {v1 : xV} : Wp 125 67 (v0 :: v1 :: xi a :: ls) (st) (M) Q = Wp 125 68 (v0 :: v1 :: xi a :: ls) (xi a :: st) (M) Q := wp_iload rfl rfl
theorem w125_68 {ls st : List xV} {M : xM} {Q : Option xV → xM → Prop} {a : Int} {v0 : xV} {v1 : xV} {v2 : xV} : Wp 125 68 (v0 :: v1 :: v2 :: xi a :: ls) (st) (M) Q = Wp 125 69 (v0 :: v1 :: v2 :: xi a :: ls) (xi a :: st) (M) Q := wp_iload rfl rfl
theorem w125_69 {ls : List xV} {M : xM} {Q : Option xV → xM → Prop} {a1 : Int} {a2 : Int} {a3 : Int} {d0 : Nat} {s0 : xV} (hc : x_c d0 = 9) : Wp 125 69 (ls) (xi a3 :: xi a2 :: xi a1 :: xr d0 :: s0 :: []) (M) Q = Wc 124 [xr d0, xi a1, xi a2, xi a3] M (fun r M2 => Wp 125 72 (ls) (r.toList ++ (s0 :: [])) M2 Q) := wp_cV rfl rfl hc (Nat.le_of_ble_eq_true rfl) (Nat.le_of_ble_eq_true rfl) rfl rfl
theorem w125_72 {ls st : List xV} {M : xM} {Q : Option xV → xM → Prop} {a : Int} {b : Int} : Wp 125 72 (ls) (xi b :: xi a :: st) (M) Q = Wp 125 73 (ls) (xi (a - b) :: st) (M) Q := wp_bin (f := xsub) rfl
theorem w125_73 {ls st : List xV} {M : xM} {Q : Option xV → xM → Prop} {a : Int} {v0 : xV} {v1 : xV} {v2 : xV} {v3 : xV} {v4 : xV} {w : xV} : Wp 125 73 (v0 :: v1 :: v2 :: v3 :: v4 :: w :: ls) (xi a :: st) (M) Q = Wp 125 75 (v0 :: v1 :: v2 :: v3 :: xjl v4 :: xi a :: ls) (st) (M) Q := wp_istore rfl rfl
theorem w125_75 {ls st : List xV} {M : xM} {Q : Option xV → xM → Prop} {a : Int} {v0 : xV} {v1 : xV} {v2 : xV} {v3 : xV} {v4 : xV} : Wp 125 75 (v0 :: v1 :: v2 :: v3 :: v4 :: xi a :: ls) (st) (M) Q = Wp 125 77 (v0 :: v1 :: v2 :: v3 :: v4 :: xi a :: ls) (xi a :: st) (M) Q := wp_iload rfl rfl
theorem w125_77 {ls st : List xV} {M : xM} {Q : Option xV → xM → Prop}  : Wp 125 77 (ls) (st) (M) Q = Wp 125 78 (ls) (xi 2 :: st) (M) Q := wp_const rfl
theorem w125_78 {ls st : List xV} {M : xM} {Q : Option xV → xM → Prop} {a : Int} {v0 : xV} {v1 : xV} {v2 : xV} {v3 : xV} {v4 : xV} : Wp 125 78 (v0 :: v1 :: v2 :: v3 :: v4 :: xi a :: ls) (st) (M) Q = Wp 125 80 (v0 :: v1 :: v2 :: v3 :: v4 :: xi a :: ls) (xi a :: st) (M) Q := wp_iload rfl rfl
theorem w125_80 {ls st : List xV} {M : xM} {Q : Option xV → xM → Prop} {a : Int} {b : Int} : Wp 125 80 (ls) (xi b :: xi a :: st) (M) Q = Wp 125 81 (ls) (xi (a * b) :: st) (M) Q := wp_bin (f := xmul) rfl
theorem w125_81 {ls st : List xV} {M : xM} {Q : Option xV → xM → Prop} {d : Nat} : Wp 125 81 (xr d :: ls) (st) (M) Q = Wp 125 82 (xr d :: ls) (xr d :: st) (M) Q := wp_aload rfl rfl
theorem w125_82 {ls st : List xV} {M : xM} {Q : Option xV → xM → Prop} {d : Nat} (hc : x_c d = 9) : Wp 125 82 (ls) (xr d :: st) (M) Q = Wp 125 85 (ls) (xr (x_r d 2) :: st) (M) Q := wp_getr rfl hc
theorem w125_85 {ls st : List xV} {M : xM} {Q : Option xV → xM → Prop}  : Wp 125 85 (ls) (st) (M) Q = Wp 125 86 (ls) (xi 0 :: st) (M) Q := wp_const rfl
theorem w125_86 {ls st : List xV} {M : xM} {Q : Option xV → xM → Prop} {a : Int} {d : Nat} (hc : x_c d = 20) (hn : x_n d = 25) (h1 : 0 ≤ a) (h2 : a < 25) : Wp 125 86 (ls) (xi a :: xr d :: st) (M) Q = Wp 125 87 (ls) (xi (M d a) :: st) (M) Q := wp_ald rfl hc h1 (by rw [hn]; exact h2)
theorem w125_87 {ls st : List xV} {M : xM} {Q : Option xV → xM → Prop} {a : Int} {b : Int} (ha : xG a) (hb : xG b) : Wp 125 87 (ls) (xi b :: xi a :: st) (M) Q = ((a ≤ b → Wp 125 99 (ls) (st) (M) Q) ∧ (¬ (a ≤ b) → Wp 125 90 (ls) (st) (M) Q)) := wp_cmp_le rfl ha hb
theorem w125_90 {ls st : List xV} {M : xM} {Q : Option xV → xM → Prop} {d : Nat} : Wp 125 90 (xr d :: ls) (st) (M) Q = Wp 125 91 (xr d :: ls) (xr d :: st) (M) Q := wp_aload rfl rfl
theorem w125_91 {ls st : List xV} {M : xM} {Q : Option xV → xM → Prop} {d : Nat} (hc : x_c d = 9) : Wp 125 91 (ls) (xr d :: st) (M) Q = Wp 125 94 (ls) (xr (x_r d 2) :: st) (M) Q := wp_getr rfl hc
theorem w125_94 {ls st : List xV} {M : xM} {Q : Option xV → xM → Prop}  : Wp 125 94 (ls) (st) (M) Q = Wp 125 95 (ls) (xi 0 :: st) (M) Q := wp_const rfl
theorem w125_95 {ls st : List xV} {M : xM} {Q : Option xV → xM → Prop} {a : Int} {d : Nat} (hc : x_c d = 20) (hn : x_n d = 25) (h1 : 0 ≤ a) (h2 : a < 25) : Wp 125 95 (ls) (xi a :: xr d :: st) (M) Q = Wp 125 96 (ls) (xi (M d a) :: st) (M) Q := wp_ald rfl hc h1 (by rw [hn]; exact h2)
theorem w125_96 {ls st : List xV} {M : xM} {Q : Option xV → xM → Prop}  : Wp 125 96 (ls) (st) (M) Q = Wp 125 100 (ls) (st) (M) Q := wp_goto rfl
theorem w125_99 {ls st : List xV} {M : xM} {Q : Option xV → xM → Prop}  : Wp 125 99 (ls) (st) (M) Q = Wp 125 100 (ls) (xi 0 :: st) (M) Q := wp_const rfl
theorem w125_100 {ls st : List xV} {M : xM} {Q : Option xV → xM → Prop} {a : Int} {b : Int} : Wp 125 100 (ls) (xi b :: xi a :: st) (M) Q = Wp 125 101 (ls) (xi (a - b) :: st) (M) Q := wp_bin (f := xsub) rfl
theorem w125_101 {ls st : List xV} {M : xM} {Q : Option xV → xM → Prop} {a : Int} {v0 : xV} {v1 : xV} {v2 : xV} {v3 : xV} {v4 : xV} {w : xV} : Wp 125 101 (v0 :: v1 :: v2 :: v3 :: v4 :: w :: ls) (xi a :: st) (M) Q = Wp 125 103 (v0 :: v1 :: v2 :: v3 :: xjl v4 :: xi a :: ls) (st) (M) Q := wp_istore rfl rfl
theorem w125_103 {ls st : List xV} {M : xM} {Q : Option xV → xM → Prop} {a : Int} {v0 : xV} {v1 : xV} {v2 : xV} {v3 : xV} {v4 : xV} : Wp 125 103 (v0 :: v1 :: v2 :: v3 :: v4 :: xi a :: ls) (st) (M) Q = Wp 125 105 (v0 :: v1 :: v2 :: v3 :: v4 :: xi a :: ls) (xi a :: st) (M) Q := wp_iload rfl rfl
theorem w125_105 {ls st : List xV} {M : xM} {Q : Option xV → xM → Prop}  : Wp 125 105 (ls) (st) (M) Q = Wp 125 107 (ls) (xi (-2) :: st) (M) Q := wp_const rfl
theorem w125_107 {ls st : List xV} {M : xM} {Q : Option xV → xM → Prop} {a : Int} {v0 : xV} {v1 : xV} {v2 : xV} {v3 : xV} {v4 : xV} : Wp 125 107 (v0 :: v1 :: v2 :: v3 :: v4 :: xi a :: ls) (st) (M) Q = Wp 125 109 (v0 :: v1 :: v2 :: v3 :: v4 :: xi a :: ls) (xi a :: st) (M) Q := wp_iload rfl rfl
theorem w125_109 {ls st : List xV} {M : xM} {Q : Option xV → xM → Prop} {a : Int} {b : Int} : Wp 125 109 (ls) (xi b :: xi a :: st) (M) Q = Wp 125 110 (ls) (xi (a * b) :: st) (M) Q := wp_bin (f := xmul) rfl
theorem w125_110 {ls st : List xV} {M : xM} {Q : Option xV → xM → Prop} {d : Nat} : Wp 125 110 (xr d :: ls) (st) (M) Q = Wp 125 111 (xr d :: ls) (xr d :: st) (M) Q := wp_aload rfl rfl
theorem w125_111 {ls st : List xV} {M : xM} {Q : Option xV → xM → Prop} {d : Nat} (hc : x_c d = 9) : Wp 125 111 (ls) (xr d :: st) (M) Q = Wp 125 114 (ls) (xr (x_r d 2) :: st) (M) Q := wp_getr rfl hc
theorem w125_114 {ls st : List xV} {M : xM} {Q : Option xV → xM → Prop}  : Wp 125 114 (ls) (st) (M) Q = Wp 125 115 (ls) (xi 0 :: st) (M) Q := wp_const rfl
theorem w125_115 {ls st : List xV} {M : xM} {Q : Option xV → xM → Prop} {a : Int} {d : Nat} (hc : x_c d = 20) (hn : x_n d = 25) (h1 : 0 ≤ a) (h2 : a < 25) : Wp 125 115 (ls) (xi a :: xr d :: st) (M) Q = Wp 125 116 (ls) (xi (M d a) :: st) (M) Q := wp_ald rfl hc h1 (by rw [hn]; exact h2)
theorem w125_116 {ls st : List xV} {M : xM} {Q : Option xV → xM → Prop} {a : Int} {b : Int} (ha : xG a) (hb : xG b) : Wp 125 116 (ls) (xi b :: xi a :: st) (M) Q = ((a < b → Wp 125 128 (ls) (st) (M) Q) ∧ (¬ (a < b) → Wp 125 119 (ls) (st) (M) Q)) := wp_cmp_lt rfl ha hb
theorem w125_119 {ls st : List xV} {M : xM} {Q : Option xV → xM → Prop} {d : Nat} : Wp 125 119 (xr d :: ls) (st) (M) Q = Wp 125 120 (xr d :: ls) (xr d :: st) (M) Q := wp_aload rfl rfl
theorem w125_120 {ls st : List xV} {M : xM} {Q : Option xV → xM → Prop} {d : Nat} (hc : x_c d = 9) : Wp 125 120 (ls) (xr d :: st) (M) Q = Wp 125 123 (ls) (xr (x_r d 2) :: st) (M) Q := wp_getr rfl hc
theorem w125_123 {ls st : List xV} {M : xM} {Q : Option xV → xM → Prop}  : Wp 125 123 (ls) (st) (M) Q = Wp 125 124 (ls) (xi 0 :: st) (M) Q := wp_const rfl
theorem w125_124 {ls st : List xV} {M : xM} {Q : Option xV → xM → Prop} {a : Int} {d : Nat} (hc : x_c d = 20) (hn : x_n d = 25) (h1 : 0 ≤ a) (h2 : a < 25) : Wp 125 124 (ls) (xi a :: xr d :: st) (M) Q = Wp 125 125 (ls) (xi (M d a) :: st) (M) Q := wp_ald rfl hc h1 (by rw [hn]; exact h2)
theorem w125_125 {ls st : List xV} {M : xM} {Q : Option xV → xM → Prop}  : Wp 125 125 (ls) (st) (M) Q = Wp 125 129 (ls) (st) (M) Q := wp_goto rfl
theorem w125_128 {ls st : List xV} {M : xM} {Q : Option xV → xM → Prop}  : Wp 125 128 (ls) (st) (M) Q = Wp 125 129 (ls) (xi 0 :: st) (M) Q := wp_const rfl
theorem w125_129 {ls st : List xV} {M : xM} {Q : Option xV → xM → Prop} {a : Int} {b : Int} : Wp 125 129 (ls) (xi b :: xi a :: st) (M) Q = Wp 125 130 (ls) (xi (a + b) :: st) (M) Q := wp_bin (f := xadd) rfl
theorem w125_130 {ls st : List xV} {M : xM} {Q : Option xV → xM → Prop} {a : Int} {v0 : xV} {v1 : xV} {v2 : xV} {v3 : xV} {v4 : xV} {w : xV} : Wp 125 130 (v0 :: v1 :: v2 :: v3 :: v4 :: w :: ls) (xi a :: st) (M) Q = Wp 125 132 (v0 :: v1 :: v2 :: v3 :: xjl v4 :: xi a :: ls) (st) (M) Q := wp_istore rfl rfl
theorem w125_132 {ls st : List xV} {M : xM} {Q : Option xV → xM → Prop} {a : Int} {v0 : xV} {v1 : xV} {v2 : xV} {v3 : xV} {v4 : xV} : Wp 125 132 (v0 :: v1 :: v2 :: v3 :: v4 :: xi a :: ls) (st) (M) Q = Wp 125 134 (v0 :: v1 :: v2 :: v3 :: v4 :: xi a :: ls) (xi a :: st) (M) Q := wp_iload rfl rfl
theorem w125_134 {ls st : List xV} {M : xM} {Q : Option xV → xM → Prop}  : Wp 125 134 (ls) (st) (M) Q = Wp 125 136 (ls) (xi 100 :: st) (M) Q := wp_const rfl
theorem w125_136 {ls st : List xV} {M : xM} {Q : Option xV → xM → Prop} {a : Int} {b : Int} : Wp 125 136 (ls) (xi b :: xi a :: st) (M) Q = Wp 125 137 (ls) (xi (a + b) :: st) (M) Q := wp_bin (f := xadd) rfl
theorem w125_137 {ls : List xV} {M : xM} {Q : Option xV → xM → Prop} {a : Int} : Wp 125 137 (ls) ([xi a]) (M) Q = Q (some (xi a)) M := wp_iret rfl
theorem wc126 {M : xM} {Q : Option xV → xM → Prop} {d0 : Nat} {a1 : Int} {a2 : Int} {a3 : Int} : Wc 126 [xr d0, xi a1, xi a2, xi a3] M Q = Wp 126 0 [xr d0, xi a1, xi a2, xi a3, xj, xj, xj, xj] [] M Q := rfl
theorem w126_0 {ls st : List xV} {M : xM} {Q : Option xV → xM → Prop} {d : Nat} : Wp 126 0 (xr d :: ls) (st) (M) Q = Wp 126 1 (xr d :: ls) (xr d :: st) (M) Q := wp_aload rfl rfl
theorem w126_1 {ls st : List xV} {M : xM} {Q : Option xV → xM → Prop} {a : Int} {v0 : xV} : Wp 126 1 (v0 :: xi a :: ls) (st) (M) Q = Wp 126 2 (v0 :: xi a :: ls) (xi a :: st) (M) Q := wp_iload rfl rfl
theorem w126_2 {ls : List xV} {M : xM} {Q : Option xV → xM → Prop} {a1 : Int} {d0 : Nat} (hc : x_c d0 = 9) : Wp 126 2 (ls) (xi a1 :: xr d0 :: []) (M) Q = Wc 81 [xr d0, xi a1] M (fun r M2 => Wp 126 5 (ls) (r.toList ++ ([])) M2 Q) := wp_cV rfl rfl hc (Nat.le_of_ble_eq_true rfl) (Nat.le_of_ble_eq_true rfl) rfl rfl
theorem w126_5 {ls st : List xV} {M : xM} {Q : Option xV → xM → Prop} {a : Int} (ha : xG a) : Wp 126 5 (ls) (xi a :: st) (M) Q = ((a = 0 → Wp 126 30 (ls) (st) (M) Q) ∧ (¬ (a = 0) → Wp 126 8 (ls) (st) (M) Q)) := wp_if_eq rfl ha
theorem w126_8 {ls st : List xV} {M : xM} {Q : Option xV → xM → Prop} {d : Nat} : Wp 126 8 (xr d :: ls) (st) (M) Q = Wp 126 9 (xr d :: ls) (xr d :: st) (M) Q := wp_aload rfl rfl
theorem w126_9 {ls st : List xV} {M : xM} {Q : Option xV → xM → Prop} {a : Int} {v0 : xV} {v1 : xV} : Wp 126 9 (v0 :: v1 :: xi a :: ls) (st) (M) Q = Wp 126 10 (v0 :: v1 :: xi a :: ls) (xi a :: st) (M) Q := wp_iload rfl rfl
theorem w126_10 {ls : List xV} {M : xM} {Q : Option xV → xM → Prop} {a1 : Int} {d0 : Nat} (hc : x_c d0 = 9) : Wp 126 10 (ls) (xi a1 :: xr d0 :: []) (M) Q = Wc 81 [xr d0, xi a1] M (fun r M2 => Wp 126 13 (ls) (r.toList ++ ([])) M2 Q) := wp_cV rfl rfl hc (Nat.le_of_ble_eq_true rfl) (Nat.le_of_ble_eq_true rfl) rfl rfl
theorem w126_13 {ls st : List xV} {M : xM} {Q : Option xV → xM → Prop} {a : Int} (ha : xG a) : Wp 126 13 (ls) (xi a :: st) (M) Q = ((a = 0 → Wp 126 30 (ls) (st) (M) Q) ∧ (¬ (a = 0) → Wp 126 16 (ls) (st) (M) Q)) := wp_if_eq rfl ha
theorem w126_16 {ls st : List xV} {M : xM} {Q : Option xV → xM → Prop} {a : Int} {v0 : xV} : Wp 126 16 (v0 :: xi a :: ls) (st) (M) Q = Wp 126 17 (v0 :: xi a :: ls) (xi a :: st) (M) Q := wp_iload rfl rfl
theorem w126_17 {ls st : List xV} {M : xM} {Q : Option xV → xM → Prop} {a : Int} {v0 : xV} {v1 : xV} : Wp 126 17 (v0 :: v1 :: xi a :: ls) (st) (M) Q = Wp 126 18 (v0 :: v1 :: xi a :: ls) (xi a :: st) (M) Q := wp_iload rfl rfl
theorem w126_18 {ls st : List xV} {M : xM} {Q : Option xV → xM → Prop} {a : Int} {b : Int} (ha : xG a) (hb : xG b) : Wp 126 18 (ls) (xi b :: xi a :: st) (M) Q = ((a = b → Wp 126 30 (ls) (st) (M) Q) ∧ (¬ (a = b) → Wp 126 21 (ls) (st) (M) Q)) := wp_cmp_eq rfl ha hb
theorem w126_21 {ls st : List xV} {M : xM} {Q : Option xV → xM → Prop} {a : Int} {v0 : xV} {v1 : xV} {v2 : xV} : Wp 126 21 (v0 :: v1 :: v2 :: xi a :: ls) (st) (M) Q = Wp 126 22 (v0 :: v1 :: v2 :: xi a :: ls) (xi a :: st) (M) Q := wp_iload rfl rfl
theorem w126_22 {ls st : List xV} {M : xM} {Q : Option xV → xM → Prop}  : Wp 126 22 (ls) (st) (M) Q = Wp 126 23 (ls) (xi 0 :: st) (M) Q := wp_const rfl
theorem w126_23 {ls st : List xV} {M : xM} {Q : Option xV → xM → Prop}  : Wp 126 23 (ls) (st) (M) Q = Wp 126 24 (ls) (xi 1 :: st) (M) Q := wp_const rfl
theorem w126_24 {ls : List xV} {M : xM} {Q : Option xV → xM → Prop} {a0 : Int} {a1 : Int} {a2 : Int} : Wp 126 24 (ls) (xi a2 :: xi a1 :: xi a0 :: []) (M) Q = Wc 79 [xi a0, xi a1, xi a2] M (fun r M2 => Wp 126 27 (ls) (r.toList ++ ([])) M2 Q) := wp_cS rfl rfl (Nat.le_of_ble_eq_true rfl) (Nat.le_of_ble_eq_true rfl) rfl rfl
theorem w126_27 {ls st : List xV} {M : xM} {Q : Option xV → xM → Prop} {a : Int} (ha : xG a) : Wp 126 27 (ls) (xi a :: st) (M) Q = ((¬ a = 0 → Wp 126 32 (ls) (st) (M) Q) ∧ (¬ (¬ a = 0) → Wp 126 30 (ls) (st) (M) Q)) := wp_if_ne rfl ha
theorem w126_30 {ls st : List xV} {M : xM} {Q : Option xV → xM → Prop}  : Wp 126 30 (ls) (st) (M) Q = Wp 126 31 (ls) (xi (-1) :: st) (M) Q := wp_const rfl
theorem w126_31 {ls : List xV} {M : xM} {Q : Option xV → xM → Prop} {a : Int} : Wp 126 31 (ls) ([xi a]) (M) Q = Q (some (xi a)) M := wp_iret rfl
theorem w126_32 {ls st : List xV} {M : xM} {Q : Option xV → xM → Prop} {d : Nat} : Wp 126 32 (xr d :: ls) (st) (M) Q = Wp 126 33 (xr d :: ls) (xr d :: st) (M) Q := wp_aload rfl rfl
theorem w126_33 {ls : List xV} {M : xM} {Q : Option xV → xM → Prop} {d0 : Nat} (hc : x_c d0 = 9) : Wp 126 33 (ls) (xr d0 :: []) (M) Q = Wc 112 [xr d0] M (fun r M2 => Wp 126 36 (ls) (r.toList ++ ([])) M2 Q) := wp_cV rfl rfl hc (Nat.le_of_ble_eq_true rfl) (Nat.le_of_ble_eq_true rfl) rfl rfl
theorem w126_36 {ls st : List xV} {M : xM} {Q : Option xV → xM → Prop}  : Wp 126 36 (ls) (st) (M) Q = Wp 126 37 (ls) (xi 0 :: st) (M) Q := wp_const rfl
theorem w126_37 {ls st : List xV} {M : xM} {Q : Option xV → xM → Prop} {a : Int} {v0 : xV} {v1 : xV} {v2 : xV} {v3 : xV} {w : xV} : Wp 126 37 (v0 :: v1 :: v2 :: v3 :: w :: ls) (xi a :: st) (M) Q = Wp 126 39 (v0 :: v1 :: v2 :: xjl v3 :: xi a :: ls) (st) (M) Q := wp_istore rfl rfl
theorem w126_39 {ls st : List xV} {M : xM} {Q : Option xV → xM → Prop}  : Wp 126 39 (ls) (st) (M) Q = Wp 126 41 (ls) (xi (-4) :: st) (M) Q := wp_const rfl
theorem w126_41 {ls st : List xV} {M : xM} {Q : Option xV → xM → Prop} {a : Int} {v0 : xV} {v1 : xV} {v2 : xV} {v3 : xV} {v4 : xV} {w : xV} : Wp 126 41 (v0 :: v1 :: v2 :: v3 :: v4 :: w :: ls) (xi a :: st) (M) Q = Wp 126 43 (v0 :: v1 :: v2 :: v3 :: xjl v4 :: xi a :: ls) (st) (M) Q := wp_istore rfl rfl
theorem w126_43 {ls st : List xV} {M : xM} {Q : Option xV → xM → Prop}  : Wp 126 43 (ls) (st) (M) Q = Wp 126 45 (ls) (xi 60 :: st) (M) Q := wp_const rfl
theorem w126_45 {ls st : List xV} {M : xM} {Q : Option xV → xM → Prop} {a : Int} {v0 : xV} {v1 : xV} {v2 : xV} {v3 : xV} {v4 : xV} {v5 : xV} {w : xV} : Wp 126 45 (v0 :: v1 :: v2 :: v3 :: v4 :: v5 :: w :: ls) (xi a :: st) (M) Q = Wp 126 47 (v0 :: v1 :: v2 :: v3 :: v4 :: xjl v5 :: xi a :: ls) (st) (M) Q := wp_istore rfl rfl
theorem w126_47 {ls st : List xV} {M : xM} {Q : Option xV → xM → Prop} {a : Int} {v0 : xV} {v1 : xV} {v2 : xV} {v3 : xV} {v4 : xV} {v5 : xV} : Wp 126 47 (v0 :: v1 :: v2 :: v3 :: v4 :: v5 :: xi a :: ls) (st) (M) Q = Wp 126 49 (v0 :: v1 :: v2 :: v3 :: v4 :: v5 :: xi a :: ls) (xi a :: st) (M) Q := wp_iload rfl rfl
theorem w126_49 {ls st : List xV} {M : xM} {Q : Option xV → xM → Prop} {a : Int} (ha : xG a) : Wp 126 49 (ls) (xi a :: st) (M) Q = ((a < 0 → Wp 126 119 (ls) (st) (M) Q) ∧ (¬ (a < 0) → Wp 126 52 (ls) (st) (M) Q)) := wp_if_lt rfl ha
theorem w126_52 {ls st : List xV} {M : xM} {Q : Option xV → xM → Prop} {d : Nat} : Wp 126 52 (xr d :: ls) (st) (M) Q = Wp 126 53 (xr d :: ls) (xr d :: st) (M) Q := wp_aload rfl rfl
theorem w126_53 {ls st : List xV} {M : xM} {Q : Option xV → xM → Prop} {d : Nat} (hc : x_c d = 9) : Wp 126 53 (ls) (xr d :: st) (M) Q = Wp 126 56 (ls) (xr (x_r d 13) :: st) (M) Q := wp_getr rfl hc
theorem w126_56 {ls st : List xV} {M : xM} {Q : Option xV → xM → Prop}  : Wp 126 56 (ls) (st) (M) Q = Wp 126 57 (ls) (xi 5 :: st) (M) Q := wp_const rfl
theorem w126_57 {ls st : List xV} {M : xM} {Q : Option xV → xM → Prop} {a : Int} {v0 : xV} {v1 : xV} {v2 : xV} {v3 : xV} {v4 : xV} {v5 : xV} : Wp 126 57 (v0 :: v1 :: v2 :: v3 :: v4 :: v5 :: xi a :: ls) (st) (M) Q = Wp 126 59 (v0 :: v1 :: v2 :: v3 :: v4 :: v5 :: xi a :: ls) (xi a :: st) (M) Q := wp_iload rfl rfl
theorem w126_59 {ls st : List xV} {M : xM} {Q : Option xV → xM → Prop} {a : Int} {b : Int} : Wp 126 59 (ls) (xi b :: xi a :: st) (M) Q = Wp 126 60 (ls) (xi (a * b) :: st) (M) Q := wp_bin (f := xmul) rfl
theorem w126_60 {ls st : List xV} {M : xM} {Q : Option xV → xM → Prop} {a : Int} {v0 : xV} : Wp 126 60 (v0 :: xi a :: ls) (st) (M) Q = Wp 126 61 (v0 :: xi a :: ls) (xi a :: st) (M) Q := wp_iload rfl rfl
theorem w126_61 {ls st : List xV} {M : xM} {Q : Option xV → xM → Prop} {a : Int} {b : Int} : Wp 126 61 (ls) (xi b :: xi a :: st) (M) Q = Wp 126 62 (ls) (xi (a + b) :: st) (M) Q := wp_bin (f := xadd) rfl
theorem w126_62 {ls st : List xV} {M : xM} {Q : Option xV → xM → Prop} {a : Int} {d : Nat} (hc : x_c d = 20) (hn : x_n d = 305) (h1 : 0 ≤ a) (h2 : a < 305) : Wp 126 62 (ls) (xi a :: xr d :: st) (M) Q = Wp 126 63 (ls) (xi (M d a) :: st) (M) Q := wp_ald rfl hc h1 (by rw [hn]; exact h2)
theorem w126_63 {ls st : List xV} {M : xM} {Q : Option xV → xM → Prop} {d : Nat} : Wp 126 63 (xr d :: ls) (st) (M) Q = Wp 126 64 (xr d :: ls) (xr d :: st) (M) Q := wp_aload rfl rfl
theorem w126_64 {ls st : List xV} {M : xM} {Q : Option xV → xM → Prop} {d : Nat} (hc : x_c d = 9) : Wp 126 64 (ls) (xr d :: st) (M) Q = Wp 126 67 (ls) (xr (x_r d 13) :: st) (M) Q := wp_getr rfl hc
theorem w126_67 {ls st : List xV} {M : xM} {Q : Option xV → xM → Prop}  : Wp 126 67 (ls) (st) (M) Q = Wp 126 68 (ls) (xi 5 :: st) (M) Q := wp_const rfl
theorem w126_68 {ls st : List xV} {M : xM} {Q : Option xV → xM → Prop} {a : Int} {v0 : xV} {v1 : xV} {v2 : xV} {v3 : xV} {v4 : xV} {v5 : xV} : Wp 126 68 (v0 :: v1 :: v2 :: v3 :: v4 :: v5 :: xi a :: ls) (st) (M) Q = Wp 126 70 (v0 :: v1 :: v2 :: v3 :: v4 :: v5 :: xi a :: ls) (xi a :: st) (M) Q := wp_iload rfl rfl
theorem w126_70 {ls st : List xV} {M : xM} {Q : Option xV → xM → Prop} {a : Int} {b : Int} : Wp 126 70 (ls) (xi b :: xi a :: st) (M) Q = Wp 126 71 (ls) (xi (a * b) :: st) (M) Q := wp_bin (f := xmul) rfl
theorem w126_71 {ls st : List xV} {M : xM} {Q : Option xV → xM → Prop} {a : Int} {v0 : xV} {v1 : xV} : Wp 126 71 (v0 :: v1 :: xi a :: ls) (st) (M) Q = Wp 126 72 (v0 :: v1 :: xi a :: ls) (xi a :: st) (M) Q := wp_iload rfl rfl
theorem w126_72 {ls st : List xV} {M : xM} {Q : Option xV → xM → Prop} {a : Int} {b : Int} : Wp 126 72 (ls) (xi b :: xi a :: st) (M) Q = Wp 126 73 (ls) (xi (a + b) :: st) (M) Q := wp_bin (f := xadd) rfl
theorem w126_73 {ls st : List xV} {M : xM} {Q : Option xV → xM → Prop} {a : Int} {d : Nat} (hc : x_c d = 20) (hn : x_n d = 305) (h1 : 0 ≤ a) (h2 : a < 305) : Wp 126 73 (ls) (xi a :: xr d :: st) (M) Q = Wp 126 74 (ls) (xi (M d a) :: st) (M) Q := wp_ald rfl hc h1 (by rw [hn]; exact h2)
theorem w126_74 {ls st : List xV} {M : xM} {Q : Option xV → xM → Prop} {a : Int} {b : Int} (ha : xG a) (hb : xG b) : Wp 126 74 (ls) (xi b :: xi a :: st) (M) Q = ((¬ a = b → Wp 126 81 (ls) (st) (M) Q) ∧ (¬ (¬ a = b) → Wp 126 77 (ls) (st) (M) Q)) := wp_cmp_ne rfl ha hb
theorem w126_77 {ls st : List xV} {M : xM} {Q : Option xV → xM → Prop}  : Wp 126 77 (ls) (st) (M) Q = Wp 126 78 (ls) (xi 1 :: st) (M) Q := wp_const rfl
theorem w126_78 {ls st : List xV} {M : xM} {Q : Option xV → xM → Prop}  : Wp 126 78 (ls) (st) (M) Q = Wp 126 82 (ls) (st) (M) Q := wp_goto rfl
theorem w126_81 {ls st : List xV} {M : xM} {Q : Option xV → xM → Prop}  : Wp 126 81 (ls) (st) (M) Q = Wp 126 82 (ls) (xi 0 :: st) (M) Q := wp_const rfl
theorem w126_82 {ls st : List xV} {M : xM} {Q : Option xV → xM → Prop} {a : Int} {v0 : xV} {v1 : xV} {v2 : xV} {v3 : xV} {v4 : xV} {v5 : xV} {v6 : xV} {w : xV} : Wp 126 82 (v0 :: v1 :: v2 :: v3 :: v4 :: v5 :: v6 :: w :: ls) (xi a :: st) (M) Q = Wp 126 84 (v0 :: v1 :: v2 :: v3 :: v4 :: v5 :: xjl v6 :: xi a :: ls) (st) (M) Q := wp_istore rfl rfl
theorem w126_84 {ls st : List xV} {M : xM} {Q : Option xV → xM → Prop} {a : Int} {v0 : xV} {v1 : xV} {v2 : xV} {v3 : xV} : Wp 126 84 (v0 :: v1 :: v2 :: v3 :: xi a :: ls) (st) (M) Q = Wp 126 86 (v0 :: v1 :: v2 :: v3 :: xi a :: ls) (xi a :: st) (M) Q := wp_iload rfl rfl
theorem w126_86 {ls st : List xV} {M : xM} {Q : Option xV → xM → Prop} {a : Int} {v0 : xV} {v1 : xV} {v2 : xV} {v3 : xV} {v4 : xV} {v5 : xV} {v6 : xV} : Wp 126 86 (v0 :: v1 :: v2 :: v3 :: v4 :: v5 :: v6 :: xi a :: ls) (st) (M) Q = Wp 126 88 (v0 :: v1 :: v2 :: v3 :: v4 :: v5 :: v6 :: xi a :: ls) (xi a :: st) (M) Q := wp_iload rfl rfl
theorem w126_88 {ls st : List xV} {M : xM} {Q : Option xV → xM → Prop} {a : Int} (ha : xG a) : Wp 126 88 (ls) (xi a :: st) (M) Q = ((a = 0 → Wp 126 95 (ls) (st) (M) Q) ∧ (¬ (a = 0) → Wp 126 91 (ls) (st) (M) Q)) := wp_if_eq rfl ha
theorem w126_91 {ls st : List xV} {M : xM} {Q : Option xV → xM → Prop}  : Wp 126 91 (ls) (st) (M) Q = Wp 126 92 (ls) (xi 1 :: st) (M) Q := wp_const rfl
theorem w126_92 {ls st : List xV} {M : xM} {Q : Option xV → xM → Prop}  : Wp 126 92 (ls) (st) (M) Q = Wp 126 96 (ls) (st) (M) Q := wp_goto rfl
theorem w126_95 {ls st : List xV} {M : xM} {Q : Option xV → xM → Prop}  : Wp 126 95 (ls) (st) (M) Q = Wp 126 96 (ls) (xi 0 :: st) (M) Q := wp_const rfl
theorem w126_96 {ls st : List xV} {M : xM} {Q : Option xV → xM → Prop} {a : Int} {b : Int} : Wp 126 96 (ls) (xi b :: xi a :: st) (M) Q = Wp 126 97 (ls) (xi (a + b) :: st) (M) Q := wp_bin (f := xadd) rfl
theorem w126_97 {ls st : List xV} {M : xM} {Q : Option xV → xM → Prop} {a : Int} {v0 : xV} {v1 : xV} {v2 : xV} {v3 : xV} {w : xV} : Wp 126 97 (v0 :: v1 :: v2 :: v3 :: w :: ls) (xi a :: st) (M) Q = Wp 126 99 (v0 :: v1 :: v2 :: xjl v3 :: xi a :: ls) (st) (M) Q := wp_istore rfl rfl
theorem w126_99 {ls st : List xV} {M : xM} {Q : Option xV → xM → Prop} {a : Int} {v0 : xV} {v1 : xV} {v2 : xV} {v3 : xV} {v4 : xV} {v5 : xV} {v6 : xV} : Wp 126 99 (v0 :: v1 :: v2 :: v3 :: v4 :: v5 :: v6 :: xi a :: ls) (st) (M) Q = Wp 126 101 (v0 :: v1 :: v2 :: v3 :: v4 :: v5 :: v6 :: xi a :: ls) (xi a :: st) (M) Q := wp_iload rfl rfl
theorem w126_101 {ls st : List xV} {M : xM} {Q : Option xV → xM → Prop} {a : Int} (ha : xG a) : Wp 126 101 (ls) (xi a :: st) (M) Q = ((a = 0 → Wp 126 109 (ls) (st) (M) Q) ∧ (¬ (a = 0) → Wp 126 104 (ls) (st) (M) Q)) := wp_if_eq rfl ha
theorem w126_104 {ls st : List xV} {M : xM} {Q : Option xV → xM → Prop} {a : Int} {v0 : xV} {v1 : xV} {v2 : xV} {v3 : xV} {v4 : xV} {v5 : xV} : Wp 126 104 (v0 :: v1 :: v2 :: v3 :: v4 :: v5 :: xi a :: ls) (st) (M) Q = Wp 126 106 (v0 :: v1 :: v2 :: v3 :: v4 :: v5 :: xi a :: ls) (xi a :: st) (M) Q := wp_iload rfl rfl
theorem w126_106 {ls st : List xV} {M : xM} {Q : Option xV → xM → Prop}  : Wp 126 106 (ls) (st) (M) Q = Wp 126 111 (ls) (st) (M) Q := wp_goto rfl
theorem w126_109 {ls st : List xV} {M : xM} {Q : Option xV → xM → Prop} {a : Int} {v0 : xV} {v1 : xV} {v2 : xV} {v3 : xV} {v4 : xV} : Wp 126 109 (v0 :: v1 :: v2 :: v3 :: v4 :: xi a :: ls) (st) (M) Q = Wp 126 111 (v0 :: v1 :: v2 :: v3 :: v4 :: xi a :: ls) (xi a :: st) (M) Q := wp_iload rfl rfl
theorem w126_111 {ls st : List xV} {M : xM} {Q : Option xV → xM → Prop} {a : Int} {v0 : xV} {v1 : xV} {v2 : xV} {v3 : xV} {v4 : xV} {w : xV} : Wp 126 111 (v0 :: v1 :: v2 :: v3 :: v4 :: w :: ls) (xi a :: st) (M) Q = Wp 126 113 (v0 :: v1 :: v2 :: v3 :: xjl v4 :: xi a :: ls) (st) (M) Q := wp_istore rfl rfl
theorem w126_113 {ls st : List xV} {M : xM} {Q : Option xV → xM → Prop} {a : Int} {v0 : xV} {v1 : xV} {v2 : xV} {v3 : xV} {v4 : xV} {v5 : xV} : Wp 126 113 (v0 :: v1 :: v2 :: v3 :: v4 :: v5 :: xi a :: ls) (st) (M) Q = Wp 126 116 (v0 :: v1 :: v2 :: v3 :: v4 :: xjl v5 :: xi (a + (-1)) :: ls) (st) (M) Q := wp_iinc rfl rfl rfl
theorem w126_116 {ls st : List xV} {M : xM} {Q : Option xV → xM → Prop}  : Wp 126 116 (ls) (st) (M) Q = Wp 126 47 (ls) (st) (M) Q := wp_goto rfl
theorem w126_119 {ls st : List xV} {M : xM} {Q : Option xV → xM → Prop} {a : Int} {v0 : xV} {v1 : xV} {v2 : xV} : Wp 126 119 (v0 :: v1 :: v2 :: xi a :: ls) (st) (M) Q = Wp 126 120 (v0 :: v1 :: v2 :: xi a :: ls) (xi a :: st) (M) Q := wp_iload rfl rfl
theorem w126_120 {ls st : List xV} {M : xM} {Q : Option xV → xM → Prop} {a : Int} (ha : xG a) : Wp 126 120 (ls) (xi a :: st) (M) Q = ((¬ a = 0 → Wp 126 128 (ls) (st) (M) Q) ∧ (¬ (¬ a = 0) → Wp 126 123 (ls) (st) (M) Q)) := wp_if_ne rfl ha
theorem w126_123 {ls st : List xV} {M : xM} {Q : Option xV → xM → Prop} {a : Int} {v0 : xV} {v1 : xV} {v2 : xV} {v3 : xV} : Wp 126 123 (v0 :: v1 :: v2 :: v3 :: xi a :: ls) (st) (M) Q = Wp 126 125 (v0 :: v1 :: v2 :: v3 :: xi a :: ls) (xi a :: st) (M) Q := wp_iload rfl rfl
theorem w126_125 {ls st : List xV} {M : xM} {Q : Option xV → xM → Prop}  : Wp 126 125 (ls) (st) (M) Q = Wp 126 130 (ls) (st) (M) Q := wp_goto rfl
theorem w126_128 {ls st : List xV} {M : xM} {Q : Option xV → xM → Prop} {a : Int} {v0 : xV} {v1 : xV} {v2 : xV} {v3 : xV} {v4 : xV} : Wp 126 128 (v0 :: v1 :: v2 :: v3 :: v4 :: xi a :: ls) (st) (M) Q = Wp 126 130 (v0 :: v1 :: v2 :: v3 :: v4 :: xi a :: ls) (xi a :: st) (M) Q := wp_iload rfl rfl
theorem w126_130 {ls : List xV} {M : xM} {Q : Option xV → xM → Prop} {a : Int} : Wp 126 130 (ls) ([xi a]) (M) Q = Q (some (xi a)) M := wp_iret rfl
theorem wc127 {M : xM} {Q : Option xV → xM → Prop} {d0 : Nat} {a1 : Int} {a2 : Int} {a3 : Int} {a4 : Int} {a5 : Int} : Wc 127 [xr d0, xi a1, xi a2, xi a3, xi a4, xi a5] M Q = Wp 127 0 [xr d0, xi a1, xi a2, xi a3, xi a4, xi a5, xj, xj, xj, xj, xj, xj] [] M Q := rfl
theorem w127_0 {ls st : List xV} {M : xM} {Q : Option xV → xM → Prop} {d : Nat} : Wp 127 0 (xr d :: ls) (st) (M) Q = Wp 127 1 (xr d :: ls) (xr d :: st) (M) Q := wp_aload rfl rfl
theorem w127_1 {ls st : List xV} {M : xM} {Q : Option xV → xM → Prop} {a : Int} {v0 : xV} : Wp 127 1 (v0 :: xi a :: ls) (st) (M) Q = Wp 127 2 (v0 :: xi a :: ls) (xi a :: st) (M) Q := wp_iload rfl rfl
theorem w127_2 {ls : List xV} {M : xM} {Q : Option xV → xM → Prop} {a1 : Int} {d0 : Nat} (hc : x_c d0 = 9) : Wp 127 2 (ls) (xi a1 :: xr d0 :: []) (M) Q = Wc 81 [xr d0, xi a1] M (fun r M2 => Wp 127 5 (ls) (r.toList ++ ([])) M2 Q) := wp_cV rfl rfl hc (Nat.le_of_ble_eq_true rfl) (Nat.le_of_ble_eq_true rfl) rfl rfl
theorem w127_5 {ls st : List xV} {M : xM} {Q : Option xV → xM → Prop} {a : Int} (ha : xG a) : Wp 127 5 (ls) (xi a :: st) (M) Q = ((a = 0 → Wp 127 47 (ls) (st) (M) Q) ∧ (¬ (a = 0) → Wp 127 8 (ls) (st) (M) Q)) := wp_if_eq rfl ha
theorem w127_8 {ls st : List xV} {M : xM} {Q : Option xV → xM → Prop} {d : Nat} : Wp 127 8 (xr d :: ls) (st) (M) Q = Wp 127 9 (xr d :: ls) (xr d :: st) (M) Q := wp_aload rfl rfl
theorem w127_9 {ls st : List xV} {M : xM} {Q : Option xV → xM → Prop} {a : Int} {v0 : xV} {v1 : xV} : Wp 127 9 (v0 :: v1 :: xi a :: ls) (st) (M) Q = Wp 127 10 (v0 :: v1 :: xi a :: ls) (xi a :: st) (M) Q := wp_iload rfl rfl
theorem w127_10 {ls : List xV} {M : xM} {Q : Option xV → xM → Prop} {a1 : Int} {d0 : Nat} (hc : x_c d0 = 9) : Wp 127 10 (ls) (xi a1 :: xr d0 :: []) (M) Q = Wc 80 [xr d0, xi a1] M (fun r M2 => Wp 127 13 (ls) (r.toList ++ ([])) M2 Q) := wp_cV rfl rfl hc (Nat.le_of_ble_eq_true rfl) (Nat.le_of_ble_eq_true rfl) rfl rfl
theorem w127_13 {ls st : List xV} {M : xM} {Q : Option xV → xM → Prop} {a : Int} (ha : xG a) : Wp 127 13 (ls) (xi a :: st) (M) Q = ((a = 0 → Wp 127 47 (ls) (st) (M) Q) ∧ (¬ (a = 0) → Wp 127 16 (ls) (st) (M) Q)) := wp_if_eq rfl ha
theorem w127_16 {ls st : List xV} {M : xM} {Q : Option xV → xM → Prop} {a : Int} {v0 : xV} {v1 : xV} {v2 : xV} : Wp 127 16 (v0 :: v1 :: v2 :: xi a :: ls) (st) (M) Q = Wp 127 17 (v0 :: v1 :: v2 :: xi a :: ls) (xi a :: st) (M) Q := wp_iload rfl rfl
theorem w127_17 {ls st : List xV} {M : xM} {Q : Option xV → xM → Prop}  : Wp 127 17 (ls) (st) (M) Q = Wp 127 18 (ls) (xi 0 :: st) (M) Q := wp_const rfl
theorem w127_18 {ls st : List xV} {M : xM} {Q : Option xV → xM → Prop}  : Wp 127 18 (ls) (st) (M) Q = Wp 127 20 (ls) (xi 6 :: st) (M) Q := wp_const rfl
theorem w127_20 {ls : List xV} {M : xM} {Q : Option xV → xM → Prop} {a0 : Int} {a1 : Int} {a2 : Int} : Wp 127 20 (ls) (xi a2 :: xi a1 :: xi a0 :: []) (M) Q = Wc 79 [xi a0, xi a1, xi a2] M (fun r M2 => Wp 127 23 (ls) (r.toList ++ ([])) M2 Q) := wp_cS rfl rfl (Nat.le_of_ble_eq_true rfl) (Nat.le_of_ble_eq_true rfl) rfl rfl
theorem w127_23 {ls st : List xV} {M : xM} {Q : Option xV → xM → Prop} {a : Int} (ha : xG a) : Wp 127 23 (ls) (xi a :: st) (M) Q = ((a = 0 → Wp 127 47 (ls) (st) (M) Q) ∧ (¬ (a = 0) → Wp 127 26 (ls) (st) (M) Q)) := wp_if_eq rfl ha
theorem w127_26 {ls st : List xV} {M : xM} {Q : Option xV → xM → Prop} {a : Int} {v0 : xV} {v1 : xV} {v2 : xV} {v3 : xV} : Wp 127 26 (v0 :: v1 :: v2 :: v3 :: xi a :: ls) (st) (M) Q = Wp 127 28 (v0 :: v1 :: v2 :: v3 :: xi a :: ls) (xi a :: st) (M) Q := wp_iload rfl rfl
theorem w127_28 {ls st : List xV} {M : xM} {Q : Option xV → xM → Prop}  : Wp 127 28 (ls) (st) (M) Q = Wp 127 29 (ls) (xi 0 :: st) (M) Q := wp_const rfl
theorem w127_29 {ls st : List xV} {M : xM} {Q : Option xV → xM → Prop}  : Wp 127 29 (ls) (st) (M) Q = Wp 127 31 (ls) (xi 10 :: st) (M) Q := wp_const rfl
theorem w127_31 {ls : List xV} {M : xM} {Q : Option xV → xM → Prop} {a0 : Int} {a1 : Int} {a2 : Int} : Wp 127 31 (ls) (xi a2 :: xi a1 :: xi a0 :: []) (M) Q = Wc 79 [xi a0, xi a1, xi a2] M (fun r M2 => Wp 127 34 (ls) (r.toList ++ ([])) M2 Q) := wp_cS rfl rfl (Nat.le_of_ble_eq_true rfl) (Nat.le_of_ble_eq_true rfl) rfl rfl
theorem w127_34 {ls st : List xV} {M : xM} {Q : Option xV → xM → Prop} {a : Int} (ha : xG a) : Wp 127 34 (ls) (xi a :: st) (M) Q = ((a = 0 → Wp 127 47 (ls) (st) (M) Q) ∧ (¬ (a = 0) → Wp 127 37 (ls) (st) (M) Q)) := wp_if_eq rfl ha
theorem w127_37 {ls st : List xV} {M : xM} {Q : Option xV → xM → Prop} {a : Int} {v0 : xV} {v1 : xV} {v2 : xV} {v3 : xV} {v4 : xV} : Wp 127 37 (v0 :: v1 :: v2 :: v3 :: v4 :: xi a :: ls) (st) (M) Q = Wp 127 39 (v0 :: v1 :: v2 :: v3 :: v4 :: xi a :: ls) (xi a :: st) (M) Q := wp_iload rfl rfl
theorem w127_39 {ls st : List xV} {M : xM} {Q : Option xV → xM → Prop}  : Wp 127 39 (ls) (st) (M) Q = Wp 127 40 (ls) (xi 0 :: st) (M) Q := wp_const rfl
theorem w127_40 {ls st : List xV} {M : xM} {Q : Option xV → xM → Prop}  : Wp 127 40 (ls) (st) (M) Q = Wp 127 41 (ls) (xi 1 :: st) (M) Q := wp_const rfl
theorem w127_41 {ls : List xV} {M : xM} {Q : Option xV → xM → Prop} {a0 : Int} {a1 : Int} {a2 : Int} : Wp 127 41 (ls) (xi a2 :: xi a1 :: xi a0 :: []) (M) Q = Wc 79 [xi a0, xi a1, xi a2] M (fun r M2 => Wp 127 44 (ls) (r.toList ++ ([])) M2 Q) := wp_cS rfl rfl (Nat.le_of_ble_eq_true rfl) (Nat.le_of_ble_eq_true rfl) rfl rfl
theorem w127_44 {ls st : List xV} {M : xM} {Q : Option xV → xM → Prop} {a : Int} (ha : xG a) : Wp 127 44 (ls) (xi a :: st) (M) Q = ((¬ a = 0 → Wp 127 49 (ls) (st) (M) Q) ∧ (¬ (¬ a = 0) → Wp 127 47 (ls) (st) (M) Q)) := wp_if_ne rfl ha
theorem w127_47 {ls st : List xV} {M : xM} {Q : Option xV → xM → Prop}  : Wp 127 47 (ls) (st) (M) Q = Wp 127 48 (ls) (xi (-1) :: st) (M) Q := wp_const rfl
theorem w127_48 {ls : List xV} {M : xM} {Q : Option xV → xM → Prop} {a : Int} : Wp 127 48 (ls) ([xi a]) (M) Q = Q (some (xi a)) M := wp_iret rfl
theorem w127_49 {ls st : List xV} {M : xM} {Q : Option xV → xM → Prop} {d : Nat} : Wp 127 49 (xr d :: ls) (st) (M) Q = Wp 127 50 (xr d :: ls) (xr d :: st) (M) Q := wp_aload rfl rfl
theorem w127_50 {ls st : List xV} {M : xM} {Q : Option xV → xM → Prop} {a : Int} {v0 : xV} : Wp 127 50 (v0 :: xi a :: ls) (st) (M) Q = Wp 127 51 (v0 :: xi a :: ls) (xi a :: st) (M) Q := wp_iload rfl rfl
theorem w127_51 {ls st : List xV} {M : xM} {Q : Option xV → xM → Prop} {a : Int} {d : Nat} (hc : x_c d = 9) : Wp 127 51 (ls) (xi a :: xr d :: st) (M) Q = Wp 127 54 (ls) (st) (xup M d 20 a) Q := wp_putf rfl hc
theorem w127_54 {ls st : List xV} {M : xM} {Q : Option xV → xM → Prop} {d : Nat} : Wp 127 54 (xr d :: ls) (st) (M) Q = Wp 127 55 (xr d :: ls) (xr d :: st) (M) Q := wp_aload rfl rfl
theorem w127_55 {ls st : List xV} {M : xM} {Q : Option xV → xM → Prop} {a : Int} {v0 : xV} {v1 : xV} {v2 : xV} : Wp 127 55 (v0 :: v1 :: v2 :: xi a :: ls) (st) (M) Q = Wp 127 56 (v0 :: v1 :: v2 :: xi a :: ls) (xi a :: st) (M) Q := wp_iload rfl rfl
theorem w127_56 {ls st : List xV} {M : xM} {Q : Option xV → xM → Prop} {a : Int} {d : Nat} (hc : x_c d = 9) : Wp 127 56 (ls) (xi a :: xr d :: st) (M) Q = Wp 127 59 (ls) (st) (xup M d 22 a) Q := wp_putf rfl hc
theorem w127_59 {ls st : List xV} {M : xM} {Q : Option xV → xM → Prop}  : Wp 127 59 (ls) (st) (M) Q = Wp 127 60 (ls) (xi 0 :: st) (M) Q := wp_const rfl
theorem w127_60 {ls st : List xV} {M : xM} {Q : Option xV → xM → Prop} {a : Int} {v0 : xV} {v1 : xV} {v2 : xV} {v3 : xV} {v4 : xV} {v5 : xV} {w : xV} : Wp 127 60 (v0 :: v1 :: v2 :: v3 :: v4 :: v5 :: w :: ls) (xi a :: st) (M) Q = Wp 127 62 (v0 :: v1 :: v2 :: v3 :: v4 :: xjl v5 :: xi a :: ls) (st) (M) Q := wp_istore rfl rfl
theorem w127_62 {ls st : List xV} {M : xM} {Q : Option xV → xM → Prop}  : Wp 127 62 (ls) (st) (M) Q = Wp 127 63 (ls) (xi 1 :: st) (M) Q := wp_const rfl
theorem w127_63 {ls st : List xV} {M : xM} {Q : Option xV → xM → Prop} {a : Int} {v0 : xV} {v1 : xV} {v2 : xV} {v3 : xV} {v4 : xV} {v5 : xV} {v6 : xV} {w : xV} : Wp 127 63 (v0 :: v1 :: v2 :: v3 :: v4 :: v5 :: v6 :: w :: ls) (xi a :: st) (M) Q = Wp 127 65 (v0 :: v1 :: v2 :: v3 :: v4 :: v5 :: xjl v6 :: xi a :: ls) (st) (M) Q := wp_istore rfl rfl
theorem w127_65 {ls st : List xV} {M : xM} {Q : Option xV → xM → Prop}  : Wp 127 65 (ls) (st) (M) Q = Wp 127 66 (ls) (xi 0 :: st) (M) Q := wp_const rfl
theorem w127_66 {ls st : List xV} {M : xM} {Q : Option xV → xM → Prop} {a : Int} {v0 : xV} {v1 : xV} {v2 : xV} {v3 : xV} {v4 : xV} {v5 : xV} {v6 : xV} {v7 : xV} {w : xV} : Wp 127 66 (v0 :: v1 :: v2 :: v3 :: v4 :: v5 :: v6 :: v7 :: w :: ls) (xi a :: st) (M) Q = Wp 127 68 (v0 :: v1 :: v2 :: v3 :: v4 :: v5 :: v6 :: xjl v7 :: xi a :: ls) (st) (M) Q := wp_istore rfl rfl
theorem w127_68 {ls st : List xV} {M : xM} {Q : Option xV → xM → Prop} {a : Int} {v0 : xV} {v1 : xV} {v2 : xV} {v3 : xV} {v4 : xV} {v5 : xV} {v6 : xV} {v7 : xV} : Wp 127 68 (v0 :: v1 :: v2 :: v3 :: v4 :: v5 :: v6 :: v7 :: xi a :: ls) (st) (M) Q = Wp 127 70 (v0 :: v1 :: v2 :: v3 :: v4 :: v5 :: v6 :: v7 :: xi a :: ls) (xi a :: st) (M) Q := wp_iload rfl rfl
theorem w127_70 {ls st : List xV} {M : xM} {Q : Option xV → xM → Prop} {a : Int} {v0 : xV} {v1 : xV} {v2 : xV} : Wp 127 70 (v0 :: v1 :: v2 :: xi a :: ls) (st) (M) Q = Wp 127 71 (v0 :: v1 :: v2 :: xi a :: ls) (xi a :: st) (M) Q := wp_iload rfl rfl
theorem w127_71 {ls st : List xV} {M : xM} {Q : Option xV → xM → Prop} {a : Int} {b : Int} (ha : xG a) (hb : xG b) : Wp 127 71 (ls) (xi b :: xi a :: st) (M) Q = ((b ≤ a → Wp 127 87 (ls) (st) (M) Q) ∧ (¬ (b ≤ a) → Wp 127 74 (ls) (st) (M) Q)) := wp_cmp_ge rfl ha hb
theorem w127_74 {ls st : List xV} {M : xM} {Q : Option xV → xM → Prop} {a : Int} {v0 : xV} {v1 : xV} {v2 : xV} {v3 : xV} {v4 : xV} {v5 : xV} {v6 : xV} : Wp 127 74 (v0 :: v1 :: v2 :: v3 :: v4 :: v5 :: v6 :: xi a :: ls) (st) (M) Q = Wp 127 76 (v0 :: v1 :: v2 :: v3 :: v4 :: v5 :: v6 :: xi a :: ls) (xi a :: st) (M) Q := wp_iload rfl rfl
theorem w127_76 {ls st : List xV} {M : xM} {Q : Option xV → xM → Prop}  : Wp 127 76 (ls) (st) (M) Q = Wp 127 78 (ls) (xi 10 :: st) (M) Q := wp_const rfl
theorem w127_78 {ls st : List xV} {M : xM} {Q : Option xV → xM → Prop} {a : Int} {b : Int} : Wp 127 78 (ls) (xi b :: xi a :: st) (M) Q = Wp 127 79 (ls) (xi (a * b) :: st) (M) Q := wp_bin (f := xmul) rfl
theorem w127_79 {ls st : List xV} {M : xM} {Q : Option xV → xM → Prop} {a : Int} {v0 : xV} {v1 : xV} {v2 : xV} {v3 : xV} {v4 : xV} {v5 : xV} {v6 : xV} {w : xV} : Wp 127 79 (v0 :: v1 :: v2 :: v3 :: v4 :: v5 :: v6 :: w :: ls) (xi a :: st) (M) Q = Wp 127 81 (v0 :: v1 :: v2 :: v3 :: v4 :: v5 :: xjl v6 :: xi a :: ls) (st) (M) Q := wp_istore rfl rfl
theorem w127_81 {ls st : List xV} {M : xM} {Q : Option xV → xM → Prop} {a : Int} {v0 : xV} {v1 : xV} {v2 : xV} {v3 : xV} {v4 : xV} {v5 : xV} {v6 : xV} {v7 : xV} : Wp 127 81 (v0 :: v1 :: v2 :: v3 :: v4 :: v5 :: v6 :: v7 :: xi a :: ls) (st) (M) Q = Wp 127 84 (v0 :: v1 :: v2 :: v3 :: v4 :: v5 :: v6 :: xjl v7 :: xi (a + 1) :: ls) (st) (M) Q := wp_iinc rfl rfl rfl
theorem w127_84 {ls st : List xV} {M : xM} {Q : Option xV → xM → Prop}  : Wp 127 84 (ls) (st) (M) Q = Wp 127 68 (ls) (st) (M) Q := wp_goto rfl
theorem w127_87 {ls st : List xV} {M : xM} {Q : Option xV → xM → Prop}  : Wp 127 87 (ls) (st) (M) Q = Wp 127 88 (ls) (xi 0 :: st) (M) Q := wp_const rfl
theorem w127_88 {ls st : List xV} {M : xM} {Q : Option xV → xM → Prop} {a : Int} {v0 : xV} {v1 : xV} {v2 : xV} {v3 : xV} {v4 : xV} {v5 : xV} {v6 : xV} {v7 : xV} {w : xV} : Wp 127 88 (v0 :: v1 :: v2 :: v3 :: v4 :: v5 :: v6 :: v7 :: w :: ls) (xi a :: st) (M) Q = Wp 127 90 (v0 :: v1 :: v2 :: v3 :: v4 :: v5 :: v6 :: xjl v7 :: xi a :: ls) (st) (M) Q := wp_istore rfl rfl
theorem w127_90 {ls st : List xV} {M : xM} {Q : Option xV → xM → Prop} {a : Int} {v0 : xV} {v1 : xV} {v2 : xV} {v3 : xV} {v4 : xV} {v5 : xV} {v6 : xV} {v7 : xV} : Wp 127 90 (v0 :: v1 :: v2 :: v3 :: v4 :: v5 :: v6 :: v7 :: xi a :: ls) (st) (M) Q = Wp 127 92 (v0 :: v1 :: v2 :: v3 :: v4 :: v5 :: v6 :: v7 :: xi a :: ls) (xi a :: st) (M) Q := wp_iload rfl rfl
theorem w127_92 {ls st : List xV} {M : xM} {Q : Option xV → xM → Prop}  : Wp 127 92 (ls) (st) (M) Q = Wp 127 93 (ls) (xi 1 :: st) (M) Q := wp_const rfl
theorem w127_93 {ls st : List xV} {M : xM} {Q : Option xV → xM → Prop} {a : Int} {v0 : xV} {v1 : xV} {v2 : xV} : Wp 127 93 (v0 :: v1 :: v2 :: xi a :: ls) (st) (M) Q = Wp 127 94 (v0 :: v1 :: v2 :: xi a :: ls) (xi a :: st) (M) Q := wp_iload rfl rfl
theorem w127_94 {ls st : List xV} {M : xM} {Q : Option xV → xM → Prop} {a : Int} {b : Int} : Wp 127 94 (ls) (xi b :: xi a :: st) (M) Q = Wp 127 95 (ls) (xi (xshl a b) :: st) (M) Q := wp_bin (f := xshl) rfl
theorem w127_95 {ls st : List xV} {M : xM} {Q : Option xV → xM → Prop} {a : Int} {b : Int} (ha : xG a) (hb : xG b) : Wp 127 95 (ls) (xi b :: xi a :: st) (M) Q = ((b ≤ a → Wp 127 202 (ls) (st) (M) Q) ∧ (¬ (b ≤ a) → Wp 127 98 (ls) (st) (M) Q)) := wp_cmp_ge rfl ha hb
theorem w127_98 {ls st : List xV} {M : xM} {Q : Option xV → xM → Prop} {d : Nat} : Wp 127 98 (xr d :: ls) (st) (M) Q = Wp 127 99 (xr d :: ls) (xr d :: st) (M) Q := wp_aload rfl rfl
theorem w127_99 {ls st : List xV} {M : xM} {Q : Option xV → xM → Prop} {a : Int} {v0 : xV} {v1 : xV} {v2 : xV} {v3 : xV} {v4 : xV} {v5 : xV} {v6 : xV} {v7 : xV} : Wp 127 99 (v0 :: v1 :: v2 :: v3 :: v4 :: v5 :: v6 :: v7 :: xi a :: ls) (st) (M) Q = Wp 127 101 (v0 :: v1 :: v2 :: v3 :: v4 :: v5 :: v6 :: v7 :: xi a :: ls) (xi a :: st) (M) Q := wp_iload rfl rfl
theorem w127_101 {ls st : List xV} {M : xM} {Q : Option xV → xM → Prop} {a : Int} {d : Nat} (hc : x_c d = 9) : Wp 127 101 (ls) (xi a :: xr d :: st) (M) Q = Wp 127 104 (ls) (st) (xup M d 21 a) Q := wp_putf rfl hc
theorem w127_104 {ls st : List xV} {M : xM} {Q : Option xV → xM → Prop} {d : Nat} : Wp 127 104 (xr d :: ls) (st) (M) Q = Wp 127 105 (xr d :: ls) (xr d :: st) (M) Q := wp_aload rfl rfl
theorem w127_105 {ls : List xV} {M : xM} {Q : Option xV → xM → Prop} {d0 : Nat} (hc : x_c d0 = 9) : Wp 127 105 (ls) (xr d0 :: []) (M) Q = Wc 112 [xr d0] M (fun r M2 => Wp 127 108 (ls) (r.toList ++ ([])) M2 Q) := wp_cV rfl rfl hc (Nat.le_of_ble_eq_true rfl) (Nat.le_of_ble_eq_true rfl) rfl rfl
theorem w127_108 {ls st : List xV} {M : xM} {Q : Option xV → xM → Prop}  : Wp 127 108 (ls) (st) (M) Q = Wp 127 109 (ls) (xi 1 :: st) (M) Q := wp_const rfl
theorem w127_109 {ls st : List xV} {M : xM} {Q : Option xV → xM → Prop} {a : Int} {v0 : xV} {v1 : xV} {v2 : xV} {v3 : xV} {v4 : xV} {v5 : xV} {v6 : xV} {v7 : xV} {v8 : xV} {w : xV} : Wp 127 109 (v0 :: v1 :: v2 :: v3 :: v4 :: v5 :: v6 :: v7 :: v8 :: w :: ls) (xi a :: st) (M) Q = Wp 127 111 (v0 :: v1 :: v2 :: v3 :: v4 :: v5 :: v6 :: v7 :: xjl v8 :: xi a :: ls) (st) (M) Q := wp_istore rfl rfl
theorem w127_111 {ls st : List xV} {M : xM} {Q : Option xV → xM → Prop}  : Wp 127 111 (ls) (st) (M) Q = Wp 127 112 (ls) (xi 0 :: st) (M) Q := wp_const rfl
theorem w127_112 {ls st : List xV} {M : xM} {Q : Option xV → xM → Prop} {a : Int} {v0 : xV} {v1 : xV} {v2 : xV} {v3 : xV} {v4 : xV} {v5 : xV} {v6 : xV} {v7 : xV} {v8 : xV} {v9 : xV} {w : xV} : Wp 127 112 (v0 :: v1 :: v2 :: v3 :: v4 :: v5 :: v6 :: v7 :: v8 :: v9 :: w :: ls) (xi a :: st) (M) Q = Wp 127 114 (v0 :: v1 :: v2 :: v3 :: v4 :: v5 :: v6 :: v7 :: v8 :: xjl v9 :: xi a :: ls) (st) (M) Q := wp_istore rfl rfl
theorem w127_114 {ls st : List xV} {M : xM} {Q : Option xV → xM → Prop}  : Wp 127 114 (ls) (st) (M) Q = Wp 127 115 (ls) (xi 1 :: st) (M) Q := wp_const rfl
theorem w127_115 {ls st : List xV} {M : xM} {Q : Option xV → xM → Prop} {a : Int} {v0 : xV} {v1 : xV} {v10 : xV} {v2 : xV} {v3 : xV} {v4 : xV} {v5 : xV} {v6 : xV} {v7 : xV} {v8 : xV} {v9 : xV} {w : xV} : Wp 127 115 (v0 :: v1 :: v2 :: v3 :: v4 :: v5 :: v6 :: v7 :: v8 :: v9 :: v10 :: w :: ls) (xi a :: st) (M) Q = Wp 127 117 (v0 :: v1 :: v2 :: v3 :: v4 :: v5 :: v6 :: v7 :: v8 :: v9 :: xjl v10 :: xi a :: ls) (st) (M) Q := wp_istore rfl rfl
theorem w127_117 {ls st : List xV} {M : xM} {Q : Option xV → xM → Prop} {a : Int} {v0 : xV} {v1 : xV} {v10 : xV} {v2 : xV} {v3 : xV} {v4 : xV} {v5 : xV} {v6 : xV} {v7 : xV} {v8 : xV} {v9 : xV} : Wp 127 117 (v0 :: v1 :: v2 :: v3 :: v4 :: v5 :: v6 :: v7 :: v8 :: v9 :: v10 :: xi a :: ls) (st) (M) Q = Wp 127 119 (v0 :: v1 :: v2 :: v3 :: v4 :: v5 :: v6 :: v7 :: v8 :: v9 :: v10 :: xi a :: ls) (xi a :: st) (M) Q := wp_iload rfl rfl
theorem w127_119 {ls st : List xV} {M : xM} {Q : Option xV → xM → Prop} {a : Int} {v0 : xV} {v1 : xV} {v2 : xV} : Wp 127 119 (v0 :: v1 :: v2 :: xi a :: ls) (st) (M) Q = Wp 127 120 (v0 :: v1 :: v2 :: xi a :: ls) (xi a :: st) (M) Q := wp_iload rfl rfl
theorem w127_120 {ls st : List xV} {M : xM} {Q : Option xV → xM → Prop} {a : Int} {b : Int} (ha : xG a) (hb : xG b) : Wp 127 120 (ls) (xi b :: xi a :: st) (M) Q = ((b < a → Wp 127 180 (ls) (st) (M) Q) ∧ (¬ (b < a) → Wp 127 123 (ls) (st) (M) Q)) := wp_cmp_gt rfl ha hb
theorem w127_123 {ls st : List xV} {M : xM} {Q : Option xV → xM → Prop} {a : Int} {v0 : xV} {v1 : xV} {v2 : xV} {v3 : xV} {v4 : xV} {v5 : xV} {v6 : xV} {v7 : xV} {v8 : xV} : Wp 127 123 (v0 :: v1 :: v2 :: v3 :: v4 :: v5 :: v6 :: v7 :: v8 :: xi a :: ls) (st) (M) Q = Wp 127 125 (v0 :: v1 :: v2 :: v3 :: v4 :: v5 :: v6 :: v7 :: v8 :: xi a :: ls) (xi a :: st) (M) Q := wp_iload rfl rfl
theorem w127_125 {ls st : List xV} {M : xM} {Q : Option xV → xM → Prop} {a : Int} {v0 : xV} {v1 : xV} {v2 : xV} {v3 : xV} {v4 : xV} {v5 : xV} {v6 : xV} {v7 : xV} : Wp 127 125 (v0 :: v1 :: v2 :: v3 :: v4 :: v5 :: v6 :: v7 :: xi a :: ls) (st) (M) Q = Wp 127 127 (v0 :: v1 :: v2 :: v3 :: v4 :: v5 :: v6 :: v7 :: xi a :: ls) (xi a :: st) (M) Q := wp_iload rfl rfl
theorem w127_127 {ls st : List xV} {M : xM} {Q : Option xV → xM → Prop} {a : Int} {v0 : xV} {v1 : xV} {v10 : xV} {v2 : xV} {v3 : xV} {v4 : xV} {v5 : xV} {v6 : xV} {v7 : xV} {v8 : xV} {v9 : xV} : Wp 127 127 (v0 :: v1 :: v2 :: v3 :: v4 :: v5 :: v6 :: v7 :: v8 :: v9 :: v10 :: xi a :: ls) (st) (M) Q = Wp 127 129 (v0 :: v1 :: v2 :: v3 :: v4 :: v5 :: v6 :: v7 :: v8 :: v9 :: v10 :: xi a :: ls) (xi a :: st) (M) Q := wp_iload rfl rfl
theorem w127_129 {ls st : List xV} {M : xM} {Q : Option xV → xM → Prop}  : Wp 127 129 (ls) (st) (M) Q = Wp 127 130 (ls) (xi 1 :: st) (M) Q := wp_const rfl
theorem w127_130 {ls st : List xV} {M : xM} {Q : Option xV → xM → Prop} {a : Int} {b : Int} : Wp 127 130 (ls) (xi b :: xi a :: st) (M) Q = Wp 127 131 (ls) (xi (a - b) :: st) (M) Q := wp_bin (f := xsub) rfl
theorem w127_131 {ls st : List xV} {M : xM} {Q : Option xV → xM → Prop} {a : Int} {b : Int} : Wp 127 131 (ls) (xi b :: xi a :: st) (M) Q = Wp 127 132 (ls) (xi (xshr a b) :: st) (M) Q := wp_bin (f := xshr) rfl
theorem w127_132 {ls st : List xV} {M : xM} {Q : Option xV → xM → Prop}  : Wp 127 132 (ls) (st) (M) Q = Wp 127 133 (ls) (xi 1 :: st) (M) Q := wp_const rfl
theorem w127_133 {ls st : List xV} {M : xM} {Q : Option xV → xM → Prop} {a : Int} {b : Int} : Wp 127 133 (ls) (xi b :: xi a :: st) (M) Q = Wp 127 134 (ls) (xi (xand a b) :: st) (M) Q := wp_bin (f := xand) rfl
theorem w127_134 {ls st : List xV} {M : xM} {Q : Option xV → xM → Prop}  : Wp 127 134 (ls) (st) (M) Q = Wp 127 135 (ls) (xi 1 :: st) (M) Q := wp_const rfl
theorem w127_135 {ls st : List xV} {M : xM} {Q : Option xV → xM → Prop} {a : Int} {b : Int} (ha : xG a) (hb : xG b) : Wp 127 135 (ls) (xi b :: xi a :: st) (M) Q = ((¬ a = b → Wp 127 143 (ls) (st) (M) Q) ∧ (¬ (¬ a = b) → Wp 127 138 (ls) (st) (M) Q)) := wp_cmp_ne rfl ha hb
theorem w127_138 {ls st : List xV} {M : xM} {Q : Option xV → xM → Prop} {a : Int} {v0 : xV} {v1 : xV} {v2 : xV} {v3 : xV} : Wp 127 138 (v0 :: v1 :: v2 :: v3 :: xi a :: ls) (st) (M) Q = Wp 127 140 (v0 :: v1 :: v2 :: v3 :: xi a :: ls) (xi a :: st) (M) Q := wp_iload rfl rfl
theorem w127_140 {ls st : List xV} {M : xM} {Q : Option xV → xM → Prop}  : Wp 127 140 (ls) (st) (M) Q = Wp 127 148 (ls) (st) (M) Q := wp_goto rfl
theorem w127_143 {ls st : List xV} {M : xM} {Q : Option xV → xM → Prop}  : Wp 127 143 (ls) (st) (M) Q = Wp 127 145 (ls) (xi 10 :: st) (M) Q := wp_const rfl
theorem w127_145 {ls st : List xV} {M : xM} {Q : Option xV → xM → Prop} {a : Int} {v0 : xV} {v1 : xV} {v2 : xV} {v3 : xV} : Wp 127 145 (v0 :: v1 :: v2 :: v3 :: xi a :: ls) (st) (M) Q = Wp 127 147 (v0 :: v1 :: v2 :: v3 :: xi a :: ls) (xi a :: st) (M) Q := wp_iload rfl rfl
theorem w127_147 {ls st : List xV} {M : xM} {Q : Option xV → xM → Prop} {a : Int} {b : Int} : Wp 127 147 (ls) (xi b :: xi a :: st) (M) Q = Wp 127 148 (ls) (xi (a - b) :: st) (M) Q := wp_bin (f := xsub) rfl
theorem w127_148 {ls st : List xV} {M : xM} {Q : Option xV → xM → Prop} {a : Int} {b : Int} : Wp 127 148 (ls) (xi b :: xi a :: st) (M) Q = Wp 127 149 (ls) (xi (a * b) :: st) (M) Q := wp_bin (f := xmul) rfl
theorem w127_149 {ls st : List xV} {M : xM} {Q : Option xV → xM → Prop} {a : Int} {v0 : xV} {v1 : xV} {v2 : xV} {v3 : xV} {v4 : xV} {v5 : xV} {v6 : xV} {v7 : xV} {v8 : xV} {w : xV} : Wp 127 149 (v0 :: v1 :: v2 :: v3 :: v4 :: v5 :: v6 :: v7 :: v8 :: w :: ls) (xi a :: st) (M) Q = Wp 127 151 (v0 :: v1 :: v2 :: v3 :: v4 :: v5 :: v6 :: v7 :: xjl v8 :: xi a :: ls) (st) (M) Q := wp_istore rfl rfl
theorem w127_151 {ls st : List xV} {M : xM} {Q : Option xV → xM → Prop} {a : Int} {v0 : xV} {v1 : xV} {v2 : xV} {v3 : xV} {v4 : xV} {v5 : xV} {v6 : xV} {v7 : xV} {v8 : xV} {v9 : xV} : Wp 127 151 (v0 :: v1 :: v2 :: v3 :: v4 :: v5 :: v6 :: v7 :: v8 :: v9 :: xi a :: ls) (st) (M) Q = Wp 127 153 (v0 :: v1 :: v2 :: v3 :: v4 :: v5 :: v6 :: v7 :: v8 :: v9 :: xi a :: ls) (xi a :: st) (M) Q := wp_iload rfl rfl
theorem w127_153 {ls st : List xV} {M : xM} {Q : Option xV → xM → Prop} {a : Int} (ha : xG a) : Wp 127 153 (ls) (xi a :: st) (M) Q = ((¬ a = 0 → Wp 127 167 (ls) (st) (M) Q) ∧ (¬ (¬ a = 0) → Wp 127 156 (ls) (st) (M) Q)) := wp_if_ne rfl ha
theorem w127_156 {ls st : List xV} {M : xM} {Q : Option xV → xM → Prop} {d : Nat} : Wp 127 156 (xr d :: ls) (st) (M) Q = Wp 127 157 (xr d :: ls) (xr d :: st) (M) Q := wp_aload rfl rfl
theorem w127_157 {ls st : List xV} {M : xM} {Q : Option xV → xM → Prop} {a : Int} {v0 : xV} : Wp 127 157 (v0 :: xi a :: ls) (st) (M) Q = Wp 127 158 (v0 :: xi a :: ls) (xi a :: st) (M) Q := wp_iload rfl rfl
theorem w127_158 {ls st : List xV} {M : xM} {Q : Option xV → xM → Prop} {a : Int} {v0 : xV} {v1 : xV} : Wp 127 158 (v0 :: v1 :: xi a :: ls) (st) (M) Q = Wp 127 159 (v0 :: v1 :: xi a :: ls) (xi a :: st) (M) Q := wp_iload rfl rfl
theorem w127_159 {ls st : List xV} {M : xM} {Q : Option xV → xM → Prop} {a : Int} {v0 : xV} {v1 : xV} {v10 : xV} {v2 : xV} {v3 : xV} {v4 : xV} {v5 : xV} {v6 : xV} {v7 : xV} {v8 : xV} {v9 : xV} : Wp 127 159 (v0 :: v1 :: v2 :: v3 :: v4 :: v5 :: v6 :: v7 :: v8 :: v9 :: v10 :: xi a :: ls) (st) (M) Q = Wp 127 161 (v0 :: v1 :: v2 :: v3 :: v4 :: v5 :: v6 :: v7 :: v8 :: v9 :: v10 :: xi a :: ls) (xi a :: st) (M) Q := wp_iload rfl rfl
theorem w127_161 {ls : List xV} {M : xM} {Q : Option xV → xM → Prop} {a1 : Int} {a2 : Int} {a3 : Int} {d0 : Nat} (hc : x_c d0 = 9) : Wp 127 161 (ls) (xi a3 :: xi a2 :: xi a1 :: xr d0 :: []) (M) Q = Wc 114 [xr d0, xi a1, xi a2, xi a3] M (fun r M2 => Wp 127 164 (ls) (r.toList ++ ([])) M2 Q) := wp_cV rfl rfl hc (Nat.le_of_ble_eq_true rfl) (Nat.le_of_ble_eq_true rfl) rfl rfl
set_option maxRecDepth 20000 in
theorem w127_164 {ls st : List xV} {M : xM} {Q : Option xV → xM → Prop} {a : Int} (ha : xG a) : Wp 127 164 (ls) (xi a :: st) (M) Q = ((a = 0 → Wp 127 171 (ls) (st) (M) Q) ∧ (¬ (a = 0) → Wp 127 167 (ls) (st) (M) Q)) := wp_if_eq rfl ha
set_option maxRecDepth 20000 in
theorem w127_167 {ls st : List xV} {M : xM} {Q : Option xV → xM → Prop}  : Wp 127 167 (ls) (st) (M) Q = Wp 127 168 (ls) (xi 1 :: st) (M) Q := wp_const rfl
set_option maxRecDepth 20000 in
theorem w127_168 {ls st : List xV} {M : xM} {Q : Option xV → xM → Prop}  : Wp 127 168 (ls) (st) (M) Q = Wp 127 172 (ls) (st) (M) Q := wp_goto rfl
set_option maxRecDepth 20000 in
theorem w127_171 {ls st : List xV} {M : xM} {Q : Option xV → xM → Prop}  : Wp 127 171 (ls) (st) (M) Q = Wp 127 172 (ls) (xi 0 :: st) (M) Q := wp_const rfl
set_option maxRecDepth 20000 in
theorem w127_172 {ls st : List xV} {M : xM} {Q : Option xV → xM → Prop} {a : Int} {v0 : xV} {v1 : xV} {v2 : xV} {v3 : xV} {v4 : xV} {v5 : xV} {v6 : xV} {v7 : xV} {v8 : xV} {v9 : xV} {w : xV} : Wp 127 172 (v0 :: v1 :: v2 :: v3 :: v4 :: v5 :: v6 :: v7 :: v8 :: v9 :: w :: ls) (xi a :: st) (M) Q = Wp 127 174 (v0 :: v1 :: v2 :: v3 :: v4 :: v5 :: v6 :: v7 :: v8 :: xjl v9 :: xi a :: ls) (st) (M) Q := wp_istore rfl rfl
set_option maxRecDepth 20000 in
theorem w127_174 {ls st : List xV} {M : xM} {Q : Option xV → xM → Prop} {a : Int} {v0 : xV} {v1 : xV} {v10 : xV} {v2 : xV} {v3 : xV} {v4 : xV} {v5 : xV} {v6 : xV} {v7 : xV} {v8 : xV} {v9 : xV} : Wp 127 174 (v0 :: v1 :: v2 :: v3 :: v4 :: v5 :: v6 :: v7 :: v8 :: v9 :: v10 :: xi a :: ls) (st) (M) Q = Wp 127 177 (v0 :: v1 :: v2 :: v3 :: v4 :: v5 :: v6 :: v7 :: v8 :: v9 :: xjl v10 :: xi (a + 1) :: ls) (st) (M) Q := wp_iinc rfl rfl rfl
set_option maxRecDepth 20000 in
theorem w127_177 {ls st : List xV} {M : xM} {Q : Option xV → xM → Prop}  : Wp 127 177 (ls) (st) (M) Q = Wp 127 117 (ls) (st) (M) Q := wp_goto rfl
set_option maxRecDepth 20000 in
theorem w127_180 {ls st : List xV} {M : xM} {Q : Option xV → xM → Prop} {a : Int} {v0 : xV} {v1 : xV} {v2 : xV} {v3 : xV} {v4 : xV} {v5 : xV} : Wp 127 180 (v0 :: v1 :: v2 :: v3 :: v4 :: v5 :: xi a :: ls) (st) (M) Q = Wp 127 182 (v0 :: v1 :: v2 :: v3 :: v4 :: v5 :: xi a :: ls) (xi a :: st) (M) Q := wp_iload rfl rfl
set_option maxRecDepth 20000 in
theorem w127_182 {ls st : List xV} {M : xM} {Q : Option xV → xM → Prop} {a : Int} {v0 : xV} {v1 : xV} {v2 : xV} {v3 : xV} {v4 : xV} {v5 : xV} {v6 : xV} {v7 : xV} {v8 : xV} {v9 : xV} : Wp 127 182 (v0 :: v1 :: v2 :: v3 :: v4 :: v5 :: v6 :: v7 :: v8 :: v9 :: xi a :: ls) (st) (M) Q = Wp 127 184 (v0 :: v1 :: v2 :: v3 :: v4 :: v5 :: v6 :: v7 :: v8 :: v9 :: xi a :: ls) (xi a :: st) (M) Q := wp_iload rfl rfl
set_option maxRecDepth 20000 in
theorem w127_184 {ls st : List xV} {M : xM} {Q : Option xV → xM → Prop} {a : Int} (ha : xG a) : Wp 127 184 (ls) (xi a :: st) (M) Q = ((a = 0 → Wp 127 192 (ls) (st) (M) Q) ∧ (¬ (a = 0) → Wp 127 187 (ls) (st) (M) Q)) := wp_if_eq rfl ha
set_option maxRecDepth 20000 in
theorem w127_187 {ls st : List xV} {M : xM} {Q : Option xV → xM → Prop} {a : Int} {v0 : xV} {v1 : xV} {v2 : xV} {v3 : xV} {v4 : xV} {v5 : xV} {v6 : xV} {v7 : xV} {v8 : xV} : Wp 127 187 (v0 :: v1 :: v2 :: v3 :: v4 :: v5 :: v6 :: v7 :: v8 :: xi a :: ls) (st) (M) Q = Wp 127 189 (v0 :: v1 :: v2 :: v3 :: v4 :: v5 :: v6 :: v7 :: v8 :: xi a :: ls) (xi a :: st) (M) Q := wp_iload rfl rfl
set_option maxRecDepth 20000 in
theorem w127_189 {ls st : List xV} {M : xM} {Q : Option xV → xM → Prop}  : Wp 127 189 (ls) (st) (M) Q = Wp 127 193 (ls) (st) (M) Q := wp_goto rfl
set_option maxRecDepth 20000 in
theorem w127_192 {ls st : List xV} {M : xM} {Q : Option xV → xM → Prop}  : Wp 127 192 (ls) (st) (M) Q = Wp 127 193 (ls) (xi 0 :: st) (M) Q := wp_const rfl
set_option maxRecDepth 20000 in
theorem w127_193 {ls st : List xV} {M : xM} {Q : Option xV → xM → Prop} {a : Int} {b : Int} : Wp 127 193 (ls) (xi b :: xi a :: st) (M) Q = Wp 127 194 (ls) (xi (a + b) :: st) (M) Q := wp_bin (f := xadd) rfl
set_option maxRecDepth 20000 in
theorem w127_194 {ls st : List xV} {M : xM} {Q : Option xV → xM → Prop} {a : Int} {v0 : xV} {v1 : xV} {v2 : xV} {v3 : xV} {v4 : xV} {v5 : xV} {w : xV} : Wp 127 194 (v0 :: v1 :: v2 :: v3 :: v4 :: v5 :: w :: ls) (xi a :: st) (M) Q = Wp 127 196 (v0 :: v1 :: v2 :: v3 :: v4 :: xjl v5 :: xi a :: ls) (st) (M) Q := wp_istore rfl rfl
set_option maxRecDepth 20000 in
theorem w127_196 {ls st : List xV} {M : xM} {Q : Option xV → xM → Prop} {a : Int} {v0 : xV} {v1 : xV} {v2 : xV} {v3 : xV} {v4 : xV} {v5 : xV} {v6 : xV} {v7 : xV} : Wp 127 196 (v0 :: v1 :: v2 :: v3 :: v4 :: v5 :: v6 :: v7 :: xi a :: ls) (st) (M) Q = Wp 127 199 (v0 :: v1 :: v2 :: v3 :: v4 :: v5 :: v6 :: xjl v7 :: xi (a + 1) :: ls) (st) (M) Q := wp_iinc rfl rfl rfl
set_option maxRecDepth 20000 in
theorem w127_199 {ls st : List xV} {M : xM} {Q : Option xV → xM → Prop}  : Wp 127 199 (ls) (st) (M) Q = Wp 127 90 (ls) (st) (M) Q := wp_goto rfl
set_option maxRecDepth 20000 in
theorem w127_202 {ls st : List xV} {M : xM} {Q : Option xV → xM → Prop} {d : Nat} : Wp 127 202 (xr d :: ls) (st) (M) Q = Wp 127 203 (xr d :: ls) (xr d :: st) (M) Q := wp_aload rfl rfl
set_option maxRecDepth 20000 in
theorem w127_203 {ls st : List xV} {M : xM} {Q : Option xV → xM → Prop}  : Wp 127 203 (ls) (st) (M) Q = Wp 127 204 (ls) (xi (-1) :: st) (M) Q := wp_const rfl
set_option maxRecDepth 20000 in
theorem w127_204 {ls st : List xV} {M : xM} {Q : Option xV → xM → Prop} {a : Int} {d : Nat} (hc : x_c d = 9) : Wp 127 204 (ls) (xi a :: xr d :: st) (M) Q = Wp 127 207 (ls) (st) (xup M d 20 a) Q := wp_putf rfl hc
set_option maxRecDepth 20000 in
theorem w127_207 {ls st : List xV} {M : xM} {Q : Option xV → xM → Prop} {a : Int} {v0 : xV} {v1 : xV} {v2 : xV} {v3 : xV} {v4 : xV} {v5 : xV} : Wp 127 207 (v0 :: v1 :: v2 :: v3 :: v4 :: v5 :: xi a :: ls) (st) (M) Q = Wp 127 209 (v0 :: v1 :: v2 :: v3 :: v4 :: v5 :: xi a :: ls) (xi a :: st) (M) Q := wp_iload rfl rfl
set_option maxRecDepth 20000 in
theorem w127_209 {ls st : List xV} {M : xM} {Q : Option xV → xM → Prop} {a : Int} {v0 : xV} {v1 : xV} {v2 : xV} {v3 : xV} {v4 : xV} {v5 : xV} {v6 : xV} {v7 : xV} {w : xV} : Wp 127 209 (v0 :: v1 :: v2 :: v3 :: v4 :: v5 :: v6 :: v7 :: w :: ls) (xi a :: st) (M) Q = Wp 127 211 (v0 :: v1 :: v2 :: v3 :: v4 :: v5 :: v6 :: xjl v7 :: xi a :: ls) (st) (M) Q := wp_istore rfl rfl
set_option maxRecDepth 20000 in
theorem w127_211 {ls st : List xV} {M : xM} {Q : Option xV → xM → Prop} {a : Int} {v0 : xV} {v1 : xV} {v2 : xV} {v3 : xV} {v4 : xV} {v5 : xV} {v6 : xV} : Wp 127 211 (v0 :: v1 :: v2 :: v3 :: v4 :: v5 :: v6 :: xi a :: ls) (st) (M) Q = Wp 127 213 (v0 :: v1 :: v2 :: v3 :: v4 :: v5 :: v6 :: xi a :: ls) (xi a :: st) (M) Q := wp_iload rfl rfl
set_option maxRecDepth 20000 in
theorem w127_213 {ls st : List xV} {M : xM} {Q : Option xV → xM → Prop} {a : Int} {v0 : xV} {v1 : xV} {v2 : xV} {v3 : xV} {v4 : xV} {v5 : xV} {v6 : xV} {v7 : xV} {v8 : xV} {w : xV} : Wp 127 213 (v0 :: v1 :: v2 :: v3 :: v4 :: v5 :: v6 :: v7 :: v8 :: w :: ls) (xi a :: st) (M) Q = Wp 127 215 (v0 :: v1 :: v2 :: v3 :: v4 :: v5 :: v6 :: v7 :: xjl v8 :: xi a :: ls) (st) (M) Q := wp_istore rfl rfl
set_option maxRecDepth 20000 in
theorem w127_215 {ls st : List xV} {M : xM} {Q : Option xV → xM → Prop} {a : Int} {v0 : xV} {v1 : xV} {v2 : xV} {v3 : xV} {v4 : xV} {v5 : xV} {v6 : xV} {v7 : xV} {v8 : xV} : Wp 127 215 (v0 :: v1 :: v2 :: v3 :: v4 :: v5 :: v6 :: v7 :: v8 :: xi a :: ls) (st) (M) Q = Wp 127 217 (v0 :: v1 :: v2 :: v3 :: v4 :: v5 :: v6 :: v7 :: v8 :: xi a :: ls) (xi a :: st) (M) Q := wp_iload rfl rfl
set_option maxRecDepth 20000 in
theorem w127_217 {ls st : List xV} {M : xM} {Q : Option xV → xM → Prop} {a : Int} (ha : xG a) : Wp 127 217 (ls) (xi a :: st) (M) Q = ((a ≤ 0 → Wp 127 238 (ls) (st) (M) Q) ∧ (¬ (a ≤ 0) → Wp 127 220 (ls) (st) (M) Q)) := wp_if_le rfl ha
set_option maxRecDepth 20000 in
theorem w127_220 {ls st : List xV} {M : xM} {Q : Option xV → xM → Prop} {a : Int} {v0 : xV} {v1 : xV} {v2 : xV} {v3 : xV} {v4 : xV} {v5 : xV} {v6 : xV} {v7 : xV} : Wp 127 220 (v0 :: v1 :: v2 :: v3 :: v4 :: v5 :: v6 :: v7 :: xi a :: ls) (st) (M) Q = Wp 127 222 (v0 :: v1 :: v2 :: v3 :: v4 :: v5 :: v6 :: v7 :: xi a :: ls) (xi a :: st) (M) Q := wp_iload rfl rfl
set_option maxRecDepth 20000 in
theorem w127_222 {ls st : List xV} {M : xM} {Q : Option xV → xM → Prop} {a : Int} {v0 : xV} {v1 : xV} {v2 : xV} {v3 : xV} {v4 : xV} {v5 : xV} {v6 : xV} {v7 : xV} {v8 : xV} : Wp 127 222 (v0 :: v1 :: v2 :: v3 :: v4 :: v5 :: v6 :: v7 :: v8 :: xi a :: ls) (st) (M) Q = Wp 127 224 (v0 :: v1 :: v2 :: v3 :: v4 :: v5 :: v6 :: v7 :: v8 :: xi a :: ls) (xi a :: st) (M) Q := wp_iload rfl rfl
set_option maxRecDepth 20000 in
theorem w127_224 {ls st : List xV} {M : xM} {Q : Option xV → xM → Prop} {a : Int} {b : Int} : Wp 127 224 (ls) (xi b :: xi a :: st) (M) Q = (¬ xn b = 0 ∧ Wp 127 225 (ls) (xi ((xn a).tmod (xn b)) :: st) (M) Q) := wp_rem rfl
set_option maxRecDepth 20000 in
theorem w127_225 {ls st : List xV} {M : xM} {Q : Option xV → xM → Prop} {a : Int} {v0 : xV} {v1 : xV} {v2 : xV} {v3 : xV} {v4 : xV} {v5 : xV} {v6 : xV} {v7 : xV} {v8 : xV} {v9 : xV} {w : xV} : Wp 127 225 (v0 :: v1 :: v2 :: v3 :: v4 :: v5 :: v6 :: v7 :: v8 :: v9 :: w :: ls) (xi a :: st) (M) Q = Wp 127 227 (v0 :: v1 :: v2 :: v3 :: v4 :: v5 :: v6 :: v7 :: v8 :: xjl v9 :: xi a :: ls) (st) (M) Q := wp_istore rfl rfl
set_option maxRecDepth 20000 in
theorem w127_227 {ls st : List xV} {M : xM} {Q : Option xV → xM → Prop} {a : Int} {v0 : xV} {v1 : xV} {v2 : xV} {v3 : xV} {v4 : xV} {v5 : xV} {v6 : xV} {v7 : xV} {v8 : xV} : Wp 127 227 (v0 :: v1 :: v2 :: v3 :: v4 :: v5 :: v6 :: v7 :: v8 :: xi a :: ls) (st) (M) Q = Wp 127 229 (v0 :: v1 :: v2 :: v3 :: v4 :: v5 :: v6 :: v7 :: v8 :: xi a :: ls) (xi a :: st) (M) Q := wp_iload rfl rfl
set_option maxRecDepth 20000 in
theorem w127_229 {ls st : List xV} {M : xM} {Q : Option xV → xM → Prop} {a : Int} {v0 : xV} {v1 : xV} {v2 : xV} {v3 : xV} {v4 : xV} {v5 : xV} {v6 : xV} {v7 : xV} {w : xV} : Wp 127 229 (v0 :: v1 :: v2 :: v3 :: v4 :: v5 :: v6 :: v7 :: w :: ls) (xi a :: st) (M) Q = Wp 127 231 (v0 :: v1 :: v2 :: v3 :: v4 :: v5 :: v6 :: xjl v7 :: xi a :: ls) (st) (M) Q := wp_istore rfl rfl
set_option maxRecDepth 20000 in
theorem w127_231 {ls st : List xV} {M : xM} {Q : Option xV → xM → Prop} {a : Int} {v0 : xV} {v1 : xV} {v2 : xV} {v3 : xV} {v4 : xV} {v5 : xV} {v6 : xV} {v7 : xV} {v8 : xV} {v9 : xV} : Wp 127 231 (v0 :: v1 :: v2 :: v3 :: v4 :: v5 :: v6 :: v7 :: v8 :: v9 :: xi a :: ls) (st) (M) Q = Wp 127 233 (v0 :: v1 :: v2 :: v3 :: v4 :: v5 :: v6 :: v7 :: v8 :: v9 :: xi a :: ls) (xi a :: st) (M) Q := wp_iload rfl rfl
set_option maxRecDepth 20000 in
theorem w127_233 {ls st : List xV} {M : xM} {Q : Option xV → xM → Prop} {a : Int} {v0 : xV} {v1 : xV} {v2 : xV} {v3 : xV} {v4 : xV} {v5 : xV} {v6 : xV} {v7 : xV} {v8 : xV} {w : xV} : Wp 127 233 (v0 :: v1 :: v2 :: v3 :: v4 :: v5 :: v6 :: v7 :: v8 :: w :: ls) (xi a :: st) (M) Q = Wp 127 235 (v0 :: v1 :: v2 :: v3 :: v4 :: v5 :: v6 :: v7 :: xjl v8 :: xi a :: ls) (st) (M) Q := wp_istore rfl rfl
set_option maxRecDepth 20000 in
theorem w127_235 {ls st : List xV} {M : xM} {Q : Option xV → xM → Prop}  : Wp 127 235 (ls) (st) (M) Q = Wp 127 215 (ls) (st) (M) Q := wp_goto rfl
set_option maxRecDepth 20000 in
theorem w127_238 {ls st : List xV} {M : xM} {Q : Option xV → xM → Prop} {a : Int} {v0 : xV} {v1 : xV} {v2 : xV} {v3 : xV} {v4 : xV} : Wp 127 238 (v0 :: v1 :: v2 :: v3 :: v4 :: xi a :: ls) (st) (M) Q = Wp 127 240 (v0 :: v1 :: v2 :: v3 :: v4 :: xi a :: ls) (xi a :: st) (M) Q := wp_iload rfl rfl
set_option maxRecDepth 20000 in
theorem w127_240 {ls st : List xV} {M : xM} {Q : Option xV → xM → Prop} {a : Int} (ha : xG a) : Wp 127 240 (ls) (xi a :: st) (M) Q = ((¬ a = 0 → Wp 127 251 (ls) (st) (M) Q) ∧ (¬ (¬ a = 0) → Wp 127 243 (ls) (st) (M) Q)) := wp_if_ne rfl ha
set_option maxRecDepth 20000 in
theorem w127_243 {ls st : List xV} {M : xM} {Q : Option xV → xM → Prop} {a : Int} {v0 : xV} {v1 : xV} {v2 : xV} {v3 : xV} {v4 : xV} {v5 : xV} : Wp 127 243 (v0 :: v1 :: v2 :: v3 :: v4 :: v5 :: xi a :: ls) (st) (M) Q = Wp 127 245 (v0 :: v1 :: v2 :: v3 :: v4 :: v5 :: xi a :: ls) (xi a :: st) (M) Q := wp_iload rfl rfl
set_option maxRecDepth 20000 in
theorem w127_245 {ls st : List xV} {M : xM} {Q : Option xV → xM → Prop} {a : Int} {v0 : xV} {v1 : xV} {v2 : xV} {v3 : xV} {v4 : xV} {v5 : xV} {v6 : xV} {v7 : xV} : Wp 127 245 (v0 :: v1 :: v2 :: v3 :: v4 :: v5 :: v6 :: v7 :: xi a :: ls) (st) (M) Q = Wp 127 247 (v0 :: v1 :: v2 :: v3 :: v4 :: v5 :: v6 :: v7 :: xi a :: ls) (xi a :: st) (M) Q := wp_iload rfl rfl
set_option maxRecDepth 20000 in
theorem w127_247 {ls st : List xV} {M : xM} {Q : Option xV → xM → Prop} {a : Int} {b : Int} : Wp 127 247 (ls) (xi b :: xi a :: st) (M) Q = (¬ xn b = 0 ∧ Wp 127 248 (ls) (xi ((xn a).tdiv (xn b)) :: st) (M) Q) := wp_div rfl
set_option maxRecDepth 20000 in
theorem w127_248 {ls st : List xV} {M : xM} {Q : Option xV → xM → Prop}  : Wp 127 248 (ls) (st) (M) Q = Wp 127 256 (ls) (st) (M) Q := wp_goto rfl
set_option maxRecDepth 20000 in
theorem w127_251 {ls st : List xV} {M : xM} {Q : Option xV → xM → Prop} {a : Int} {v0 : xV} {v1 : xV} {v2 : xV} {v3 : xV} {v4 : xV} {v5 : xV} {v6 : xV} : Wp 127 251 (v0 :: v1 :: v2 :: v3 :: v4 :: v5 :: v6 :: xi a :: ls) (st) (M) Q = Wp 127 253 (v0 :: v1 :: v2 :: v3 :: v4 :: v5 :: v6 :: xi a :: ls) (xi a :: st) (M) Q := wp_iload rfl rfl
set_option maxRecDepth 20000 in
theorem w127_253 {ls st : List xV} {M : xM} {Q : Option xV → xM → Prop} {a : Int} {v0 : xV} {v1 : xV} {v2 : xV} {v3 : xV} {v4 : xV} {v5 : xV} {v6 : xV} {v7 : xV} : Wp 127 253 (v0 :: v1 :: v2 :: v3 :: v4 :: v5 :: v6 :: v7 :: xi a :: ls) (st) (M) Q = Wp 127 255 (v0 :: v1 :: v2 :: v3 :: v4 :: v5 :: v6 :: v7 :: xi a :: ls) (xi a :: st) (M) Q := wp_iload rfl rfl
set_option maxRecDepth 20000 in
theorem w127_255 {ls st : List xV} {M : xM} {Q : Option xV → xM → Prop} {a : Int} {b : Int} : Wp 127 255 (ls) (xi b :: xi a :: st) (M) Q = (¬ xn b = 0 ∧ Wp 127 256 (ls) (xi ((xn a).tdiv (xn b)) :: st) (M) Q) := wp_div rfl
set_option maxRecDepth 20000 in
theorem w127_256 {ls : List xV} {M : xM} {Q : Option xV → xM → Prop} {a : Int} : Wp 127 256 (ls) ([xi a]) (M) Q = Q (some (xi a)) M := wp_iret rfl
theorem wc128 {M : xM} {Q : Option xV → xM → Prop} {d0 : Nat} {a1 : Int} {a2 : Int} : Wc 128 [xr d0, xi a1, xi a2] M Q = Wp 128 0 [xr d0, xi a1, xi a2, xj, xj, xj] [] M Q := rfl
theorem w128_0 {ls st : List xV} {M : xM} {Q : Option xV → xM → Prop} {a : Int} {v0 : xV} : Wp 128 0 (v0 :: xi a :: ls) (st) (M) Q = Wp 128 1 (v0 :: xi a :: ls) (xi a :: st) (M) Q := wp_iload rfl rfl
theorem w128_1 {ls st : List xV} {M : xM} {Q : Option xV → xM → Prop}  : Wp 128 1 (ls) (st) (M) Q = Wp 128 2 (ls) (xi 0 :: st) (M) Q := wp_const rfl
theorem w128_2 {ls st : List xV} {M : xM} {Q : Option xV → xM → Prop}  : Wp 128 2 (ls) (st) (M) Q = Wp 128 5 (ls) (xi 9999 :: st) (M) Q := wp_const rfl
theorem w128_5 {ls : List xV} {M : xM} {Q : Option xV → xM → Prop} {a0 : Int} {a1 : Int} {a2 : Int} : Wp 128 5 (ls) (xi a2 :: xi a1 :: xi a0 :: []) (M) Q = Wc 79 [xi a0, xi a1, xi a2] M (fun r M2 => Wp 128 8 (ls) (r.toList ++ ([])) M2 Q) := wp_cS rfl rfl (Nat.le_of_ble_eq_true rfl) (Nat.le_of_ble_eq_true rfl) rfl rfl
theorem w128_8 {ls st : List xV} {M : xM} {Q : Option xV → xM → Prop} {a : Int} (ha : xG a) : Wp 128 8 (ls) (xi a :: st) (M) Q = ((a = 0 → Wp 128 20 (ls) (st) (M) Q) ∧ (¬ (a = 0) → Wp 128 11 (ls) (st) (M) Q)) := wp_if_eq rfl ha
theorem w128_11 {ls st : List xV} {M : xM} {Q : Option xV → xM → Prop} {a : Int} {v0 : xV} {v1 : xV} : Wp 128 11 (v0 :: v1 :: xi a :: ls) (st) (M) Q = Wp 128 12 (v0 :: v1 :: xi a :: ls) (xi a :: st) (M) Q := wp_iload rfl rfl
theorem w128_12 {ls st : List xV} {M : xM} {Q : Option xV → xM → Prop}  : Wp 128 12 (ls) (st) (M) Q = Wp 128 13 (ls) (xi 0 :: st) (M) Q := wp_const rfl
theorem w128_13 {ls st : List xV} {M : xM} {Q : Option xV → xM → Prop}  : Wp 128 13 (ls) (st) (M) Q = Wp 128 14 (ls) (xi 1 :: st) (M) Q := wp_const rfl
theorem w128_14 {ls : List xV} {M : xM} {Q : Option xV → xM → Prop} {a0 : Int} {a1 : Int} {a2 : Int} : Wp 128 14 (ls) (xi a2 :: xi a1 :: xi a0 :: []) (M) Q = Wc 79 [xi a0, xi a1, xi a2] M (fun r M2 => Wp 128 17 (ls) (r.toList ++ ([])) M2 Q) := wp_cS rfl rfl (Nat.le_of_ble_eq_true rfl) (Nat.le_of_ble_eq_true rfl) rfl rfl
theorem w128_17 {ls st : List xV} {M : xM} {Q : Option xV → xM → Prop} {a : Int} (ha : xG a) : Wp 128 17 (ls) (xi a :: st) (M) Q = ((¬ a = 0 → Wp 128 22 (ls) (st) (M) Q) ∧ (¬ (¬ a = 0) → Wp 128 20 (ls) (st) (M) Q)) := wp_if_ne rfl ha
theorem w128_20 {ls st : List xV} {M : xM} {Q : Option xV → xM → Prop}  : Wp 128 20 (ls) (st) (M) Q = Wp 128 21 (ls) (xi (-1) :: st) (M) Q := wp_const rfl
theorem w128_21 {ls : List xV} {M : xM} {Q : Option xV → xM → Prop} {a : Int} : Wp 128 21 (ls) ([xi a]) (M) Q = Q (some (xi a)) M := wp_iret rfl
theorem w128_22 {ls st : List xV} {M : xM} {Q : Option xV → xM → Prop}  : Wp 128 22 (ls) (st) (M) Q = Wp 128 23 (ls) (xi 0 :: st) (M) Q := wp_const rfl
theorem w128_23 {ls st : List xV} {M : xM} {Q : Option xV → xM → Prop} {a : Int} {v0 : xV} {v1 : xV} {v2 : xV} {w : xV} : Wp 128 23 (v0 :: v1 :: v2 :: w :: ls) (xi a :: st) (M) Q = Wp 128 24 (v0 :: v1 :: xjl v2 :: xi a :: ls) (st) (M) Q := wp_istore rfl rfl
theorem w128_24 {ls st : List xV} {M : xM} {Q : Option xV → xM → Prop} {a : Int} {v0 : xV} {v1 : xV} {v2 : xV} : Wp 128 24 (v0 :: v1 :: v2 :: xi a :: ls) (st) (M) Q = Wp 128 25 (v0 :: v1 :: v2 :: xi a :: ls) (xi a :: st) (M) Q := wp_iload rfl rfl
theorem w128_25 {ls st : List xV} {M : xM} {Q : Option xV → xM → Prop}  : Wp 128 25 (ls) (st) (M) Q = Wp 128 26 (ls) (xi 5 :: st) (M) Q := wp_const rfl
theorem w128_26 {ls st : List xV} {M : xM} {Q : Option xV → xM → Prop} {a : Int} {b : Int} (ha : xG a) (hb : xG b) : Wp 128 26 (ls) (xi b :: xi a :: st) (M) Q = ((b ≤ a → Wp 128 86 (ls) (st) (M) Q) ∧ (¬ (b ≤ a) → Wp 128 29 (ls) (st) (M) Q)) := wp_cmp_ge rfl ha hb
theorem w128_29 {ls st : List xV} {M : xM} {Q : Option xV → xM → Prop} {d : Nat} : Wp 128 29 (xr d :: ls) (st) (M) Q = Wp 128 30 (xr d :: ls) (xr d :: st) (M) Q := wp_aload rfl rfl
theorem w128_30 {ls st : List xV} {M : xM} {Q : Option xV → xM → Prop} {d : Nat} (hc : x_c d = 9) : Wp 128 30 (ls) (xr d :: st) (M) Q = Wp 128 33 (ls) (xr (x_r d 25) :: st) (M) Q := wp_getr rfl hc
theorem w128_33 {ls st : List xV} {M : xM} {Q : Option xV → xM → Prop} {a : Int} {v0 : xV} {v1 : xV} {v2 : xV} : Wp 128 33 (v0 :: v1 :: v2 :: xi a :: ls) (st) (M) Q = Wp 128 34 (v0 :: v1 :: v2 :: xi a :: ls) (xi a :: st) (M) Q := wp_iload rfl rfl
theorem w128_34 {ls st : List xV} {M : xM} {Q : Option xV → xM → Prop} {d : Nat} : Wp 128 34 (xr d :: ls) (st) (M) Q = Wp 128 35 (xr d :: ls) (xr d :: st) (M) Q := wp_aload rfl rfl
theorem w128_35 {ls st : List xV} {M : xM} {Q : Option xV → xM → Prop} {d : Nat} (hc : x_c d = 9) : Wp 128 35 (ls) (xr d :: st) (M) Q = Wp 128 38 (ls) (xr (x_r d 5) :: st) (M) Q := wp_getr rfl hc
theorem w128_38 {ls st : List xV} {M : xM} {Q : Option xV → xM → Prop} {a : Int} {v0 : xV} {v1 : xV} {v2 : xV} : Wp 128 38 (v0 :: v1 :: v2 :: xi a :: ls) (st) (M) Q = Wp 128 39 (v0 :: v1 :: v2 :: xi a :: ls) (xi a :: st) (M) Q := wp_iload rfl rfl
theorem w128_39 {ls st : List xV} {M : xM} {Q : Option xV → xM → Prop} {a : Int} {d : Nat} (hc : x_c d = 20) (hn : x_n d = 7) (h1 : 0 ≤ a) (h2 : a < 7) : Wp 128 39 (ls) (xi a :: xr d :: st) (M) Q = Wp 128 40 (ls) (xi (M d a) :: st) (M) Q := wp_ald rfl hc h1 (by rw [hn]; exact h2)
theorem w128_40 {ls st : List xV} {M : xM} {Q : Option xV → xM → Prop} {a : Int} {d : Nat} {x : Int} (hc : x_c d = 20) (hn : x_n d = 5) (h1 : 0 ≤ a) (h2 : a < 5) : Wp 128 40 (ls) (xi x :: xi a :: xr d :: st) (M) Q = Wp 128 41 (ls) (st) (xup M d a x) Q := wp_iast rfl hc h1 (by rw [hn]; exact h2)
theorem w128_41 {ls st : List xV} {M : xM} {Q : Option xV → xM → Prop}  : Wp 128 41 (ls) (st) (M) Q = Wp 128 44 (ls) (xl 7919 :: st) (M) Q := wp_lconst rfl
theorem w128_44 {ls st : List xV} {M : xM} {Q : Option xV → xM → Prop} {a : Int} {v0 : xV} : Wp 128 44 (v0 :: xi a :: ls) (st) (M) Q = Wp 128 45 (v0 :: xi a :: ls) (xi a :: st) (M) Q := wp_iload rfl rfl
theorem w128_45 {ls st : List xV} {M : xM} {Q : Option xV → xM → Prop} {a : Int} : Wp 128 45 (ls) (xi a :: st) (M) Q = Wp 128 46 (ls) (xl (xn a) :: st) (M) Q := wp_i2l' rfl
theorem w128_46 {ls st : List xV} {M : xM} {Q : Option xV → xM → Prop} {a : Int} {b : Int} : Wp 128 46 (ls) (xl b :: xl a :: st) (M) Q = Wp 128 47 (ls) (xl (a * b) :: st) (M) Q := wp_lbin (f := xmul) rfl
theorem w128_47 {ls st : List xV} {M : xM} {Q : Option xV → xM → Prop}  : Wp 128 47 (ls) (st) (M) Q = Wp 128 50 (ls) (xl 331 :: st) (M) Q := wp_lconst rfl
theorem w128_50 {ls st : List xV} {M : xM} {Q : Option xV → xM → Prop} {a : Int} {v0 : xV} {v1 : xV} {v2 : xV} : Wp 128 50 (v0 :: v1 :: v2 :: xi a :: ls) (st) (M) Q = Wp 128 51 (v0 :: v1 :: v2 :: xi a :: ls) (xi a :: st) (M) Q := wp_iload rfl rfl
theorem w128_51 {ls st : List xV} {M : xM} {Q : Option xV → xM → Prop} {a : Int} : Wp 128 51 (ls) (xi a :: st) (M) Q = Wp 128 52 (ls) (xl (xn a) :: st) (M) Q := wp_i2l' rfl
theorem w128_52 {ls st : List xV} {M : xM} {Q : Option xV → xM → Prop} {a : Int} {b : Int} : Wp 128 52 (ls) (xl b :: xl a :: st) (M) Q = Wp 128 53 (ls) (xl (a * b) :: st) (M) Q := wp_lbin (f := xmul) rfl
theorem w128_53 {ls st : List xV} {M : xM} {Q : Option xV → xM → Prop} {a : Int} {b : Int} : Wp 128 53 (ls) (xl b :: xl a :: st) (M) Q = Wp 128 54 (ls) (xl (a + b) :: st) (M) Q := wp_lbin (f := xadd) rfl
theorem w128_54 {ls st : List xV} {M : xM} {Q : Option xV → xM → Prop}  : Wp 128 54 (ls) (st) (M) Q = Wp 128 55 (ls) (xl 1 :: st) (M) Q := wp_lconst rfl
theorem w128_55 {ls st : List xV} {M : xM} {Q : Option xV → xM → Prop} {a : Int} {b : Int} : Wp 128 55 (ls) (xl b :: xl a :: st) (M) Q = Wp 128 56 (ls) (xl (a + b) :: st) (M) Q := wp_lbin (f := xadd) rfl
theorem w128_56 {ls st : List xV} {M : xM} {Q : Option xV → xM → Prop} {a : Int} {v0 : xV} {v1 : xV} {v2 : xV} {v3 : xV} {w : xV} {w2 : xV} : Wp 128 56 (v0 :: v1 :: v2 :: v3 :: w :: w2 :: ls) (xl a :: st) (M) Q = Wp 128 58 (v0 :: v1 :: v2 :: xjl v3 :: xl a :: xj :: ls) (st) (M) Q := wp_lstore rfl rfl
theorem w128_58 {ls st : List xV} {M : xM} {Q : Option xV → xM → Prop} {d : Nat} : Wp 128 58 (xr d :: ls) (st) (M) Q = Wp 128 59 (xr d :: ls) (xr d :: st) (M) Q := wp_aload rfl rfl
theorem w128_59 {ls st : List xV} {M : xM} {Q : Option xV → xM → Prop} {d : Nat} (hc : x_c d = 9) : Wp 128 59 (ls) (xr d :: st) (M) Q = Wp 128 62 (ls) (xr (x_r d 5) :: st) (M) Q := wp_getr rfl hc
theorem w128_62 {ls st : List xV} {M : xM} {Q : Option xV → xM → Prop} {a : Int} {v0 : xV} {v1 : xV} {v2 : xV} : Wp 128 62 (v0 :: v1 :: v2 :: xi a :: ls) (st) (M) Q = Wp 128 63 (v0 :: v1 :: v2 :: xi a :: ls) (xi a :: st) (M) Q := wp_iload rfl rfl
theorem w128_63 {ls st : List xV} {M : xM} {Q : Option xV → xM → Prop} {a : Int} {v0 : xV} {v1 : xV} {v2 : xV} {v3 : xV} : Wp 128 63 (v0 :: v1 :: v2 :: v3 :: xl a :: ls) (st) (M) Q = Wp 128 65 (v0 :: v1 :: v2 :: v3 :: xl a :: ls) (xl a :: st) (M) Q := wp_lload rfl rfl
theorem w128_65 {ls st : List xV} {M : xM} {Q : Option xV → xM → Prop} {a : Int} {v0 : xV} {v1 : xV} {v2 : xV} {v3 : xV} : Wp 128 65 (v0 :: v1 :: v2 :: v3 :: xl a :: ls) (st) (M) Q = Wp 128 67 (v0 :: v1 :: v2 :: v3 :: xl a :: ls) (xl a :: st) (M) Q := wp_lload rfl rfl
theorem w128_67 {ls st : List xV} {M : xM} {Q : Option xV → xM → Prop} {a : Int} {b : Int} : Wp 128 67 (ls) (xl b :: xl a :: st) (M) Q = Wp 128 68 (ls) (xl (a * b) :: st) (M) Q := wp_lbin (f := xmul) rfl
theorem w128_68 {ls st : List xV} {M : xM} {Q : Option xV → xM → Prop}  : Wp 128 68 (ls) (st) (M) Q = Wp 128 71 (ls) (xl 65521 :: st) (M) Q := wp_lconst rfl
theorem w128_71 {ls st : List xV} {M : xM} {Q : Option xV → xM → Prop} {a : Int} {b : Int} : Wp 128 71 (ls) (xl b :: xl a :: st) (M) Q = (¬ xnl64 b = 0 ∧ Wp 128 72 (ls) (xl ((xnl64 a).tmod (xnl64 b)) :: st) (M) Q) := wp_lrem rfl
theorem w128_72 {ls st : List xV} {M : xM} {Q : Option xV → xM → Prop} {a : Int} : Wp 128 72 (ls) (xl a :: st) (M) Q = Wp 128 73 (ls) (xi a :: st) (M) Q := wp_l2i rfl
theorem w128_73 {ls st : List xV} {M : xM} {Q : Option xV → xM → Prop}  : Wp 128 73 (ls) (st) (M) Q = Wp 128 75 (ls) (xi 8 :: st) (M) Q := wp_const rfl
theorem w128_75 {ls st : List xV} {M : xM} {Q : Option xV → xM → Prop} {a : Int} {b : Int} : Wp 128 75 (ls) (xi b :: xi a :: st) (M) Q = (¬ xn b = 0 ∧ Wp 128 76 (ls) (xi ((xn a).tdiv (xn b)) :: st) (M) Q) := wp_div rfl
theorem w128_76 {ls st : List xV} {M : xM} {Q : Option xV → xM → Prop}  : Wp 128 76 (ls) (st) (M) Q = Wp 128 78 (ls) (xi 31 :: st) (M) Q := wp_const rfl
theorem w128_78 {ls st : List xV} {M : xM} {Q : Option xV → xM → Prop} {a : Int} {b : Int} : Wp 128 78 (ls) (xi b :: xi a :: st) (M) Q = (¬ xn b = 0 ∧ Wp 128 79 (ls) (xi ((xn a).tmod (xn b)) :: st) (M) Q) := wp_rem rfl
theorem w128_79 {ls st : List xV} {M : xM} {Q : Option xV → xM → Prop} {a : Int} {d : Nat} {x : Int} (hc : x_c d = 20) (hn : x_n d = 7) (h1 : 0 ≤ a) (h2 : a < 7) : Wp 128 79 (ls) (xi x :: xi a :: xr d :: st) (M) Q = Wp 128 80 (ls) (st) (xup M d a x) Q := wp_iast rfl hc h1 (by rw [hn]; exact h2)
theorem w128_80 {ls st : List xV} {M : xM} {Q : Option xV → xM → Prop} {a : Int} {v0 : xV} {v1 : xV} {v2 : xV} : Wp 128 80 (v0 :: v1 :: v2 :: xi a :: ls) (st) (M) Q = Wp 128 83 (v0 :: v1 :: xjl v2 :: xi (a + 1) :: ls) (st) (M) Q := wp_iinc rfl rfl rfl
theorem w128_83 {ls st : List xV} {M : xM} {Q : Option xV → xM → Prop}  : Wp 128 83 (ls) (st) (M) Q = Wp 128 24 (ls) (st) (M) Q := wp_goto rfl
theorem w128_86 {ls st : List xV} {M : xM} {Q : Option xV → xM → Prop} {d : Nat} : Wp 128 86 (xr d :: ls) (st) (M) Q = Wp 128 87 (xr d :: ls) (xr d :: st) (M) Q := wp_aload rfl rfl
theorem w128_87 {ls : List xV} {M : xM} {Q : Option xV → xM → Prop} {d0 : Nat} (hc : x_c d0 = 9) : Wp 128 87 (ls) (xr d0 :: []) (M) Q = Wc 112 [xr d0] M (fun r M2 => Wp 128 90 (ls) (r.toList ++ ([])) M2 Q) := wp_cV rfl rfl hc (Nat.le_of_ble_eq_true rfl) (Nat.le_of_ble_eq_true rfl) rfl rfl
theorem w128_90 {ls st : List xV} {M : xM} {Q : Option xV → xM → Prop}  : Wp 128 90 (ls) (st) (M) Q = Wp 128 91 (ls) (xi 0 :: st) (M) Q := wp_const rfl
theorem w128_91 {ls st : List xV} {M : xM} {Q : Option xV → xM → Prop} {a : Int} {v0 : xV} {v1 : xV} {v2 : xV} {w : xV} : Wp 128 91 (v0 :: v1 :: v2 :: w :: ls) (xi a :: st) (M) Q = Wp 128 92 (v0 :: v1 :: xjl v2 :: xi a :: ls) (st) (M) Q := wp_istore rfl rfl
theorem w128_92 {ls st : List xV} {M : xM} {Q : Option xV → xM → Prop}  : Wp 128 92 (ls) (st) (M) Q = Wp 128 93 (ls) (xi 0 :: st) (M) Q := wp_const rfl
theorem w128_93 {ls st : List xV} {M : xM} {Q : Option xV → xM → Prop} {a : Int} {v0 : xV} {v1 : xV} {v2 : xV} {v3 : xV} {w : xV} : Wp 128 93 (v0 :: v1 :: v2 :: v3 :: w :: ls) (xi a :: st) (M) Q = Wp 128 95 (v0 :: v1 :: v2 :: xjl v3 :: xi a :: ls) (st) (M) Q := wp_istore rfl rfl
theorem w128_95 {ls st : List xV} {M : xM} {Q : Option xV → xM → Prop} {a : Int} {v0 : xV} {v1 : xV} {v2 : xV} {v3 : xV} : Wp 128 95 (v0 :: v1 :: v2 :: v3 :: xi a :: ls) (st) (M) Q = Wp 128 97 (v0 :: v1 :: v2 :: v3 :: xi a :: ls) (xi a :: st) (M) Q := wp_iload rfl rfl
theorem w128_97 {ls st : List xV} {M : xM} {Q : Option xV → xM → Prop} {d : Nat} : Wp 128 97 (xr d :: ls) (st) (M) Q = Wp 128 98 (xr d :: ls) (xr d :: st) (M) Q := wp_aload rfl rfl
theorem w128_98 {ls st : List xV} {M : xM} {Q : Option xV → xM → Prop} {d : Nat} (hc : x_c d = 9) : Wp 128 98 (ls) (xr d :: st) (M) Q = Wp 128 101 (ls) (xr (x_r d 2) :: st) (M) Q := wp_getr rfl hc
theorem w128_101 {ls st : List xV} {M : xM} {Q : Option xV → xM → Prop}  : Wp 128 101 (ls) (st) (M) Q = Wp 128 102 (ls) (xi 2 :: st) (M) Q := wp_const rfl
theorem w128_102 {ls st : List xV} {M : xM} {Q : Option xV → xM → Prop} {a : Int} {d : Nat} (hc : x_c d = 20) (hn : x_n d = 25) (h1 : 0 ≤ a) (h2 : a < 25) : Wp 128 102 (ls) (xi a :: xr d :: st) (M) Q = Wp 128 103 (ls) (xi (M d a) :: st) (M) Q := wp_ald rfl hc h1 (by rw [hn]; exact h2)
theorem w128_103 {ls st : List xV} {M : xM} {Q : Option xV → xM → Prop} {a : Int} {b : Int} (ha : xG a) (hb : xG b) : Wp 128 103 (ls) (xi b :: xi a :: st) (M) Q = ((b ≤ a → Wp 128 153 (ls) (st) (M) Q) ∧ (¬ (b ≤ a) → Wp 128 106 (ls) (st) (M) Q)) := wp_cmp_ge rfl ha hb
theorem w128_106 {ls st : List xV} {M : xM} {Q : Option xV → xM → Prop}  : Wp 128 106 (ls) (st) (M) Q = Wp 128 107 (ls) (xi 0 :: st) (M) Q := wp_const rfl
theorem w128_107 {ls st : List xV} {M : xM} {Q : Option xV → xM → Prop} {a : Int} {v0 : xV} {v1 : xV} {v2 : xV} {v3 : xV} {v4 : xV} {w : xV} : Wp 128 107 (v0 :: v1 :: v2 :: v3 :: v4 :: w :: ls) (xi a :: st) (M) Q = Wp 128 109 (v0 :: v1 :: v2 :: v3 :: xjl v4 :: xi a :: ls) (st) (M) Q := wp_istore rfl rfl
theorem w128_109 {ls st : List xV} {M : xM} {Q : Option xV → xM → Prop} {a : Int} {v0 : xV} {v1 : xV} {v2 : xV} {v3 : xV} {v4 : xV} : Wp 128 109 (v0 :: v1 :: v2 :: v3 :: v4 :: xi a :: ls) (st) (M) Q = Wp 128 111 (v0 :: v1 :: v2 :: v3 :: v4 :: xi a :: ls) (xi a :: st) (M) Q := wp_iload rfl rfl
theorem w128_111 {ls st : List xV} {M : xM} {Q : Option xV → xM → Prop} {d : Nat} : Wp 128 111 (xr d :: ls) (st) (M) Q = Wp 128 112 (xr d :: ls) (xr d :: st) (M) Q := wp_aload rfl rfl
theorem w128_112 {ls st : List xV} {M : xM} {Q : Option xV → xM → Prop} {d : Nat} (hc : x_c d = 9) : Wp 128 112 (ls) (xr d :: st) (M) Q = Wp 128 115 (ls) (xr (x_r d 2) :: st) (M) Q := wp_getr rfl hc
theorem w128_115 {ls st : List xV} {M : xM} {Q : Option xV → xM → Prop}  : Wp 128 115 (ls) (st) (M) Q = Wp 128 116 (ls) (xi 1 :: st) (M) Q := wp_const rfl
theorem w128_116 {ls st : List xV} {M : xM} {Q : Option xV → xM → Prop} {a : Int} {d : Nat} (hc : x_c d = 20) (hn : x_n d = 25) (h1 : 0 ≤ a) (h2 : a < 25) : Wp 128 116 (ls) (xi a :: xr d :: st) (M) Q = Wp 128 117 (ls) (xi (M d a) :: st) (M) Q := wp_ald rfl hc h1 (by rw [hn]; exact h2)
theorem w128_117 {ls st : List xV} {M : xM} {Q : Option xV → xM → Prop} {a : Int} {b : Int} (ha : xG a) (hb : xG b) : Wp 128 117 (ls) (xi b :: xi a :: st) (M) Q = ((b ≤ a → Wp 128 147 (ls) (st) (M) Q) ∧ (¬ (b ≤ a) → Wp 128 120 (ls) (st) (M) Q)) := wp_cmp_ge rfl ha hb
theorem w128_120 {ls st : List xV} {M : xM} {Q : Option xV → xM → Prop} {a : Int} {v0 : xV} {v1 : xV} {v2 : xV} : Wp 128 120 (v0 :: v1 :: v2 :: xi a :: ls) (st) (M) Q = Wp 128 121 (v0 :: v1 :: v2 :: xi a :: ls) (xi a :: st) (M) Q := wp_iload rfl rfl
theorem w128_121 {ls st : List xV} {M : xM} {Q : Option xV → xM → Prop} {d : Nat} : Wp 128 121 (xr d :: ls) (st) (M) Q = Wp 128 122 (xr d :: ls) (xr d :: st) (M) Q := wp_aload rfl rfl
theorem w128_122 {ls st : List xV} {M : xM} {Q : Option xV → xM → Prop} {a : Int} {v0 : xV} {v1 : xV} {v2 : xV} {v3 : xV} : Wp 128 122 (v0 :: v1 :: v2 :: v3 :: xi a :: ls) (st) (M) Q = Wp 128 124 (v0 :: v1 :: v2 :: v3 :: xi a :: ls) (xi a :: st) (M) Q := wp_iload rfl rfl
theorem w128_124 {ls st : List xV} {M : xM} {Q : Option xV → xM → Prop} {a : Int} {v0 : xV} {v1 : xV} {v2 : xV} {v3 : xV} {v4 : xV} : Wp 128 124 (v0 :: v1 :: v2 :: v3 :: v4 :: xi a :: ls) (st) (M) Q = Wp 128 126 (v0 :: v1 :: v2 :: v3 :: v4 :: xi a :: ls) (xi a :: st) (M) Q := wp_iload rfl rfl
theorem w128_126 {ls : List xV} {M : xM} {Q : Option xV → xM → Prop} {a1 : Int} {a2 : Int} {d0 : Nat} {s0 : xV} (hc : x_c d0 = 9) : Wp 128 126 (ls) (xi a2 :: xi a1 :: xr d0 :: s0 :: []) (M) Q = Wc 115 [xr d0, xi a1, xi a2] M (fun r M2 => Wp 128 129 (ls) (r.toList ++ (s0 :: [])) M2 Q) := wp_cV rfl rfl hc (Nat.le_of_ble_eq_true rfl) (Nat.le_of_ble_eq_true rfl) rfl rfl
theorem w128_129 {ls st : List xV} {M : xM} {Q : Option xV → xM → Prop}  : Wp 128 129 (ls) (st) (M) Q = Wp 128 131 (ls) (xi (-4) :: st) (M) Q := wp_const rfl
theorem w128_131 {ls st : List xV} {M : xM} {Q : Option xV → xM → Prop} {a : Int} {b : Int} (ha : xG a) (hb : xG b) : Wp 128 131 (ls) (xi b :: xi a :: st) (M) Q = ((a = b → Wp 128 138 (ls) (st) (M) Q) ∧ (¬ (a = b) → Wp 128 134 (ls) (st) (M) Q)) := wp_cmp_eq rfl ha hb
theorem w128_134 {ls st : List xV} {M : xM} {Q : Option xV → xM → Prop}  : Wp 128 134 (ls) (st) (M) Q = Wp 128 135 (ls) (xi 1 :: st) (M) Q := wp_const rfl
theorem w128_135 {ls st : List xV} {M : xM} {Q : Option xV → xM → Prop}  : Wp 128 135 (ls) (st) (M) Q = Wp 128 139 (ls) (st) (M) Q := wp_goto rfl
theorem w128_138 {ls st : List xV} {M : xM} {Q : Option xV → xM → Prop}  : Wp 128 138 (ls) (st) (M) Q = Wp 128 139 (ls) (xi 0 :: st) (M) Q := wp_const rfl
theorem w128_139 {ls st : List xV} {M : xM} {Q : Option xV → xM → Prop} {a : Int} {b : Int} : Wp 128 139 (ls) (xi b :: xi a :: st) (M) Q = Wp 128 140 (ls) (xi (a + b) :: st) (M) Q := wp_bin (f := xadd) rfl
theorem w128_140 {ls st : List xV} {M : xM} {Q : Option xV → xM → Prop} {a : Int} {v0 : xV} {v1 : xV} {v2 : xV} {w : xV} : Wp 128 140 (v0 :: v1 :: v2 :: w :: ls) (xi a :: st) (M) Q = Wp 128 141 (v0 :: v1 :: xjl v2 :: xi a :: ls) (st) (M) Q := wp_istore rfl rfl
theorem w128_141 {ls st : List xV} {M : xM} {Q : Option xV → xM → Prop} {a : Int} {v0 : xV} {v1 : xV} {v2 : xV} {v3 : xV} {v4 : xV} : Wp 128 141 (v0 :: v1 :: v2 :: v3 :: v4 :: xi a :: ls) (st) (M) Q = Wp 128 144 (v0 :: v1 :: v2 :: v3 :: xjl v4 :: xi (a + 1) :: ls) (st) (M) Q := wp_iinc rfl rfl rfl
theorem w128_144 {ls st : List xV} {M : xM} {Q : Option xV → xM → Prop}  : Wp 128 144 (ls) (st) (M) Q = Wp 128 109 (ls) (st) (M) Q := wp_goto rfl
theorem w128_147 {ls st : List xV} {M : xM} {Q : Option xV → xM → Prop} {a : Int} {v0 : xV} {v1 : xV} {v2 : xV} {v3 : xV} : Wp 128 147 (v0 :: v1 :: v2 :: v3 :: xi a :: ls) (st) (M) Q = Wp 128 150 (v0 :: v1 :: v2 :: xjl v3 :: xi (a + 1) :: ls) (st) (M) Q := wp_iinc rfl rfl rfl
theorem w128_150 {ls st : List xV} {M : xM} {Q : Option xV → xM → Prop}  : Wp 128 150 (ls) (st) (M) Q = Wp 128 95 (ls) (st) (M) Q := wp_goto rfl
theorem w128_153 {ls st : List xV} {M : xM} {Q : Option xV → xM → Prop}  : Wp 128 153 (ls) (st) (M) Q = Wp 128 154 (ls) (xi 0 :: st) (M) Q := wp_const rfl
theorem w128_154 {ls st : List xV} {M : xM} {Q : Option xV → xM → Prop} {a : Int} {v0 : xV} {v1 : xV} {v2 : xV} {v3 : xV} {w : xV} : Wp 128 154 (v0 :: v1 :: v2 :: v3 :: w :: ls) (xi a :: st) (M) Q = Wp 128 156 (v0 :: v1 :: v2 :: xjl v3 :: xi a :: ls) (st) (M) Q := wp_istore rfl rfl
set_option maxRecDepth 20000 in
theorem w128_156 {ls st : List xV} {M : xM} {Q : Option xV → xM → Prop} {a : Int} {v0 : xV} {v1 : xV} {v2 : xV} {v3 : xV} : Wp 128 156 (v0 :: v1 :: v2 :: v3 :: xi a :: ls) (st) (M) Q = Wp 128 158 (v0 :: v1 :: v2 :: v3 :: xi a :: ls) (xi a :: st) (M) Q := wp_iload rfl rfl
set_option maxRecDepth 20000 in
theorem w128_158 {ls st : List xV} {M : xM} {Q : Option xV → xM → Prop}  : Wp 128 158 (ls) (st) (M) Q = Wp 128 159 (ls) (xi 5 :: st) (M) Q := wp_const rfl
set_option maxRecDepth 20000 in
theorem w128_159 {ls st : List xV} {M : xM} {Q : Option xV → xM → Prop} {a : Int} {b : Int} (ha : xG a) (hb : xG b) : Wp 128 159 (ls) (xi b :: xi a :: st) (M) Q = ((b ≤ a → Wp 128 182 (ls) (st) (M) Q) ∧ (¬ (b ≤ a) → Wp 128 162 (ls) (st) (M) Q)) := wp_cmp_ge rfl ha hb
set_option maxRecDepth 20000 in
theorem w128_162 {ls st : List xV} {M : xM} {Q : Option xV → xM → Prop} {d : Nat} : Wp 128 162 (xr d :: ls) (st) (M) Q = Wp 128 163 (xr d :: ls) (xr d :: st) (M) Q := wp_aload rfl rfl
set_option maxRecDepth 20000 in
theorem w128_163 {ls st : List xV} {M : xM} {Q : Option xV → xM → Prop} {d : Nat} (hc : x_c d = 9) : Wp 128 163 (ls) (xr d :: st) (M) Q = Wp 128 166 (ls) (xr (x_r d 5) :: st) (M) Q := wp_getr rfl hc
set_option maxRecDepth 20000 in
theorem w128_166 {ls st : List xV} {M : xM} {Q : Option xV → xM → Prop} {a : Int} {v0 : xV} {v1 : xV} {v2 : xV} {v3 : xV} : Wp 128 166 (v0 :: v1 :: v2 :: v3 :: xi a :: ls) (st) (M) Q = Wp 128 168 (v0 :: v1 :: v2 :: v3 :: xi a :: ls) (xi a :: st) (M) Q := wp_iload rfl rfl
set_option maxRecDepth 20000 in
theorem w128_168 {ls st : List xV} {M : xM} {Q : Option xV → xM → Prop} {d : Nat} : Wp 128 168 (xr d :: ls) (st) (M) Q = Wp 128 169 (xr d :: ls) (xr d :: st) (M) Q := wp_aload rfl rfl
set_option maxRecDepth 20000 in
theorem w128_169 {ls st : List xV} {M : xM} {Q : Option xV → xM → Prop} {d : Nat} (hc : x_c d = 9) : Wp 128 169 (ls) (xr d :: st) (M) Q = Wp 128 172 (ls) (xr (x_r d 25) :: st) (M) Q := wp_getr rfl hc
set_option maxRecDepth 20000 in
theorem w128_172 {ls st : List xV} {M : xM} {Q : Option xV → xM → Prop} {a : Int} {v0 : xV} {v1 : xV} {v2 : xV} {v3 : xV} : Wp 128 172 (v0 :: v1 :: v2 :: v3 :: xi a :: ls) (st) (M) Q = Wp 128 174 (v0 :: v1 :: v2 :: v3 :: xi a :: ls) (xi a :: st) (M) Q := wp_iload rfl rfl
set_option maxRecDepth 20000 in
theorem w128_174 {ls st : List xV} {M : xM} {Q : Option xV → xM → Prop} {a : Int} {d : Nat} (hc : x_c d = 20) (hn : x_n d = 5) (h1 : 0 ≤ a) (h2 : a < 5) : Wp 128 174 (ls) (xi a :: xr d :: st) (M) Q = Wp 128 175 (ls) (xi (M d a) :: st) (M) Q := wp_ald rfl hc h1 (by rw [hn]; exact h2)
set_option maxRecDepth 20000 in
theorem w128_175 {ls st : List xV} {M : xM} {Q : Option xV → xM → Prop} {a : Int} {d : Nat} {x : Int} (hc : x_c d = 20) (hn : x_n d = 7) (h1 : 0 ≤ a) (h2 : a < 7) : Wp 128 175 (ls) (xi x :: xi a :: xr d :: st) (M) Q = Wp 128 176 (ls) (st) (xup M d a x) Q := wp_iast rfl hc h1 (by rw [hn]; exact h2)
set_option maxRecDepth 20000 in
theorem w128_176 {ls st : List xV} {M : xM} {Q : Option xV → xM → Prop} {a : Int} {v0 : xV} {v1 : xV} {v2 : xV} {v3 : xV} : Wp 128 176 (v0 :: v1 :: v2 :: v3 :: xi a :: ls) (st) (M) Q = Wp 128 179 (v0 :: v1 :: v2 :: xjl v3 :: xi (a + 1) :: ls) (st) (M) Q := wp_iinc rfl rfl rfl
set_option maxRecDepth 20000 in
theorem w128_179 {ls st : List xV} {M : xM} {Q : Option xV → xM → Prop}  : Wp 128 179 (ls) (st) (M) Q = Wp 128 156 (ls) (st) (M) Q := wp_goto rfl
set_option maxRecDepth 20000 in
theorem w128_182 {ls st : List xV} {M : xM} {Q : Option xV → xM → Prop} {a : Int} {v0 : xV} {v1 : xV} : Wp 128 182 (v0 :: v1 :: xi a :: ls) (st) (M) Q = Wp 128 183 (v0 :: v1 :: xi a :: ls) (xi a :: st) (M) Q := wp_iload rfl rfl
set_option maxRecDepth 20000 in
theorem w128_183 {ls st : List xV} {M : xM} {Q : Option xV → xM → Prop} {a : Int} (ha : xG a) : Wp 128 183 (ls) (xi a :: st) (M) Q = ((¬ a = 0 → Wp 128 193 (ls) (st) (M) Q) ∧ (¬ (¬ a = 0) → Wp 128 186 (ls) (st) (M) Q)) := wp_if_ne rfl ha
set_option maxRecDepth 20000 in
theorem w128_186 {ls st : List xV} {M : xM} {Q : Option xV → xM → Prop} {d : Nat} : Wp 128 186 (xr d :: ls) (st) (M) Q = Wp 128 187 (xr d :: ls) (xr d :: st) (M) Q := wp_aload rfl rfl
set_option maxRecDepth 20000 in
theorem w128_187 {ls st : List xV} {M : xM} {Q : Option xV → xM → Prop} {d : Nat} (hc : x_c d = 9) : Wp 128 187 (ls) (xr d :: st) (M) Q = Wp 128 190 (ls) (xi (M d 19) :: st) (M) Q := wp_getf rfl hc
set_option maxRecDepth 20000 in
theorem w128_190 {ls st : List xV} {M : xM} {Q : Option xV → xM → Prop}  : Wp 128 190 (ls) (st) (M) Q = Wp 128 194 (ls) (st) (M) Q := wp_goto rfl
set_option maxRecDepth 20000 in
theorem w128_193 {ls st : List xV} {M : xM} {Q : Option xV → xM → Prop} {a : Int} {v0 : xV} {v1 : xV} {v2 : xV} : Wp 128 193 (v0 :: v1 :: v2 :: xi a :: ls) (st) (M) Q = Wp 128 194 (v0 :: v1 :: v2 :: xi a :: ls) (xi a :: st) (M) Q := wp_iload rfl rfl
set_option maxRecDepth 20000 in
theorem w128_194 {ls : List xV} {M : xM} {Q : Option xV → xM → Prop} {a : Int} : Wp 128 194 (ls) ([xi a]) (M) Q = Q (some (xi a)) M := wp_iret rfl
theorem wc129 {M : xM} {Q : Option xV → xM → Prop} {d0 : Nat} : Wc 129 [xr d0] M Q = Wp 129 0 [xr d0, xj] [] M Q := rfl
theorem w129_0 {ls st : List xV} {M : xM} {Q : Option xV → xM → Prop} {d : Nat} : Wp 129 0 (xr d :: ls) (st) (M) Q = Wp 129 1 (xr d :: ls) (xr d :: st) (M) Q := wp_aload rfl rfl
theorem w129_1 {ls st : List xV} {M : xM} {Q : Option xV → xM → Prop} {d : Nat} (hc : x_c d = 9) : Wp 129 1 (ls) (xr d :: st) (M) Q = Wp 129 4 (ls) (xi (M d 9) :: st) (M) Q := wp_getf rfl hc
theorem w129_4 {ls st : List xV} {M : xM} {Q : Option xV → xM → Prop}  : Wp 129 4 (ls) (st) (M) Q = Wp 129 5 (ls) (xi 2 :: st) (M) Q := wp_const rfl
theorem w129_5 {ls st : List xV} {M : xM} {Q : Option xV → xM → Prop} {a : Int} {b : Int} (ha : xG a) (hb : xG b) : Wp 129 5 (ls) (xi b :: xi a :: st) (M) Q = ((¬ a = b → Wp 129 11 (ls) (st) (M) Q) ∧ (¬ (¬ a = b) → Wp 129 8 (ls) (st) (M) Q)) := wp_cmp_ne rfl ha hb
theorem w129_8 {ls st : List xV} {M : xM} {Q : Option xV → xM → Prop}  : Wp 129 8 (ls) (st) (M) Q = Wp 129 10 (ls) (xi (-3) :: st) (M) Q := wp_const rfl
theorem w129_10 {ls : List xV} {M : xM} {Q : Option xV → xM → Prop} {a : Int} : Wp 129 10 (ls) ([xi a]) (M) Q = Q (some (xi a)) M := wp_iret rfl
theorem w129_11 {ls st : List xV} {M : xM} {Q : Option xV → xM → Prop}  : Wp 129 11 (ls) (st) (M) Q = Wp 129 12 (ls) (xi 0 :: st) (M) Q := wp_const rfl
theorem w129_12 {ls st : List xV} {M : xM} {Q : Option xV → xM → Prop} {a : Int} {v0 : xV} {w : xV} : Wp 129 12 (v0 :: w :: ls) (xi a :: st) (M) Q = Wp 129 13 (xjl v0 :: xi a :: ls) (st) (M) Q := wp_istore rfl rfl
theorem w129_13 {ls st : List xV} {M : xM} {Q : Option xV → xM → Prop} {a : Int} {v0 : xV} : Wp 129 13 (v0 :: xi a :: ls) (st) (M) Q = Wp 129 14 (v0 :: xi a :: ls) (xi a :: st) (M) Q := wp_iload rfl rfl
theorem w129_14 {ls st : List xV} {M : xM} {Q : Option xV → xM → Prop}  : Wp 129 14 (ls) (st) (M) Q = Wp 129 16 (ls) (xi 7 :: st) (M) Q := wp_const rfl
theorem w129_16 {ls st : List xV} {M : xM} {Q : Option xV → xM → Prop} {a : Int} {b : Int} (ha : xG a) (hb : xG b) : Wp 129 16 (ls) (xi b :: xi a :: st) (M) Q = ((b ≤ a → Wp 129 45 (ls) (st) (M) Q) ∧ (¬ (b ≤ a) → Wp 129 19 (ls) (st) (M) Q)) := wp_cmp_ge rfl ha hb
theorem w129_19 {ls st : List xV} {M : xM} {Q : Option xV → xM → Prop} {d : Nat} : Wp 129 19 (xr d :: ls) (st) (M) Q = Wp 129 20 (xr d :: ls) (xr d :: st) (M) Q := wp_aload rfl rfl
theorem w129_20 {ls st : List xV} {M : xM} {Q : Option xV → xM → Prop} {d : Nat} (hc : x_c d = 9) : Wp 129 20 (ls) (xr d :: st) (M) Q = Wp 129 23 (ls) (xr (x_r d 8) :: st) (M) Q := wp_getr rfl hc
theorem w129_23 {ls st : List xV} {M : xM} {Q : Option xV → xM → Prop}  : Wp 129 23 (ls) (st) (M) Q = Wp 129 25 (ls) (xi 7 :: st) (M) Q := wp_const rfl
theorem w129_25 {ls st : List xV} {M : xM} {Q : Option xV → xM → Prop} {d : Nat} : Wp 129 25 (xr d :: ls) (st) (M) Q = Wp 129 26 (xr d :: ls) (xr d :: st) (M) Q := wp_aload rfl rfl
theorem w129_26 {ls st : List xV} {M : xM} {Q : Option xV → xM → Prop} {d : Nat} (hc : x_c d = 9) : Wp 129 26 (ls) (xr d :: st) (M) Q = Wp 129 29 (ls) (xi (M d 9) :: st) (M) Q := wp_getf rfl hc
theorem w129_29 {ls st : List xV} {M : xM} {Q : Option xV → xM → Prop} {a : Int} {b : Int} : Wp 129 29 (ls) (xi b :: xi a :: st) (M) Q = Wp 129 30 (ls) (xi (a * b) :: st) (M) Q := wp_bin (f := xmul) rfl
theorem w129_30 {ls st : List xV} {M : xM} {Q : Option xV → xM → Prop} {a : Int} {v0 : xV} : Wp 129 30 (v0 :: xi a :: ls) (st) (M) Q = Wp 129 31 (v0 :: xi a :: ls) (xi a :: st) (M) Q := wp_iload rfl rfl
theorem w129_31 {ls st : List xV} {M : xM} {Q : Option xV → xM → Prop} {a : Int} {b : Int} : Wp 129 31 (ls) (xi b :: xi a :: st) (M) Q = Wp 129 32 (ls) (xi (a + b) :: st) (M) Q := wp_bin (f := xadd) rfl
theorem w129_32 {ls st : List xV} {M : xM} {Q : Option xV → xM → Prop} {d : Nat} : Wp 129 32 (xr d :: ls) (st) (M) Q = Wp 129 33 (xr d :: ls) (xr d :: st) (M) Q := wp_aload rfl rfl
theorem w129_33 {ls st : List xV} {M : xM} {Q : Option xV → xM → Prop} {d : Nat} (hc : x_c d = 9) : Wp 129 33 (ls) (xr d :: st) (M) Q = Wp 129 36 (ls) (xr (x_r d 5) :: st) (M) Q := wp_getr rfl hc
theorem w129_36 {ls st : List xV} {M : xM} {Q : Option xV → xM → Prop} {a : Int} {v0 : xV} : Wp 129 36 (v0 :: xi a :: ls) (st) (M) Q = Wp 129 37 (v0 :: xi a :: ls) (xi a :: st) (M) Q := wp_iload rfl rfl
theorem w129_37 {ls st : List xV} {M : xM} {Q : Option xV → xM → Prop} {a : Int} {d : Nat} (hc : x_c d = 20) (hn : x_n d = 7) (h1 : 0 ≤ a) (h2 : a < 7) : Wp 129 37 (ls) (xi a :: xr d :: st) (M) Q = Wp 129 38 (ls) (xi (M d a) :: st) (M) Q := wp_ald rfl hc h1 (by rw [hn]; exact h2)
theorem w129_38 {ls st : List xV} {M : xM} {Q : Option xV → xM → Prop} {a : Int} {d : Nat} {x : Int} (hc : x_c d = 20) (hn : x_n d = 14) (h1 : 0 ≤ a) (h2 : a < 14) : Wp 129 38 (ls) (xi x :: xi a :: xr d :: st) (M) Q = Wp 129 39 (ls) (st) (xup M d a x) Q := wp_iast rfl hc h1 (by rw [hn]; exact h2)
theorem w129_39 {ls st : List xV} {M : xM} {Q : Option xV → xM → Prop} {a : Int} {v0 : xV} : Wp 129 39 (v0 :: xi a :: ls) (st) (M) Q = Wp 129 42 (xjl v0 :: xi (a + 1) :: ls) (st) (M) Q := wp_iinc rfl rfl rfl
theorem w129_42 {ls st : List xV} {M : xM} {Q : Option xV → xM → Prop}  : Wp 129 42 (ls) (st) (M) Q = Wp 129 13 (ls) (st) (M) Q := wp_goto rfl
theorem w129_45 {ls st : List xV} {M : xM} {Q : Option xV → xM → Prop} {d : Nat} : Wp 129 45 (xr d :: ls) (st) (M) Q = Wp 129 46 (xr d :: ls) (xr d :: st) (M) Q := wp_aload rfl rfl
theorem w129_46 {ls st : List xV} {M : xM} {Q : Option xV → xM → Prop} {d : Nat} : Wp 129 46 (ls) (xr d :: st) (M) Q = Wp 129 47 (ls) (xr d :: xr d :: st) (M) Q := wp_dupA rfl
theorem w129_47 {ls st : List xV} {M : xM} {Q : Option xV → xM → Prop} {d : Nat} (hc : x_c d = 9) : Wp 129 47 (ls) (xr d :: st) (M) Q = Wp 129 50 (ls) (xi (M d 9) :: st) (M) Q := wp_getf rfl hc
theorem w129_50 {ls st : List xV} {M : xM} {Q : Option xV → xM → Prop}  : Wp 129 50 (ls) (st) (M) Q = Wp 129 51 (ls) (xi 1 :: st) (M) Q := wp_const rfl
theorem w129_51 {ls st : List xV} {M : xM} {Q : Option xV → xM → Prop} {a : Int} {b : Int} : Wp 129 51 (ls) (xi b :: xi a :: st) (M) Q = Wp 129 52 (ls) (xi (a + b) :: st) (M) Q := wp_bin (f := xadd) rfl
theorem w129_52 {ls st : List xV} {M : xM} {Q : Option xV → xM → Prop} {a : Int} {d : Nat} (hc : x_c d = 9) : Wp 129 52 (ls) (xi a :: xr d :: st) (M) Q = Wp 129 55 (ls) (st) (xup M d 9 a) Q := wp_putf rfl hc
theorem w129_55 {ls st : List xV} {M : xM} {Q : Option xV → xM → Prop} {d : Nat} : Wp 129 55 (xr d :: ls) (st) (M) Q = Wp 129 56 (xr d :: ls) (xr d :: st) (M) Q := wp_aload rfl rfl
theorem w129_56 {ls st : List xV} {M : xM} {Q : Option xV → xM → Prop} {d : Nat} (hc : x_c d = 9) : Wp 129 56 (ls) (xr d :: st) (M) Q = Wp 129 59 (ls) (xi (M d 9) :: st) (M) Q := wp_getf rfl hc
theorem w129_59 {ls : List xV} {M : xM} {Q : Option xV → xM → Prop} {a : Int} : Wp 129 59 (ls) ([xi a]) (M) Q = Q (some (xi a)) M := wp_iret rfl
theorem wc130 {M : xM} {Q : Option xV → xM → Prop} {d0 : Nat} : Wc 130 [xr d0] M Q = Wp 130 0 [xr d0, xj] [] M Q := rfl
theorem w130_0 {ls st : List xV} {M : xM} {Q : Option xV → xM → Prop} {d : Nat} : Wp 130 0 (xr d :: ls) (st) (M) Q = Wp 130 1 (xr d :: ls) (xr d :: st) (M) Q := wp_aload rfl rfl
theorem w130_1 {ls st : List xV} {M : xM} {Q : Option xV → xM → Prop} {d : Nat} (hc : x_c d = 9) : Wp 130 1 (ls) (xr d :: st) (M) Q = Wp 130 4 (ls) (xi (M d 9) :: st) (M) Q := wp_getf rfl hc
theorem w130_4 {ls st : List xV} {M : xM} {Q : Option xV → xM → Prop} {a : Int} (ha : xG a) : Wp 130 4 (ls) (xi a :: st) (M) Q = ((¬ a = 0 → Wp 130 10 (ls) (st) (M) Q) ∧ (¬ (¬ a = 0) → Wp 130 7 (ls) (st) (M) Q)) := wp_if_ne rfl ha
theorem w130_7 {ls st : List xV} {M : xM} {Q : Option xV → xM → Prop}  : Wp 130 7 (ls) (st) (M) Q = Wp 130 9 (ls) (xi (-2) :: st) (M) Q := wp_const rfl
theorem w130_9 {ls : List xV} {M : xM} {Q : Option xV → xM → Prop} {a : Int} : Wp 130 9 (ls) ([xi a]) (M) Q = Q (some (xi a)) M := wp_iret rfl
theorem w130_10 {ls st : List xV} {M : xM} {Q : Option xV → xM → Prop} {d : Nat} : Wp 130 10 (xr d :: ls) (st) (M) Q = Wp 130 11 (xr d :: ls) (xr d :: st) (M) Q := wp_aload rfl rfl
theorem w130_11 {ls st : List xV} {M : xM} {Q : Option xV → xM → Prop} {d : Nat} : Wp 130 11 (ls) (xr d :: st) (M) Q = Wp 130 12 (ls) (xr d :: xr d :: st) (M) Q := wp_dupA rfl
theorem w130_12 {ls st : List xV} {M : xM} {Q : Option xV → xM → Prop} {d : Nat} (hc : x_c d = 9) : Wp 130 12 (ls) (xr d :: st) (M) Q = Wp 130 15 (ls) (xi (M d 9) :: st) (M) Q := wp_getf rfl hc
theorem w130_15 {ls st : List xV} {M : xM} {Q : Option xV → xM → Prop}  : Wp 130 15 (ls) (st) (M) Q = Wp 130 16 (ls) (xi 1 :: st) (M) Q := wp_const rfl
theorem w130_16 {ls st : List xV} {M : xM} {Q : Option xV → xM → Prop} {a : Int} {b : Int} : Wp 130 16 (ls) (xi b :: xi a :: st) (M) Q = Wp 130 17 (ls) (xi (a - b) :: st) (M) Q := wp_bin (f := xsub) rfl
theorem w130_17 {ls st : List xV} {M : xM} {Q : Option xV → xM → Prop} {a : Int} {d : Nat} (hc : x_c d = 9) : Wp 130 17 (ls) (xi a :: xr d :: st) (M) Q = Wp 130 20 (ls) (st) (xup M d 9 a) Q := wp_putf rfl hc
theorem w130_20 {ls st : List xV} {M : xM} {Q : Option xV → xM → Prop}  : Wp 130 20 (ls) (st) (M) Q = Wp 130 21 (ls) (xi 0 :: st) (M) Q := wp_const rfl
theorem w130_21 {ls st : List xV} {M : xM} {Q : Option xV → xM → Prop} {a : Int} {v0 : xV} {w : xV} : Wp 130 21 (v0 :: w :: ls) (xi a :: st) (M) Q = Wp 130 22 (xjl v0 :: xi a :: ls) (st) (M) Q := wp_istore rfl rfl
theorem w130_22 {ls st : List xV} {M : xM} {Q : Option xV → xM → Prop} {a : Int} {v0 : xV} : Wp 130 22 (v0 :: xi a :: ls) (st) (M) Q = Wp 130 23 (v0 :: xi a :: ls) (xi a :: st) (M) Q := wp_iload rfl rfl
theorem w130_23 {ls st : List xV} {M : xM} {Q : Option xV → xM → Prop}  : Wp 130 23 (ls) (st) (M) Q = Wp 130 25 (ls) (xi 7 :: st) (M) Q := wp_const rfl
theorem w130_25 {ls st : List xV} {M : xM} {Q : Option xV → xM → Prop} {a : Int} {b : Int} (ha : xG a) (hb : xG b) : Wp 130 25 (ls) (xi b :: xi a :: st) (M) Q = ((b ≤ a → Wp 130 54 (ls) (st) (M) Q) ∧ (¬ (b ≤ a) → Wp 130 28 (ls) (st) (M) Q)) := wp_cmp_ge rfl ha hb
theorem w130_28 {ls st : List xV} {M : xM} {Q : Option xV → xM → Prop} {d : Nat} : Wp 130 28 (xr d :: ls) (st) (M) Q = Wp 130 29 (xr d :: ls) (xr d :: st) (M) Q := wp_aload rfl rfl
theorem w130_29 {ls st : List xV} {M : xM} {Q : Option xV → xM → Prop} {d : Nat} (hc : x_c d = 9) : Wp 130 29 (ls) (xr d :: st) (M) Q = Wp 130 32 (ls) (xr (x_r d 5) :: st) (M) Q := wp_getr rfl hc
theorem w130_32 {ls st : List xV} {M : xM} {Q : Option xV → xM → Prop} {a : Int} {v0 : xV} : Wp 130 32 (v0 :: xi a :: ls) (st) (M) Q = Wp 130 33 (v0 :: xi a :: ls) (xi a :: st) (M) Q := wp_iload rfl rfl
theorem w130_33 {ls st : List xV} {M : xM} {Q : Option xV → xM → Prop} {d : Nat} : Wp 130 33 (xr d :: ls) (st) (M) Q = Wp 130 34 (xr d :: ls) (xr d :: st) (M) Q := wp_aload rfl rfl
theorem w130_34 {ls st : List xV} {M : xM} {Q : Option xV → xM → Prop} {d : Nat} (hc : x_c d = 9) : Wp 130 34 (ls) (xr d :: st) (M) Q = Wp 130 37 (ls) (xr (x_r d 8) :: st) (M) Q := wp_getr rfl hc
theorem w130_37 {ls st : List xV} {M : xM} {Q : Option xV → xM → Prop}  : Wp 130 37 (ls) (st) (M) Q = Wp 130 39 (ls) (xi 7 :: st) (M) Q := wp_const rfl
theorem w130_39 {ls st : List xV} {M : xM} {Q : Option xV → xM → Prop} {d : Nat} : Wp 130 39 (xr d :: ls) (st) (M) Q = Wp 130 40 (xr d :: ls) (xr d :: st) (M) Q := wp_aload rfl rfl
theorem w130_40 {ls st : List xV} {M : xM} {Q : Option xV → xM → Prop} {d : Nat} (hc : x_c d = 9) : Wp 130 40 (ls) (xr d :: st) (M) Q = Wp 130 43 (ls) (xi (M d 9) :: st) (M) Q := wp_getf rfl hc
theorem w130_43 {ls st : List xV} {M : xM} {Q : Option xV → xM → Prop} {a : Int} {b : Int} : Wp 130 43 (ls) (xi b :: xi a :: st) (M) Q = Wp 130 44 (ls) (xi (a * b) :: st) (M) Q := wp_bin (f := xmul) rfl
theorem w130_44 {ls st : List xV} {M : xM} {Q : Option xV → xM → Prop} {a : Int} {v0 : xV} : Wp 130 44 (v0 :: xi a :: ls) (st) (M) Q = Wp 130 45 (v0 :: xi a :: ls) (xi a :: st) (M) Q := wp_iload rfl rfl
theorem w130_45 {ls st : List xV} {M : xM} {Q : Option xV → xM → Prop} {a : Int} {b : Int} : Wp 130 45 (ls) (xi b :: xi a :: st) (M) Q = Wp 130 46 (ls) (xi (a + b) :: st) (M) Q := wp_bin (f := xadd) rfl
theorem w130_46 {ls st : List xV} {M : xM} {Q : Option xV → xM → Prop} {a : Int} {d : Nat} (hc : x_c d = 20) (hn : x_n d = 14) (h1 : 0 ≤ a) (h2 : a < 14) : Wp 130 46 (ls) (xi a :: xr d :: st) (M) Q = Wp 130 47 (ls) (xi (M d a) :: st) (M) Q := wp_ald rfl hc h1 (by rw [hn]; exact h2)
theorem w130_47 {ls st : List xV} {M : xM} {Q : Option xV → xM → Prop} {a : Int} {d : Nat} {x : Int} (hc : x_c d = 20) (hn : x_n d = 7) (h1 : 0 ≤ a) (h2 : a < 7) : Wp 130 47 (ls) (xi x :: xi a :: xr d :: st) (M) Q = Wp 130 48 (ls) (st) (xup M d a x) Q := wp_iast rfl hc h1 (by rw [hn]; exact h2)
theorem w130_48 {ls st : List xV} {M : xM} {Q : Option xV → xM → Prop} {a : Int} {v0 : xV} : Wp 130 48 (v0 :: xi a :: ls) (st) (M) Q = Wp 130 51 (xjl v0 :: xi (a + 1) :: ls) (st) (M) Q := wp_iinc rfl rfl rfl
theorem w130_51 {ls st : List xV} {M : xM} {Q : Option xV → xM → Prop}  : Wp 130 51 (ls) (st) (M) Q = Wp 130 22 (ls) (st) (M) Q := wp_goto rfl
theorem w130_54 {ls st : List xV} {M : xM} {Q : Option xV → xM → Prop} {d : Nat} : Wp 130 54 (xr d :: ls) (st) (M) Q = Wp 130 55 (xr d :: ls) (xr d :: st) (M) Q := wp_aload rfl rfl
theorem w130_55 {ls st : List xV} {M : xM} {Q : Option xV → xM → Prop}  : Wp 130 55 (ls) (st) (M) Q = Wp 130 56 (ls) (xi 0 :: st) (M) Q := wp_const rfl
theorem w130_56 {ls st : List xV} {M : xM} {Q : Option xV → xM → Prop} {a : Int} {d : Nat} (hc : x_c d = 9) : Wp 130 56 (ls) (xi a :: xr d :: st) (M) Q = Wp 130 59 (ls) (st) (xup M d 7 a) Q := wp_putf rfl hc
theorem w130_59 {ls st : List xV} {M : xM} {Q : Option xV → xM → Prop} {d : Nat} : Wp 130 59 (xr d :: ls) (st) (M) Q = Wp 130 60 (xr d :: ls) (xr d :: st) (M) Q := wp_aload rfl rfl
theorem w130_60 {ls st : List xV} {M : xM} {Q : Option xV → xM → Prop} {d : Nat} (hc : x_c d = 9) : Wp 130 60 (ls) (xr d :: st) (M) Q = Wp 130 63 (ls) (xi (M d 9) :: st) (M) Q := wp_getf rfl hc
theorem w130_63 {ls : List xV} {M : xM} {Q : Option xV → xM → Prop} {a : Int} : Wp 130 63 (ls) ([xi a]) (M) Q = Q (some (xi a)) M := wp_iret rfl
theorem wc131 {M : xM} {Q : Option xV → xM → Prop} {d0 : Nat} {a1 : Int} : Wc 131 [xr d0, xi a1] M Q = Wp 131 0 [xr d0, xi a1] [] M Q := rfl
theorem w131_0 {ls st : List xV} {M : xM} {Q : Option xV → xM → Prop} {a : Int} {v0 : xV} : Wp 131 0 (v0 :: xi a :: ls) (st) (M) Q = Wp 131 1 (v0 :: xi a :: ls) (xi a :: st) (M) Q := wp_iload rfl rfl
theorem w131_1 {ls st : List xV} {M : xM} {Q : Option xV → xM → Prop} {a : Int} (ha : xG a) : Wp 131 1 (ls) (xi a :: st) (M) Q = Wp 131 (if 0 ≤ a ∧ a ≤ 8 then [52, 59, 66, 73, 84, 94, 99, 104, 109].getD (a - 0).toNat 114 else 114) (ls) (st) (M) Q := wp_tsw rfl ha
theorem w131_52 {ls st : List xV} {M : xM} {Q : Option xV → xM → Prop} {d : Nat} : Wp 131 52 (xr d :: ls) (st) (M) Q = Wp 131 53 (xr d :: ls) (xr d :: st) (M) Q := wp_aload rfl rfl
theorem w131_53 {ls st : List xV} {M : xM} {Q : Option xV → xM → Prop} {d : Nat} (hc : x_c d = 9) : Wp 131 53 (ls) (xr d :: st) (M) Q = Wp 131 56 (ls) (xr (x_r d 2) :: st) (M) Q := wp_getr rfl hc
theorem w131_56 {ls st : List xV} {M : xM} {Q : Option xV → xM → Prop}  : Wp 131 56 (ls) (st) (M) Q = Wp 131 57 (ls) (xi 0 :: st) (M) Q := wp_const rfl
theorem w131_57 {ls st : List xV} {M : xM} {Q : Option xV → xM → Prop} {a : Int} {d : Nat} (hc : x_c d = 20) (hn : x_n d = 25) (h1 : 0 ≤ a) (h2 : a < 25) : Wp 131 57 (ls) (xi a :: xr d :: st) (M) Q = Wp 131 58 (ls) (xi (M d a) :: st) (M) Q := wp_ald rfl hc h1 (by rw [hn]; exact h2)
theorem w131_58 {ls : List xV} {M : xM} {Q : Option xV → xM → Prop} {a : Int} : Wp 131 58 (ls) ([xi a]) (M) Q = Q (some (xi a)) M := wp_iret rfl
theorem w131_59 {ls st : List xV} {M : xM} {Q : Option xV → xM → Prop} {d : Nat} : Wp 131 59 (xr d :: ls) (st) (M) Q = Wp 131 60 (xr d :: ls) (xr d :: st) (M) Q := wp_aload rfl rfl
theorem w131_60 {ls st : List xV} {M : xM} {Q : Option xV → xM → Prop} {d : Nat} (hc : x_c d = 9) : Wp 131 60 (ls) (xr d :: st) (M) Q = Wp 131 63 (ls) (xr (x_r d 2) :: st) (M) Q := wp_getr rfl hc
theorem w131_63 {ls st : List xV} {M : xM} {Q : Option xV → xM → Prop}  : Wp 131 63 (ls) (st) (M) Q = Wp 131 64 (ls) (xi 1 :: st) (M) Q := wp_const rfl
theorem w131_64 {ls st : List xV} {M : xM} {Q : Option xV → xM → Prop} {a : Int} {d : Nat} (hc : x_c d = 20) (hn : x_n d = 25) (h1 : 0 ≤ a) (h2 : a < 25) : Wp 131 64 (ls) (xi a :: xr d :: st) (M) Q = Wp 131 65 (ls) (xi (M d a) :: st) (M) Q := wp_ald rfl hc h1 (by rw [hn]; exact h2)
theorem w131_65 {ls : List xV} {M : xM} {Q : Option xV → xM → Prop} {a : Int} : Wp 131 65 (ls) ([xi a]) (M) Q = Q (some (xi a)) M := wp_iret rfl
theorem w131_66 {ls st : List xV} {M : xM} {Q : Option xV → xM → Prop} {d : Nat} : Wp 131 66 (xr d :: ls) (st) (M) Q = Wp 131 67 (xr d :: ls) (xr d :: st) (M) Q := wp_aload rfl rfl
theorem w131_67 {ls st : List xV} {M : xM} {Q : Option xV → xM → Prop} {d : Nat} (hc : x_c d = 9) : Wp 131 67 (ls) (xr d :: st) (M) Q = Wp 131 70 (ls) (xr (x_r d 2) :: st) (M) Q := wp_getr rfl hc
theorem w131_70 {ls st : List xV} {M : xM} {Q : Option xV → xM → Prop}  : Wp 131 70 (ls) (st) (M) Q = Wp 131 71 (ls) (xi 2 :: st) (M) Q := wp_const rfl
theorem w131_71 {ls st : List xV} {M : xM} {Q : Option xV → xM → Prop} {a : Int} {d : Nat} (hc : x_c d = 20) (hn : x_n d = 25) (h1 : 0 ≤ a) (h2 : a < 25) : Wp 131 71 (ls) (xi a :: xr d :: st) (M) Q = Wp 131 72 (ls) (xi (M d a) :: st) (M) Q := wp_ald rfl hc h1 (by rw [hn]; exact h2)
theorem w131_72 {ls : List xV} {M : xM} {Q : Option xV → xM → Prop} {a : Int} : Wp 131 72 (ls) ([xi a]) (M) Q = Q (some (xi a)) M := wp_iret rfl
theorem w131_73 {ls st : List xV} {M : xM} {Q : Option xV → xM → Prop} {d : Nat} : Wp 131 73 (xr d :: ls) (st) (M) Q = Wp 131 74 (xr d :: ls) (xr d :: st) (M) Q := wp_aload rfl rfl
theorem w131_74 {ls st : List xV} {M : xM} {Q : Option xV → xM → Prop} {d : Nat} (hc : x_c d = 9) : Wp 131 74 (ls) (xr d :: st) (M) Q = Wp 131 77 (ls) (xr (x_r d 5) :: st) (M) Q := wp_getr rfl hc
theorem w131_77 {ls st : List xV} {M : xM} {Q : Option xV → xM → Prop}  : Wp 131 77 (ls) (st) (M) Q = Wp 131 79 (ls) (xi 6 :: st) (M) Q := wp_const rfl
theorem w131_79 {ls st : List xV} {M : xM} {Q : Option xV → xM → Prop} {a : Int} {d : Nat} (hc : x_c d = 20) (hn : x_n d = 7) (h1 : 0 ≤ a) (h2 : a < 7) : Wp 131 79 (ls) (xi a :: xr d :: st) (M) Q = Wp 131 80 (ls) (xi (M d a) :: st) (M) Q := wp_ald rfl hc h1 (by rw [hn]; exact h2)
theorem w131_80 {ls : List xV} {M : xM} {Q : Option xV → xM → Prop} {a0 : Int} : Wp 131 80 (ls) (xi a0 :: []) (M) Q = Wc 83 [xi a0] M (fun r M2 => Wp 131 83 (ls) (r.toList ++ ([])) M2 Q) := wp_cS rfl rfl (Nat.le_of_ble_eq_true rfl) (Nat.le_of_ble_eq_true rfl) rfl rfl
theorem w131_83 {ls : List xV} {M : xM} {Q : Option xV → xM → Prop} {a : Int} : Wp 131 83 (ls) ([xi a]) (M) Q = Q (some (xi a)) M := wp_iret rfl
theorem w131_84 {ls st : List xV} {M : xM} {Q : Option xV → xM → Prop} {d : Nat} : Wp 131 84 (xr d :: ls) (st) (M) Q = Wp 131 85 (xr d :: ls) (xr d :: st) (M) Q := wp_aload rfl rfl
theorem w131_85 {ls st : List xV} {M : xM} {Q : Option xV → xM → Prop} {d : Nat} (hc : x_c d = 9) : Wp 131 85 (ls) (xr d :: st) (M) Q = Wp 131 88 (ls) (xr (x_r d 5) :: st) (M) Q := wp_getr rfl hc
theorem w131_88 {ls st : List xV} {M : xM} {Q : Option xV → xM → Prop}  : Wp 131 88 (ls) (st) (M) Q = Wp 131 89 (ls) (xi 5 :: st) (M) Q := wp_const rfl
theorem w131_89 {ls st : List xV} {M : xM} {Q : Option xV → xM → Prop} {a : Int} {d : Nat} (hc : x_c d = 20) (hn : x_n d = 7) (h1 : 0 ≤ a) (h2 : a < 7) : Wp 131 89 (ls) (xi a :: xr d :: st) (M) Q = Wp 131 90 (ls) (xi (M d a) :: st) (M) Q := wp_ald rfl hc h1 (by rw [hn]; exact h2)
theorem w131_90 {ls : List xV} {M : xM} {Q : Option xV → xM → Prop} {a0 : Int} : Wp 131 90 (ls) (xi a0 :: []) (M) Q = Wc 83 [xi a0] M (fun r M2 => Wp 131 93 (ls) (r.toList ++ ([])) M2 Q) := wp_cS rfl rfl (Nat.le_of_ble_eq_true rfl) (Nat.le_of_ble_eq_true rfl) rfl rfl
theorem w131_93 {ls : List xV} {M : xM} {Q : Option xV → xM → Prop} {a : Int} : Wp 131 93 (ls) ([xi a]) (M) Q = Q (some (xi a)) M := wp_iret rfl
theorem w131_94 {ls st : List xV} {M : xM} {Q : Option xV → xM → Prop} {d : Nat} : Wp 131 94 (xr d :: ls) (st) (M) Q = Wp 131 95 (xr d :: ls) (xr d :: st) (M) Q := wp_aload rfl rfl
theorem w131_95 {ls st : List xV} {M : xM} {Q : Option xV → xM → Prop} {d : Nat} (hc : x_c d = 9) : Wp 131 95 (ls) (xr d :: st) (M) Q = Wp 131 98 (ls) (xi (M d 11) :: st) (M) Q := wp_getf rfl hc
theorem w131_98 {ls : List xV} {M : xM} {Q : Option xV → xM → Prop} {a : Int} : Wp 131 98 (ls) ([xi a]) (M) Q = Q (some (xi a)) M := wp_iret rfl
theorem w131_99 {ls st : List xV} {M : xM} {Q : Option xV → xM → Prop} {d : Nat} : Wp 131 99 (xr d :: ls) (st) (M) Q = Wp 131 100 (xr d :: ls) (xr d :: st) (M) Q := wp_aload rfl rfl
theorem w131_100 {ls st : List xV} {M : xM} {Q : Option xV → xM → Prop} {d : Nat} (hc : x_c d = 9) : Wp 131 100 (ls) (xr d :: st) (M) Q = Wp 131 103 (ls) (xi (M d 7) :: st) (M) Q := wp_getf rfl hc
theorem w131_103 {ls : List xV} {M : xM} {Q : Option xV → xM → Prop} {a : Int} : Wp 131 103 (ls) ([xi a]) (M) Q = Q (some (xi a)) M := wp_iret rfl
theorem w131_104 {ls st : List xV} {M : xM} {Q : Option xV → xM → Prop} {d : Nat} : Wp 131 104 (xr d :: ls) (st) (M) Q = Wp 131 105 (xr d :: ls) (xr d :: st) (M) Q := wp_aload rfl rfl
theorem w131_105 {ls st : List xV} {M : xM} {Q : Option xV → xM → Prop} {d : Nat} (hc : x_c d = 9) : Wp 131 105 (ls) (xr d :: st) (M) Q = Wp 131 108 (ls) (xi (M d 9) :: st) (M) Q := wp_getf rfl hc
theorem w131_108 {ls : List xV} {M : xM} {Q : Option xV → xM → Prop} {a : Int} : Wp 131 108 (ls) ([xi a]) (M) Q = Q (some (xi a)) M := wp_iret rfl
theorem w131_109 {ls st : List xV} {M : xM} {Q : Option xV → xM → Prop} {d : Nat} : Wp 131 109 (xr d :: ls) (st) (M) Q = Wp 131 110 (xr d :: ls) (xr d :: st) (M) Q := wp_aload rfl rfl
theorem w131_110 {ls st : List xV} {M : xM} {Q : Option xV → xM → Prop} {d : Nat} (hc : x_c d = 9) : Wp 131 110 (ls) (xr d :: st) (M) Q = Wp 131 113 (ls) (xi (M d 1) :: st) (M) Q := wp_getf rfl hc
theorem w131_113 {ls : List xV} {M : xM} {Q : Option xV → xM → Prop} {a : Int} : Wp 131 113 (ls) ([xi a]) (M) Q = Q (some (xi a)) M := wp_iret rfl
theorem w131_114 {ls st : List xV} {M : xM} {Q : Option xV → xM → Prop}  : Wp 131 114 (ls) (st) (M) Q = Wp 131 115 (ls) (xi (-1) :: st) (M) Q := wp_const rfl
theorem w131_115 {ls : List xV} {M : xM} {Q : Option xV → xM → Prop} {a : Int} : Wp 131 115 (ls) ([xi a]) (M) Q = Q (some (xi a)) M := wp_iret rfl
theorem w132_18 {ls st : List xV} {M : xM} {Q : Option xV → xM → Prop} {a : Int} {v0 : xV} {v1 : xV} {v2 : xV} : Wp 132 18 (v0 :: v1 :: v2 :: xi a :: ls) (st) (M) Q = Wp 132 19 (v0 :: v1 :: v2 :: xi a :: ls) (xi a :: st) (M) Q := wp_iload rfl rfl
theorem w132_19 {ls st : List xV} {M : xM} {Q : Option xV → xM → Prop} {d : Nat} : Wp 132 19 (xr d :: ls) (st) (M) Q = Wp 132 20 (xr d :: ls) (xr d :: st) (M) Q := wp_aload rfl rfl
theorem w132_20 {ls st : List xV} {M : xM} {Q : Option xV → xM → Prop}  : Wp 132 20 (ls) (xr 58 :: st) (M) Q = Wp 132 21 (ls) (xi (M 58 (-1)) :: st) (M) Q := wp_slen rfl
theorem w132_21 {ls st : List xV} {M : xM} {Q : Option xV → xM → Prop}  : Wp 132 21 (ls) (st) (M) Q = Wp 132 23 (ls) (xi 6 :: st) (M) Q := wp_const rfl
theorem w132_23 {ls st : List xV} {M : xM} {Q : Option xV → xM → Prop} {a : Int} {b : Int} : Wp 132 23 (ls) (xi b :: xi a :: st) (M) Q = Wp 132 24 (ls) (xi (a - b) :: st) (M) Q := wp_bin (f := xsub) rfl
theorem w132_24 {ls st : List xV} {M : xM} {Q : Option xV → xM → Prop} {a : Int} {b : Int} (ha : xG a) (hb : xG b) : Wp 132 24 (ls) (xi b :: xi a :: st) (M) Q = ((b < a → Wp 132 939 (ls) (st) (M) Q) ∧ (¬ (b < a) → Wp 132 27 (ls) (st) (M) Q)) := wp_cmp_gt rfl ha hb
theorem w132_27 {ls st : List xV} {M : xM} {Q : Option xV → xM → Prop} {d : Nat} : Wp 132 27 (xr d :: ls) (st) (M) Q = Wp 132 28 (xr d :: ls) (xr d :: st) (M) Q := wp_aload rfl rfl
theorem w132_28 {ls st : List xV} {M : xM} {Q : Option xV → xM → Prop} {a : Int} {v0 : xV} {v1 : xV} {v2 : xV} : Wp 132 28 (v0 :: v1 :: v2 :: xi a :: ls) (st) (M) Q = Wp 132 29 (v0 :: v1 :: v2 :: xi a :: ls) (xi a :: st) (M) Q := wp_iload rfl rfl
theorem w132_29 {ls st : List xV} {M : xM} {Q : Option xV → xM → Prop} {a : Int} (ha : xG a) (h1 : 0 ≤ a) (h2 : a < M 58 (-1)) : Wp 132 29 (ls) (xi a :: xr 58 :: st) (M) Q = Wp 132 30 (ls) (xi (M 58 a) :: st) (M) Q := wp_sld rfl ha h1 h2
theorem w132_30 {ls st : List xV} {M : xM} {Q : Option xV → xM → Prop}  : Wp 132 30 (ls) (st) (M) Q = Wp 132 32 (ls) (xi 31 :: st) (M) Q := wp_const rfl
theorem w132_32 {ls st : List xV} {M : xM} {Q : Option xV → xM → Prop} {a : Int} {b : Int} : Wp 132 32 (ls) (xi b :: xi a :: st) (M) Q = Wp 132 33 (ls) (xi (xand a b) :: st) (M) Q := wp_bin (f := xand) rfl
theorem w132_33 {ls st : List xV} {M : xM} {Q : Option xV → xM → Prop} {a : Int} (ha : xG a) : Wp 132 33 (ls) (xi a :: st) (M) Q = Wp 132 (if 0 ≤ a ∧ a ≤ 26 then [156, 179, 192, 205, 218, 251, 274, 307, 340, 363, 386, 399, 442, 475, 488, 531, 574, 597, 656, 669, 692, 745, 788, 851, 884, 897, 910].getD (a - 0).toNat 933 else 933) (ls) (st) (M) Q := wp_tsw rfl ha
theorem w132_156 {ls st : List xV} {M : xM} {Q : Option xV → xM → Prop} {d : Nat} {v0 : xV} : Wp 132 156 (v0 :: xr d :: ls) (st) (M) Q = Wp 132 157 (v0 :: xr d :: ls) (xr d :: st) (M) Q := wp_aload rfl rfl
theorem w132_157 {ls st : List xV} {M : xM} {Q : Option xV → xM → Prop} {d : Nat} : Wp 132 157 (xr d :: ls) (st) (M) Q = Wp 132 158 (xr d :: ls) (xr d :: st) (M) Q := wp_aload rfl rfl
theorem w132_158 {ls st : List xV} {M : xM} {Q : Option xV → xM → Prop} {a : Int} {v0 : xV} {v1 : xV} {v2 : xV} : Wp 132 158 (v0 :: v1 :: v2 :: xi a :: ls) (st) (M) Q = Wp 132 159 (v0 :: v1 :: v2 :: xi a :: ls) (xi a :: st) (M) Q := wp_iload rfl rfl
theorem w132_159 {ls st : List xV} {M : xM} {Q : Option xV → xM → Prop}  : Wp 132 159 (ls) (st) (M) Q = Wp 132 160 (ls) (xi 1 :: st) (M) Q := wp_const rfl
theorem w132_160 {ls st : List xV} {M : xM} {Q : Option xV → xM → Prop} {a : Int} {b : Int} : Wp 132 160 (ls) (xi b :: xi a :: st) (M) Q = Wp 132 161 (ls) (xi (a + b) :: st) (M) Q := wp_bin (f := xadd) rfl
theorem w132_161 {ls st : List xV} {M : xM} {Q : Option xV → xM → Prop} {a : Int} (ha : xG a) (h1 : 0 ≤ a) (h2 : a < M 58 (-1)) : Wp 132 161 (ls) (xi a :: xr 58 :: st) (M) Q = Wp 132 162 (ls) (xi (M 58 a) :: st) (M) Q := wp_sld rfl ha h1 h2
theorem w132_162 {ls : List xV} {M : xM} {Q : Option xV → xM → Prop} {a1 : Int} {d0 : Nat} (hc : x_c d0 = 8) : Wp 132 162 (ls) (xi a1 :: xr d0 :: []) (M) Q = Wc 45 [xr d0, xi a1] M (fun r M2 => Wp 132 165 (ls) (r.toList ++ ([])) M2 Q) := wp_cV rfl rfl hc (Nat.le_of_ble_eq_true rfl) (Nat.le_of_ble_eq_true rfl) rfl rfl
theorem w132_165 {ls st : List xV} {M : xM} {Q : Option xV → xM → Prop} {d : Nat} {v0 : xV} {v1 : xV} : Wp 132 165 (v0 :: v1 :: xr d :: ls) (st) (M) Q = Wp 132 166 (v0 :: v1 :: xr d :: ls) (xr d :: st) (M) Q := wp_aload rfl rfl
theorem w132_166 {ls st : List xV} {M : xM} {Q : Option xV → xM → Prop} {d : Nat} : Wp 132 166 (xr d :: ls) (st) (M) Q = Wp 132 167 (xr d :: ls) (xr d :: st) (M) Q := wp_aload rfl rfl
theorem w132_167 {ls st : List xV} {M : xM} {Q : Option xV → xM → Prop} {a : Int} {v0 : xV} {v1 : xV} {v2 : xV} : Wp 132 167 (v0 :: v1 :: v2 :: xi a :: ls) (st) (M) Q = Wp 132 168 (v0 :: v1 :: v2 :: xi a :: ls) (xi a :: st) (M) Q := wp_iload rfl rfl
theorem w132_168 {ls st : List xV} {M : xM} {Q : Option xV → xM → Prop}  : Wp 132 168 (ls) (st) (M) Q = Wp 132 169 (ls) (xi 1 :: st) (M) Q := wp_const rfl
theorem w132_169 {ls st : List xV} {M : xM} {Q : Option xV → xM → Prop} {a : Int} {b : Int} : Wp 132 169 (ls) (xi b :: xi a :: st) (M) Q = Wp 132 170 (ls) (xi (a + b) :: st) (M) Q := wp_bin (f := xadd) rfl
theorem w132_170 {ls st : List xV} {M : xM} {Q : Option xV → xM → Prop} {a : Int} (ha : xG a) (h1 : 0 ≤ a) (h2 : a < M 58 (-1)) : Wp 132 170 (ls) (xi a :: xr 58 :: st) (M) Q = Wp 132 171 (ls) (xi (M 58 a) :: st) (M) Q := wp_sld rfl ha h1 h2
theorem w132_171 {ls : List xV} {M : xM} {Q : Option xV → xM → Prop} {a1 : Int} {d0 : Nat} {s0 : xV} (hc : x_c d0 = 9) : Wp 132 171 (ls) (xi a1 :: xr d0 :: s0 :: []) (M) Q = Wc 84 [xr d0, xi a1] M (fun r M2 => Wp 132 174 (ls) (r.toList ++ (s0 :: [])) M2 Q) := wp_cV rfl rfl hc (Nat.le_of_ble_eq_true rfl) (Nat.le_of_ble_eq_true rfl) rfl rfl
theorem w132_174 {ls st : List xV} {M : xM} {Q : Option xV → xM → Prop} {a : Int} {b : Int} (ha : xG a) (hb : xG b) : Wp 132 174 (ls) (xi b :: xi a :: st) (M) Q = ((a = b → Wp 132 933 (ls) (st) (M) Q) ∧ (¬ (a = b) → Wp 132 177 (ls) (st) (M) Q)) := wp_cmp_eq rfl ha hb
theorem w132_177 {ls st : List xV} {M : xM} {Q : Option xV → xM → Prop}  : Wp 132 177 (ls) (st) (M) Q = Wp 132 178 (ls) (xi 0 :: st) (M) Q := wp_const rfl
theorem w132_178 {ls : List xV} {M : xM} {Q : Option xV → xM → Prop} {a : Int} (ha : a = 0 ∨ a = 1) : Wp 132 178 (ls) ([xi a]) (M) Q = Q (some (xi a)) M := wp_zret rfl ha
theorem w132_179 {ls st : List xV} {M : xM} {Q : Option xV → xM → Prop} {d : Nat} {v0 : xV} : Wp 132 179 (v0 :: xr d :: ls) (st) (M) Q = Wp 132 180 (v0 :: xr d :: ls) (xr d :: st) (M) Q := wp_aload rfl rfl
theorem w132_180 {ls : List xV} {M : xM} {Q : Option xV → xM → Prop} {d0 : Nat} (hc : x_c d0 = 8) : Wp 132 180 (ls) (xr d0 :: []) (M) Q = Wc 46 [xr d0] M (fun r M2 => Wp 132 183 (ls) (r.toList ++ ([])) M2 Q) := wp_cV rfl rfl hc (Nat.le_of_ble_eq_true rfl) (Nat.le_of_ble_eq_true rfl) rfl rfl
theorem w132_183 {ls st : List xV} {M : xM} {Q : Option xV → xM → Prop} {d : Nat} {v0 : xV} {v1 : xV} : Wp 132 183 (v0 :: v1 :: xr d :: ls) (st) (M) Q = Wp 132 184 (v0 :: v1 :: xr d :: ls) (xr d :: st) (M) Q := wp_aload rfl rfl
theorem w132_184 {ls : List xV} {M : xM} {Q : Option xV → xM → Prop} {d0 : Nat} {s0 : xV} (hc : x_c d0 = 9) : Wp 132 184 (ls) (xr d0 :: s0 :: []) (M) Q = Wc 85 [xr d0] M (fun r M2 => Wp 132 187 (ls) (r.toList ++ (s0 :: [])) M2 Q) := wp_cV rfl rfl hc (Nat.le_of_ble_eq_true rfl) (Nat.le_of_ble_eq_true rfl) rfl rfl
theorem w132_187 {ls st : List xV} {M : xM} {Q : Option xV → xM → Prop} {a : Int} {b : Int} (ha : xG a) (hb : xG b) : Wp 132 187 (ls) (xi b :: xi a :: st) (M) Q = ((a = b → Wp 132 933 (ls) (st) (M) Q) ∧ (¬ (a = b) → Wp 132 190 (ls) (st) (M) Q)) := wp_cmp_eq rfl ha hb
theorem w132_190 {ls st : List xV} {M : xM} {Q : Option xV → xM → Prop}  : Wp 132 190 (ls) (st) (M) Q = Wp 132 191 (ls) (xi 0 :: st) (M) Q := wp_const rfl
theorem w132_191 {ls : List xV} {M : xM} {Q : Option xV → xM → Prop} {a : Int} (ha : a = 0 ∨ a = 1) : Wp 132 191 (ls) ([xi a]) (M) Q = Q (some (xi a)) M := wp_zret rfl ha
theorem w132_192 {ls st : List xV} {M : xM} {Q : Option xV → xM → Prop} {d : Nat} {v0 : xV} : Wp 132 192 (v0 :: xr d :: ls) (st) (M) Q = Wp 132 193 (v0 :: xr d :: ls) (xr d :: st) (M) Q := wp_aload rfl rfl
theorem w132_193 {ls : List xV} {M : xM} {Q : Option xV → xM → Prop} {d0 : Nat} (hc : x_c d0 = 8) : Wp 132 193 (ls) (xr d0 :: []) (M) Q = Wc 47 [xr d0] M (fun r M2 => Wp 132 196 (ls) (r.toList ++ ([])) M2 Q) := wp_cV rfl rfl hc (Nat.le_of_ble_eq_true rfl) (Nat.le_of_ble_eq_true rfl) rfl rfl
theorem w132_196 {ls st : List xV} {M : xM} {Q : Option xV → xM → Prop} {d : Nat} {v0 : xV} {v1 : xV} : Wp 132 196 (v0 :: v1 :: xr d :: ls) (st) (M) Q = Wp 132 197 (v0 :: v1 :: xr d :: ls) (xr d :: st) (M) Q := wp_aload rfl rfl
theorem w132_197 {ls : List xV} {M : xM} {Q : Option xV → xM → Prop} {d0 : Nat} {s0 : xV} (hc : x_c d0 = 9) : Wp 132 197 (ls) (xr d0 :: s0 :: []) (M) Q = Wc 95 [xr d0] M (fun r M2 => Wp 132 200 (ls) (r.toList ++ (s0 :: [])) M2 Q) := wp_cV rfl rfl hc (Nat.le_of_ble_eq_true rfl) (Nat.le_of_ble_eq_true rfl) rfl rfl
theorem w132_200 {ls st : List xV} {M : xM} {Q : Option xV → xM → Prop} {a : Int} {b : Int} (ha : xG a) (hb : xG b) : Wp 132 200 (ls) (xi b :: xi a :: st) (M) Q = ((a = b → Wp 132 933 (ls) (st) (M) Q) ∧ (¬ (a = b) → Wp 132 203 (ls) (st) (M) Q)) := wp_cmp_eq rfl ha hb
theorem w132_203 {ls st : List xV} {M : xM} {Q : Option xV → xM → Prop}  : Wp 132 203 (ls) (st) (M) Q = Wp 132 204 (ls) (xi 0 :: st) (M) Q := wp_const rfl
theorem w132_204 {ls : List xV} {M : xM} {Q : Option xV → xM → Prop} {a : Int} (ha : a = 0 ∨ a = 1) : Wp 132 204 (ls) ([xi a]) (M) Q = Q (some (xi a)) M := wp_zret rfl ha
theorem w132_205 {ls st : List xV} {M : xM} {Q : Option xV → xM → Prop} {d : Nat} {v0 : xV} : Wp 132 205 (v0 :: xr d :: ls) (st) (M) Q = Wp 132 206 (v0 :: xr d :: ls) (xr d :: st) (M) Q := wp_aload rfl rfl
theorem w132_206 {ls : List xV} {M : xM} {Q : Option xV → xM → Prop} {d0 : Nat} (hc : x_c d0 = 8) : Wp 132 206 (ls) (xr d0 :: []) (M) Q = Wc 48 [xr d0] M (fun r M2 => Wp 132 209 (ls) (r.toList ++ ([])) M2 Q) := wp_cV rfl rfl hc (Nat.le_of_ble_eq_true rfl) (Nat.le_of_ble_eq_true rfl) rfl rfl
theorem w132_209 {ls st : List xV} {M : xM} {Q : Option xV → xM → Prop} {d : Nat} {v0 : xV} {v1 : xV} : Wp 132 209 (v0 :: v1 :: xr d :: ls) (st) (M) Q = Wp 132 210 (v0 :: v1 :: xr d :: ls) (xr d :: st) (M) Q := wp_aload rfl rfl
theorem w132_210 {ls : List xV} {M : xM} {Q : Option xV → xM → Prop} {d0 : Nat} {s0 : xV} (hc : x_c d0 = 9) : Wp 132 210 (ls) (xr d0 :: s0 :: []) (M) Q = Wc 97 [xr d0] M (fun r M2 => Wp 132 213 (ls) (r.toList ++ (s0 :: [])) M2 Q) := wp_cV rfl rfl hc (Nat.le_of_ble_eq_true rfl) (Nat.le_of_ble_eq_true rfl) rfl rfl
theorem w132_213 {ls st : List xV} {M : xM} {Q : Option xV → xM → Prop} {a : Int} {b : Int} (ha : xG a) (hb : xG b) : Wp 132 213 (ls) (xi b :: xi a :: st) (M) Q = ((a = b → Wp 132 933 (ls) (st) (M) Q) ∧ (¬ (a = b) → Wp 132 216 (ls) (st) (M) Q)) := wp_cmp_eq rfl ha hb
theorem w132_216 {ls st : List xV} {M : xM} {Q : Option xV → xM → Prop}  : Wp 132 216 (ls) (st) (M) Q = Wp 132 217 (ls) (xi 0 :: st) (M) Q := wp_const rfl
theorem w132_217 {ls : List xV} {M : xM} {Q : Option xV → xM → Prop} {a : Int} (ha : a = 0 ∨ a = 1) : Wp 132 217 (ls) ([xi a]) (M) Q = Q (some (xi a)) M := wp_zret rfl ha
theorem w132_218 {ls st : List xV} {M : xM} {Q : Option xV → xM → Prop} {d : Nat} {v0 : xV} : Wp 132 218 (v0 :: xr d :: ls) (st) (M) Q = Wp 132 219 (v0 :: xr d :: ls) (xr d :: st) (M) Q := wp_aload rfl rfl
theorem w132_219 {ls st : List xV} {M : xM} {Q : Option xV → xM → Prop} {d : Nat} : Wp 132 219 (xr d :: ls) (st) (M) Q = Wp 132 220 (xr d :: ls) (xr d :: st) (M) Q := wp_aload rfl rfl
theorem w132_220 {ls st : List xV} {M : xM} {Q : Option xV → xM → Prop} {a : Int} {v0 : xV} {v1 : xV} {v2 : xV} : Wp 132 220 (v0 :: v1 :: v2 :: xi a :: ls) (st) (M) Q = Wp 132 221 (v0 :: v1 :: v2 :: xi a :: ls) (xi a :: st) (M) Q := wp_iload rfl rfl
theorem w132_221 {ls st : List xV} {M : xM} {Q : Option xV → xM → Prop}  : Wp 132 221 (ls) (st) (M) Q = Wp 132 222 (ls) (xi 1 :: st) (M) Q := wp_const rfl
theorem w132_222 {ls st : List xV} {M : xM} {Q : Option xV → xM → Prop} {a : Int} {b : Int} : Wp 132 222 (ls) (xi b :: xi a :: st) (M) Q = Wp 132 223 (ls) (xi (a + b) :: st) (M) Q := wp_bin (f := xadd) rfl
theorem w132_223 {ls st : List xV} {M : xM} {Q : Option xV → xM → Prop} {a : Int} (ha : xG a) (h1 : 0 ≤ a) (h2 : a < M 58 (-1)) : Wp 132 223 (ls) (xi a :: xr 58 :: st) (M) Q = Wp 132 224 (ls) (xi (M 58 a) :: st) (M) Q := wp_sld rfl ha h1 h2
theorem w132_224 {ls st : List xV} {M : xM} {Q : Option xV → xM → Prop} {d : Nat} : Wp 132 224 (xr d :: ls) (st) (M) Q = Wp 132 225 (xr d :: ls) (xr d :: st) (M) Q := wp_aload rfl rfl
theorem w132_225 {ls st : List xV} {M : xM} {Q : Option xV → xM → Prop} {a : Int} {v0 : xV} {v1 : xV} {v2 : xV} : Wp 132 225 (v0 :: v1 :: v2 :: xi a :: ls) (st) (M) Q = Wp 132 226 (v0 :: v1 :: v2 :: xi a :: ls) (xi a :: st) (M) Q := wp_iload rfl rfl
theorem w132_226 {ls st : List xV} {M : xM} {Q : Option xV → xM → Prop}  : Wp 132 226 (ls) (st) (M) Q = Wp 132 227 (ls) (xi 2 :: st) (M) Q := wp_const rfl
theorem w132_227 {ls st : List xV} {M : xM} {Q : Option xV → xM → Prop} {a : Int} {b : Int} : Wp 132 227 (ls) (xi b :: xi a :: st) (M) Q = Wp 132 228 (ls) (xi (a + b) :: st) (M) Q := wp_bin (f := xadd) rfl
theorem w132_228 {ls st : List xV} {M : xM} {Q : Option xV → xM → Prop} {a : Int} (ha : xG a) (h1 : 0 ≤ a) (h2 : a < M 58 (-1)) : Wp 132 228 (ls) (xi a :: xr 58 :: st) (M) Q = Wp 132 229 (ls) (xi (M 58 a) :: st) (M) Q := wp_sld rfl ha h1 h2
theorem w132_229 {ls : List xV} {M : xM} {Q : Option xV → xM → Prop} {a1 : Int} {a2 : Int} {d0 : Nat} (hc : x_c d0 = 8) : Wp 132 229 (ls) (xi a2 :: xi a1 :: xr d0 :: []) (M) Q = Wc 49 [xr d0, xi a1, xi a2] M (fun r M2 => Wp 132 232 (ls) (r.toList ++ ([])) M2 Q) := wp_cV rfl rfl hc (Nat.le_of_ble_eq_true rfl) (Nat.le_of_ble_eq_true rfl) rfl rfl
theorem w132_232 {ls st : List xV} {M : xM} {Q : Option xV → xM → Prop} {d : Nat} {v0 : xV} {v1 : xV} : Wp 132 232 (v0 :: v1 :: xr d :: ls) (st) (M) Q = Wp 132 233 (v0 :: v1 :: xr d :: ls) (xr d :: st) (M) Q := wp_aload rfl rfl
theorem w132_233 {ls st : List xV} {M : xM} {Q : Option xV → xM → Prop} {d : Nat} : Wp 132 233 (xr d :: ls) (st) (M) Q = Wp 132 234 (xr d :: ls) (xr d :: st) (M) Q := wp_aload rfl rfl
theorem w132_234 {ls st : List xV} {M : xM} {Q : Option xV → xM → Prop} {a : Int} {v0 : xV} {v1 : xV} {v2 : xV} : Wp 132 234 (v0 :: v1 :: v2 :: xi a :: ls) (st) (M) Q = Wp 132 235 (v0 :: v1 :: v2 :: xi a :: ls) (xi a :: st) (M) Q := wp_iload rfl rfl
theorem w132_235 {ls st : List xV} {M : xM} {Q : Option xV → xM → Prop}  : Wp 132 235 (ls) (st) (M) Q = Wp 132 236 (ls) (xi 1 :: st) (M) Q := wp_const rfl
theorem w132_236 {ls st : List xV} {M : xM} {Q : Option xV → xM → Prop} {a : Int} {b : Int} : Wp 132 236 (ls) (xi b :: xi a :: st) (M) Q = Wp 132 237 (ls) (xi (a + b) :: st) (M) Q := wp_bin (f := xadd) rfl
theorem w132_237 {ls st : List xV} {M : xM} {Q : Option xV → xM → Prop} {a : Int} (ha : xG a) (h1 : 0 ≤ a) (h2 : a < M 58 (-1)) : Wp 132 237 (ls) (xi a :: xr 58 :: st) (M) Q = Wp 132 238 (ls) (xi (M 58 a) :: st) (M) Q := wp_sld rfl ha h1 h2
theorem w132_238 {ls st : List xV} {M : xM} {Q : Option xV → xM → Prop} {d : Nat} : Wp 132 238 (xr d :: ls) (st) (M) Q = Wp 132 239 (xr d :: ls) (xr d :: st) (M) Q := wp_aload rfl rfl
theorem w132_239 {ls st : List xV} {M : xM} {Q : Option xV → xM → Prop} {a : Int} {v0 : xV} {v1 : xV} {v2 : xV} : Wp 132 239 (v0 :: v1 :: v2 :: xi a :: ls) (st) (M) Q = Wp 132 240 (v0 :: v1 :: v2 :: xi a :: ls) (xi a :: st) (M) Q := wp_iload rfl rfl
theorem w132_240 {ls st : List xV} {M : xM} {Q : Option xV → xM → Prop}  : Wp 132 240 (ls) (st) (M) Q = Wp 132 241 (ls) (xi 2 :: st) (M) Q := wp_const rfl
theorem w132_241 {ls st : List xV} {M : xM} {Q : Option xV → xM → Prop} {a : Int} {b : Int} : Wp 132 241 (ls) (xi b :: xi a :: st) (M) Q = Wp 132 242 (ls) (xi (a + b) :: st) (M) Q := wp_bin (f := xadd) rfl
theorem w132_242 {ls st : List xV} {M : xM} {Q : Option xV → xM → Prop} {a : Int} (ha : xG a) (h1 : 0 ≤ a) (h2 : a < M 58 (-1)) : Wp 132 242 (ls) (xi a :: xr 58 :: st) (M) Q = Wp 132 243 (ls) (xi (M 58 a) :: st) (M) Q := wp_sld rfl ha h1 h2
theorem w132_243 {ls : List xV} {M : xM} {Q : Option xV → xM → Prop} {a1 : Int} {a2 : Int} {d0 : Nat} {s0 : xV} (hc : x_c d0 = 9) : Wp 132 243 (ls) (xi a2 :: xi a1 :: xr d0 :: s0 :: []) (M) Q = Wc 98 [xr d0, xi a1, xi a2] M (fun r M2 => Wp 132 246 (ls) (r.toList ++ (s0 :: [])) M2 Q) := wp_cV rfl rfl hc (Nat.le_of_ble_eq_true rfl) (Nat.le_of_ble_eq_true rfl) rfl rfl
theorem w132_246 {ls st : List xV} {M : xM} {Q : Option xV → xM → Prop} {a : Int} {b : Int} (ha : xG a) (hb : xG b) : Wp 132 246 (ls) (xi b :: xi a :: st) (M) Q = ((a = b → Wp 132 933 (ls) (st) (M) Q) ∧ (¬ (a = b) → Wp 132 249 (ls) (st) (M) Q)) := wp_cmp_eq rfl ha hb
theorem w132_249 {ls st : List xV} {M : xM} {Q : Option xV → xM → Prop}  : Wp 132 249 (ls) (st) (M) Q = Wp 132 250 (ls) (xi 0 :: st) (M) Q := wp_const rfl
theorem w132_250 {ls : List xV} {M : xM} {Q : Option xV → xM → Prop} {a : Int} (ha : a = 0 ∨ a = 1) : Wp 132 250 (ls) ([xi a]) (M) Q = Q (some (xi a)) M := wp_zret rfl ha
theorem w132_251 {ls st : List xV} {M : xM} {Q : Option xV → xM → Prop} {d : Nat} {v0 : xV} : Wp 132 251 (v0 :: xr d :: ls) (st) (M) Q = Wp 132 252 (v0 :: xr d :: ls) (xr d :: st) (M) Q := wp_aload rfl rfl
theorem w132_252 {ls st : List xV} {M : xM} {Q : Option xV → xM → Prop} {d : Nat} : Wp 132 252 (xr d :: ls) (st) (M) Q = Wp 132 253 (xr d :: ls) (xr d :: st) (M) Q := wp_aload rfl rfl
theorem w132_253 {ls st : List xV} {M : xM} {Q : Option xV → xM → Prop} {a : Int} {v0 : xV} {v1 : xV} {v2 : xV} : Wp 132 253 (v0 :: v1 :: v2 :: xi a :: ls) (st) (M) Q = Wp 132 254 (v0 :: v1 :: v2 :: xi a :: ls) (xi a :: st) (M) Q := wp_iload rfl rfl
theorem w132_254 {ls st : List xV} {M : xM} {Q : Option xV → xM → Prop}  : Wp 132 254 (ls) (st) (M) Q = Wp 132 255 (ls) (xi 1 :: st) (M) Q := wp_const rfl
theorem w132_255 {ls st : List xV} {M : xM} {Q : Option xV → xM → Prop} {a : Int} {b : Int} : Wp 132 255 (ls) (xi b :: xi a :: st) (M) Q = Wp 132 256 (ls) (xi (a + b) :: st) (M) Q := wp_bin (f := xadd) rfl
theorem w132_256 {ls st : List xV} {M : xM} {Q : Option xV → xM → Prop} {a : Int} (ha : xG a) (h1 : 0 ≤ a) (h2 : a < M 58 (-1)) : Wp 132 256 (ls) (xi a :: xr 58 :: st) (M) Q = Wp 132 257 (ls) (xi (M 58 a) :: st) (M) Q := wp_sld rfl ha h1 h2
theorem w132_257 {ls : List xV} {M : xM} {Q : Option xV → xM → Prop} {a1 : Int} {d0 : Nat} (hc : x_c d0 = 8) : Wp 132 257 (ls) (xi a1 :: xr d0 :: []) (M) Q = Wc 50 [xr d0, xi a1] M (fun r M2 => Wp 132 260 (ls) (r.toList ++ ([])) M2 Q) := wp_cV rfl rfl hc (Nat.le_of_ble_eq_true rfl) (Nat.le_of_ble_eq_true rfl) rfl rfl
theorem w132_260 {ls st : List xV} {M : xM} {Q : Option xV → xM → Prop} {d : Nat} {v0 : xV} {v1 : xV} : Wp 132 260 (v0 :: v1 :: xr d :: ls) (st) (M) Q = Wp 132 261 (v0 :: v1 :: xr d :: ls) (xr d :: st) (M) Q := wp_aload rfl rfl
theorem w132_261 {ls st : List xV} {M : xM} {Q : Option xV → xM → Prop} {d : Nat} : Wp 132 261 (xr d :: ls) (st) (M) Q = Wp 132 262 (xr d :: ls) (xr d :: st) (M) Q := wp_aload rfl rfl
theorem w132_262 {ls st : List xV} {M : xM} {Q : Option xV → xM → Prop} {a : Int} {v0 : xV} {v1 : xV} {v2 : xV} : Wp 132 262 (v0 :: v1 :: v2 :: xi a :: ls) (st) (M) Q = Wp 132 263 (v0 :: v1 :: v2 :: xi a :: ls) (xi a :: st) (M) Q := wp_iload rfl rfl
theorem w132_263 {ls st : List xV} {M : xM} {Q : Option xV → xM → Prop}  : Wp 132 263 (ls) (st) (M) Q = Wp 132 264 (ls) (xi 1 :: st) (M) Q := wp_const rfl
theorem w132_264 {ls st : List xV} {M : xM} {Q : Option xV → xM → Prop} {a : Int} {b : Int} : Wp 132 264 (ls) (xi b :: xi a :: st) (M) Q = Wp 132 265 (ls) (xi (a + b) :: st) (M) Q := wp_bin (f := xadd) rfl
theorem w132_265 {ls st : List xV} {M : xM} {Q : Option xV → xM → Prop} {a : Int} (ha : xG a) (h1 : 0 ≤ a) (h2 : a < M 58 (-1)) : Wp 132 265 (ls) (xi a :: xr 58 :: st) (M) Q = Wp 132 266 (ls) (xi (M 58 a) :: st) (M) Q := wp_sld rfl ha h1 h2
theorem w132_266 {ls : List xV} {M : xM} {Q : Option xV → xM → Prop} {a1 : Int} {d0 : Nat} {s0 : xV} (hc : x_c d0 = 9) : Wp 132 266 (ls) (xi a1 :: xr d0 :: s0 :: []) (M) Q = Wc 99 [xr d0, xi a1] M (fun r M2 => Wp 132 269 (ls) (r.toList ++ (s0 :: [])) M2 Q) := wp_cV rfl rfl hc (Nat.le_of_ble_eq_true rfl) (Nat.le_of_ble_eq_true rfl) rfl rfl
set_option maxRecDepth 20000 in
theorem w132_269 {ls st : List xV} {M : xM} {Q : Option xV → xM → Prop} {a : Int} {b : Int} (ha : xG a) (hb : xG b) : Wp 132 269 (ls) (xi b :: xi a :: st) (M) Q = ((a = b → Wp 132 933 (ls) (st) (M) Q) ∧ (¬ (a = b) → Wp 132 272 (ls) (st) (M) Q)) := wp_cmp_eq rfl ha hb
set_option maxRecDepth 20000 in
theorem w132_272 {ls st : List xV} {M : xM} {Q : Option xV → xM → Prop}  : Wp 132 272 (ls) (st) (M) Q = Wp 132 273 (ls) (xi 0 :: st) (M) Q := wp_const rfl
set_option maxRecDepth 20000 in
theorem w132_273 {ls : List xV} {M : xM} {Q : Option xV → xM → Prop} {a : Int} (ha : a = 0 ∨ a = 1) : Wp 132 273 (ls) ([xi a]) (M) Q = Q (some (xi a)) M := wp_zret rfl ha
set_option maxRecDepth 20000 in
theorem w132_274 {ls st : List xV} {M : xM} {Q : Option xV → xM → Prop} {d : Nat} {v0 : xV} : Wp 132 274 (v0 :: xr d :: ls) (st) (M) Q = Wp 132 275 (v0 :: xr d :: ls) (xr d :: st) (M) Q := wp_aload rfl rfl
set_option maxRecDepth 20000 in
theorem w132_275 {ls st : List xV} {M : xM} {Q : Option xV → xM → Prop} {d : Nat} : Wp 132 275 (xr d :: ls) (st) (M) Q = Wp 132 276 (xr d :: ls) (xr d :: st) (M) Q := wp_aload rfl rfl
set_option maxRecDepth 20000 in
theorem w132_276 {ls st : List xV} {M : xM} {Q : Option xV → xM → Prop} {a : Int} {v0 : xV} {v1 : xV} {v2 : xV} : Wp 132 276 (v0 :: v1 :: v2 :: xi a :: ls) (st) (M) Q = Wp 132 277 (v0 :: v1 :: v2 :: xi a :: ls) (xi a :: st) (M) Q := wp_iload rfl rfl
set_option maxRecDepth 20000 in
theorem w132_277 {ls st : List xV} {M : xM} {Q : Option xV → xM → Prop}  : Wp 132 277 (ls) (st) (M) Q = Wp 132 278 (ls) (xi 1 :: st) (M) Q := wp_const rfl
set_option maxRecDepth 20000 in
theorem w132_278 {ls st : List xV} {M : xM} {Q : Option xV → xM → Prop} {a : Int} {b : Int} : Wp 132 278 (ls) (xi b :: xi a :: st) (M) Q = Wp 132 279 (ls) (xi (a + b) :: st) (M) Q := wp_bin (f := xadd) rfl
set_option maxRecDepth 20000 in
theorem w132_279 {ls st : List xV} {M : xM} {Q : Option xV → xM → Prop} {a : Int} (ha : xG a) (h1 : 0 ≤ a) (h2 : a < M 58 (-1)) : Wp 132 279 (ls) (xi a :: xr 58 :: st) (M) Q = Wp 132 280 (ls) (xi (M 58 a) :: st) (M) Q := wp_sld rfl ha h1 h2
set_option maxRecDepth 20000 in
theorem w132_280 {ls st : List xV} {M : xM} {Q : Option xV → xM → Prop} {d : Nat} : Wp 132 280 (xr d :: ls) (st) (M) Q = Wp 132 281 (xr d :: ls) (xr d :: st) (M) Q := wp_aload rfl rfl
set_option maxRecDepth 20000 in
theorem w132_281 {ls st : List xV} {M : xM} {Q : Option xV → xM → Prop} {a : Int} {v0 : xV} {v1 : xV} {v2 : xV} : Wp 132 281 (v0 :: v1 :: v2 :: xi a :: ls) (st) (M) Q = Wp 132 282 (v0 :: v1 :: v2 :: xi a :: ls) (xi a :: st) (M) Q := wp_iload rfl rfl
set_option maxRecDepth 20000 in
theorem w132_282 {ls st : List xV} {M : xM} {Q : Option xV → xM → Prop}  : Wp 132 282 (ls) (st) (M) Q = Wp 132 283 (ls) (xi 2 :: st) (M) Q := wp_const rfl
set_option maxRecDepth 20000 in
theorem w132_283 {ls st : List xV} {M : xM} {Q : Option xV → xM → Prop} {a : Int} {b : Int} : Wp 132 283 (ls) (xi b :: xi a :: st) (M) Q = Wp 132 284 (ls) (xi (a + b) :: st) (M) Q := wp_bin (f := xadd) rfl
set_option maxRecDepth 20000 in
theorem w132_284 {ls st : List xV} {M : xM} {Q : Option xV → xM → Prop} {a : Int} (ha : xG a) (h1 : 0 ≤ a) (h2 : a < M 58 (-1)) : Wp 132 284 (ls) (xi a :: xr 58 :: st) (M) Q = Wp 132 285 (ls) (xi (M 58 a) :: st) (M) Q := wp_sld rfl ha h1 h2
set_option maxRecDepth 20000 in
theorem w132_285 {ls : List xV} {M : xM} {Q : Option xV → xM → Prop} {a1 : Int} {a2 : Int} {d0 : Nat} (hc : x_c d0 = 8) : Wp 132 285 (ls) (xi a2 :: xi a1 :: xr d0 :: []) (M) Q = Wc 51 [xr d0, xi a1, xi a2] M (fun r M2 => Wp 132 288 (ls) (r.toList ++ ([])) M2 Q) := wp_cV rfl rfl hc (Nat.le_of_ble_eq_true rfl) (Nat.le_of_ble_eq_true rfl) rfl rfl
set_option maxRecDepth 20000 in
theorem w132_288 {ls st : List xV} {M : xM} {Q : Option xV → xM → Prop} {d : Nat} {v0 : xV} {v1 : xV} : Wp 132 288 (v0 :: v1 :: xr d :: ls) (st) (M) Q = Wp 132 289 (v0 :: v1 :: xr d :: ls) (xr d :: st) (M) Q := wp_aload rfl rfl
set_option maxRecDepth 20000 in
theorem w132_289 {ls st : List xV} {M : xM} {Q : Option xV → xM → Prop} {d : Nat} : Wp 132 289 (xr d :: ls) (st) (M) Q = Wp 132 290 (xr d :: ls) (xr d :: st) (M) Q := wp_aload rfl rfl
set_option maxRecDepth 20000 in
theorem w132_290 {ls st : List xV} {M : xM} {Q : Option xV → xM → Prop} {a : Int} {v0 : xV} {v1 : xV} {v2 : xV} : Wp 132 290 (v0 :: v1 :: v2 :: xi a :: ls) (st) (M) Q = Wp 132 291 (v0 :: v1 :: v2 :: xi a :: ls) (xi a :: st) (M) Q := wp_iload rfl rfl
set_option maxRecDepth 20000 in
theorem w132_291 {ls st : List xV} {M : xM} {Q : Option xV → xM → Prop}  : Wp 132 291 (ls) (st) (M) Q = Wp 132 292 (ls) (xi 1 :: st) (M) Q := wp_const rfl
set_option maxRecDepth 20000 in
theorem w132_292 {ls st : List xV} {M : xM} {Q : Option xV → xM → Prop} {a : Int} {b : Int} : Wp 132 292 (ls) (xi b :: xi a :: st) (M) Q = Wp 132 293 (ls) (xi (a + b) :: st) (M) Q := wp_bin (f := xadd) rfl
set_option maxRecDepth 20000 in
theorem w132_293 {ls st : List xV} {M : xM} {Q : Option xV → xM → Prop} {a : Int} (ha : xG a) (h1 : 0 ≤ a) (h2 : a < M 58 (-1)) : Wp 132 293 (ls) (xi a :: xr 58 :: st) (M) Q = Wp 132 294 (ls) (xi (M 58 a) :: st) (M) Q := wp_sld rfl ha h1 h2
set_option maxRecDepth 20000 in
theorem w132_294 {ls st : List xV} {M : xM} {Q : Option xV → xM → Prop} {d : Nat} : Wp 132 294 (xr d :: ls) (st) (M) Q = Wp 132 295 (xr d :: ls) (xr d :: st) (M) Q := wp_aload rfl rfl
set_option maxRecDepth 20000 in
theorem w132_295 {ls st : List xV} {M : xM} {Q : Option xV → xM → Prop} {a : Int} {v0 : xV} {v1 : xV} {v2 : xV} : Wp 132 295 (v0 :: v1 :: v2 :: xi a :: ls) (st) (M) Q = Wp 132 296 (v0 :: v1 :: v2 :: xi a :: ls) (xi a :: st) (M) Q := wp_iload rfl rfl
set_option maxRecDepth 20000 in
theorem w132_296 {ls st : List xV} {M : xM} {Q : Option xV → xM → Prop}  : Wp 132 296 (ls) (st) (M) Q = Wp 132 297 (ls) (xi 2 :: st) (M) Q := wp_const rfl
set_option maxRecDepth 20000 in
theorem w132_297 {ls st : List xV} {M : xM} {Q : Option xV → xM → Prop} {a : Int} {b : Int} : Wp 132 297 (ls) (xi b :: xi a :: st) (M) Q = Wp 132 298 (ls) (xi (a + b) :: st) (M) Q := wp_bin (f := xadd) rfl
set_option maxRecDepth 20000 in
theorem w132_298 {ls st : List xV} {M : xM} {Q : Option xV → xM → Prop} {a : Int} (ha : xG a) (h1 : 0 ≤ a) (h2 : a < M 58 (-1)) : Wp 132 298 (ls) (xi a :: xr 58 :: st) (M) Q = Wp 132 299 (ls) (xi (M 58 a) :: st) (M) Q := wp_sld rfl ha h1 h2
set_option maxRecDepth 20000 in
theorem w132_299 {ls : List xV} {M : xM} {Q : Option xV → xM → Prop} {a1 : Int} {a2 : Int} {d0 : Nat} {s0 : xV} (hc : x_c d0 = 9) : Wp 132 299 (ls) (xi a2 :: xi a1 :: xr d0 :: s0 :: []) (M) Q = Wc 100 [xr d0, xi a1, xi a2] M (fun r M2 => Wp 132 302 (ls) (r.toList ++ (s0 :: [])) M2 Q) := wp_cV rfl rfl hc (Nat.le_of_ble_eq_true rfl) (Nat.le_of_ble_eq_true rfl) rfl rfl
set_option maxRecDepth 20000 in
theorem w132_302 {ls st : List xV} {M : xM} {Q : Option xV → xM → Prop} {a : Int} {b : Int} (ha : xG a) (hb : xG b) : Wp 132 302 (ls) (xi b :: xi a :: st) (M) Q = ((a = b → Wp 132 933 (ls) (st) (M) Q) ∧ (¬ (a = b) → Wp 132 305 (ls) (st) (M) Q)) := wp_cmp_eq rfl ha hb
set_option maxRecDepth 20000 in
theorem w132_305 {ls st : List xV} {M : xM} {Q : Option xV → xM → Prop}  : Wp 132 305 (ls) (st) (M) Q = Wp 132 306 (ls) (xi 0 :: st) (M) Q := wp_const rfl
set_option maxRecDepth 20000 in
theorem w132_306 {ls : List xV} {M : xM} {Q : Option xV → xM → Prop} {a : Int} (ha : a = 0 ∨ a = 1) : Wp 132 306 (ls) ([xi a]) (M) Q = Q (some (xi a)) M := wp_zret rfl ha
set_option maxRecDepth 20000 in
theorem w132_307 {ls st : List xV} {M : xM} {Q : Option xV → xM → Prop} {d : Nat} {v0 : xV} : Wp 132 307 (v0 :: xr d :: ls) (st) (M) Q = Wp 132 308 (v0 :: xr d :: ls) (xr d :: st) (M) Q := wp_aload rfl rfl
set_option maxRecDepth 20000 in
theorem w132_308 {ls st : List xV} {M : xM} {Q : Option xV → xM → Prop} {d : Nat} : Wp 132 308 (xr d :: ls) (st) (M) Q = Wp 132 309 (xr d :: ls) (xr d :: st) (M) Q := wp_aload rfl rfl
set_option maxRecDepth 20000 in
theorem w132_309 {ls st : List xV} {M : xM} {Q : Option xV → xM → Prop} {a : Int} {v0 : xV} {v1 : xV} {v2 : xV} : Wp 132 309 (v0 :: v1 :: v2 :: xi a :: ls) (st) (M) Q = Wp 132 310 (v0 :: v1 :: v2 :: xi a :: ls) (xi a :: st) (M) Q := wp_iload rfl rfl
set_option maxRecDepth 20000 in
theorem w132_310 {ls st : List xV} {M : xM} {Q : Option xV → xM → Prop}  : Wp 132 310 (ls) (st) (M) Q = Wp 132 311 (ls) (xi 1 :: st) (M) Q := wp_const rfl
set_option maxRecDepth 20000 in
theorem w132_311 {ls st : List xV} {M : xM} {Q : Option xV → xM → Prop} {a : Int} {b : Int} : Wp 132 311 (ls) (xi b :: xi a :: st) (M) Q = Wp 132 312 (ls) (xi (a + b) :: st) (M) Q := wp_bin (f := xadd) rfl
set_option maxRecDepth 20000 in
theorem w132_312 {ls st : List xV} {M : xM} {Q : Option xV → xM → Prop} {a : Int} (ha : xG a) (h1 : 0 ≤ a) (h2 : a < M 58 (-1)) : Wp 132 312 (ls) (xi a :: xr 58 :: st) (M) Q = Wp 132 313 (ls) (xi (M 58 a) :: st) (M) Q := wp_sld rfl ha h1 h2
set_option maxRecDepth 20000 in
theorem w132_313 {ls st : List xV} {M : xM} {Q : Option xV → xM → Prop} {d : Nat} : Wp 132 313 (xr d :: ls) (st) (M) Q = Wp 132 314 (xr d :: ls) (xr d :: st) (M) Q := wp_aload rfl rfl
set_option maxRecDepth 20000 in
theorem w132_314 {ls st : List xV} {M : xM} {Q : Option xV → xM → Prop} {a : Int} {v0 : xV} {v1 : xV} {v2 : xV} : Wp 132 314 (v0 :: v1 :: v2 :: xi a :: ls) (st) (M) Q = Wp 132 315 (v0 :: v1 :: v2 :: xi a :: ls) (xi a :: st) (M) Q := wp_iload rfl rfl
set_option maxRecDepth 20000 in
theorem w132_315 {ls st : List xV} {M : xM} {Q : Option xV → xM → Prop}  : Wp 132 315 (ls) (st) (M) Q = Wp 132 316 (ls) (xi 2 :: st) (M) Q := wp_const rfl
set_option maxRecDepth 20000 in
theorem w132_316 {ls st : List xV} {M : xM} {Q : Option xV → xM → Prop} {a : Int} {b : Int} : Wp 132 316 (ls) (xi b :: xi a :: st) (M) Q = Wp 132 317 (ls) (xi (a + b) :: st) (M) Q := wp_bin (f := xadd) rfl
set_option maxRecDepth 20000 in
theorem w132_317 {ls st : List xV} {M : xM} {Q : Option xV → xM → Prop} {a : Int} (ha : xG a) (h1 : 0 ≤ a) (h2 : a < M 58 (-1)) : Wp 132 317 (ls) (xi a :: xr 58 :: st) (M) Q = Wp 132 318 (ls) (xi (M 58 a) :: st) (M) Q := wp_sld rfl ha h1 h2
set_option maxRecDepth 20000 in
theorem w132_318 {ls : List xV} {M : xM} {Q : Option xV → xM → Prop} {a1 : Int} {a2 : Int} {d0 : Nat} (hc : x_c d0 = 8) : Wp 132 318 (ls) (xi a2 :: xi a1 :: xr d0 :: []) (M) Q = Wc 52 [xr d0, xi a1, xi a2] M (fun r M2 => Wp 132 321 (ls) (r.toList ++ ([])) M2 Q) := wp_cV rfl rfl hc (Nat.le_of_ble_eq_true rfl) (Nat.le_of_ble_eq_true rfl) rfl rfl
set_option maxRecDepth 20000 in
theorem w132_321 {ls st : List xV} {M : xM} {Q : Option xV → xM → Prop} {d : Nat} {v0 : xV} {v1 : xV} : Wp 132 321 (v0 :: v1 :: xr d :: ls) (st) (M) Q = Wp 132 322 (v0 :: v1 :: xr d :: ls) (xr d :: st) (M) Q := wp_aload rfl rfl
set_option maxRecDepth 20000 in
theorem w132_322 {ls st : List xV} {M : xM} {Q : Option xV → xM → Prop} {d : Nat} : Wp 132 322 (xr d :: ls) (st) (M) Q = Wp 132 323 (xr d :: ls) (xr d :: st) (M) Q := wp_aload rfl rfl
set_option maxRecDepth 20000 in
theorem w132_323 {ls st : List xV} {M : xM} {Q : Option xV → xM → Prop} {a : Int} {v0 : xV} {v1 : xV} {v2 : xV} : Wp 132 323 (v0 :: v1 :: v2 :: xi a :: ls) (st) (M) Q = Wp 132 324 (v0 :: v1 :: v2 :: xi a :: ls) (xi a :: st) (M) Q := wp_iload rfl rfl
set_option maxRecDepth 20000 in
theorem w132_324 {ls st : List xV} {M : xM} {Q : Option xV → xM → Prop}  : Wp 132 324 (ls) (st) (M) Q = Wp 132 325 (ls) (xi 1 :: st) (M) Q := wp_const rfl
set_option maxRecDepth 20000 in
theorem w132_325 {ls st : List xV} {M : xM} {Q : Option xV → xM → Prop} {a : Int} {b : Int} : Wp 132 325 (ls) (xi b :: xi a :: st) (M) Q = Wp 132 326 (ls) (xi (a + b) :: st) (M) Q := wp_bin (f := xadd) rfl
set_option maxRecDepth 20000 in
theorem w132_326 {ls st : List xV} {M : xM} {Q : Option xV → xM → Prop} {a : Int} (ha : xG a) (h1 : 0 ≤ a) (h2 : a < M 58 (-1)) : Wp 132 326 (ls) (xi a :: xr 58 :: st) (M) Q = Wp 132 327 (ls) (xi (M 58 a) :: st) (M) Q := wp_sld rfl ha h1 h2
set_option maxRecDepth 20000 in
theorem w132_327 {ls st : List xV} {M : xM} {Q : Option xV → xM → Prop} {d : Nat} : Wp 132 327 (xr d :: ls) (st) (M) Q = Wp 132 328 (xr d :: ls) (xr d :: st) (M) Q := wp_aload rfl rfl
set_option maxRecDepth 20000 in
theorem w132_328 {ls st : List xV} {M : xM} {Q : Option xV → xM → Prop} {a : Int} {v0 : xV} {v1 : xV} {v2 : xV} : Wp 132 328 (v0 :: v1 :: v2 :: xi a :: ls) (st) (M) Q = Wp 132 329 (v0 :: v1 :: v2 :: xi a :: ls) (xi a :: st) (M) Q := wp_iload rfl rfl
set_option maxRecDepth 20000 in
theorem w132_329 {ls st : List xV} {M : xM} {Q : Option xV → xM → Prop}  : Wp 132 329 (ls) (st) (M) Q = Wp 132 330 (ls) (xi 2 :: st) (M) Q := wp_const rfl
set_option maxRecDepth 20000 in
theorem w132_330 {ls st : List xV} {M : xM} {Q : Option xV → xM → Prop} {a : Int} {b : Int} : Wp 132 330 (ls) (xi b :: xi a :: st) (M) Q = Wp 132 331 (ls) (xi (a + b) :: st) (M) Q := wp_bin (f := xadd) rfl
set_option maxRecDepth 20000 in
theorem w132_331 {ls st : List xV} {M : xM} {Q : Option xV → xM → Prop} {a : Int} (ha : xG a) (h1 : 0 ≤ a) (h2 : a < M 58 (-1)) : Wp 132 331 (ls) (xi a :: xr 58 :: st) (M) Q = Wp 132 332 (ls) (xi (M 58 a) :: st) (M) Q := wp_sld rfl ha h1 h2
set_option maxRecDepth 20000 in
theorem w132_332 {ls : List xV} {M : xM} {Q : Option xV → xM → Prop} {a1 : Int} {a2 : Int} {d0 : Nat} {s0 : xV} (hc : x_c d0 = 9) : Wp 132 332 (ls) (xi a2 :: xi a1 :: xr d0 :: s0 :: []) (M) Q = Wc 102 [xr d0, xi a1, xi a2] M (fun r M2 => Wp 132 335 (ls) (r.toList ++ (s0 :: [])) M2 Q) := wp_cV rfl rfl hc (Nat.le_of_ble_eq_true rfl) (Nat.le_of_ble_eq_true rfl) rfl rfl
set_option maxRecDepth 20000 in
theorem w132_335 {ls st : List xV} {M : xM} {Q : Option xV → xM → Prop} {a : Int} {b : Int} (ha : xG a) (hb : xG b) : Wp 132 335 (ls) (xi b :: xi a :: st) (M) Q = ((a = b → Wp 132 933 (ls) (st) (M) Q) ∧ (¬ (a = b) → Wp 132 338 (ls) (st) (M) Q)) := wp_cmp_eq rfl ha hb
set_option maxRecDepth 20000 in
theorem w132_338 {ls st : List xV} {M : xM} {Q : Option xV → xM → Prop}  : Wp 132 338 (ls) (st) (M) Q = Wp 132 339 (ls) (xi 0 :: st) (M) Q := wp_const rfl
set_option maxRecDepth 20000 in
theorem w132_339 {ls : List xV} {M : xM} {Q : Option xV → xM → Prop} {a : Int} (ha : a = 0 ∨ a = 1) : Wp 132 339 (ls) ([xi a]) (M) Q = Q (some (xi a)) M := wp_zret rfl ha
set_option maxRecDepth 20000 in
theorem w132_340 {ls st : List xV} {M : xM} {Q : Option xV → xM → Prop} {d : Nat} {v0 : xV} : Wp 132 340 (v0 :: xr d :: ls) (st) (M) Q = Wp 132 341 (v0 :: xr d :: ls) (xr d :: st) (M) Q := wp_aload rfl rfl
set_option maxRecDepth 20000 in
theorem w132_341 {ls st : List xV} {M : xM} {Q : Option xV → xM → Prop} {d : Nat} : Wp 132 341 (xr d :: ls) (st) (M) Q = Wp 132 342 (xr d :: ls) (xr d :: st) (M) Q := wp_aload rfl rfl
set_option maxRecDepth 20000 in
theorem w132_342 {ls st : List xV} {M : xM} {Q : Option xV → xM → Prop} {a : Int} {v0 : xV} {v1 : xV} {v2 : xV} : Wp 132 342 (v0 :: v1 :: v2 :: xi a :: ls) (st) (M) Q = Wp 132 343 (v0 :: v1 :: v2 :: xi a :: ls) (xi a :: st) (M) Q := wp_iload rfl rfl
set_option maxRecDepth 20000 in
theorem w132_343 {ls st : List xV} {M : xM} {Q : Option xV → xM → Prop}  : Wp 132 343 (ls) (st) (M) Q = Wp 132 344 (ls) (xi 1 :: st) (M) Q := wp_const rfl
set_option maxRecDepth 20000 in
theorem w132_344 {ls st : List xV} {M : xM} {Q : Option xV → xM → Prop} {a : Int} {b : Int} : Wp 132 344 (ls) (xi b :: xi a :: st) (M) Q = Wp 132 345 (ls) (xi (a + b) :: st) (M) Q := wp_bin (f := xadd) rfl
set_option maxRecDepth 20000 in
theorem w132_345 {ls st : List xV} {M : xM} {Q : Option xV → xM → Prop} {a : Int} (ha : xG a) (h1 : 0 ≤ a) (h2 : a < M 58 (-1)) : Wp 132 345 (ls) (xi a :: xr 58 :: st) (M) Q = Wp 132 346 (ls) (xi (M 58 a) :: st) (M) Q := wp_sld rfl ha h1 h2
set_option maxRecDepth 20000 in
theorem w132_346 {ls : List xV} {M : xM} {Q : Option xV → xM → Prop} {a1 : Int} {d0 : Nat} (hc : x_c d0 = 8) : Wp 132 346 (ls) (xi a1 :: xr d0 :: []) (M) Q = Wc 53 [xr d0, xi a1] M (fun r M2 => Wp 132 349 (ls) (r.toList ++ ([])) M2 Q) := wp_cV rfl rfl hc (Nat.le_of_ble_eq_true rfl) (Nat.le_of_ble_eq_true rfl) rfl rfl
set_option maxRecDepth 20000 in
theorem w132_349 {ls st : List xV} {M : xM} {Q : Option xV → xM → Prop} {d : Nat} {v0 : xV} {v1 : xV} : Wp 132 349 (v0 :: v1 :: xr d :: ls) (st) (M) Q = Wp 132 350 (v0 :: v1 :: xr d :: ls) (xr d :: st) (M) Q := wp_aload rfl rfl
set_option maxRecDepth 20000 in
theorem w132_350 {ls st : List xV} {M : xM} {Q : Option xV → xM → Prop} {d : Nat} : Wp 132 350 (xr d :: ls) (st) (M) Q = Wp 132 351 (xr d :: ls) (xr d :: st) (M) Q := wp_aload rfl rfl
set_option maxRecDepth 20000 in
theorem w132_351 {ls st : List xV} {M : xM} {Q : Option xV → xM → Prop} {a : Int} {v0 : xV} {v1 : xV} {v2 : xV} : Wp 132 351 (v0 :: v1 :: v2 :: xi a :: ls) (st) (M) Q = Wp 132 352 (v0 :: v1 :: v2 :: xi a :: ls) (xi a :: st) (M) Q := wp_iload rfl rfl
set_option maxRecDepth 20000 in
theorem w132_352 {ls st : List xV} {M : xM} {Q : Option xV → xM → Prop}  : Wp 132 352 (ls) (st) (M) Q = Wp 132 353 (ls) (xi 1 :: st) (M) Q := wp_const rfl
set_option maxRecDepth 20000 in
theorem w132_353 {ls st : List xV} {M : xM} {Q : Option xV → xM → Prop} {a : Int} {b : Int} : Wp 132 353 (ls) (xi b :: xi a :: st) (M) Q = Wp 132 354 (ls) (xi (a + b) :: st) (M) Q := wp_bin (f := xadd) rfl
set_option maxRecDepth 20000 in
theorem w132_354 {ls st : List xV} {M : xM} {Q : Option xV → xM → Prop} {a : Int} (ha : xG a) (h1 : 0 ≤ a) (h2 : a < M 58 (-1)) : Wp 132 354 (ls) (xi a :: xr 58 :: st) (M) Q = Wp 132 355 (ls) (xi (M 58 a) :: st) (M) Q := wp_sld rfl ha h1 h2
set_option maxRecDepth 20000 in
theorem w132_355 {ls : List xV} {M : xM} {Q : Option xV → xM → Prop} {a1 : Int} {d0 : Nat} {s0 : xV} (hc : x_c d0 = 9) : Wp 132 355 (ls) (xi a1 :: xr d0 :: s0 :: []) (M) Q = Wc 103 [xr d0, xi a1] M (fun r M2 => Wp 132 358 (ls) (r.toList ++ (s0 :: [])) M2 Q) := wp_cV rfl rfl hc (Nat.le_of_ble_eq_true rfl) (Nat.le_of_ble_eq_true rfl) rfl rfl
set_option maxRecDepth 20000 in
theorem w132_358 {ls st : List xV} {M : xM} {Q : Option xV → xM → Prop} {a : Int} {b : Int} (ha : xG a) (hb : xG b) : Wp 132 358 (ls) (xi b :: xi a :: st) (M) Q = ((a = b → Wp 132 933 (ls) (st) (M) Q) ∧ (¬ (a = b) → Wp 132 361 (ls) (st) (M) Q)) := wp_cmp_eq rfl ha hb
set_option maxRecDepth 20000 in
theorem w132_361 {ls st : List xV} {M : xM} {Q : Option xV → xM → Prop}  : Wp 132 361 (ls) (st) (M) Q = Wp 132 362 (ls) (xi 0 :: st) (M) Q := wp_const rfl
set_option maxRecDepth 20000 in
theorem w132_362 {ls : List xV} {M : xM} {Q : Option xV → xM → Prop} {a : Int} (ha : a = 0 ∨ a = 1) : Wp 132 362 (ls) ([xi a]) (M) Q = Q (some (xi a)) M := wp_zret rfl ha
set_option maxRecDepth 20000 in
theorem w132_363 {ls st : List xV} {M : xM} {Q : Option xV → xM → Prop} {d : Nat} {v0 : xV} : Wp 132 363 (v0 :: xr d :: ls) (st) (M) Q = Wp 132 364 (v0 :: xr d :: ls) (xr d :: st) (M) Q := wp_aload rfl rfl
set_option maxRecDepth 20000 in
theorem w132_364 {ls st : List xV} {M : xM} {Q : Option xV → xM → Prop} {d : Nat} : Wp 132 364 (xr d :: ls) (st) (M) Q = Wp 132 365 (xr d :: ls) (xr d :: st) (M) Q := wp_aload rfl rfl
set_option maxRecDepth 20000 in
theorem w132_365 {ls st : List xV} {M : xM} {Q : Option xV → xM → Prop} {a : Int} {v0 : xV} {v1 : xV} {v2 : xV} : Wp 132 365 (v0 :: v1 :: v2 :: xi a :: ls) (st) (M) Q = Wp 132 366 (v0 :: v1 :: v2 :: xi a :: ls) (xi a :: st) (M) Q := wp_iload rfl rfl
set_option maxRecDepth 20000 in
theorem w132_366 {ls st : List xV} {M : xM} {Q : Option xV → xM → Prop}  : Wp 132 366 (ls) (st) (M) Q = Wp 132 367 (ls) (xi 1 :: st) (M) Q := wp_const rfl
set_option maxRecDepth 20000 in
theorem w132_367 {ls st : List xV} {M : xM} {Q : Option xV → xM → Prop} {a : Int} {b : Int} : Wp 132 367 (ls) (xi b :: xi a :: st) (M) Q = Wp 132 368 (ls) (xi (a + b) :: st) (M) Q := wp_bin (f := xadd) rfl
set_option maxRecDepth 20000 in
theorem w132_368 {ls st : List xV} {M : xM} {Q : Option xV → xM → Prop} {a : Int} (ha : xG a) (h1 : 0 ≤ a) (h2 : a < M 58 (-1)) : Wp 132 368 (ls) (xi a :: xr 58 :: st) (M) Q = Wp 132 369 (ls) (xi (M 58 a) :: st) (M) Q := wp_sld rfl ha h1 h2
set_option maxRecDepth 20000 in
theorem w132_369 {ls : List xV} {M : xM} {Q : Option xV → xM → Prop} {a1 : Int} {d0 : Nat} (hc : x_c d0 = 8) : Wp 132 369 (ls) (xi a1 :: xr d0 :: []) (M) Q = Wc 54 [xr d0, xi a1] M (fun r M2 => Wp 132 372 (ls) (r.toList ++ ([])) M2 Q) := wp_cV rfl rfl hc (Nat.le_of_ble_eq_true rfl) (Nat.le_of_ble_eq_true rfl) rfl rfl
set_option maxRecDepth 20000 in
theorem w132_372 {ls st : List xV} {M : xM} {Q : Option xV → xM → Prop} {d : Nat} {v0 : xV} {v1 : xV} : Wp 132 372 (v0 :: v1 :: xr d :: ls) (st) (M) Q = Wp 132 373 (v0 :: v1 :: xr d :: ls) (xr d :: st) (M) Q := wp_aload rfl rfl
set_option maxRecDepth 20000 in
theorem w132_373 {ls st : List xV} {M : xM} {Q : Option xV → xM → Prop} {d : Nat} : Wp 132 373 (xr d :: ls) (st) (M) Q = Wp 132 374 (xr d :: ls) (xr d :: st) (M) Q := wp_aload rfl rfl
set_option maxRecDepth 20000 in
theorem w132_374 {ls st : List xV} {M : xM} {Q : Option xV → xM → Prop} {a : Int} {v0 : xV} {v1 : xV} {v2 : xV} : Wp 132 374 (v0 :: v1 :: v2 :: xi a :: ls) (st) (M) Q = Wp 132 375 (v0 :: v1 :: v2 :: xi a :: ls) (xi a :: st) (M) Q := wp_iload rfl rfl
set_option maxRecDepth 20000 in
theorem w132_375 {ls st : List xV} {M : xM} {Q : Option xV → xM → Prop}  : Wp 132 375 (ls) (st) (M) Q = Wp 132 376 (ls) (xi 1 :: st) (M) Q := wp_const rfl
set_option maxRecDepth 20000 in
theorem w132_376 {ls st : List xV} {M : xM} {Q : Option xV → xM → Prop} {a : Int} {b : Int} : Wp 132 376 (ls) (xi b :: xi a :: st) (M) Q = Wp 132 377 (ls) (xi (a + b) :: st) (M) Q := wp_bin (f := xadd) rfl
set_option maxRecDepth 20000 in
theorem w132_377 {ls st : List xV} {M : xM} {Q : Option xV → xM → Prop} {a : Int} (ha : xG a) (h1 : 0 ≤ a) (h2 : a < M 58 (-1)) : Wp 132 377 (ls) (xi a :: xr 58 :: st) (M) Q = Wp 132 378 (ls) (xi (M 58 a) :: st) (M) Q := wp_sld rfl ha h1 h2
set_option maxRecDepth 20000 in
theorem w132_378 {ls : List xV} {M : xM} {Q : Option xV → xM → Prop} {a1 : Int} {d0 : Nat} {s0 : xV} (hc : x_c d0 = 9) : Wp 132 378 (ls) (xi a1 :: xr d0 :: s0 :: []) (M) Q = Wc 104 [xr d0, xi a1] M (fun r M2 => Wp 132 381 (ls) (r.toList ++ (s0 :: [])) M2 Q) := wp_cV rfl rfl hc (Nat.le_of_ble_eq_true rfl) (Nat.le_of_ble_eq_true rfl) rfl rfl
set_option maxRecDepth 20000 in
theorem w132_381 {ls st : List xV} {M : xM} {Q : Option xV → xM → Prop} {a : Int} {b : Int} (ha : xG a) (hb : xG b) : Wp 132 381 (ls) (xi b :: xi a :: st) (M) Q = ((a = b → Wp 132 933 (ls) (st) (M) Q) ∧ (¬ (a = b) → Wp 132 384 (ls) (st) (M) Q)) := wp_cmp_eq rfl ha hb
set_option maxRecDepth 20000 in
theorem w132_384 {ls st : List xV} {M : xM} {Q : Option xV → xM → Prop}  : Wp 132 384 (ls) (st) (M) Q = Wp 132 385 (ls) (xi 0 :: st) (M) Q := wp_const rfl
set_option maxRecDepth 20000 in
theorem w132_385 {ls : List xV} {M : xM} {Q : Option xV → xM → Prop} {a : Int} (ha : a = 0 ∨ a = 1) : Wp 132 385 (ls) ([xi a]) (M) Q = Q (some (xi a)) M := wp_zret rfl ha
set_option maxRecDepth 20000 in
theorem w132_386 {ls st : List xV} {M : xM} {Q : Option xV → xM → Prop} {d : Nat} {v0 : xV} : Wp 132 386 (v0 :: xr d :: ls) (st) (M) Q = Wp 132 387 (v0 :: xr d :: ls) (xr d :: st) (M) Q := wp_aload rfl rfl
set_option maxRecDepth 20000 in
theorem w132_387 {ls : List xV} {M : xM} {Q : Option xV → xM → Prop} {d0 : Nat} (hc : x_c d0 = 8) : Wp 132 387 (ls) (xr d0 :: []) (M) Q = Wc 55 [xr d0] M (fun r M2 => Wp 132 390 (ls) (r.toList ++ ([])) M2 Q) := wp_cV rfl rfl hc (Nat.le_of_ble_eq_true rfl) (Nat.le_of_ble_eq_true rfl) rfl rfl
set_option maxRecDepth 20000 in
theorem w132_390 {ls st : List xV} {M : xM} {Q : Option xV → xM → Prop} {d : Nat} {v0 : xV} {v1 : xV} : Wp 132 390 (v0 :: v1 :: xr d :: ls) (st) (M) Q = Wp 132 391 (v0 :: v1 :: xr d :: ls) (xr d :: st) (M) Q := wp_aload rfl rfl
set_option maxRecDepth 20000 in
theorem w132_391 {ls : List xV} {M : xM} {Q : Option xV → xM → Prop} {d0 : Nat} {s0 : xV} (hc : x_c d0 = 9) : Wp 132 391 (ls) (xr d0 :: s0 :: []) (M) Q = Wc 105 [xr d0] M (fun r M2 => Wp 132 394 (ls) (r.toList ++ (s0 :: [])) M2 Q) := wp_cV rfl rfl hc (Nat.le_of_ble_eq_true rfl) (Nat.le_of_ble_eq_true rfl) rfl rfl
set_option maxRecDepth 20000 in
theorem w132_394 {ls st : List xV} {M : xM} {Q : Option xV → xM → Prop} {a : Int} {b : Int} (ha : xG a) (hb : xG b) : Wp 132 394 (ls) (xi b :: xi a :: st) (M) Q = ((a = b → Wp 132 933 (ls) (st) (M) Q) ∧ (¬ (a = b) → Wp 132 397 (ls) (st) (M) Q)) := wp_cmp_eq rfl ha hb
set_option maxRecDepth 20000 in
theorem w132_397 {ls st : List xV} {M : xM} {Q : Option xV → xM → Prop}  : Wp 132 397 (ls) (st) (M) Q = Wp 132 398 (ls) (xi 0 :: st) (M) Q := wp_const rfl
set_option maxRecDepth 20000 in
theorem w132_398 {ls : List xV} {M : xM} {Q : Option xV → xM → Prop} {a : Int} (ha : a = 0 ∨ a = 1) : Wp 132 398 (ls) ([xi a]) (M) Q = Q (some (xi a)) M := wp_zret rfl ha
set_option maxRecDepth 20000 in
theorem w132_399 {ls st : List xV} {M : xM} {Q : Option xV → xM → Prop} {d : Nat} {v0 : xV} : Wp 132 399 (v0 :: xr d :: ls) (st) (M) Q = Wp 132 400 (v0 :: xr d :: ls) (xr d :: st) (M) Q := wp_aload rfl rfl
set_option maxRecDepth 20000 in
theorem w132_400 {ls st : List xV} {M : xM} {Q : Option xV → xM → Prop} {d : Nat} : Wp 132 400 (xr d :: ls) (st) (M) Q = Wp 132 401 (xr d :: ls) (xr d :: st) (M) Q := wp_aload rfl rfl
set_option maxRecDepth 20000 in
theorem w132_401 {ls st : List xV} {M : xM} {Q : Option xV → xM → Prop} {a : Int} {v0 : xV} {v1 : xV} {v2 : xV} : Wp 132 401 (v0 :: v1 :: v2 :: xi a :: ls) (st) (M) Q = Wp 132 402 (v0 :: v1 :: v2 :: xi a :: ls) (xi a :: st) (M) Q := wp_iload rfl rfl
set_option maxRecDepth 20000 in
theorem w132_402 {ls st : List xV} {M : xM} {Q : Option xV → xM → Prop}  : Wp 132 402 (ls) (st) (M) Q = Wp 132 403 (ls) (xi 1 :: st) (M) Q := wp_const rfl
set_option maxRecDepth 20000 in
theorem w132_403 {ls st : List xV} {M : xM} {Q : Option xV → xM → Prop} {a : Int} {b : Int} : Wp 132 403 (ls) (xi b :: xi a :: st) (M) Q = Wp 132 404 (ls) (xi (a + b) :: st) (M) Q := wp_bin (f := xadd) rfl
set_option maxRecDepth 20000 in
theorem w132_404 {ls st : List xV} {M : xM} {Q : Option xV → xM → Prop} {a : Int} (ha : xG a) (h1 : 0 ≤ a) (h2 : a < M 58 (-1)) : Wp 132 404 (ls) (xi a :: xr 58 :: st) (M) Q = Wp 132 405 (ls) (xi (M 58 a) :: st) (M) Q := wp_sld rfl ha h1 h2
set_option maxRecDepth 20000 in
theorem w132_405 {ls st : List xV} {M : xM} {Q : Option xV → xM → Prop} {d : Nat} : Wp 132 405 (xr d :: ls) (st) (M) Q = Wp 132 406 (xr d :: ls) (xr d :: st) (M) Q := wp_aload rfl rfl
set_option maxRecDepth 20000 in
theorem w132_406 {ls st : List xV} {M : xM} {Q : Option xV → xM → Prop} {a : Int} {v0 : xV} {v1 : xV} {v2 : xV} : Wp 132 406 (v0 :: v1 :: v2 :: xi a :: ls) (st) (M) Q = Wp 132 407 (v0 :: v1 :: v2 :: xi a :: ls) (xi a :: st) (M) Q := wp_iload rfl rfl
set_option maxRecDepth 20000 in
theorem w132_407 {ls st : List xV} {M : xM} {Q : Option xV → xM → Prop}  : Wp 132 407 (ls) (st) (M) Q = Wp 132 408 (ls) (xi 2 :: st) (M) Q := wp_const rfl
set_option maxRecDepth 20000 in
theorem w132_408 {ls st : List xV} {M : xM} {Q : Option xV → xM → Prop} {a : Int} {b : Int} : Wp 132 408 (ls) (xi b :: xi a :: st) (M) Q = Wp 132 409 (ls) (xi (a + b) :: st) (M) Q := wp_bin (f := xadd) rfl
set_option maxRecDepth 20000 in
theorem w132_409 {ls st : List xV} {M : xM} {Q : Option xV → xM → Prop} {a : Int} (ha : xG a) (h1 : 0 ≤ a) (h2 : a < M 58 (-1)) : Wp 132 409 (ls) (xi a :: xr 58 :: st) (M) Q = Wp 132 410 (ls) (xi (M 58 a) :: st) (M) Q := wp_sld rfl ha h1 h2
set_option maxRecDepth 20000 in
theorem w132_410 {ls st : List xV} {M : xM} {Q : Option xV → xM → Prop} {d : Nat} : Wp 132 410 (xr d :: ls) (st) (M) Q = Wp 132 411 (xr d :: ls) (xr d :: st) (M) Q := wp_aload rfl rfl
set_option maxRecDepth 20000 in
theorem w132_411 {ls st : List xV} {M : xM} {Q : Option xV → xM → Prop} {a : Int} {v0 : xV} {v1 : xV} {v2 : xV} : Wp 132 411 (v0 :: v1 :: v2 :: xi a :: ls) (st) (M) Q = Wp 132 412 (v0 :: v1 :: v2 :: xi a :: ls) (xi a :: st) (M) Q := wp_iload rfl rfl
set_option maxRecDepth 20000 in
theorem w132_412 {ls st : List xV} {M : xM} {Q : Option xV → xM → Prop}  : Wp 132 412 (ls) (st) (M) Q = Wp 132 413 (ls) (xi 3 :: st) (M) Q := wp_const rfl
set_option maxRecDepth 20000 in
theorem w132_413 {ls st : List xV} {M : xM} {Q : Option xV → xM → Prop} {a : Int} {b : Int} : Wp 132 413 (ls) (xi b :: xi a :: st) (M) Q = Wp 132 414 (ls) (xi (a + b) :: st) (M) Q := wp_bin (f := xadd) rfl
set_option maxRecDepth 20000 in
theorem w132_414 {ls st : List xV} {M : xM} {Q : Option xV → xM → Prop} {a : Int} (ha : xG a) (h1 : 0 ≤ a) (h2 : a < M 58 (-1)) : Wp 132 414 (ls) (xi a :: xr 58 :: st) (M) Q = Wp 132 415 (ls) (xi (M 58 a) :: st) (M) Q := wp_sld rfl ha h1 h2
set_option maxRecDepth 20000 in
theorem w132_415 {ls : List xV} {M : xM} {Q : Option xV → xM → Prop} {a1 : Int} {a2 : Int} {a3 : Int} {d0 : Nat} (hc : x_c d0 = 8) : Wp 132 415 (ls) (xi a3 :: xi a2 :: xi a1 :: xr d0 :: []) (M) Q = Wc 56 [xr d0, xi a1, xi a2, xi a3] M (fun r M2 => Wp 132 418 (ls) (r.toList ++ ([])) M2 Q) := wp_cV rfl rfl hc (Nat.le_of_ble_eq_true rfl) (Nat.le_of_ble_eq_true rfl) rfl rfl
set_option maxRecDepth 20000 in
theorem w132_418 {ls st : List xV} {M : xM} {Q : Option xV → xM → Prop} {d : Nat} {v0 : xV} {v1 : xV} : Wp 132 418 (v0 :: v1 :: xr d :: ls) (st) (M) Q = Wp 132 419 (v0 :: v1 :: xr d :: ls) (xr d :: st) (M) Q := wp_aload rfl rfl
set_option maxRecDepth 20000 in
theorem w132_419 {ls st : List xV} {M : xM} {Q : Option xV → xM → Prop} {d : Nat} : Wp 132 419 (xr d :: ls) (st) (M) Q = Wp 132 420 (xr d :: ls) (xr d :: st) (M) Q := wp_aload rfl rfl
set_option maxRecDepth 20000 in
theorem w132_420 {ls st : List xV} {M : xM} {Q : Option xV → xM → Prop} {a : Int} {v0 : xV} {v1 : xV} {v2 : xV} : Wp 132 420 (v0 :: v1 :: v2 :: xi a :: ls) (st) (M) Q = Wp 132 421 (v0 :: v1 :: v2 :: xi a :: ls) (xi a :: st) (M) Q := wp_iload rfl rfl
set_option maxRecDepth 20000 in
theorem w132_421 {ls st : List xV} {M : xM} {Q : Option xV → xM → Prop}  : Wp 132 421 (ls) (st) (M) Q = Wp 132 422 (ls) (xi 1 :: st) (M) Q := wp_const rfl
set_option maxRecDepth 20000 in
theorem w132_422 {ls st : List xV} {M : xM} {Q : Option xV → xM → Prop} {a : Int} {b : Int} : Wp 132 422 (ls) (xi b :: xi a :: st) (M) Q = Wp 132 423 (ls) (xi (a + b) :: st) (M) Q := wp_bin (f := xadd) rfl
set_option maxRecDepth 20000 in
theorem w132_423 {ls st : List xV} {M : xM} {Q : Option xV → xM → Prop} {a : Int} (ha : xG a) (h1 : 0 ≤ a) (h2 : a < M 58 (-1)) : Wp 132 423 (ls) (xi a :: xr 58 :: st) (M) Q = Wp 132 424 (ls) (xi (M 58 a) :: st) (M) Q := wp_sld rfl ha h1 h2
set_option maxRecDepth 20000 in
theorem w132_424 {ls st : List xV} {M : xM} {Q : Option xV → xM → Prop} {d : Nat} : Wp 132 424 (xr d :: ls) (st) (M) Q = Wp 132 425 (xr d :: ls) (xr d :: st) (M) Q := wp_aload rfl rfl
set_option maxRecDepth 20000 in
theorem w132_425 {ls st : List xV} {M : xM} {Q : Option xV → xM → Prop} {a : Int} {v0 : xV} {v1 : xV} {v2 : xV} : Wp 132 425 (v0 :: v1 :: v2 :: xi a :: ls) (st) (M) Q = Wp 132 426 (v0 :: v1 :: v2 :: xi a :: ls) (xi a :: st) (M) Q := wp_iload rfl rfl
set_option maxRecDepth 20000 in
theorem w132_426 {ls st : List xV} {M : xM} {Q : Option xV → xM → Prop}  : Wp 132 426 (ls) (st) (M) Q = Wp 132 427 (ls) (xi 2 :: st) (M) Q := wp_const rfl
set_option maxRecDepth 20000 in
theorem w132_427 {ls st : List xV} {M : xM} {Q : Option xV → xM → Prop} {a : Int} {b : Int} : Wp 132 427 (ls) (xi b :: xi a :: st) (M) Q = Wp 132 428 (ls) (xi (a + b) :: st) (M) Q := wp_bin (f := xadd) rfl
set_option maxRecDepth 20000 in
theorem w132_428 {ls st : List xV} {M : xM} {Q : Option xV → xM → Prop} {a : Int} (ha : xG a) (h1 : 0 ≤ a) (h2 : a < M 58 (-1)) : Wp 132 428 (ls) (xi a :: xr 58 :: st) (M) Q = Wp 132 429 (ls) (xi (M 58 a) :: st) (M) Q := wp_sld rfl ha h1 h2
set_option maxRecDepth 20000 in
theorem w132_429 {ls st : List xV} {M : xM} {Q : Option xV → xM → Prop} {d : Nat} : Wp 132 429 (xr d :: ls) (st) (M) Q = Wp 132 430 (xr d :: ls) (xr d :: st) (M) Q := wp_aload rfl rfl
set_option maxRecDepth 20000 in
theorem w132_430 {ls st : List xV} {M : xM} {Q : Option xV → xM → Prop} {a : Int} {v0 : xV} {v1 : xV} {v2 : xV} : Wp 132 430 (v0 :: v1 :: v2 :: xi a :: ls) (st) (M) Q = Wp 132 431 (v0 :: v1 :: v2 :: xi a :: ls) (xi a :: st) (M) Q := wp_iload rfl rfl
set_option maxRecDepth 20000 in
theorem w132_431 {ls st : List xV} {M : xM} {Q : Option xV → xM → Prop}  : Wp 132 431 (ls) (st) (M) Q = Wp 132 432 (ls) (xi 3 :: st) (M) Q := wp_const rfl
set_option maxRecDepth 20000 in
theorem w132_432 {ls st : List xV} {M : xM} {Q : Option xV → xM → Prop} {a : Int} {b : Int} : Wp 132 432 (ls) (xi b :: xi a :: st) (M) Q = Wp 132 433 (ls) (xi (a + b) :: st) (M) Q := wp_bin (f := xadd) rfl
set_option maxRecDepth 20000 in
theorem w132_433 {ls st : List xV} {M : xM} {Q : Option xV → xM → Prop} {a : Int} (ha : xG a) (h1 : 0 ≤ a) (h2 : a < M 58 (-1)) : Wp 132 433 (ls) (xi a :: xr 58 :: st) (M) Q = Wp 132 434 (ls) (xi (M 58 a) :: st) (M) Q := wp_sld rfl ha h1 h2
set_option maxRecDepth 20000 in
theorem w132_434 {ls : List xV} {M : xM} {Q : Option xV → xM → Prop} {a1 : Int} {a2 : Int} {a3 : Int} {d0 : Nat} {s0 : xV} (hc : x_c d0 = 9) : Wp 132 434 (ls) (xi a3 :: xi a2 :: xi a1 :: xr d0 :: s0 :: []) (M) Q = Wc 113 [xr d0, xi a1, xi a2, xi a3] M (fun r M2 => Wp 132 437 (ls) (r.toList ++ (s0 :: [])) M2 Q) := wp_cV rfl rfl hc (Nat.le_of_ble_eq_true rfl) (Nat.le_of_ble_eq_true rfl) rfl rfl
set_option maxRecDepth 20000 in
theorem w132_437 {ls st : List xV} {M : xM} {Q : Option xV → xM → Prop} {a : Int} {b : Int} (ha : xG a) (hb : xG b) : Wp 132 437 (ls) (xi b :: xi a :: st) (M) Q = ((a = b → Wp 132 933 (ls) (st) (M) Q) ∧ (¬ (a = b) → Wp 132 440 (ls) (st) (M) Q)) := wp_cmp_eq rfl ha hb
set_option maxRecDepth 20000 in
theorem w132_440 {ls st : List xV} {M : xM} {Q : Option xV → xM → Prop}  : Wp 132 440 (ls) (st) (M) Q = Wp 132 441 (ls) (xi 0 :: st) (M) Q := wp_const rfl
set_option maxRecDepth 20000 in
theorem w132_441 {ls : List xV} {M : xM} {Q : Option xV → xM → Prop} {a : Int} (ha : a = 0 ∨ a = 1) : Wp 132 441 (ls) ([xi a]) (M) Q = Q (some (xi a)) M := wp_zret rfl ha
set_option maxRecDepth 20000 in
theorem w132_442 {ls st : List xV} {M : xM} {Q : Option xV → xM → Prop} {d : Nat} {v0 : xV} : Wp 132 442 (v0 :: xr d :: ls) (st) (M) Q = Wp 132 443 (v0 :: xr d :: ls) (xr d :: st) (M) Q := wp_aload rfl rfl
set_option maxRecDepth 20000 in
theorem w132_443 {ls st : List xV} {M : xM} {Q : Option xV → xM → Prop} {d : Nat} : Wp 132 443 (xr d :: ls) (st) (M) Q = Wp 132 444 (xr d :: ls) (xr d :: st) (M) Q := wp_aload rfl rfl
set_option maxRecDepth 20000 in
theorem w132_444 {ls st : List xV} {M : xM} {Q : Option xV → xM → Prop} {a : Int} {v0 : xV} {v1 : xV} {v2 : xV} : Wp 132 444 (v0 :: v1 :: v2 :: xi a :: ls) (st) (M) Q = Wp 132 445 (v0 :: v1 :: v2 :: xi a :: ls) (xi a :: st) (M) Q := wp_iload rfl rfl
set_option maxRecDepth 20000 in
theorem w132_445 {ls st : List xV} {M : xM} {Q : Option xV → xM → Prop}  : Wp 132 445 (ls) (st) (M) Q = Wp 132 446 (ls) (xi 1 :: st) (M) Q := wp_const rfl
set_option maxRecDepth 20000 in
theorem w132_446 {ls st : List xV} {M : xM} {Q : Option xV → xM → Prop} {a : Int} {b : Int} : Wp 132 446 (ls) (xi b :: xi a :: st) (M) Q = Wp 132 447 (ls) (xi (a + b) :: st) (M) Q := wp_bin (f := xadd) rfl
set_option maxRecDepth 20000 in
theorem w132_447 {ls st : List xV} {M : xM} {Q : Option xV → xM → Prop} {a : Int} (ha : xG a) (h1 : 0 ≤ a) (h2 : a < M 58 (-1)) : Wp 132 447 (ls) (xi a :: xr 58 :: st) (M) Q = Wp 132 448 (ls) (xi (M 58 a) :: st) (M) Q := wp_sld rfl ha h1 h2
set_option maxRecDepth 20000 in
theorem w132_448 {ls st : List xV} {M : xM} {Q : Option xV → xM → Prop} {d : Nat} : Wp 132 448 (xr d :: ls) (st) (M) Q = Wp 132 449 (xr d :: ls) (xr d :: st) (M) Q := wp_aload rfl rfl
set_option maxRecDepth 20000 in
theorem w132_449 {ls st : List xV} {M : xM} {Q : Option xV → xM → Prop} {a : Int} {v0 : xV} {v1 : xV} {v2 : xV} : Wp 132 449 (v0 :: v1 :: v2 :: xi a :: ls) (st) (M) Q = Wp 132 450 (v0 :: v1 :: v2 :: xi a :: ls) (xi a :: st) (M) Q := wp_iload rfl rfl
set_option maxRecDepth 20000 in
theorem w132_450 {ls st : List xV} {M : xM} {Q : Option xV → xM → Prop}  : Wp 132 450 (ls) (st) (M) Q = Wp 132 451 (ls) (xi 2 :: st) (M) Q := wp_const rfl
set_option maxRecDepth 20000 in
theorem w132_451 {ls st : List xV} {M : xM} {Q : Option xV → xM → Prop} {a : Int} {b : Int} : Wp 132 451 (ls) (xi b :: xi a :: st) (M) Q = Wp 132 452 (ls) (xi (a + b) :: st) (M) Q := wp_bin (f := xadd) rfl
set_option maxRecDepth 20000 in
theorem w132_452 {ls st : List xV} {M : xM} {Q : Option xV → xM → Prop} {a : Int} (ha : xG a) (h1 : 0 ≤ a) (h2 : a < M 58 (-1)) : Wp 132 452 (ls) (xi a :: xr 58 :: st) (M) Q = Wp 132 453 (ls) (xi (M 58 a) :: st) (M) Q := wp_sld rfl ha h1 h2
set_option maxRecDepth 20000 in
theorem w132_453 {ls : List xV} {M : xM} {Q : Option xV → xM → Prop} {a1 : Int} {a2 : Int} {d0 : Nat} (hc : x_c d0 = 8) : Wp 132 453 (ls) (xi a2 :: xi a1 :: xr d0 :: []) (M) Q = Wc 57 [xr d0, xi a1, xi a2] M (fun r M2 => Wp 132 456 (ls) (r.toList ++ ([])) M2 Q) := wp_cV rfl rfl hc (Nat.le_of_ble_eq_true rfl) (Nat.le_of_ble_eq_true rfl) rfl rfl
set_option maxRecDepth 20000 in
theorem w132_456 {ls st : List xV} {M : xM} {Q : Option xV → xM → Prop} {d : Nat} {v0 : xV} {v1 : xV} : Wp 132 456 (v0 :: v1 :: xr d :: ls) (st) (M) Q = Wp 132 457 (v0 :: v1 :: xr d :: ls) (xr d :: st) (M) Q := wp_aload rfl rfl
set_option maxRecDepth 20000 in
theorem w132_457 {ls st : List xV} {M : xM} {Q : Option xV → xM → Prop} {d : Nat} : Wp 132 457 (xr d :: ls) (st) (M) Q = Wp 132 458 (xr d :: ls) (xr d :: st) (M) Q := wp_aload rfl rfl
set_option maxRecDepth 20000 in
theorem w132_458 {ls st : List xV} {M : xM} {Q : Option xV → xM → Prop} {a : Int} {v0 : xV} {v1 : xV} {v2 : xV} : Wp 132 458 (v0 :: v1 :: v2 :: xi a :: ls) (st) (M) Q = Wp 132 459 (v0 :: v1 :: v2 :: xi a :: ls) (xi a :: st) (M) Q := wp_iload rfl rfl
set_option maxRecDepth 20000 in
theorem w132_459 {ls st : List xV} {M : xM} {Q : Option xV → xM → Prop}  : Wp 132 459 (ls) (st) (M) Q = Wp 132 460 (ls) (xi 1 :: st) (M) Q := wp_const rfl
set_option maxRecDepth 20000 in
theorem w132_460 {ls st : List xV} {M : xM} {Q : Option xV → xM → Prop} {a : Int} {b : Int} : Wp 132 460 (ls) (xi b :: xi a :: st) (M) Q = Wp 132 461 (ls) (xi (a + b) :: st) (M) Q := wp_bin (f := xadd) rfl
set_option maxRecDepth 20000 in
theorem w132_461 {ls st : List xV} {M : xM} {Q : Option xV → xM → Prop} {a : Int} (ha : xG a) (h1 : 0 ≤ a) (h2 : a < M 58 (-1)) : Wp 132 461 (ls) (xi a :: xr 58 :: st) (M) Q = Wp 132 462 (ls) (xi (M 58 a) :: st) (M) Q := wp_sld rfl ha h1 h2
set_option maxRecDepth 20000 in
theorem w132_462 {ls st : List xV} {M : xM} {Q : Option xV → xM → Prop} {d : Nat} : Wp 132 462 (xr d :: ls) (st) (M) Q = Wp 132 463 (xr d :: ls) (xr d :: st) (M) Q := wp_aload rfl rfl
set_option maxRecDepth 20000 in
theorem w132_463 {ls st : List xV} {M : xM} {Q : Option xV → xM → Prop} {a : Int} {v0 : xV} {v1 : xV} {v2 : xV} : Wp 132 463 (v0 :: v1 :: v2 :: xi a :: ls) (st) (M) Q = Wp 132 464 (v0 :: v1 :: v2 :: xi a :: ls) (xi a :: st) (M) Q := wp_iload rfl rfl
set_option maxRecDepth 20000 in
theorem w132_464 {ls st : List xV} {M : xM} {Q : Option xV → xM → Prop}  : Wp 132 464 (ls) (st) (M) Q = Wp 132 465 (ls) (xi 2 :: st) (M) Q := wp_const rfl
set_option maxRecDepth 20000 in
theorem w132_465 {ls st : List xV} {M : xM} {Q : Option xV → xM → Prop} {a : Int} {b : Int} : Wp 132 465 (ls) (xi b :: xi a :: st) (M) Q = Wp 132 466 (ls) (xi (a + b) :: st) (M) Q := wp_bin (f := xadd) rfl
set_option maxRecDepth 20000 in
theorem w132_466 {ls st : List xV} {M : xM} {Q : Option xV → xM → Prop} {a : Int} (ha : xG a) (h1 : 0 ≤ a) (h2 : a < M 58 (-1)) : Wp 132 466 (ls) (xi a :: xr 58 :: st) (M) Q = Wp 132 467 (ls) (xi (M 58 a) :: st) (M) Q := wp_sld rfl ha h1 h2
set_option maxRecDepth 20000 in
theorem w132_467 {ls : List xV} {M : xM} {Q : Option xV → xM → Prop} {a1 : Int} {a2 : Int} {d0 : Nat} {s0 : xV} (hc : x_c d0 = 9) : Wp 132 467 (ls) (xi a2 :: xi a1 :: xr d0 :: s0 :: []) (M) Q = Wc 116 [xr d0, xi a1, xi a2] M (fun r M2 => Wp 132 470 (ls) (r.toList ++ (s0 :: [])) M2 Q) := wp_cV rfl rfl hc (Nat.le_of_ble_eq_true rfl) (Nat.le_of_ble_eq_true rfl) rfl rfl
set_option maxRecDepth 20000 in
theorem w132_470 {ls st : List xV} {M : xM} {Q : Option xV → xM → Prop} {a : Int} {b : Int} (ha : xG a) (hb : xG b) : Wp 132 470 (ls) (xi b :: xi a :: st) (M) Q = ((a = b → Wp 132 933 (ls) (st) (M) Q) ∧ (¬ (a = b) → Wp 132 473 (ls) (st) (M) Q)) := wp_cmp_eq rfl ha hb
set_option maxRecDepth 20000 in
theorem w132_473 {ls st : List xV} {M : xM} {Q : Option xV → xM → Prop}  : Wp 132 473 (ls) (st) (M) Q = Wp 132 474 (ls) (xi 0 :: st) (M) Q := wp_const rfl
set_option maxRecDepth 20000 in
theorem w132_474 {ls : List xV} {M : xM} {Q : Option xV → xM → Prop} {a : Int} (ha : a = 0 ∨ a = 1) : Wp 132 474 (ls) ([xi a]) (M) Q = Q (some (xi a)) M := wp_zret rfl ha
set_option maxRecDepth 20000 in
theorem w132_475 {ls st : List xV} {M : xM} {Q : Option xV → xM → Prop} {d : Nat} {v0 : xV} : Wp 132 475 (v0 :: xr d :: ls) (st) (M) Q = Wp 132 476 (v0 :: xr d :: ls) (xr d :: st) (M) Q := wp_aload rfl rfl
set_option maxRecDepth 20000 in
theorem w132_476 {ls : List xV} {M : xM} {Q : Option xV → xM → Prop} {d0 : Nat} (hc : x_c d0 = 8) : Wp 132 476 (ls) (xr d0 :: []) (M) Q = Wc 58 [xr d0] M (fun r M2 => Wp 132 479 (ls) (r.toList ++ ([])) M2 Q) := wp_cV rfl rfl hc (Nat.le_of_ble_eq_true rfl) (Nat.le_of_ble_eq_true rfl) rfl rfl
set_option maxRecDepth 20000 in
theorem w132_479 {ls st : List xV} {M : xM} {Q : Option xV → xM → Prop} {d : Nat} {v0 : xV} {v1 : xV} : Wp 132 479 (v0 :: v1 :: xr d :: ls) (st) (M) Q = Wp 132 480 (v0 :: v1 :: xr d :: ls) (xr d :: st) (M) Q := wp_aload rfl rfl
set_option maxRecDepth 20000 in
theorem w132_480 {ls : List xV} {M : xM} {Q : Option xV → xM → Prop} {d0 : Nat} {s0 : xV} (hc : x_c d0 = 9) : Wp 132 480 (ls) (xr d0 :: s0 :: []) (M) Q = Wc 117 [xr d0] M (fun r M2 => Wp 132 483 (ls) (r.toList ++ (s0 :: [])) M2 Q) := wp_cV rfl rfl hc (Nat.le_of_ble_eq_true rfl) (Nat.le_of_ble_eq_true rfl) rfl rfl
set_option maxRecDepth 20000 in
theorem w132_483 {ls st : List xV} {M : xM} {Q : Option xV → xM → Prop} {a : Int} {b : Int} (ha : xG a) (hb : xG b) : Wp 132 483 (ls) (xi b :: xi a :: st) (M) Q = ((a = b → Wp 132 933 (ls) (st) (M) Q) ∧ (¬ (a = b) → Wp 132 486 (ls) (st) (M) Q)) := wp_cmp_eq rfl ha hb
set_option maxRecDepth 20000 in
theorem w132_486 {ls st : List xV} {M : xM} {Q : Option xV → xM → Prop}  : Wp 132 486 (ls) (st) (M) Q = Wp 132 487 (ls) (xi 0 :: st) (M) Q := wp_const rfl
set_option maxRecDepth 20000 in
theorem w132_487 {ls : List xV} {M : xM} {Q : Option xV → xM → Prop} {a : Int} (ha : a = 0 ∨ a = 1) : Wp 132 487 (ls) ([xi a]) (M) Q = Q (some (xi a)) M := wp_zret rfl ha
set_option maxRecDepth 20000 in
theorem w132_488 {ls st : List xV} {M : xM} {Q : Option xV → xM → Prop} {d : Nat} {v0 : xV} : Wp 132 488 (v0 :: xr d :: ls) (st) (M) Q = Wp 132 489 (v0 :: xr d :: ls) (xr d :: st) (M) Q := wp_aload rfl rfl
set_option maxRecDepth 20000 in
theorem w132_489 {ls st : List xV} {M : xM} {Q : Option xV → xM → Prop} {d : Nat} : Wp 132 489 (xr d :: ls) (st) (M) Q = Wp 132 490 (xr d :: ls) (xr d :: st) (M) Q := wp_aload rfl rfl
set_option maxRecDepth 20000 in
theorem w132_490 {ls st : List xV} {M : xM} {Q : Option xV → xM → Prop} {a : Int} {v0 : xV} {v1 : xV} {v2 : xV} : Wp 132 490 (v0 :: v1 :: v2 :: xi a :: ls) (st) (M) Q = Wp 132 491 (v0 :: v1 :: v2 :: xi a :: ls) (xi a :: st) (M) Q := wp_iload rfl rfl
set_option maxRecDepth 20000 in
theorem w132_491 {ls st : List xV} {M : xM} {Q : Option xV → xM → Prop}  : Wp 132 491 (ls) (st) (M) Q = Wp 132 492 (ls) (xi 1 :: st) (M) Q := wp_const rfl
set_option maxRecDepth 20000 in
theorem w132_492 {ls st : List xV} {M : xM} {Q : Option xV → xM → Prop} {a : Int} {b : Int} : Wp 132 492 (ls) (xi b :: xi a :: st) (M) Q = Wp 132 493 (ls) (xi (a + b) :: st) (M) Q := wp_bin (f := xadd) rfl
set_option maxRecDepth 20000 in
theorem w132_493 {ls st : List xV} {M : xM} {Q : Option xV → xM → Prop} {a : Int} (ha : xG a) (h1 : 0 ≤ a) (h2 : a < M 58 (-1)) : Wp 132 493 (ls) (xi a :: xr 58 :: st) (M) Q = Wp 132 494 (ls) (xi (M 58 a) :: st) (M) Q := wp_sld rfl ha h1 h2
set_option maxRecDepth 20000 in
theorem w132_494 {ls st : List xV} {M : xM} {Q : Option xV → xM → Prop} {d : Nat} : Wp 132 494 (xr d :: ls) (st) (M) Q = Wp 132 495 (xr d :: ls) (xr d :: st) (M) Q := wp_aload rfl rfl
set_option maxRecDepth 20000 in
theorem w132_495 {ls st : List xV} {M : xM} {Q : Option xV → xM → Prop} {a : Int} {v0 : xV} {v1 : xV} {v2 : xV} : Wp 132 495 (v0 :: v1 :: v2 :: xi a :: ls) (st) (M) Q = Wp 132 496 (v0 :: v1 :: v2 :: xi a :: ls) (xi a :: st) (M) Q := wp_iload rfl rfl
set_option maxRecDepth 20000 in
theorem w132_496 {ls st : List xV} {M : xM} {Q : Option xV → xM → Prop}  : Wp 132 496 (ls) (st) (M) Q = Wp 132 497 (ls) (xi 2 :: st) (M) Q := wp_const rfl
set_option maxRecDepth 20000 in
theorem w132_497 {ls st : List xV} {M : xM} {Q : Option xV → xM → Prop} {a : Int} {b : Int} : Wp 132 497 (ls) (xi b :: xi a :: st) (M) Q = Wp 132 498 (ls) (xi (a + b) :: st) (M) Q := wp_bin (f := xadd) rfl
set_option maxRecDepth 20000 in
theorem w132_498 {ls st : List xV} {M : xM} {Q : Option xV → xM → Prop} {a : Int} (ha : xG a) (h1 : 0 ≤ a) (h2 : a < M 58 (-1)) : Wp 132 498 (ls) (xi a :: xr 58 :: st) (M) Q = Wp 132 499 (ls) (xi (M 58 a) :: st) (M) Q := wp_sld rfl ha h1 h2
set_option maxRecDepth 20000 in
theorem w132_499 {ls st : List xV} {M : xM} {Q : Option xV → xM → Prop} {d : Nat} : Wp 132 499 (xr d :: ls) (st) (M) Q = Wp 132 500 (xr d :: ls) (xr d :: st) (M) Q := wp_aload rfl rfl
set_option maxRecDepth 20000 in
theorem w132_500 {ls st : List xV} {M : xM} {Q : Option xV → xM → Prop} {a : Int} {v0 : xV} {v1 : xV} {v2 : xV} : Wp 132 500 (v0 :: v1 :: v2 :: xi a :: ls) (st) (M) Q = Wp 132 501 (v0 :: v1 :: v2 :: xi a :: ls) (xi a :: st) (M) Q := wp_iload rfl rfl
set_option maxRecDepth 20000 in
theorem w132_501 {ls st : List xV} {M : xM} {Q : Option xV → xM → Prop}  : Wp 132 501 (ls) (st) (M) Q = Wp 132 502 (ls) (xi 3 :: st) (M) Q := wp_const rfl
set_option maxRecDepth 20000 in
theorem w132_502 {ls st : List xV} {M : xM} {Q : Option xV → xM → Prop} {a : Int} {b : Int} : Wp 132 502 (ls) (xi b :: xi a :: st) (M) Q = Wp 132 503 (ls) (xi (a + b) :: st) (M) Q := wp_bin (f := xadd) rfl
set_option maxRecDepth 20000 in
theorem w132_503 {ls st : List xV} {M : xM} {Q : Option xV → xM → Prop} {a : Int} (ha : xG a) (h1 : 0 ≤ a) (h2 : a < M 58 (-1)) : Wp 132 503 (ls) (xi a :: xr 58 :: st) (M) Q = Wp 132 504 (ls) (xi (M 58 a) :: st) (M) Q := wp_sld rfl ha h1 h2
set_option maxRecDepth 20000 in
theorem w132_504 {ls : List xV} {M : xM} {Q : Option xV → xM → Prop} {a1 : Int} {a2 : Int} {a3 : Int} {d0 : Nat} (hc : x_c d0 = 8) : Wp 132 504 (ls) (xi a3 :: xi a2 :: xi a1 :: xr d0 :: []) (M) Q = Wc 59 [xr d0, xi a1, xi a2, xi a3] M (fun r M2 => Wp 132 507 (ls) (r.toList ++ ([])) M2 Q) := wp_cV rfl rfl hc (Nat.le_of_ble_eq_true rfl) (Nat.le_of_ble_eq_true rfl) rfl rfl
set_option maxRecDepth 20000 in
theorem w132_507 {ls st : List xV} {M : xM} {Q : Option xV → xM → Prop} {d : Nat} {v0 : xV} {v1 : xV} : Wp 132 507 (v0 :: v1 :: xr d :: ls) (st) (M) Q = Wp 132 508 (v0 :: v1 :: xr d :: ls) (xr d :: st) (M) Q := wp_aload rfl rfl
set_option maxRecDepth 20000 in
theorem w132_508 {ls st : List xV} {M : xM} {Q : Option xV → xM → Prop} {d : Nat} : Wp 132 508 (xr d :: ls) (st) (M) Q = Wp 132 509 (xr d :: ls) (xr d :: st) (M) Q := wp_aload rfl rfl
set_option maxRecDepth 20000 in
theorem w132_509 {ls st : List xV} {M : xM} {Q : Option xV → xM → Prop} {a : Int} {v0 : xV} {v1 : xV} {v2 : xV} : Wp 132 509 (v0 :: v1 :: v2 :: xi a :: ls) (st) (M) Q = Wp 132 510 (v0 :: v1 :: v2 :: xi a :: ls) (xi a :: st) (M) Q := wp_iload rfl rfl
set_option maxRecDepth 20000 in
theorem w132_510 {ls st : List xV} {M : xM} {Q : Option xV → xM → Prop}  : Wp 132 510 (ls) (st) (M) Q = Wp 132 511 (ls) (xi 1 :: st) (M) Q := wp_const rfl
set_option maxRecDepth 20000 in
theorem w132_511 {ls st : List xV} {M : xM} {Q : Option xV → xM → Prop} {a : Int} {b : Int} : Wp 132 511 (ls) (xi b :: xi a :: st) (M) Q = Wp 132 512 (ls) (xi (a + b) :: st) (M) Q := wp_bin (f := xadd) rfl
set_option maxRecDepth 20000 in
theorem w132_512 {ls st : List xV} {M : xM} {Q : Option xV → xM → Prop} {a : Int} (ha : xG a) (h1 : 0 ≤ a) (h2 : a < M 58 (-1)) : Wp 132 512 (ls) (xi a :: xr 58 :: st) (M) Q = Wp 132 513 (ls) (xi (M 58 a) :: st) (M) Q := wp_sld rfl ha h1 h2
set_option maxRecDepth 20000 in
theorem w132_513 {ls st : List xV} {M : xM} {Q : Option xV → xM → Prop} {d : Nat} : Wp 132 513 (xr d :: ls) (st) (M) Q = Wp 132 514 (xr d :: ls) (xr d :: st) (M) Q := wp_aload rfl rfl
set_option maxRecDepth 20000 in
theorem w132_514 {ls st : List xV} {M : xM} {Q : Option xV → xM → Prop} {a : Int} {v0 : xV} {v1 : xV} {v2 : xV} : Wp 132 514 (v0 :: v1 :: v2 :: xi a :: ls) (st) (M) Q = Wp 132 515 (v0 :: v1 :: v2 :: xi a :: ls) (xi a :: st) (M) Q := wp_iload rfl rfl
set_option maxRecDepth 20000 in
theorem w132_515 {ls st : List xV} {M : xM} {Q : Option xV → xM → Prop}  : Wp 132 515 (ls) (st) (M) Q = Wp 132 516 (ls) (xi 2 :: st) (M) Q := wp_const rfl
set_option maxRecDepth 20000 in
theorem w132_516 {ls st : List xV} {M : xM} {Q : Option xV → xM → Prop} {a : Int} {b : Int} : Wp 132 516 (ls) (xi b :: xi a :: st) (M) Q = Wp 132 517 (ls) (xi (a + b) :: st) (M) Q := wp_bin (f := xadd) rfl
set_option maxRecDepth 20000 in
theorem w132_517 {ls st : List xV} {M : xM} {Q : Option xV → xM → Prop} {a : Int} (ha : xG a) (h1 : 0 ≤ a) (h2 : a < M 58 (-1)) : Wp 132 517 (ls) (xi a :: xr 58 :: st) (M) Q = Wp 132 518 (ls) (xi (M 58 a) :: st) (M) Q := wp_sld rfl ha h1 h2
set_option maxRecDepth 20000 in
theorem w132_518 {ls st : List xV} {M : xM} {Q : Option xV → xM → Prop} {d : Nat} : Wp 132 518 (xr d :: ls) (st) (M) Q = Wp 132 519 (xr d :: ls) (xr d :: st) (M) Q := wp_aload rfl rfl
set_option maxRecDepth 20000 in
theorem w132_519 {ls st : List xV} {M : xM} {Q : Option xV → xM → Prop} {a : Int} {v0 : xV} {v1 : xV} {v2 : xV} : Wp 132 519 (v0 :: v1 :: v2 :: xi a :: ls) (st) (M) Q = Wp 132 520 (v0 :: v1 :: v2 :: xi a :: ls) (xi a :: st) (M) Q := wp_iload rfl rfl
set_option maxRecDepth 20000 in
theorem w132_520 {ls st : List xV} {M : xM} {Q : Option xV → xM → Prop}  : Wp 132 520 (ls) (st) (M) Q = Wp 132 521 (ls) (xi 3 :: st) (M) Q := wp_const rfl
set_option maxRecDepth 20000 in
theorem w132_521 {ls st : List xV} {M : xM} {Q : Option xV → xM → Prop} {a : Int} {b : Int} : Wp 132 521 (ls) (xi b :: xi a :: st) (M) Q = Wp 132 522 (ls) (xi (a + b) :: st) (M) Q := wp_bin (f := xadd) rfl
set_option maxRecDepth 20000 in
theorem w132_522 {ls st : List xV} {M : xM} {Q : Option xV → xM → Prop} {a : Int} (ha : xG a) (h1 : 0 ≤ a) (h2 : a < M 58 (-1)) : Wp 132 522 (ls) (xi a :: xr 58 :: st) (M) Q = Wp 132 523 (ls) (xi (M 58 a) :: st) (M) Q := wp_sld rfl ha h1 h2
set_option maxRecDepth 20000 in
theorem w132_523 {ls : List xV} {M : xM} {Q : Option xV → xM → Prop} {a1 : Int} {a2 : Int} {a3 : Int} {d0 : Nat} {s0 : xV} (hc : x_c d0 = 9) : Wp 132 523 (ls) (xi a3 :: xi a2 :: xi a1 :: xr d0 :: s0 :: []) (M) Q = Wc 118 [xr d0, xi a1, xi a2, xi a3] M (fun r M2 => Wp 132 526 (ls) (r.toList ++ (s0 :: [])) M2 Q) := wp_cV rfl rfl hc (Nat.le_of_ble_eq_true rfl) (Nat.le_of_ble_eq_true rfl) rfl rfl
set_option maxRecDepth 20000 in
theorem w132_526 {ls st : List xV} {M : xM} {Q : Option xV → xM → Prop} {a : Int} {b : Int} (ha : xG a) (hb : xG b) : Wp 132 526 (ls) (xi b :: xi a :: st) (M) Q = ((a = b → Wp 132 933 (ls) (st) (M) Q) ∧ (¬ (a = b) → Wp 132 529 (ls) (st) (M) Q)) := wp_cmp_eq rfl ha hb
set_option maxRecDepth 20000 in
theorem w132_529 {ls st : List xV} {M : xM} {Q : Option xV → xM → Prop}  : Wp 132 529 (ls) (st) (M) Q = Wp 132 530 (ls) (xi 0 :: st) (M) Q := wp_const rfl
set_option maxRecDepth 20000 in
theorem w132_530 {ls : List xV} {M : xM} {Q : Option xV → xM → Prop} {a : Int} (ha : a = 0 ∨ a = 1) : Wp 132 530 (ls) ([xi a]) (M) Q = Q (some (xi a)) M := wp_zret rfl ha
set_option maxRecDepth 20000 in
theorem w132_531 {ls st : List xV} {M : xM} {Q : Option xV → xM → Prop} {d : Nat} {v0 : xV} : Wp 132 531 (v0 :: xr d :: ls) (st) (M) Q = Wp 132 532 (v0 :: xr d :: ls) (xr d :: st) (M) Q := wp_aload rfl rfl
set_option maxRecDepth 20000 in
theorem w132_532 {ls st : List xV} {M : xM} {Q : Option xV → xM → Prop} {d : Nat} : Wp 132 532 (xr d :: ls) (st) (M) Q = Wp 132 533 (xr d :: ls) (xr d :: st) (M) Q := wp_aload rfl rfl
set_option maxRecDepth 20000 in
theorem w132_533 {ls st : List xV} {M : xM} {Q : Option xV → xM → Prop} {a : Int} {v0 : xV} {v1 : xV} {v2 : xV} : Wp 132 533 (v0 :: v1 :: v2 :: xi a :: ls) (st) (M) Q = Wp 132 534 (v0 :: v1 :: v2 :: xi a :: ls) (xi a :: st) (M) Q := wp_iload rfl rfl
set_option maxRecDepth 20000 in
theorem w132_534 {ls st : List xV} {M : xM} {Q : Option xV → xM → Prop}  : Wp 132 534 (ls) (st) (M) Q = Wp 132 535 (ls) (xi 1 :: st) (M) Q := wp_const rfl
set_option maxRecDepth 20000 in
theorem w132_535 {ls st : List xV} {M : xM} {Q : Option xV → xM → Prop} {a : Int} {b : Int} : Wp 132 535 (ls) (xi b :: xi a :: st) (M) Q = Wp 132 536 (ls) (xi (a + b) :: st) (M) Q := wp_bin (f := xadd) rfl
set_option maxRecDepth 20000 in
theorem w132_536 {ls st : List xV} {M : xM} {Q : Option xV → xM → Prop} {a : Int} (ha : xG a) (h1 : 0 ≤ a) (h2 : a < M 58 (-1)) : Wp 132 536 (ls) (xi a :: xr 58 :: st) (M) Q = Wp 132 537 (ls) (xi (M 58 a) :: st) (M) Q := wp_sld rfl ha h1 h2
set_option maxRecDepth 20000 in
theorem w132_537 {ls st : List xV} {M : xM} {Q : Option xV → xM → Prop} {d : Nat} : Wp 132 537 (xr d :: ls) (st) (M) Q = Wp 132 538 (xr d :: ls) (xr d :: st) (M) Q := wp_aload rfl rfl
set_option maxRecDepth 20000 in
theorem w132_538 {ls st : List xV} {M : xM} {Q : Option xV → xM → Prop} {a : Int} {v0 : xV} {v1 : xV} {v2 : xV} : Wp 132 538 (v0 :: v1 :: v2 :: xi a :: ls) (st) (M) Q = Wp 132 539 (v0 :: v1 :: v2 :: xi a :: ls) (xi a :: st) (M) Q := wp_iload rfl rfl
set_option maxRecDepth 20000 in
theorem w132_539 {ls st : List xV} {M : xM} {Q : Option xV → xM → Prop}  : Wp 132 539 (ls) (st) (M) Q = Wp 132 540 (ls) (xi 2 :: st) (M) Q := wp_const rfl
set_option maxRecDepth 20000 in
theorem w132_540 {ls st : List xV} {M : xM} {Q : Option xV → xM → Prop} {a : Int} {b : Int} : Wp 132 540 (ls) (xi b :: xi a :: st) (M) Q = Wp 132 541 (ls) (xi (a + b) :: st) (M) Q := wp_bin (f := xadd) rfl
set_option maxRecDepth 20000 in
theorem w132_541 {ls st : List xV} {M : xM} {Q : Option xV → xM → Prop} {a : Int} (ha : xG a) (h1 : 0 ≤ a) (h2 : a < M 58 (-1)) : Wp 132 541 (ls) (xi a :: xr 58 :: st) (M) Q = Wp 132 542 (ls) (xi (M 58 a) :: st) (M) Q := wp_sld rfl ha h1 h2
set_option maxRecDepth 20000 in
theorem w132_542 {ls st : List xV} {M : xM} {Q : Option xV → xM → Prop} {d : Nat} : Wp 132 542 (xr d :: ls) (st) (M) Q = Wp 132 543 (xr d :: ls) (xr d :: st) (M) Q := wp_aload rfl rfl
set_option maxRecDepth 20000 in
theorem w132_543 {ls st : List xV} {M : xM} {Q : Option xV → xM → Prop} {a : Int} {v0 : xV} {v1 : xV} {v2 : xV} : Wp 132 543 (v0 :: v1 :: v2 :: xi a :: ls) (st) (M) Q = Wp 132 544 (v0 :: v1 :: v2 :: xi a :: ls) (xi a :: st) (M) Q := wp_iload rfl rfl
set_option maxRecDepth 20000 in
theorem w132_544 {ls st : List xV} {M : xM} {Q : Option xV → xM → Prop}  : Wp 132 544 (ls) (st) (M) Q = Wp 132 545 (ls) (xi 3 :: st) (M) Q := wp_const rfl
set_option maxRecDepth 20000 in
theorem w132_545 {ls st : List xV} {M : xM} {Q : Option xV → xM → Prop} {a : Int} {b : Int} : Wp 132 545 (ls) (xi b :: xi a :: st) (M) Q = Wp 132 546 (ls) (xi (a + b) :: st) (M) Q := wp_bin (f := xadd) rfl
set_option maxRecDepth 20000 in
theorem w132_546 {ls st : List xV} {M : xM} {Q : Option xV → xM → Prop} {a : Int} (ha : xG a) (h1 : 0 ≤ a) (h2 : a < M 58 (-1)) : Wp 132 546 (ls) (xi a :: xr 58 :: st) (M) Q = Wp 132 547 (ls) (xi (M 58 a) :: st) (M) Q := wp_sld rfl ha h1 h2
set_option maxRecDepth 20000 in
theorem w132_547 {ls : List xV} {M : xM} {Q : Option xV → xM → Prop} {a1 : Int} {a2 : Int} {a3 : Int} {d0 : Nat} (hc : x_c d0 = 8) : Wp 132 547 (ls) (xi a3 :: xi a2 :: xi a1 :: xr d0 :: []) (M) Q = Wc 60 [xr d0, xi a1, xi a2, xi a3] M (fun r M2 => Wp 132 550 (ls) (r.toList ++ ([])) M2 Q) := wp_cV rfl rfl hc (Nat.le_of_ble_eq_true rfl) (Nat.le_of_ble_eq_true rfl) rfl rfl
set_option maxRecDepth 20000 in
theorem w132_550 {ls st : List xV} {M : xM} {Q : Option xV → xM → Prop} {d : Nat} {v0 : xV} {v1 : xV} : Wp 132 550 (v0 :: v1 :: xr d :: ls) (st) (M) Q = Wp 132 551 (v0 :: v1 :: xr d :: ls) (xr d :: st) (M) Q := wp_aload rfl rfl
set_option maxRecDepth 20000 in
theorem w132_551 {ls st : List xV} {M : xM} {Q : Option xV → xM → Prop} {d : Nat} : Wp 132 551 (xr d :: ls) (st) (M) Q = Wp 132 552 (xr d :: ls) (xr d :: st) (M) Q := wp_aload rfl rfl
set_option maxRecDepth 20000 in
theorem w132_552 {ls st : List xV} {M : xM} {Q : Option xV → xM → Prop} {a : Int} {v0 : xV} {v1 : xV} {v2 : xV} : Wp 132 552 (v0 :: v1 :: v2 :: xi a :: ls) (st) (M) Q = Wp 132 553 (v0 :: v1 :: v2 :: xi a :: ls) (xi a :: st) (M) Q := wp_iload rfl rfl
set_option maxRecDepth 20000 in
theorem w132_553 {ls st : List xV} {M : xM} {Q : Option xV → xM → Prop}  : Wp 132 553 (ls) (st) (M) Q = Wp 132 554 (ls) (xi 1 :: st) (M) Q := wp_const rfl
set_option maxRecDepth 20000 in
theorem w132_554 {ls st : List xV} {M : xM} {Q : Option xV → xM → Prop} {a : Int} {b : Int} : Wp 132 554 (ls) (xi b :: xi a :: st) (M) Q = Wp 132 555 (ls) (xi (a + b) :: st) (M) Q := wp_bin (f := xadd) rfl
set_option maxRecDepth 20000 in
theorem w132_555 {ls st : List xV} {M : xM} {Q : Option xV → xM → Prop} {a : Int} (ha : xG a) (h1 : 0 ≤ a) (h2 : a < M 58 (-1)) : Wp 132 555 (ls) (xi a :: xr 58 :: st) (M) Q = Wp 132 556 (ls) (xi (M 58 a) :: st) (M) Q := wp_sld rfl ha h1 h2
set_option maxRecDepth 20000 in
theorem w132_556 {ls st : List xV} {M : xM} {Q : Option xV → xM → Prop} {d : Nat} : Wp 132 556 (xr d :: ls) (st) (M) Q = Wp 132 557 (xr d :: ls) (xr d :: st) (M) Q := wp_aload rfl rfl
set_option maxRecDepth 20000 in
theorem w132_557 {ls st : List xV} {M : xM} {Q : Option xV → xM → Prop} {a : Int} {v0 : xV} {v1 : xV} {v2 : xV} : Wp 132 557 (v0 :: v1 :: v2 :: xi a :: ls) (st) (M) Q = Wp 132 558 (v0 :: v1 :: v2 :: xi a :: ls) (xi a :: st) (M) Q := wp_iload rfl rfl
set_option maxRecDepth 20000 in
theorem w132_558 {ls st : List xV} {M : xM} {Q : Option xV → xM → Prop}  : Wp 132 558 (ls) (st) (M) Q = Wp 132 559 (ls) (xi 2 :: st) (M) Q := wp_const rfl
set_option maxRecDepth 20000 in
theorem w132_559 {ls st : List xV} {M : xM} {Q : Option xV → xM → Prop} {a : Int} {b : Int} : Wp 132 559 (ls) (xi b :: xi a :: st) (M) Q = Wp 132 560 (ls) (xi (a + b) :: st) (M) Q := wp_bin (f := xadd) rfl
set_option maxRecDepth 20000 in
theorem w132_560 {ls st : List xV} {M : xM} {Q : Option xV → xM → Prop} {a : Int} (ha : xG a) (h1 : 0 ≤ a) (h2 : a < M 58 (-1)) : Wp 132 560 (ls) (xi a :: xr 58 :: st) (M) Q = Wp 132 561 (ls) (xi (M 58 a) :: st) (M) Q := wp_sld rfl ha h1 h2
set_option maxRecDepth 20000 in
theorem w132_561 {ls st : List xV} {M : xM} {Q : Option xV → xM → Prop} {d : Nat} : Wp 132 561 (xr d :: ls) (st) (M) Q = Wp 132 562 (xr d :: ls) (xr d :: st) (M) Q := wp_aload rfl rfl
set_option maxRecDepth 20000 in
theorem w132_562 {ls st : List xV} {M : xM} {Q : Option xV → xM → Prop} {a : Int} {v0 : xV} {v1 : xV} {v2 : xV} : Wp 132 562 (v0 :: v1 :: v2 :: xi a :: ls) (st) (M) Q = Wp 132 563 (v0 :: v1 :: v2 :: xi a :: ls) (xi a :: st) (M) Q := wp_iload rfl rfl
set_option maxRecDepth 20000 in
theorem w132_563 {ls st : List xV} {M : xM} {Q : Option xV → xM → Prop}  : Wp 132 563 (ls) (st) (M) Q = Wp 132 564 (ls) (xi 3 :: st) (M) Q := wp_const rfl
set_option maxRecDepth 20000 in
theorem w132_564 {ls st : List xV} {M : xM} {Q : Option xV → xM → Prop} {a : Int} {b : Int} : Wp 132 564 (ls) (xi b :: xi a :: st) (M) Q = Wp 132 565 (ls) (xi (a + b) :: st) (M) Q := wp_bin (f := xadd) rfl
set_option maxRecDepth 20000 in
theorem w132_565 {ls st : List xV} {M : xM} {Q : Option xV → xM → Prop} {a : Int} (ha : xG a) (h1 : 0 ≤ a) (h2 : a < M 58 (-1)) : Wp 132 565 (ls) (xi a :: xr 58 :: st) (M) Q = Wp 132 566 (ls) (xi (M 58 a) :: st) (M) Q := wp_sld rfl ha h1 h2
set_option maxRecDepth 20000 in
theorem w132_566 {ls : List xV} {M : xM} {Q : Option xV → xM → Prop} {a1 : Int} {a2 : Int} {a3 : Int} {d0 : Nat} {s0 : xV} (hc : x_c d0 = 9) : Wp 132 566 (ls) (xi a3 :: xi a2 :: xi a1 :: xr d0 :: s0 :: []) (M) Q = Wc 119 [xr d0, xi a1, xi a2, xi a3] M (fun r M2 => Wp 132 569 (ls) (r.toList ++ (s0 :: [])) M2 Q) := wp_cV rfl rfl hc (Nat.le_of_ble_eq_true rfl) (Nat.le_of_ble_eq_true rfl) rfl rfl
set_option maxRecDepth 20000 in
theorem w132_569 {ls st : List xV} {M : xM} {Q : Option xV → xM → Prop} {a : Int} {b : Int} (ha : xG a) (hb : xG b) : Wp 132 569 (ls) (xi b :: xi a :: st) (M) Q = ((a = b → Wp 132 933 (ls) (st) (M) Q) ∧ (¬ (a = b) → Wp 132 572 (ls) (st) (M) Q)) := wp_cmp_eq rfl ha hb
set_option maxRecDepth 20000 in
theorem w132_572 {ls st : List xV} {M : xM} {Q : Option xV → xM → Prop}  : Wp 132 572 (ls) (st) (M) Q = Wp 132 573 (ls) (xi 0 :: st) (M) Q := wp_const rfl
set_option maxRecDepth 20000 in
theorem w132_573 {ls : List xV} {M : xM} {Q : Option xV → xM → Prop} {a : Int} (ha : a = 0 ∨ a = 1) : Wp 132 573 (ls) ([xi a]) (M) Q = Q (some (xi a)) M := wp_zret rfl ha
set_option maxRecDepth 20000 in
theorem w132_574 {ls st : List xV} {M : xM} {Q : Option xV → xM → Prop} {d : Nat} {v0 : xV} : Wp 132 574 (v0 :: xr d :: ls) (st) (M) Q = Wp 132 575 (v0 :: xr d :: ls) (xr d :: st) (M) Q := wp_aload rfl rfl
set_option maxRecDepth 20000 in
theorem w132_575 {ls st : List xV} {M : xM} {Q : Option xV → xM → Prop} {d : Nat} : Wp 132 575 (xr d :: ls) (st) (M) Q = Wp 132 576 (xr d :: ls) (xr d :: st) (M) Q := wp_aload rfl rfl
set_option maxRecDepth 20000 in
theorem w132_576 {ls st : List xV} {M : xM} {Q : Option xV → xM → Prop} {a : Int} {v0 : xV} {v1 : xV} {v2 : xV} : Wp 132 576 (v0 :: v1 :: v2 :: xi a :: ls) (st) (M) Q = Wp 132 577 (v0 :: v1 :: v2 :: xi a :: ls) (xi a :: st) (M) Q := wp_iload rfl rfl
set_option maxRecDepth 20000 in
theorem w132_577 {ls st : List xV} {M : xM} {Q : Option xV → xM → Prop}  : Wp 132 577 (ls) (st) (M) Q = Wp 132 578 (ls) (xi 1 :: st) (M) Q := wp_const rfl
set_option maxRecDepth 20000 in
theorem w132_578 {ls st : List xV} {M : xM} {Q : Option xV → xM → Prop} {a : Int} {b : Int} : Wp 132 578 (ls) (xi b :: xi a :: st) (M) Q = Wp 132 579 (ls) (xi (a + b) :: st) (M) Q := wp_bin (f := xadd) rfl
set_option maxRecDepth 20000 in
theorem w132_579 {ls st : List xV} {M : xM} {Q : Option xV → xM → Prop} {a : Int} (ha : xG a) (h1 : 0 ≤ a) (h2 : a < M 58 (-1)) : Wp 132 579 (ls) (xi a :: xr 58 :: st) (M) Q = Wp 132 580 (ls) (xi (M 58 a) :: st) (M) Q := wp_sld rfl ha h1 h2
set_option maxRecDepth 20000 in
theorem w132_580 {ls : List xV} {M : xM} {Q : Option xV → xM → Prop} {a1 : Int} {d0 : Nat} (hc : x_c d0 = 8) : Wp 132 580 (ls) (xi a1 :: xr d0 :: []) (M) Q = Wc 61 [xr d0, xi a1] M (fun r M2 => Wp 132 583 (ls) (r.toList ++ ([])) M2 Q) := wp_cV rfl rfl hc (Nat.le_of_ble_eq_true rfl) (Nat.le_of_ble_eq_true rfl) rfl rfl
set_option maxRecDepth 20000 in
theorem w132_583 {ls st : List xV} {M : xM} {Q : Option xV → xM → Prop} {d : Nat} {v0 : xV} {v1 : xV} : Wp 132 583 (v0 :: v1 :: xr d :: ls) (st) (M) Q = Wp 132 584 (v0 :: v1 :: xr d :: ls) (xr d :: st) (M) Q := wp_aload rfl rfl
set_option maxRecDepth 20000 in
theorem w132_584 {ls st : List xV} {M : xM} {Q : Option xV → xM → Prop} {d : Nat} : Wp 132 584 (xr d :: ls) (st) (M) Q = Wp 132 585 (xr d :: ls) (xr d :: st) (M) Q := wp_aload rfl rfl
set_option maxRecDepth 20000 in
theorem w132_585 {ls st : List xV} {M : xM} {Q : Option xV → xM → Prop} {a : Int} {v0 : xV} {v1 : xV} {v2 : xV} : Wp 132 585 (v0 :: v1 :: v2 :: xi a :: ls) (st) (M) Q = Wp 132 586 (v0 :: v1 :: v2 :: xi a :: ls) (xi a :: st) (M) Q := wp_iload rfl rfl
set_option maxRecDepth 20000 in
theorem w132_586 {ls st : List xV} {M : xM} {Q : Option xV → xM → Prop}  : Wp 132 586 (ls) (st) (M) Q = Wp 132 587 (ls) (xi 1 :: st) (M) Q := wp_const rfl
set_option maxRecDepth 20000 in
theorem w132_587 {ls st : List xV} {M : xM} {Q : Option xV → xM → Prop} {a : Int} {b : Int} : Wp 132 587 (ls) (xi b :: xi a :: st) (M) Q = Wp 132 588 (ls) (xi (a + b) :: st) (M) Q := wp_bin (f := xadd) rfl
set_option maxRecDepth 20000 in
theorem w132_588 {ls st : List xV} {M : xM} {Q : Option xV → xM → Prop} {a : Int} (ha : xG a) (h1 : 0 ≤ a) (h2 : a < M 58 (-1)) : Wp 132 588 (ls) (xi a :: xr 58 :: st) (M) Q = Wp 132 589 (ls) (xi (M 58 a) :: st) (M) Q := wp_sld rfl ha h1 h2
set_option maxRecDepth 20000 in
theorem w132_589 {ls : List xV} {M : xM} {Q : Option xV → xM → Prop} {a1 : Int} {d0 : Nat} {s0 : xV} (hc : x_c d0 = 9) : Wp 132 589 (ls) (xi a1 :: xr d0 :: s0 :: []) (M) Q = Wc 120 [xr d0, xi a1] M (fun r M2 => Wp 132 592 (ls) (r.toList ++ (s0 :: [])) M2 Q) := wp_cV rfl rfl hc (Nat.le_of_ble_eq_true rfl) (Nat.le_of_ble_eq_true rfl) rfl rfl
set_option maxRecDepth 20000 in
theorem w132_592 {ls st : List xV} {M : xM} {Q : Option xV → xM → Prop} {a : Int} {b : Int} (ha : xG a) (hb : xG b) : Wp 132 592 (ls) (xi b :: xi a :: st) (M) Q = ((a = b → Wp 132 933 (ls) (st) (M) Q) ∧ (¬ (a = b) → Wp 132 595 (ls) (st) (M) Q)) := wp_cmp_eq rfl ha hb
set_option maxRecDepth 20000 in
theorem w132_595 {ls st : List xV} {M : xM} {Q : Option xV → xM → Prop}  : Wp 132 595 (ls) (st) (M) Q = Wp 132 596 (ls) (xi 0 :: st) (M) Q := wp_const rfl
set_option maxRecDepth 20000 in
theorem w132_596 {ls : List xV} {M : xM} {Q : Option xV → xM → Prop} {a : Int} (ha : a = 0 ∨ a = 1) : Wp 132 596 (ls) ([xi a]) (M) Q = Q (some (xi a)) M := wp_zret rfl ha
set_option maxRecDepth 20000 in
theorem w132_597 {ls st : List xV} {M : xM} {Q : Option xV → xM → Prop} {d : Nat} {v0 : xV} : Wp 132 597 (v0 :: xr d :: ls) (st) (M) Q = Wp 132 598 (v0 :: xr d :: ls) (xr d :: st) (M) Q := wp_aload rfl rfl
set_option maxRecDepth 20000 in
theorem w132_598 {ls st : List xV} {M : xM} {Q : Option xV → xM → Prop} {d : Nat} : Wp 132 598 (xr d :: ls) (st) (M) Q = Wp 132 599 (xr d :: ls) (xr d :: st) (M) Q := wp_aload rfl rfl
set_option maxRecDepth 20000 in
theorem w132_599 {ls st : List xV} {M : xM} {Q : Option xV → xM → Prop} {a : Int} {v0 : xV} {v1 : xV} {v2 : xV} : Wp 132 599 (v0 :: v1 :: v2 :: xi a :: ls) (st) (M) Q = Wp 132 600 (v0 :: v1 :: v2 :: xi a :: ls) (xi a :: st) (M) Q := wp_iload rfl rfl
set_option maxRecDepth 20000 in
theorem w132_600 {ls st : List xV} {M : xM} {Q : Option xV → xM → Prop}  : Wp 132 600 (ls) (st) (M) Q = Wp 132 601 (ls) (xi 1 :: st) (M) Q := wp_const rfl
set_option maxRecDepth 20000 in
theorem w132_601 {ls st : List xV} {M : xM} {Q : Option xV → xM → Prop} {a : Int} {b : Int} : Wp 132 601 (ls) (xi b :: xi a :: st) (M) Q = Wp 132 602 (ls) (xi (a + b) :: st) (M) Q := wp_bin (f := xadd) rfl
set_option maxRecDepth 20000 in
theorem w132_602 {ls st : List xV} {M : xM} {Q : Option xV → xM → Prop} {a : Int} (ha : xG a) (h1 : 0 ≤ a) (h2 : a < M 58 (-1)) : Wp 132 602 (ls) (xi a :: xr 58 :: st) (M) Q = Wp 132 603 (ls) (xi (M 58 a) :: st) (M) Q := wp_sld rfl ha h1 h2
set_option maxRecDepth 20000 in
theorem w132_603 {ls st : List xV} {M : xM} {Q : Option xV → xM → Prop} {d : Nat} : Wp 132 603 (xr d :: ls) (st) (M) Q = Wp 132 604 (xr d :: ls) (xr d :: st) (M) Q := wp_aload rfl rfl
set_option maxRecDepth 20000 in
theorem w132_604 {ls st : List xV} {M : xM} {Q : Option xV → xM → Prop} {a : Int} {v0 : xV} {v1 : xV} {v2 : xV} : Wp 132 604 (v0 :: v1 :: v2 :: xi a :: ls) (st) (M) Q = Wp 132 605 (v0 :: v1 :: v2 :: xi a :: ls) (xi a :: st) (M) Q := wp_iload rfl rfl
set_option maxRecDepth 20000 in
theorem w132_605 {ls st : List xV} {M : xM} {Q : Option xV → xM → Prop}  : Wp 132 605 (ls) (st) (M) Q = Wp 132 606 (ls) (xi 2 :: st) (M) Q := wp_const rfl
set_option maxRecDepth 20000 in
theorem w132_606 {ls st : List xV} {M : xM} {Q : Option xV → xM → Prop} {a : Int} {b : Int} : Wp 132 606 (ls) (xi b :: xi a :: st) (M) Q = Wp 132 607 (ls) (xi (a + b) :: st) (M) Q := wp_bin (f := xadd) rfl
set_option maxRecDepth 20000 in
theorem w132_607 {ls st : List xV} {M : xM} {Q : Option xV → xM → Prop} {a : Int} (ha : xG a) (h1 : 0 ≤ a) (h2 : a < M 58 (-1)) : Wp 132 607 (ls) (xi a :: xr 58 :: st) (M) Q = Wp 132 608 (ls) (xi (M 58 a) :: st) (M) Q := wp_sld rfl ha h1 h2
set_option maxRecDepth 20000 in
theorem w132_608 {ls st : List xV} {M : xM} {Q : Option xV → xM → Prop} {d : Nat} : Wp 132 608 (xr d :: ls) (st) (M) Q = Wp 132 609 (xr d :: ls) (xr d :: st) (M) Q := wp_aload rfl rfl
set_option maxRecDepth 20000 in
theorem w132_609 {ls st : List xV} {M : xM} {Q : Option xV → xM → Prop} {a : Int} {v0 : xV} {v1 : xV} {v2 : xV} : Wp 132 609 (v0 :: v1 :: v2 :: xi a :: ls) (st) (M) Q = Wp 132 610 (v0 :: v1 :: v2 :: xi a :: ls) (xi a :: st) (M) Q := wp_iload rfl rfl
set_option maxRecDepth 20000 in
theorem w132_610 {ls st : List xV} {M : xM} {Q : Option xV → xM → Prop}  : Wp 132 610 (ls) (st) (M) Q = Wp 132 611 (ls) (xi 3 :: st) (M) Q := wp_const rfl
set_option maxRecDepth 20000 in
theorem w132_611 {ls st : List xV} {M : xM} {Q : Option xV → xM → Prop} {a : Int} {b : Int} : Wp 132 611 (ls) (xi b :: xi a :: st) (M) Q = Wp 132 612 (ls) (xi (a + b) :: st) (M) Q := wp_bin (f := xadd) rfl
set_option maxRecDepth 20000 in
theorem w132_612 {ls st : List xV} {M : xM} {Q : Option xV → xM → Prop} {a : Int} (ha : xG a) (h1 : 0 ≤ a) (h2 : a < M 58 (-1)) : Wp 132 612 (ls) (xi a :: xr 58 :: st) (M) Q = Wp 132 613 (ls) (xi (M 58 a) :: st) (M) Q := wp_sld rfl ha h1 h2
set_option maxRecDepth 20000 in
theorem w132_613 {ls st : List xV} {M : xM} {Q : Option xV → xM → Prop} {a : Int} (ha : xG a) : Wp 132 613 (ls) (xi a :: st) (M) Q = ((a = 0 → Wp 132 620 (ls) (st) (M) Q) ∧ (¬ (a = 0) → Wp 132 616 (ls) (st) (M) Q)) := wp_if_eq rfl ha
set_option maxRecDepth 20000 in
theorem w132_616 {ls st : List xV} {M : xM} {Q : Option xV → xM → Prop}  : Wp 132 616 (ls) (st) (M) Q = Wp 132 617 (ls) (xi 1 :: st) (M) Q := wp_const rfl
set_option maxRecDepth 20000 in
theorem w132_617 {ls st : List xV} {M : xM} {Q : Option xV → xM → Prop}  : Wp 132 617 (ls) (st) (M) Q = Wp 132 621 (ls) (st) (M) Q := wp_goto rfl
set_option maxRecDepth 20000 in
theorem w132_620 {ls st : List xV} {M : xM} {Q : Option xV → xM → Prop}  : Wp 132 620 (ls) (st) (M) Q = Wp 132 621 (ls) (xi 0 :: st) (M) Q := wp_const rfl
set_option maxRecDepth 20000 in
theorem w132_621 {ls : List xV} {M : xM} {Q : Option xV → xM → Prop} {a1 : Int} {a2 : Int} {a3 : Int} {d0 : Nat} (hc : x_c d0 = 8) : Wp 132 621 (ls) (xi a3 :: xi a2 :: xi a1 :: xr d0 :: []) (M) Q = Wc 62 [xr d0, xi a1, xi a2, xi a3] M (fun r M2 => Wp 132 624 (ls) (r.toList ++ ([])) M2 Q) := wp_cV rfl rfl hc (Nat.le_of_ble_eq_true rfl) (Nat.le_of_ble_eq_true rfl) rfl rfl
set_option maxRecDepth 20000 in
theorem w132_624 {ls st : List xV} {M : xM} {Q : Option xV → xM → Prop} {d : Nat} {v0 : xV} {v1 : xV} : Wp 132 624 (v0 :: v1 :: xr d :: ls) (st) (M) Q = Wp 132 625 (v0 :: v1 :: xr d :: ls) (xr d :: st) (M) Q := wp_aload rfl rfl
set_option maxRecDepth 20000 in
theorem w132_625 {ls st : List xV} {M : xM} {Q : Option xV → xM → Prop} {d : Nat} : Wp 132 625 (xr d :: ls) (st) (M) Q = Wp 132 626 (xr d :: ls) (xr d :: st) (M) Q := wp_aload rfl rfl
set_option maxRecDepth 20000 in
theorem w132_626 {ls st : List xV} {M : xM} {Q : Option xV → xM → Prop} {a : Int} {v0 : xV} {v1 : xV} {v2 : xV} : Wp 132 626 (v0 :: v1 :: v2 :: xi a :: ls) (st) (M) Q = Wp 132 627 (v0 :: v1 :: v2 :: xi a :: ls) (xi a :: st) (M) Q := wp_iload rfl rfl
set_option maxRecDepth 20000 in
theorem w132_627 {ls st : List xV} {M : xM} {Q : Option xV → xM → Prop}  : Wp 132 627 (ls) (st) (M) Q = Wp 132 628 (ls) (xi 1 :: st) (M) Q := wp_const rfl
set_option maxRecDepth 20000 in
theorem w132_628 {ls st : List xV} {M : xM} {Q : Option xV → xM → Prop} {a : Int} {b : Int} : Wp 132 628 (ls) (xi b :: xi a :: st) (M) Q = Wp 132 629 (ls) (xi (a + b) :: st) (M) Q := wp_bin (f := xadd) rfl
set_option maxRecDepth 20000 in
theorem w132_629 {ls st : List xV} {M : xM} {Q : Option xV → xM → Prop} {a : Int} (ha : xG a) (h1 : 0 ≤ a) (h2 : a < M 58 (-1)) : Wp 132 629 (ls) (xi a :: xr 58 :: st) (M) Q = Wp 132 630 (ls) (xi (M 58 a) :: st) (M) Q := wp_sld rfl ha h1 h2
set_option maxRecDepth 20000 in
theorem w132_630 {ls st : List xV} {M : xM} {Q : Option xV → xM → Prop} {d : Nat} : Wp 132 630 (xr d :: ls) (st) (M) Q = Wp 132 631 (xr d :: ls) (xr d :: st) (M) Q := wp_aload rfl rfl
set_option maxRecDepth 20000 in
theorem w132_631 {ls st : List xV} {M : xM} {Q : Option xV → xM → Prop} {a : Int} {v0 : xV} {v1 : xV} {v2 : xV} : Wp 132 631 (v0 :: v1 :: v2 :: xi a :: ls) (st) (M) Q = Wp 132 632 (v0 :: v1 :: v2 :: xi a :: ls) (xi a :: st) (M) Q := wp_iload rfl rfl
set_option maxRecDepth 20000 in
theorem w132_632 {ls st : List xV} {M : xM} {Q : Option xV → xM → Prop}  : Wp 132 632 (ls) (st) (M) Q = Wp 132 633 (ls) (xi 2 :: st) (M) Q := wp_const rfl
set_option maxRecDepth 20000 in
theorem w132_633 {ls st : List xV} {M : xM} {Q : Option xV → xM → Prop} {a : Int} {b : Int} : Wp 132 633 (ls) (xi b :: xi a :: st) (M) Q = Wp 132 634 (ls) (xi (a + b) :: st) (M) Q := wp_bin (f := xadd) rfl
set_option maxRecDepth 20000 in
theorem w132_634 {ls st : List xV} {M : xM} {Q : Option xV → xM → Prop} {a : Int} (ha : xG a) (h1 : 0 ≤ a) (h2 : a < M 58 (-1)) : Wp 132 634 (ls) (xi a :: xr 58 :: st) (M) Q = Wp 132 635 (ls) (xi (M 58 a) :: st) (M) Q := wp_sld rfl ha h1 h2
set_option maxRecDepth 20000 in
theorem w132_635 {ls st : List xV} {M : xM} {Q : Option xV → xM → Prop} {d : Nat} : Wp 132 635 (xr d :: ls) (st) (M) Q = Wp 132 636 (xr d :: ls) (xr d :: st) (M) Q := wp_aload rfl rfl
set_option maxRecDepth 20000 in
theorem w132_636 {ls st : List xV} {M : xM} {Q : Option xV → xM → Prop} {a : Int} {v0 : xV} {v1 : xV} {v2 : xV} : Wp 132 636 (v0 :: v1 :: v2 :: xi a :: ls) (st) (M) Q = Wp 132 637 (v0 :: v1 :: v2 :: xi a :: ls) (xi a :: st) (M) Q := wp_iload rfl rfl
set_option maxRecDepth 20000 in
theorem w132_637 {ls st : List xV} {M : xM} {Q : Option xV → xM → Prop}  : Wp 132 637 (ls) (st) (M) Q = Wp 132 638 (ls) (xi 3 :: st) (M) Q := wp_const rfl
set_option maxRecDepth 20000 in
theorem w132_638 {ls st : List xV} {M : xM} {Q : Option xV → xM → Prop} {a : Int} {b : Int} : Wp 132 638 (ls) (xi b :: xi a :: st) (M) Q = Wp 132 639 (ls) (xi (a + b) :: st) (M) Q := wp_bin (f := xadd) rfl
set_option maxRecDepth 20000 in
theorem w132_639 {ls st : List xV} {M : xM} {Q : Option xV → xM → Prop} {a : Int} (ha : xG a) (h1 : 0 ≤ a) (h2 : a < M 58 (-1)) : Wp 132 639 (ls) (xi a :: xr 58 :: st) (M) Q = Wp 132 640 (ls) (xi (M 58 a) :: st) (M) Q := wp_sld rfl ha h1 h2
set_option maxRecDepth 20000 in
theorem w132_640 {ls st : List xV} {M : xM} {Q : Option xV → xM → Prop} {a : Int} (ha : xG a) : Wp 132 640 (ls) (xi a :: st) (M) Q = ((a = 0 → Wp 132 647 (ls) (st) (M) Q) ∧ (¬ (a = 0) → Wp 132 643 (ls) (st) (M) Q)) := wp_if_eq rfl ha
set_option maxRecDepth 20000 in
theorem w132_643 {ls st : List xV} {M : xM} {Q : Option xV → xM → Prop}  : Wp 132 643 (ls) (st) (M) Q = Wp 132 644 (ls) (xi 1 :: st) (M) Q := wp_const rfl
set_option maxRecDepth 20000 in
theorem w132_644 {ls st : List xV} {M : xM} {Q : Option xV → xM → Prop}  : Wp 132 644 (ls) (st) (M) Q = Wp 132 648 (ls) (st) (M) Q := wp_goto rfl
set_option maxRecDepth 20000 in
theorem w132_647 {ls st : List xV} {M : xM} {Q : Option xV → xM → Prop}  : Wp 132 647 (ls) (st) (M) Q = Wp 132 648 (ls) (xi 0 :: st) (M) Q := wp_const rfl
set_option maxRecDepth 20000 in
theorem w132_648 {ls : List xV} {M : xM} {Q : Option xV → xM → Prop} {a1 : Int} {a2 : Int} {a3 : Int} {d0 : Nat} {s0 : xV} (hc : x_c d0 = 9) : Wp 132 648 (ls) (xi a3 :: xi a2 :: xi a1 :: xr d0 :: s0 :: []) (M) Q = Wc 121 [xr d0, xi a1, xi a2, xi a3] M (fun r M2 => Wp 132 651 (ls) (r.toList ++ (s0 :: [])) M2 Q) := wp_cV rfl rfl hc (Nat.le_of_ble_eq_true rfl) (Nat.le_of_ble_eq_true rfl) rfl rfl
set_option maxRecDepth 20000 in
theorem w132_651 {ls st : List xV} {M : xM} {Q : Option xV → xM → Prop} {a : Int} {b : Int} (ha : xG a) (hb : xG b) : Wp 132 651 (ls) (xi b :: xi a :: st) (M) Q = ((a = b → Wp 132 933 (ls) (st) (M) Q) ∧ (¬ (a = b) → Wp 132 654 (ls) (st) (M) Q)) := wp_cmp_eq rfl ha hb
set_option maxRecDepth 20000 in
theorem w132_654 {ls st : List xV} {M : xM} {Q : Option xV → xM → Prop}  : Wp 132 654 (ls) (st) (M) Q = Wp 132 655 (ls) (xi 0 :: st) (M) Q := wp_const rfl
set_option maxRecDepth 20000 in
theorem w132_655 {ls : List xV} {M : xM} {Q : Option xV → xM → Prop} {a : Int} (ha : a = 0 ∨ a = 1) : Wp 132 655 (ls) ([xi a]) (M) Q = Q (some (xi a)) M := wp_zret rfl ha
set_option maxRecDepth 20000 in
theorem w132_656 {ls st : List xV} {M : xM} {Q : Option xV → xM → Prop} {d : Nat} {v0 : xV} : Wp 132 656 (v0 :: xr d :: ls) (st) (M) Q = Wp 132 657 (v0 :: xr d :: ls) (xr d :: st) (M) Q := wp_aload rfl rfl
set_option maxRecDepth 20000 in
theorem w132_657 {ls : List xV} {M : xM} {Q : Option xV → xM → Prop} {d0 : Nat} (hc : x_c d0 = 8) : Wp 132 657 (ls) (xr d0 :: []) (M) Q = Wc 63 [xr d0] M (fun r M2 => Wp 132 660 (ls) (r.toList ++ ([])) M2 Q) := wp_cV rfl rfl hc (Nat.le_of_ble_eq_true rfl) (Nat.le_of_ble_eq_true rfl) rfl rfl
set_option maxRecDepth 20000 in
theorem w132_660 {ls st : List xV} {M : xM} {Q : Option xV → xM → Prop} {d : Nat} {v0 : xV} {v1 : xV} : Wp 132 660 (v0 :: v1 :: xr d :: ls) (st) (M) Q = Wp 132 661 (v0 :: v1 :: xr d :: ls) (xr d :: st) (M) Q := wp_aload rfl rfl
set_option maxRecDepth 20000 in
theorem w132_661 {ls : List xV} {M : xM} {Q : Option xV → xM → Prop} {d0 : Nat} {s0 : xV} (hc : x_c d0 = 9) : Wp 132 661 (ls) (xr d0 :: s0 :: []) (M) Q = Wc 122 [xr d0] M (fun r M2 => Wp 132 664 (ls) (r.toList ++ (s0 :: [])) M2 Q) := wp_cV rfl rfl hc (Nat.le_of_ble_eq_true rfl) (Nat.le_of_ble_eq_true rfl) rfl rfl
set_option maxRecDepth 20000 in
theorem w132_664 {ls st : List xV} {M : xM} {Q : Option xV → xM → Prop} {a : Int} {b : Int} (ha : xG a) (hb : xG b) : Wp 132 664 (ls) (xi b :: xi a :: st) (M) Q = ((a = b → Wp 132 933 (ls) (st) (M) Q) ∧ (¬ (a = b) → Wp 132 667 (ls) (st) (M) Q)) := wp_cmp_eq rfl ha hb
set_option maxRecDepth 20000 in
theorem w132_667 {ls st : List xV} {M : xM} {Q : Option xV → xM → Prop}  : Wp 132 667 (ls) (st) (M) Q = Wp 132 668 (ls) (xi 0 :: st) (M) Q := wp_const rfl
set_option maxRecDepth 20000 in
theorem w132_668 {ls : List xV} {M : xM} {Q : Option xV → xM → Prop} {a : Int} (ha : a = 0 ∨ a = 1) : Wp 132 668 (ls) ([xi a]) (M) Q = Q (some (xi a)) M := wp_zret rfl ha
set_option maxRecDepth 20000 in
theorem w132_669 {ls st : List xV} {M : xM} {Q : Option xV → xM → Prop} {d : Nat} {v0 : xV} : Wp 132 669 (v0 :: xr d :: ls) (st) (M) Q = Wp 132 670 (v0 :: xr d :: ls) (xr d :: st) (M) Q := wp_aload rfl rfl
set_option maxRecDepth 20000 in
theorem w132_670 {ls st : List xV} {M : xM} {Q : Option xV → xM → Prop} {d : Nat} : Wp 132 670 (xr d :: ls) (st) (M) Q = Wp 132 671 (xr d :: ls) (xr d :: st) (M) Q := wp_aload rfl rfl
set_option maxRecDepth 20000 in
theorem w132_671 {ls st : List xV} {M : xM} {Q : Option xV → xM → Prop} {a : Int} {v0 : xV} {v1 : xV} {v2 : xV} : Wp 132 671 (v0 :: v1 :: v2 :: xi a :: ls) (st) (M) Q = Wp 132 672 (v0 :: v1 :: v2 :: xi a :: ls) (xi a :: st) (M) Q := wp_iload rfl rfl
set_option maxRecDepth 20000 in
theorem w132_672 {ls st : List xV} {M : xM} {Q : Option xV → xM → Prop}  : Wp 132 672 (ls) (st) (M) Q = Wp 132 673 (ls) (xi 1 :: st) (M) Q := wp_const rfl
set_option maxRecDepth 20000 in
theorem w132_673 {ls st : List xV} {M : xM} {Q : Option xV → xM → Prop} {a : Int} {b : Int} : Wp 132 673 (ls) (xi b :: xi a :: st) (M) Q = Wp 132 674 (ls) (xi (a + b) :: st) (M) Q := wp_bin (f := xadd) rfl
set_option maxRecDepth 20000 in
theorem w132_674 {ls st : List xV} {M : xM} {Q : Option xV → xM → Prop} {a : Int} (ha : xG a) (h1 : 0 ≤ a) (h2 : a < M 58 (-1)) : Wp 132 674 (ls) (xi a :: xr 58 :: st) (M) Q = Wp 132 675 (ls) (xi (M 58 a) :: st) (M) Q := wp_sld rfl ha h1 h2
set_option maxRecDepth 20000 in
theorem w132_675 {ls : List xV} {M : xM} {Q : Option xV → xM → Prop} {a1 : Int} {d0 : Nat} (hc : x_c d0 = 8) : Wp 132 675 (ls) (xi a1 :: xr d0 :: []) (M) Q = Wc 64 [xr d0, xi a1] M (fun r M2 => Wp 132 678 (ls) (r.toList ++ ([])) M2 Q) := wp_cV rfl rfl hc (Nat.le_of_ble_eq_true rfl) (Nat.le_of_ble_eq_true rfl) rfl rfl
set_option maxRecDepth 20000 in
theorem w132_678 {ls st : List xV} {M : xM} {Q : Option xV → xM → Prop} {d : Nat} {v0 : xV} {v1 : xV} : Wp 132 678 (v0 :: v1 :: xr d :: ls) (st) (M) Q = Wp 132 679 (v0 :: v1 :: xr d :: ls) (xr d :: st) (M) Q := wp_aload rfl rfl
set_option maxRecDepth 20000 in
theorem w132_679 {ls st : List xV} {M : xM} {Q : Option xV → xM → Prop} {d : Nat} : Wp 132 679 (xr d :: ls) (st) (M) Q = Wp 132 680 (xr d :: ls) (xr d :: st) (M) Q := wp_aload rfl rfl
set_option maxRecDepth 20000 in
theorem w132_680 {ls st : List xV} {M : xM} {Q : Option xV → xM → Prop} {a : Int} {v0 : xV} {v1 : xV} {v2 : xV} : Wp 132 680 (v0 :: v1 :: v2 :: xi a :: ls) (st) (M) Q = Wp 132 681 (v0 :: v1 :: v2 :: xi a :: ls) (xi a :: st) (M) Q := wp_iload rfl rfl
set_option maxRecDepth 20000 in
theorem w132_681 {ls st : List xV} {M : xM} {Q : Option xV → xM → Prop}  : Wp 132 681 (ls) (st) (M) Q = Wp 132 682 (ls) (xi 1 :: st) (M) Q := wp_const rfl
set_option maxRecDepth 20000 in
theorem w132_682 {ls st : List xV} {M : xM} {Q : Option xV → xM → Prop} {a : Int} {b : Int} : Wp 132 682 (ls) (xi b :: xi a :: st) (M) Q = Wp 132 683 (ls) (xi (a + b) :: st) (M) Q := wp_bin (f := xadd) rfl
set_option maxRecDepth 20000 in
theorem w132_683 {ls st : List xV} {M : xM} {Q : Option xV → xM → Prop} {a : Int} (ha : xG a) (h1 : 0 ≤ a) (h2 : a < M 58 (-1)) : Wp 132 683 (ls) (xi a :: xr 58 :: st) (M) Q = Wp 132 684 (ls) (xi (M 58 a) :: st) (M) Q := wp_sld rfl ha h1 h2
set_option maxRecDepth 20000 in
theorem w132_684 {ls : List xV} {M : xM} {Q : Option xV → xM → Prop} {a1 : Int} {d0 : Nat} {s0 : xV} (hc : x_c d0 = 9) : Wp 132 684 (ls) (xi a1 :: xr d0 :: s0 :: []) (M) Q = Wc 123 [xr d0, xi a1] M (fun r M2 => Wp 132 687 (ls) (r.toList ++ (s0 :: [])) M2 Q) := wp_cV rfl rfl hc (Nat.le_of_ble_eq_true rfl) (Nat.le_of_ble_eq_true rfl) rfl rfl
set_option maxRecDepth 20000 in
theorem w132_687 {ls st : List xV} {M : xM} {Q : Option xV → xM → Prop} {a : Int} {b : Int} (ha : xG a) (hb : xG b) : Wp 132 687 (ls) (xi b :: xi a :: st) (M) Q = ((a = b → Wp 132 933 (ls) (st) (M) Q) ∧ (¬ (a = b) → Wp 132 690 (ls) (st) (M) Q)) := wp_cmp_eq rfl ha hb
set_option maxRecDepth 20000 in
theorem w132_690 {ls st : List xV} {M : xM} {Q : Option xV → xM → Prop}  : Wp 132 690 (ls) (st) (M) Q = Wp 132 691 (ls) (xi 0 :: st) (M) Q := wp_const rfl
set_option maxRecDepth 20000 in
theorem w132_691 {ls : List xV} {M : xM} {Q : Option xV → xM → Prop} {a : Int} (ha : a = 0 ∨ a = 1) : Wp 132 691 (ls) ([xi a]) (M) Q = Q (some (xi a)) M := wp_zret rfl ha
set_option maxRecDepth 20000 in
theorem w132_692 {ls st : List xV} {M : xM} {Q : Option xV → xM → Prop} {d : Nat} {v0 : xV} : Wp 132 692 (v0 :: xr d :: ls) (st) (M) Q = Wp 132 693 (v0 :: xr d :: ls) (xr d :: st) (M) Q := wp_aload rfl rfl
set_option maxRecDepth 20000 in
theorem w132_693 {ls st : List xV} {M : xM} {Q : Option xV → xM → Prop} {d : Nat} : Wp 132 693 (xr d :: ls) (st) (M) Q = Wp 132 694 (xr d :: ls) (xr d :: st) (M) Q := wp_aload rfl rfl
set_option maxRecDepth 20000 in
theorem w132_694 {ls st : List xV} {M : xM} {Q : Option xV → xM → Prop} {a : Int} {v0 : xV} {v1 : xV} {v2 : xV} : Wp 132 694 (v0 :: v1 :: v2 :: xi a :: ls) (st) (M) Q = Wp 132 695 (v0 :: v1 :: v2 :: xi a :: ls) (xi a :: st) (M) Q := wp_iload rfl rfl
set_option maxRecDepth 20000 in
theorem w132_695 {ls st : List xV} {M : xM} {Q : Option xV → xM → Prop}  : Wp 132 695 (ls) (st) (M) Q = Wp 132 696 (ls) (xi 1 :: st) (M) Q := wp_const rfl
set_option maxRecDepth 20000 in
theorem w132_696 {ls st : List xV} {M : xM} {Q : Option xV → xM → Prop} {a : Int} {b : Int} : Wp 132 696 (ls) (xi b :: xi a :: st) (M) Q = Wp 132 697 (ls) (xi (a + b) :: st) (M) Q := wp_bin (f := xadd) rfl
set_option maxRecDepth 20000 in
theorem w132_697 {ls st : List xV} {M : xM} {Q : Option xV → xM → Prop} {a : Int} (ha : xG a) (h1 : 0 ≤ a) (h2 : a < M 58 (-1)) : Wp 132 697 (ls) (xi a :: xr 58 :: st) (M) Q = Wp 132 698 (ls) (xi (M 58 a) :: st) (M) Q := wp_sld rfl ha h1 h2
set_option maxRecDepth 20000 in
theorem w132_698 {ls st : List xV} {M : xM} {Q : Option xV → xM → Prop} {d : Nat} : Wp 132 698 (xr d :: ls) (st) (M) Q = Wp 132 699 (xr d :: ls) (xr d :: st) (M) Q := wp_aload rfl rfl
set_option maxRecDepth 20000 in
theorem w132_699 {ls st : List xV} {M : xM} {Q : Option xV → xM → Prop} {a : Int} {v0 : xV} {v1 : xV} {v2 : xV} : Wp 132 699 (v0 :: v1 :: v2 :: xi a :: ls) (st) (M) Q = Wp 132 700 (v0 :: v1 :: v2 :: xi a :: ls) (xi a :: st) (M) Q := wp_iload rfl rfl
set_option maxRecDepth 20000 in
theorem w132_700 {ls st : List xV} {M : xM} {Q : Option xV → xM → Prop}  : Wp 132 700 (ls) (st) (M) Q = Wp 132 701 (ls) (xi 2 :: st) (M) Q := wp_const rfl
set_option maxRecDepth 20000 in
theorem w132_701 {ls st : List xV} {M : xM} {Q : Option xV → xM → Prop} {a : Int} {b : Int} : Wp 132 701 (ls) (xi b :: xi a :: st) (M) Q = Wp 132 702 (ls) (xi (a + b) :: st) (M) Q := wp_bin (f := xadd) rfl
set_option maxRecDepth 20000 in
theorem w132_702 {ls st : List xV} {M : xM} {Q : Option xV → xM → Prop} {a : Int} (ha : xG a) (h1 : 0 ≤ a) (h2 : a < M 58 (-1)) : Wp 132 702 (ls) (xi a :: xr 58 :: st) (M) Q = Wp 132 703 (ls) (xi (M 58 a) :: st) (M) Q := wp_sld rfl ha h1 h2
set_option maxRecDepth 20000 in
theorem w132_703 {ls st : List xV} {M : xM} {Q : Option xV → xM → Prop} {d : Nat} : Wp 132 703 (xr d :: ls) (st) (M) Q = Wp 132 704 (xr d :: ls) (xr d :: st) (M) Q := wp_aload rfl rfl
set_option maxRecDepth 20000 in
theorem w132_704 {ls st : List xV} {M : xM} {Q : Option xV → xM → Prop} {a : Int} {v0 : xV} {v1 : xV} {v2 : xV} : Wp 132 704 (v0 :: v1 :: v2 :: xi a :: ls) (st) (M) Q = Wp 132 705 (v0 :: v1 :: v2 :: xi a :: ls) (xi a :: st) (M) Q := wp_iload rfl rfl
set_option maxRecDepth 20000 in
theorem w132_705 {ls st : List xV} {M : xM} {Q : Option xV → xM → Prop}  : Wp 132 705 (ls) (st) (M) Q = Wp 132 706 (ls) (xi 3 :: st) (M) Q := wp_const rfl
set_option maxRecDepth 20000 in
theorem w132_706 {ls st : List xV} {M : xM} {Q : Option xV → xM → Prop} {a : Int} {b : Int} : Wp 132 706 (ls) (xi b :: xi a :: st) (M) Q = Wp 132 707 (ls) (xi (a + b) :: st) (M) Q := wp_bin (f := xadd) rfl
set_option maxRecDepth 20000 in
theorem w132_707 {ls st : List xV} {M : xM} {Q : Option xV → xM → Prop} {a : Int} (ha : xG a) (h1 : 0 ≤ a) (h2 : a < M 58 (-1)) : Wp 132 707 (ls) (xi a :: xr 58 :: st) (M) Q = Wp 132 708 (ls) (xi (M 58 a) :: st) (M) Q := wp_sld rfl ha h1 h2
set_option maxRecDepth 20000 in
theorem w132_708 {ls st : List xV} {M : xM} {Q : Option xV → xM → Prop} {d : Nat} : Wp 132 708 (xr d :: ls) (st) (M) Q = Wp 132 709 (xr d :: ls) (xr d :: st) (M) Q := wp_aload rfl rfl
set_option maxRecDepth 20000 in
theorem w132_709 {ls st : List xV} {M : xM} {Q : Option xV → xM → Prop} {a : Int} {v0 : xV} {v1 : xV} {v2 : xV} : Wp 132 709 (v0 :: v1 :: v2 :: xi a :: ls) (st) (M) Q = Wp 132 710 (v0 :: v1 :: v2 :: xi a :: ls) (xi a :: st) (M) Q := wp_iload rfl rfl
set_option maxRecDepth 20000 in
theorem w132_710 {ls st : List xV} {M : xM} {Q : Option xV → xM → Prop}  : Wp 132 710 (ls) (st) (M) Q = Wp 132 711 (ls) (xi 4 :: st) (M) Q := wp_const rfl
set_option maxRecDepth 20000 in
theorem w132_711 {ls st : List xV} {M : xM} {Q : Option xV → xM → Prop} {a : Int} {b : Int} : Wp 132 711 (ls) (xi b :: xi a :: st) (M) Q = Wp 132 712 (ls) (xi (a + b) :: st) (M) Q := wp_bin (f := xadd) rfl
set_option maxRecDepth 20000 in
theorem w132_712 {ls st : List xV} {M : xM} {Q : Option xV → xM → Prop} {a : Int} (ha : xG a) (h1 : 0 ≤ a) (h2 : a < M 58 (-1)) : Wp 132 712 (ls) (xi a :: xr 58 :: st) (M) Q = Wp 132 713 (ls) (xi (M 58 a) :: st) (M) Q := wp_sld rfl ha h1 h2
set_option maxRecDepth 20000 in
theorem w132_713 {ls : List xV} {M : xM} {Q : Option xV → xM → Prop} {a1 : Int} {a2 : Int} {a3 : Int} {a4 : Int} {d0 : Nat} (hc : x_c d0 = 8) : Wp 132 713 (ls) (xi a4 :: xi a3 :: xi a2 :: xi a1 :: xr d0 :: []) (M) Q = Wc 65 [xr d0, xi a1, xi a2, xi a3, xi a4] M (fun r M2 => Wp 132 716 (ls) (r.toList ++ ([])) M2 Q) := wp_cV rfl rfl hc (Nat.le_of_ble_eq_true rfl) (Nat.le_of_ble_eq_true rfl) rfl rfl
set_option maxRecDepth 20000 in
theorem w132_716 {ls st : List xV} {M : xM} {Q : Option xV → xM → Prop} {d : Nat} {v0 : xV} {v1 : xV} : Wp 132 716 (v0 :: v1 :: xr d :: ls) (st) (M) Q = Wp 132 717 (v0 :: v1 :: xr d :: ls) (xr d :: st) (M) Q := wp_aload rfl rfl
set_option maxRecDepth 20000 in
theorem w132_717 {ls st : List xV} {M : xM} {Q : Option xV → xM → Prop} {d : Nat} : Wp 132 717 (xr d :: ls) (st) (M) Q = Wp 132 718 (xr d :: ls) (xr d :: st) (M) Q := wp_aload rfl rfl
set_option maxRecDepth 20000 in
theorem w132_718 {ls st : List xV} {M : xM} {Q : Option xV → xM → Prop} {a : Int} {v0 : xV} {v1 : xV} {v2 : xV} : Wp 132 718 (v0 :: v1 :: v2 :: xi a :: ls) (st) (M) Q = Wp 132 719 (v0 :: v1 :: v2 :: xi a :: ls) (xi a :: st) (M) Q := wp_iload rfl rfl
set_option maxRecDepth 20000 in
theorem w132_719 {ls st : List xV} {M : xM} {Q : Option xV → xM → Prop}  : Wp 132 719 (ls) (st) (M) Q = Wp 132 720 (ls) (xi 1 :: st) (M) Q := wp_const rfl
set_option maxRecDepth 20000 in
theorem w132_720 {ls st : List xV} {M : xM} {Q : Option xV → xM → Prop} {a : Int} {b : Int} : Wp 132 720 (ls) (xi b :: xi a :: st) (M) Q = Wp 132 721 (ls) (xi (a + b) :: st) (M) Q := wp_bin (f := xadd) rfl
set_option maxRecDepth 20000 in
theorem w132_721 {ls st : List xV} {M : xM} {Q : Option xV → xM → Prop} {a : Int} (ha : xG a) (h1 : 0 ≤ a) (h2 : a < M 58 (-1)) : Wp 132 721 (ls) (xi a :: xr 58 :: st) (M) Q = Wp 132 722 (ls) (xi (M 58 a) :: st) (M) Q := wp_sld rfl ha h1 h2
set_option maxRecDepth 20000 in
theorem w132_722 {ls st : List xV} {M : xM} {Q : Option xV → xM → Prop} {d : Nat} : Wp 132 722 (xr d :: ls) (st) (M) Q = Wp 132 723 (xr d :: ls) (xr d :: st) (M) Q := wp_aload rfl rfl
set_option maxRecDepth 20000 in
theorem w132_723 {ls st : List xV} {M : xM} {Q : Option xV → xM → Prop} {a : Int} {v0 : xV} {v1 : xV} {v2 : xV} : Wp 132 723 (v0 :: v1 :: v2 :: xi a :: ls) (st) (M) Q = Wp 132 724 (v0 :: v1 :: v2 :: xi a :: ls) (xi a :: st) (M) Q := wp_iload rfl rfl
set_option maxRecDepth 20000 in
theorem w132_724 {ls st : List xV} {M : xM} {Q : Option xV → xM → Prop}  : Wp 132 724 (ls) (st) (M) Q = Wp 132 725 (ls) (xi 2 :: st) (M) Q := wp_const rfl
set_option maxRecDepth 20000 in
theorem w132_725 {ls st : List xV} {M : xM} {Q : Option xV → xM → Prop} {a : Int} {b : Int} : Wp 132 725 (ls) (xi b :: xi a :: st) (M) Q = Wp 132 726 (ls) (xi (a + b) :: st) (M) Q := wp_bin (f := xadd) rfl
set_option maxRecDepth 20000 in
theorem w132_726 {ls st : List xV} {M : xM} {Q : Option xV → xM → Prop} {a : Int} (ha : xG a) (h1 : 0 ≤ a) (h2 : a < M 58 (-1)) : Wp 132 726 (ls) (xi a :: xr 58 :: st) (M) Q = Wp 132 727 (ls) (xi (M 58 a) :: st) (M) Q := wp_sld rfl ha h1 h2
set_option maxRecDepth 20000 in
theorem w132_727 {ls st : List xV} {M : xM} {Q : Option xV → xM → Prop} {d : Nat} : Wp 132 727 (xr d :: ls) (st) (M) Q = Wp 132 728 (xr d :: ls) (xr d :: st) (M) Q := wp_aload rfl rfl
set_option maxRecDepth 20000 in
theorem w132_728 {ls st : List xV} {M : xM} {Q : Option xV → xM → Prop} {a : Int} {v0 : xV} {v1 : xV} {v2 : xV} : Wp 132 728 (v0 :: v1 :: v2 :: xi a :: ls) (st) (M) Q = Wp 132 729 (v0 :: v1 :: v2 :: xi a :: ls) (xi a :: st) (M) Q := wp_iload rfl rfl
set_option maxRecDepth 20000 in
theorem w132_729 {ls st : List xV} {M : xM} {Q : Option xV → xM → Prop}  : Wp 132 729 (ls) (st) (M) Q = Wp 132 730 (ls) (xi 3 :: st) (M) Q := wp_const rfl
set_option maxRecDepth 20000 in
theorem w132_730 {ls st : List xV} {M : xM} {Q : Option xV → xM → Prop} {a : Int} {b : Int} : Wp 132 730 (ls) (xi b :: xi a :: st) (M) Q = Wp 132 731 (ls) (xi (a + b) :: st) (M) Q := wp_bin (f := xadd) rfl
set_option maxRecDepth 20000 in
theorem w132_731 {ls st : List xV} {M : xM} {Q : Option xV → xM → Prop} {a : Int} (ha : xG a) (h1 : 0 ≤ a) (h2 : a < M 58 (-1)) : Wp 132 731 (ls) (xi a :: xr 58 :: st) (M) Q = Wp 132 732 (ls) (xi (M 58 a) :: st) (M) Q := wp_sld rfl ha h1 h2
set_option maxRecDepth 20000 in
theorem w132_732 {ls st : List xV} {M : xM} {Q : Option xV → xM → Prop} {d : Nat} : Wp 132 732 (xr d :: ls) (st) (M) Q = Wp 132 733 (xr d :: ls) (xr d :: st) (M) Q := wp_aload rfl rfl
set_option maxRecDepth 20000 in
theorem w132_733 {ls st : List xV} {M : xM} {Q : Option xV → xM → Prop} {a : Int} {v0 : xV} {v1 : xV} {v2 : xV} : Wp 132 733 (v0 :: v1 :: v2 :: xi a :: ls) (st) (M) Q = Wp 132 734 (v0 :: v1 :: v2 :: xi a :: ls) (xi a :: st) (M) Q := wp_iload rfl rfl
set_option maxRecDepth 20000 in
theorem w132_734 {ls st : List xV} {M : xM} {Q : Option xV → xM → Prop}  : Wp 132 734 (ls) (st) (M) Q = Wp 132 735 (ls) (xi 4 :: st) (M) Q := wp_const rfl
set_option maxRecDepth 20000 in
theorem w132_735 {ls st : List xV} {M : xM} {Q : Option xV → xM → Prop} {a : Int} {b : Int} : Wp 132 735 (ls) (xi b :: xi a :: st) (M) Q = Wp 132 736 (ls) (xi (a + b) :: st) (M) Q := wp_bin (f := xadd) rfl
set_option maxRecDepth 20000 in
theorem w132_736 {ls st : List xV} {M : xM} {Q : Option xV → xM → Prop} {a : Int} (ha : xG a) (h1 : 0 ≤ a) (h2 : a < M 58 (-1)) : Wp 132 736 (ls) (xi a :: xr 58 :: st) (M) Q = Wp 132 737 (ls) (xi (M 58 a) :: st) (M) Q := wp_sld rfl ha h1 h2
set_option maxRecDepth 20000 in
theorem w132_737 {ls : List xV} {M : xM} {Q : Option xV → xM → Prop} {a1 : Int} {a2 : Int} {a3 : Int} {a4 : Int} {d0 : Nat} {s0 : xV} (hc : x_c d0 = 9) : Wp 132 737 (ls) (xi a4 :: xi a3 :: xi a2 :: xi a1 :: xr d0 :: s0 :: []) (M) Q = Wc 125 [xr d0, xi a1, xi a2, xi a3, xi a4] M (fun r M2 => Wp 132 740 (ls) (r.toList ++ (s0 :: [])) M2 Q) := wp_cV rfl rfl hc (Nat.le_of_ble_eq_true rfl) (Nat.le_of_ble_eq_true rfl) rfl rfl
set_option maxRecDepth 20000 in
theorem w132_740 {ls st : List xV} {M : xM} {Q : Option xV → xM → Prop} {a : Int} {b : Int} (ha : xG a) (hb : xG b) : Wp 132 740 (ls) (xi b :: xi a :: st) (M) Q = ((a = b → Wp 132 933 (ls) (st) (M) Q) ∧ (¬ (a = b) → Wp 132 743 (ls) (st) (M) Q)) := wp_cmp_eq rfl ha hb
set_option maxRecDepth 20000 in
theorem w132_743 {ls st : List xV} {M : xM} {Q : Option xV → xM → Prop}  : Wp 132 743 (ls) (st) (M) Q = Wp 132 744 (ls) (xi 0 :: st) (M) Q := wp_const rfl
set_option maxRecDepth 20000 in
theorem w132_744 {ls : List xV} {M : xM} {Q : Option xV → xM → Prop} {a : Int} (ha : a = 0 ∨ a = 1) : Wp 132 744 (ls) ([xi a]) (M) Q = Q (some (xi a)) M := wp_zret rfl ha
set_option maxRecDepth 20000 in
theorem w132_745 {ls st : List xV} {M : xM} {Q : Option xV → xM → Prop} {d : Nat} {v0 : xV} : Wp 132 745 (v0 :: xr d :: ls) (st) (M) Q = Wp 132 746 (v0 :: xr d :: ls) (xr d :: st) (M) Q := wp_aload rfl rfl
set_option maxRecDepth 20000 in
theorem w132_746 {ls st : List xV} {M : xM} {Q : Option xV → xM → Prop} {d : Nat} : Wp 132 746 (xr d :: ls) (st) (M) Q = Wp 132 747 (xr d :: ls) (xr d :: st) (M) Q := wp_aload rfl rfl
set_option maxRecDepth 20000 in
theorem w132_747 {ls st : List xV} {M : xM} {Q : Option xV → xM → Prop} {a : Int} {v0 : xV} {v1 : xV} {v2 : xV} : Wp 132 747 (v0 :: v1 :: v2 :: xi a :: ls) (st) (M) Q = Wp 132 748 (v0 :: v1 :: v2 :: xi a :: ls) (xi a :: st) (M) Q := wp_iload rfl rfl
set_option maxRecDepth 20000 in
theorem w132_748 {ls st : List xV} {M : xM} {Q : Option xV → xM → Prop}  : Wp 132 748 (ls) (st) (M) Q = Wp 132 749 (ls) (xi 1 :: st) (M) Q := wp_const rfl
set_option maxRecDepth 20000 in
theorem w132_749 {ls st : List xV} {M : xM} {Q : Option xV → xM → Prop} {a : Int} {b : Int} : Wp 132 749 (ls) (xi b :: xi a :: st) (M) Q = Wp 132 750 (ls) (xi (a + b) :: st) (M) Q := wp_bin (f := xadd) rfl
set_option maxRecDepth 20000 in
theorem w132_750 {ls st : List xV} {M : xM} {Q : Option xV → xM → Prop} {a : Int} (ha : xG a) (h1 : 0 ≤ a) (h2 : a < M 58 (-1)) : Wp 132 750 (ls) (xi a :: xr 58 :: st) (M) Q = Wp 132 751 (ls) (xi (M 58 a) :: st) (M) Q := wp_sld rfl ha h1 h2
set_option maxRecDepth 20000 in
theorem w132_751 {ls st : List xV} {M : xM} {Q : Option xV → xM → Prop} {d : Nat} : Wp 132 751 (xr d :: ls) (st) (M) Q = Wp 132 752 (xr d :: ls) (xr d :: st) (M) Q := wp_aload rfl rfl
set_option maxRecDepth 20000 in
theorem w132_752 {ls st : List xV} {M : xM} {Q : Option xV → xM → Prop} {a : Int} {v0 : xV} {v1 : xV} {v2 : xV} : Wp 132 752 (v0 :: v1 :: v2 :: xi a :: ls) (st) (M) Q = Wp 132 753 (v0 :: v1 :: v2 :: xi a :: ls) (xi a :: st) (M) Q := wp_iload rfl rfl
set_option maxRecDepth 20000 in
theorem w132_753 {ls st : List xV} {M : xM} {Q : Option xV → xM → Prop}  : Wp 132 753 (ls) (st) (M) Q = Wp 132 754 (ls) (xi 2 :: st) (M) Q := wp_const rfl
set_option maxRecDepth 20000 in
theorem w132_754 {ls st : List xV} {M : xM} {Q : Option xV → xM → Prop} {a : Int} {b : Int} : Wp 132 754 (ls) (xi b :: xi a :: st) (M) Q = Wp 132 755 (ls) (xi (a + b) :: st) (M) Q := wp_bin (f := xadd) rfl
set_option maxRecDepth 20000 in
theorem w132_755 {ls st : List xV} {M : xM} {Q : Option xV → xM → Prop} {a : Int} (ha : xG a) (h1 : 0 ≤ a) (h2 : a < M 58 (-1)) : Wp 132 755 (ls) (xi a :: xr 58 :: st) (M) Q = Wp 132 756 (ls) (xi (M 58 a) :: st) (M) Q := wp_sld rfl ha h1 h2
set_option maxRecDepth 20000 in
theorem w132_756 {ls st : List xV} {M : xM} {Q : Option xV → xM → Prop} {d : Nat} : Wp 132 756 (xr d :: ls) (st) (M) Q = Wp 132 757 (xr d :: ls) (xr d :: st) (M) Q := wp_aload rfl rfl
set_option maxRecDepth 20000 in
theorem w132_757 {ls st : List xV} {M : xM} {Q : Option xV → xM → Prop} {a : Int} {v0 : xV} {v1 : xV} {v2 : xV} : Wp 132 757 (v0 :: v1 :: v2 :: xi a :: ls) (st) (M) Q = Wp 132 758 (v0 :: v1 :: v2 :: xi a :: ls) (xi a :: st) (M) Q := wp_iload rfl rfl
set_option maxRecDepth 20000 in
theorem w132_758 {ls st : List xV} {M : xM} {Q : Option xV → xM → Prop}  : Wp 132 758 (ls) (st) (M) Q = Wp 132 759 (ls) (xi 3 :: st) (M) Q := wp_const rfl
set_option maxRecDepth 20000 in
theorem w132_759 {ls st : List xV} {M : xM} {Q : Option xV → xM → Prop} {a : Int} {b : Int} : Wp 132 759 (ls) (xi b :: xi a :: st) (M) Q = Wp 132 760 (ls) (xi (a + b) :: st) (M) Q := wp_bin (f := xadd) rfl
set_option maxRecDepth 20000 in
theorem w132_760 {ls st : List xV} {M : xM} {Q : Option xV → xM → Prop} {a : Int} (ha : xG a) (h1 : 0 ≤ a) (h2 : a < M 58 (-1)) : Wp 132 760 (ls) (xi a :: xr 58 :: st) (M) Q = Wp 132 761 (ls) (xi (M 58 a) :: st) (M) Q := wp_sld rfl ha h1 h2
set_option maxRecDepth 20000 in
theorem w132_761 {ls : List xV} {M : xM} {Q : Option xV → xM → Prop} {a1 : Int} {a2 : Int} {a3 : Int} {d0 : Nat} (hc : x_c d0 = 8) : Wp 132 761 (ls) (xi a3 :: xi a2 :: xi a1 :: xr d0 :: []) (M) Q = Wc 66 [xr d0, xi a1, xi a2, xi a3] M (fun r M2 => Wp 132 764 (ls) (r.toList ++ ([])) M2 Q) := wp_cV rfl rfl hc (Nat.le_of_ble_eq_true rfl) (Nat.le_of_ble_eq_true rfl) rfl rfl
set_option maxRecDepth 20000 in
theorem w132_764 {ls st : List xV} {M : xM} {Q : Option xV → xM → Prop} {d : Nat} {v0 : xV} {v1 : xV} : Wp 132 764 (v0 :: v1 :: xr d :: ls) (st) (M) Q = Wp 132 765 (v0 :: v1 :: xr d :: ls) (xr d :: st) (M) Q := wp_aload rfl rfl
set_option maxRecDepth 20000 in
theorem w132_765 {ls st : List xV} {M : xM} {Q : Option xV → xM → Prop} {d : Nat} : Wp 132 765 (xr d :: ls) (st) (M) Q = Wp 132 766 (xr d :: ls) (xr d :: st) (M) Q := wp_aload rfl rfl
set_option maxRecDepth 20000 in
theorem w132_766 {ls st : List xV} {M : xM} {Q : Option xV → xM → Prop} {a : Int} {v0 : xV} {v1 : xV} {v2 : xV} : Wp 132 766 (v0 :: v1 :: v2 :: xi a :: ls) (st) (M) Q = Wp 132 767 (v0 :: v1 :: v2 :: xi a :: ls) (xi a :: st) (M) Q := wp_iload rfl rfl
set_option maxRecDepth 20000 in
theorem w132_767 {ls st : List xV} {M : xM} {Q : Option xV → xM → Prop}  : Wp 132 767 (ls) (st) (M) Q = Wp 132 768 (ls) (xi 1 :: st) (M) Q := wp_const rfl
set_option maxRecDepth 20000 in
theorem w132_768 {ls st : List xV} {M : xM} {Q : Option xV → xM → Prop} {a : Int} {b : Int} : Wp 132 768 (ls) (xi b :: xi a :: st) (M) Q = Wp 132 769 (ls) (xi (a + b) :: st) (M) Q := wp_bin (f := xadd) rfl
set_option maxRecDepth 20000 in
theorem w132_769 {ls st : List xV} {M : xM} {Q : Option xV → xM → Prop} {a : Int} (ha : xG a) (h1 : 0 ≤ a) (h2 : a < M 58 (-1)) : Wp 132 769 (ls) (xi a :: xr 58 :: st) (M) Q = Wp 132 770 (ls) (xi (M 58 a) :: st) (M) Q := wp_sld rfl ha h1 h2
set_option maxRecDepth 20000 in
theorem w132_770 {ls st : List xV} {M : xM} {Q : Option xV → xM → Prop} {d : Nat} : Wp 132 770 (xr d :: ls) (st) (M) Q = Wp 132 771 (xr d :: ls) (xr d :: st) (M) Q := wp_aload rfl rfl
set_option maxRecDepth 20000 in
theorem w132_771 {ls st : List xV} {M : xM} {Q : Option xV → xM → Prop} {a : Int} {v0 : xV} {v1 : xV} {v2 : xV} : Wp 132 771 (v0 :: v1 :: v2 :: xi a :: ls) (st) (M) Q = Wp 132 772 (v0 :: v1 :: v2 :: xi a :: ls) (xi a :: st) (M) Q := wp_iload rfl rfl
set_option maxRecDepth 20000 in
theorem w132_772 {ls st : List xV} {M : xM} {Q : Option xV → xM → Prop}  : Wp 132 772 (ls) (st) (M) Q = Wp 132 773 (ls) (xi 2 :: st) (M) Q := wp_const rfl
set_option maxRecDepth 20000 in
theorem w132_773 {ls st : List xV} {M : xM} {Q : Option xV → xM → Prop} {a : Int} {b : Int} : Wp 132 773 (ls) (xi b :: xi a :: st) (M) Q = Wp 132 774 (ls) (xi (a + b) :: st) (M) Q := wp_bin (f := xadd) rfl
set_option maxRecDepth 20000 in
theorem w132_774 {ls st : List xV} {M : xM} {Q : Option xV → xM → Prop} {a : Int} (ha : xG a) (h1 : 0 ≤ a) (h2 : a < M 58 (-1)) : Wp 132 774 (ls) (xi a :: xr 58 :: st) (M) Q = Wp 132 775 (ls) (xi (M 58 a) :: st) (M) Q := wp_sld rfl ha h1 h2
set_option maxRecDepth 20000 in
theorem w132_775 {ls st : List xV} {M : xM} {Q : Option xV → xM → Prop} {d : Nat} : Wp 132 775 (xr d :: ls) (st) (M) Q = Wp 132 776 (xr d :: ls) (xr d :: st) (M) Q := wp_aload rfl rfl
set_option maxRecDepth 20000 in
theorem w132_776 {ls st : List xV} {M : xM} {Q : Option xV → xM → Prop} {a : Int} {v0 : xV} {v1 : xV} {v2 : xV} : Wp 132 776 (v0 :: v1 :: v2 :: xi a :: ls) (st) (M) Q = Wp 132 777 (v0 :: v1 :: v2 :: xi a :: ls) (xi a :: st) (M) Q := wp_iload rfl rfl
set_option maxRecDepth 20000 in
theorem w132_777 {ls st : List xV} {M : xM} {Q : Option xV → xM → Prop}  : Wp 132 777 (ls) (st) (M) Q = Wp 132 778 (ls) (xi 3 :: st) (M) Q := wp_const rfl
set_option maxRecDepth 20000 in
theorem w132_778 {ls st : List xV} {M : xM} {Q : Option xV → xM → Prop} {a : Int} {b : Int} : Wp 132 778 (ls) (xi b :: xi a :: st) (M) Q = Wp 132 779 (ls) (xi (a + b) :: st) (M) Q := wp_bin (f := xadd) rfl
set_option maxRecDepth 20000 in
theorem w132_779 {ls st : List xV} {M : xM} {Q : Option xV → xM → Prop} {a : Int} (ha : xG a) (h1 : 0 ≤ a) (h2 : a < M 58 (-1)) : Wp 132 779 (ls) (xi a :: xr 58 :: st) (M) Q = Wp 132 780 (ls) (xi (M 58 a) :: st) (M) Q := wp_sld rfl ha h1 h2
set_option maxRecDepth 20000 in
theorem w132_780 {ls : List xV} {M : xM} {Q : Option xV → xM → Prop} {a1 : Int} {a2 : Int} {a3 : Int} {d0 : Nat} {s0 : xV} (hc : x_c d0 = 9) : Wp 132 780 (ls) (xi a3 :: xi a2 :: xi a1 :: xr d0 :: s0 :: []) (M) Q = Wc 126 [xr d0, xi a1, xi a2, xi a3] M (fun r M2 => Wp 132 783 (ls) (r.toList ++ (s0 :: [])) M2 Q) := wp_cV rfl rfl hc (Nat.le_of_ble_eq_true rfl) (Nat.le_of_ble_eq_true rfl) rfl rfl
set_option maxRecDepth 20000 in
theorem w132_783 {ls st : List xV} {M : xM} {Q : Option xV → xM → Prop} {a : Int} {b : Int} (ha : xG a) (hb : xG b) : Wp 132 783 (ls) (xi b :: xi a :: st) (M) Q = ((a = b → Wp 132 933 (ls) (st) (M) Q) ∧ (¬ (a = b) → Wp 132 786 (ls) (st) (M) Q)) := wp_cmp_eq rfl ha hb
set_option maxRecDepth 20000 in
theorem w132_786 {ls st : List xV} {M : xM} {Q : Option xV → xM → Prop}  : Wp 132 786 (ls) (st) (M) Q = Wp 132 787 (ls) (xi 0 :: st) (M) Q := wp_const rfl
set_option maxRecDepth 20000 in
theorem w132_787 {ls : List xV} {M : xM} {Q : Option xV → xM → Prop} {a : Int} (ha : a = 0 ∨ a = 1) : Wp 132 787 (ls) ([xi a]) (M) Q = Q (some (xi a)) M := wp_zret rfl ha
set_option maxRecDepth 20000 in
theorem w132_788 {ls st : List xV} {M : xM} {Q : Option xV → xM → Prop} {d : Nat} {v0 : xV} : Wp 132 788 (v0 :: xr d :: ls) (st) (M) Q = Wp 132 789 (v0 :: xr d :: ls) (xr d :: st) (M) Q := wp_aload rfl rfl
set_option maxRecDepth 20000 in
theorem w132_789 {ls st : List xV} {M : xM} {Q : Option xV → xM → Prop} {d : Nat} : Wp 132 789 (xr d :: ls) (st) (M) Q = Wp 132 790 (xr d :: ls) (xr d :: st) (M) Q := wp_aload rfl rfl
set_option maxRecDepth 20000 in
theorem w132_790 {ls st : List xV} {M : xM} {Q : Option xV → xM → Prop} {a : Int} {v0 : xV} {v1 : xV} {v2 : xV} : Wp 132 790 (v0 :: v1 :: v2 :: xi a :: ls) (st) (M) Q = Wp 132 791 (v0 :: v1 :: v2 :: xi a :: ls) (xi a :: st) (M) Q := wp_iload rfl rfl
set_option maxRecDepth 20000 in
theorem w132_791 {ls st : List xV} {M : xM} {Q : Option xV → xM → Prop}  : Wp 132 791 (ls) (st) (M) Q = Wp 132 792 (ls) (xi 1 :: st) (M) Q := wp_const rfl
set_option maxRecDepth 20000 in
theorem w132_792 {ls st : List xV} {M : xM} {Q : Option xV → xM → Prop} {a : Int} {b : Int} : Wp 132 792 (ls) (xi b :: xi a :: st) (M) Q = Wp 132 793 (ls) (xi (a + b) :: st) (M) Q := wp_bin (f := xadd) rfl
set_option maxRecDepth 20000 in
theorem w132_793 {ls st : List xV} {M : xM} {Q : Option xV → xM → Prop} {a : Int} (ha : xG a) (h1 : 0 ≤ a) (h2 : a < M 58 (-1)) : Wp 132 793 (ls) (xi a :: xr 58 :: st) (M) Q = Wp 132 794 (ls) (xi (M 58 a) :: st) (M) Q := wp_sld rfl ha h1 h2
set_option maxRecDepth 20000 in
theorem w132_794 {ls st : List xV} {M : xM} {Q : Option xV → xM → Prop} {d : Nat} : Wp 132 794 (xr d :: ls) (st) (M) Q = Wp 132 795 (xr d :: ls) (xr d :: st) (M) Q := wp_aload rfl rfl
set_option maxRecDepth 20000 in
theorem w132_795 {ls st : List xV} {M : xM} {Q : Option xV → xM → Prop} {a : Int} {v0 : xV} {v1 : xV} {v2 : xV} : Wp 132 795 (v0 :: v1 :: v2 :: xi a :: ls) (st) (M) Q = Wp 132 796 (v0 :: v1 :: v2 :: xi a :: ls) (xi a :: st) (M) Q := wp_iload rfl rfl
set_option maxRecDepth 20000 in
theorem w132_796 {ls st : List xV} {M : xM} {Q : Option xV → xM → Prop}  : Wp 132 796 (ls) (st) (M) Q = Wp 132 797 (ls) (xi 2 :: st) (M) Q := wp_const rfl
set_option maxRecDepth 20000 in
theorem w132_797 {ls st : List xV} {M : xM} {Q : Option xV → xM → Prop} {a : Int} {b : Int} : Wp 132 797 (ls) (xi b :: xi a :: st) (M) Q = Wp 132 798 (ls) (xi (a + b) :: st) (M) Q := wp_bin (f := xadd) rfl
set_option maxRecDepth 20000 in
theorem w132_798 {ls st : List xV} {M : xM} {Q : Option xV → xM → Prop} {a : Int} (ha : xG a) (h1 : 0 ≤ a) (h2 : a < M 58 (-1)) : Wp 132 798 (ls) (xi a :: xr 58 :: st) (M) Q = Wp 132 799 (ls) (xi (M 58 a) :: st) (M) Q := wp_sld rfl ha h1 h2
set_option maxRecDepth 20000 in
theorem w132_799 {ls st : List xV} {M : xM} {Q : Option xV → xM → Prop} {d : Nat} : Wp 132 799 (xr d :: ls) (st) (M) Q = Wp 132 800 (xr d :: ls) (xr d :: st) (M) Q := wp_aload rfl rfl
set_option maxRecDepth 20000 in
theorem w132_800 {ls st : List xV} {M : xM} {Q : Option xV → xM → Prop} {a : Int} {v0 : xV} {v1 : xV} {v2 : xV} : Wp 132 800 (v0 :: v1 :: v2 :: xi a :: ls) (st) (M) Q = Wp 132 801 (v0 :: v1 :: v2 :: xi a :: ls) (xi a :: st) (M) Q := wp_iload rfl rfl
set_option maxRecDepth 20000 in
theorem w132_801 {ls st : List xV} {M : xM} {Q : Option xV → xM → Prop}  : Wp 132 801 (ls) (st) (M) Q = Wp 132 802 (ls) (xi 3 :: st) (M) Q := wp_const rfl
set_option maxRecDepth 20000 in
theorem w132_802 {ls st : List xV} {M : xM} {Q : Option xV → xM → Prop} {a : Int} {b : Int} : Wp 132 802 (ls) (xi b :: xi a :: st) (M) Q = Wp 132 803 (ls) (xi (a + b) :: st) (M) Q := wp_bin (f := xadd) rfl
set_option maxRecDepth 20000 in
theorem w132_803 {ls st : List xV} {M : xM} {Q : Option xV → xM → Prop} {a : Int} (ha : xG a) (h1 : 0 ≤ a) (h2 : a < M 58 (-1)) : Wp 132 803 (ls) (xi a :: xr 58 :: st) (M) Q = Wp 132 804 (ls) (xi (M 58 a) :: st) (M) Q := wp_sld rfl ha h1 h2
set_option maxRecDepth 20000 in
theorem w132_804 {ls st : List xV} {M : xM} {Q : Option xV → xM → Prop} {d : Nat} : Wp 132 804 (xr d :: ls) (st) (M) Q = Wp 132 805 (xr d :: ls) (xr d :: st) (M) Q := wp_aload rfl rfl
set_option maxRecDepth 20000 in
theorem w132_805 {ls st : List xV} {M : xM} {Q : Option xV → xM → Prop} {a : Int} {v0 : xV} {v1 : xV} {v2 : xV} : Wp 132 805 (v0 :: v1 :: v2 :: xi a :: ls) (st) (M) Q = Wp 132 806 (v0 :: v1 :: v2 :: xi a :: ls) (xi a :: st) (M) Q := wp_iload rfl rfl
set_option maxRecDepth 20000 in
theorem w132_806 {ls st : List xV} {M : xM} {Q : Option xV → xM → Prop}  : Wp 132 806 (ls) (st) (M) Q = Wp 132 807 (ls) (xi 4 :: st) (M) Q := wp_const rfl
set_option maxRecDepth 20000 in
theorem w132_807 {ls st : List xV} {M : xM} {Q : Option xV → xM → Prop} {a : Int} {b : Int} : Wp 132 807 (ls) (xi b :: xi a :: st) (M) Q = Wp 132 808 (ls) (xi (a + b) :: st) (M) Q := wp_bin (f := xadd) rfl
set_option maxRecDepth 20000 in
theorem w132_808 {ls st : List xV} {M : xM} {Q : Option xV → xM → Prop} {a : Int} (ha : xG a) (h1 : 0 ≤ a) (h2 : a < M 58 (-1)) : Wp 132 808 (ls) (xi a :: xr 58 :: st) (M) Q = Wp 132 809 (ls) (xi (M 58 a) :: st) (M) Q := wp_sld rfl ha h1 h2
set_option maxRecDepth 20000 in
theorem w132_809 {ls st : List xV} {M : xM} {Q : Option xV → xM → Prop} {d : Nat} : Wp 132 809 (xr d :: ls) (st) (M) Q = Wp 132 810 (xr d :: ls) (xr d :: st) (M) Q := wp_aload rfl rfl
set_option maxRecDepth 20000 in
theorem w132_810 {ls st : List xV} {M : xM} {Q : Option xV → xM → Prop} {a : Int} {v0 : xV} {v1 : xV} {v2 : xV} : Wp 132 810 (v0 :: v1 :: v2 :: xi a :: ls) (st) (M) Q = Wp 132 811 (v0 :: v1 :: v2 :: xi a :: ls) (xi a :: st) (M) Q := wp_iload rfl rfl
set_option maxRecDepth 20000 in
theorem w132_811 {ls st : List xV} {M : xM} {Q : Option xV → xM → Prop}  : Wp 132 811 (ls) (st) (M) Q = Wp 132 812 (ls) (xi 5 :: st) (M) Q := wp_const rfl
set_option maxRecDepth 20000 in
theorem w132_812 {ls st : List xV} {M : xM} {Q : Option xV → xM → Prop} {a : Int} {b : Int} : Wp 132 812 (ls) (xi b :: xi a :: st) (M) Q = Wp 132 813 (ls) (xi (a + b) :: st) (M) Q := wp_bin (f := xadd) rfl
set_option maxRecDepth 20000 in
theorem w132_813 {ls st : List xV} {M : xM} {Q : Option xV → xM → Prop} {a : Int} (ha : xG a) (h1 : 0 ≤ a) (h2 : a < M 58 (-1)) : Wp 132 813 (ls) (xi a :: xr 58 :: st) (M) Q = Wp 132 814 (ls) (xi (M 58 a) :: st) (M) Q := wp_sld rfl ha h1 h2
set_option maxRecDepth 20000 in
theorem w132_814 {ls : List xV} {M : xM} {Q : Option xV → xM → Prop} {a1 : Int} {a2 : Int} {a3 : Int} {a4 : Int} {a5 : Int} {d0 : Nat} (hc : x_c d0 = 8) : Wp 132 814 (ls) (xi a5 :: xi a4 :: xi a3 :: xi a2 :: xi a1 :: xr d0 :: []) (M) Q = Wc 67 [xr d0, xi a1, xi a2, xi a3, xi a4, xi a5] M (fun r M2 => Wp 132 817 (ls) (r.toList ++ ([])) M2 Q) := wp_cV rfl rfl hc (Nat.le_of_ble_eq_true rfl) (Nat.le_of_ble_eq_true rfl) rfl rfl
set_option maxRecDepth 20000 in
theorem w132_817 {ls st : List xV} {M : xM} {Q : Option xV → xM → Prop} {d : Nat} {v0 : xV} {v1 : xV} : Wp 132 817 (v0 :: v1 :: xr d :: ls) (st) (M) Q = Wp 132 818 (v0 :: v1 :: xr d :: ls) (xr d :: st) (M) Q := wp_aload rfl rfl
set_option maxRecDepth 20000 in
theorem w132_818 {ls st : List xV} {M : xM} {Q : Option xV → xM → Prop} {d : Nat} : Wp 132 818 (xr d :: ls) (st) (M) Q = Wp 132 819 (xr d :: ls) (xr d :: st) (M) Q := wp_aload rfl rfl
set_option maxRecDepth 20000 in
theorem w132_819 {ls st : List xV} {M : xM} {Q : Option xV → xM → Prop} {a : Int} {v0 : xV} {v1 : xV} {v2 : xV} : Wp 132 819 (v0 :: v1 :: v2 :: xi a :: ls) (st) (M) Q = Wp 132 820 (v0 :: v1 :: v2 :: xi a :: ls) (xi a :: st) (M) Q := wp_iload rfl rfl
set_option maxRecDepth 20000 in
theorem w132_820 {ls st : List xV} {M : xM} {Q : Option xV → xM → Prop}  : Wp 132 820 (ls) (st) (M) Q = Wp 132 821 (ls) (xi 1 :: st) (M) Q := wp_const rfl
set_option maxRecDepth 20000 in
theorem w132_821 {ls st : List xV} {M : xM} {Q : Option xV → xM → Prop} {a : Int} {b : Int} : Wp 132 821 (ls) (xi b :: xi a :: st) (M) Q = Wp 132 822 (ls) (xi (a + b) :: st) (M) Q := wp_bin (f := xadd) rfl
set_option maxRecDepth 20000 in
theorem w132_822 {ls st : List xV} {M : xM} {Q : Option xV → xM → Prop} {a : Int} (ha : xG a) (h1 : 0 ≤ a) (h2 : a < M 58 (-1)) : Wp 132 822 (ls) (xi a :: xr 58 :: st) (M) Q = Wp 132 823 (ls) (xi (M 58 a) :: st) (M) Q := wp_sld rfl ha h1 h2
set_option maxRecDepth 20000 in
theorem w132_823 {ls st : List xV} {M : xM} {Q : Option xV → xM → Prop} {d : Nat} : Wp 132 823 (xr d :: ls) (st) (M) Q = Wp 132 824 (xr d :: ls) (xr d :: st) (M) Q := wp_aload rfl rfl
set_option maxRecDepth 20000 in
theorem w132_824 {ls st : List xV} {M : xM} {Q : Option xV → xM → Prop} {a : Int} {v0 : xV} {v1 : xV} {v2 : xV} : Wp 132 824 (v0 :: v1 :: v2 :: xi a :: ls) (st) (M) Q = Wp 132 825 (v0 :: v1 :: v2 :: xi a :: ls) (xi a :: st) (M) Q := wp_iload rfl rfl
set_option maxRecDepth 20000 in
theorem w132_825 {ls st : List xV} {M : xM} {Q : Option xV → xM → Prop}  : Wp 132 825 (ls) (st) (M) Q = Wp 132 826 (ls) (xi 2 :: st) (M) Q := wp_const rfl
set_option maxRecDepth 20000 in
theorem w132_826 {ls st : List xV} {M : xM} {Q : Option xV → xM → Prop} {a : Int} {b : Int} : Wp 132 826 (ls) (xi b :: xi a :: st) (M) Q = Wp 132 827 (ls) (xi (a + b) :: st) (M) Q := wp_bin (f := xadd) rfl
set_option maxRecDepth 20000 in
theorem w132_827 {ls st : List xV} {M : xM} {Q : Option xV → xM → Prop} {a : Int} (ha : xG a) (h1 : 0 ≤ a) (h2 : a < M 58 (-1)) : Wp 132 827 (ls) (xi a :: xr 58 :: st) (M) Q = Wp 132 828 (ls) (xi (M 58 a) :: st) (M) Q := wp_sld rfl ha h1 h2
set_option maxRecDepth 20000 in
theorem w132_828 {ls st : List xV} {M : xM} {Q : Option xV → xM → Prop} {d : Nat} : Wp 132 828 (xr d :: ls) (st) (M) Q = Wp 132 829 (xr d :: ls) (xr d :: st) (M) Q := wp_aload rfl rfl
set_option maxRecDepth 20000 in
theorem w132_829 {ls st : List xV} {M : xM} {Q : Option xV → xM → Prop} {a : Int} {v0 : xV} {v1 : xV} {v2 : xV} : Wp 132 829 (v0 :: v1 :: v2 :: xi a :: ls) (st) (M) Q = Wp 132 830 (v0 :: v1 :: v2 :: xi a :: ls) (xi a :: st) (M) Q := wp_iload rfl rfl
set_option maxRecDepth 20000 in
theorem w132_830 {ls st : List xV} {M : xM} {Q : Option xV → xM → Prop}  : Wp 132 830 (ls) (st) (M) Q = Wp 132 831 (ls) (xi 3 :: st) (M) Q := wp_const rfl
set_option maxRecDepth 20000 in
theorem w132_831 {ls st : List xV} {M : xM} {Q : Option xV → xM → Prop} {a : Int} {b : Int} : Wp 132 831 (ls) (xi b :: xi a :: st) (M) Q = Wp 132 832 (ls) (xi (a + b) :: st) (M) Q := wp_bin (f := xadd) rfl
set_option maxRecDepth 20000 in
theorem w132_832 {ls st : List xV} {M : xM} {Q : Option xV → xM → Prop} {a : Int} (ha : xG a) (h1 : 0 ≤ a) (h2 : a < M 58 (-1)) : Wp 132 832 (ls) (xi a :: xr 58 :: st) (M) Q = Wp 132 833 (ls) (xi (M 58 a) :: st) (M) Q := wp_sld rfl ha h1 h2
set_option maxRecDepth 20000 in
theorem w132_833 {ls st : List xV} {M : xM} {Q : Option xV → xM → Prop} {d : Nat} : Wp 132 833 (xr d :: ls) (st) (M) Q = Wp 132 834 (xr d :: ls) (xr d :: st) (M) Q := wp_aload rfl rfl
set_option maxRecDepth 20000 in
theorem w132_834 {ls st : List xV} {M : xM} {Q : Option xV → xM → Prop} {a : Int} {v0 : xV} {v1 : xV} {v2 : xV} : Wp 132 834 (v0 :: v1 :: v2 :: xi a :: ls) (st) (M) Q = Wp 132 835 (v0 :: v1 :: v2 :: xi a :: ls) (xi a :: st) (M) Q := wp_iload rfl rfl
set_option maxRecDepth 20000 in
theorem w132_835 {ls st : List xV} {M : xM} {Q : Option xV → xM → Prop}  : Wp 132 835 (ls) (st) (M) Q = Wp 132 836 (ls) (xi 4 :: st) (M) Q := wp_const rfl
set_option maxRecDepth 20000 in
theorem w132_836 {ls st : List xV} {M : xM} {Q : Option xV → xM → Prop} {a : Int} {b : Int} : Wp 132 836 (ls) (xi b :: xi a :: st) (M) Q = Wp 132 837 (ls) (xi (a + b) :: st) (M) Q := wp_bin (f := xadd) rfl
set_option maxRecDepth 20000 in
theorem w132_837 {ls st : List xV} {M : xM} {Q : Option xV → xM → Prop} {a : Int} (ha : xG a) (h1 : 0 ≤ a) (h2 : a < M 58 (-1)) : Wp 132 837 (ls) (xi a :: xr 58 :: st) (M) Q = Wp 132 838 (ls) (xi (M 58 a) :: st) (M) Q := wp_sld rfl ha h1 h2
set_option maxRecDepth 20000 in
theorem w132_838 {ls st : List xV} {M : xM} {Q : Option xV → xM → Prop} {d : Nat} : Wp 132 838 (xr d :: ls) (st) (M) Q = Wp 132 839 (xr d :: ls) (xr d :: st) (M) Q := wp_aload rfl rfl
set_option maxRecDepth 20000 in
theorem w132_839 {ls st : List xV} {M : xM} {Q : Option xV → xM → Prop} {a : Int} {v0 : xV} {v1 : xV} {v2 : xV} : Wp 132 839 (v0 :: v1 :: v2 :: xi a :: ls) (st) (M) Q = Wp 132 840 (v0 :: v1 :: v2 :: xi a :: ls) (xi a :: st) (M) Q := wp_iload rfl rfl
set_option maxRecDepth 20000 in
theorem w132_840 {ls st : List xV} {M : xM} {Q : Option xV → xM → Prop}  : Wp 132 840 (ls) (st) (M) Q = Wp 132 841 (ls) (xi 5 :: st) (M) Q := wp_const rfl
set_option maxRecDepth 20000 in
theorem w132_841 {ls st : List xV} {M : xM} {Q : Option xV → xM → Prop} {a : Int} {b : Int} : Wp 132 841 (ls) (xi b :: xi a :: st) (M) Q = Wp 132 842 (ls) (xi (a + b) :: st) (M) Q := wp_bin (f := xadd) rfl
set_option maxRecDepth 20000 in
theorem w132_842 {ls st : List xV} {M : xM} {Q : Option xV → xM → Prop} {a : Int} (ha : xG a) (h1 : 0 ≤ a) (h2 : a < M 58 (-1)) : Wp 132 842 (ls) (xi a :: xr 58 :: st) (M) Q = Wp 132 843 (ls) (xi (M 58 a) :: st) (M) Q := wp_sld rfl ha h1 h2
set_option maxRecDepth 20000 in
theorem w132_843 {ls : List xV} {M : xM} {Q : Option xV → xM → Prop} {a1 : Int} {a2 : Int} {a3 : Int} {a4 : Int} {a5 : Int} {d0 : Nat} {s0 : xV} (hc : x_c d0 = 9) : Wp 132 843 (ls) (xi a5 :: xi a4 :: xi a3 :: xi a2 :: xi a1 :: xr d0 :: s0 :: []) (M) Q = Wc 127 [xr d0, xi a1, xi a2, xi a3, xi a4, xi a5] M (fun r M2 => Wp 132 846 (ls) (r.toList ++ (s0 :: [])) M2 Q) := wp_cV rfl rfl hc (Nat.le_of_ble_eq_true rfl) (Nat.le_of_ble_eq_true rfl) rfl rfl
set_option maxRecDepth 20000 in
theorem w132_846 {ls st : List xV} {M : xM} {Q : Option xV → xM → Prop} {a : Int} {b : Int} (ha : xG a) (hb : xG b) : Wp 132 846 (ls) (xi b :: xi a :: st) (M) Q = ((a = b → Wp 132 933 (ls) (st) (M) Q) ∧ (¬ (a = b) → Wp 132 849 (ls) (st) (M) Q)) := wp_cmp_eq rfl ha hb
set_option maxRecDepth 20000 in
theorem w132_849 {ls st : List xV} {M : xM} {Q : Option xV → xM → Prop}  : Wp 132 849 (ls) (st) (M) Q = Wp 132 850 (ls) (xi 0 :: st) (M) Q := wp_const rfl
set_option maxRecDepth 20000 in
theorem w132_850 {ls : List xV} {M : xM} {Q : Option xV → xM → Prop} {a : Int} (ha : a = 0 ∨ a = 1) : Wp 132 850 (ls) ([xi a]) (M) Q = Q (some (xi a)) M := wp_zret rfl ha
set_option maxRecDepth 20000 in
theorem w132_851 {ls st : List xV} {M : xM} {Q : Option xV → xM → Prop} {d : Nat} {v0 : xV} : Wp 132 851 (v0 :: xr d :: ls) (st) (M) Q = Wp 132 852 (v0 :: xr d :: ls) (xr d :: st) (M) Q := wp_aload rfl rfl
set_option maxRecDepth 20000 in
theorem w132_852 {ls st : List xV} {M : xM} {Q : Option xV → xM → Prop} {d : Nat} : Wp 132 852 (xr d :: ls) (st) (M) Q = Wp 132 853 (xr d :: ls) (xr d :: st) (M) Q := wp_aload rfl rfl
set_option maxRecDepth 20000 in
theorem w132_853 {ls st : List xV} {M : xM} {Q : Option xV → xM → Prop} {a : Int} {v0 : xV} {v1 : xV} {v2 : xV} : Wp 132 853 (v0 :: v1 :: v2 :: xi a :: ls) (st) (M) Q = Wp 132 854 (v0 :: v1 :: v2 :: xi a :: ls) (xi a :: st) (M) Q := wp_iload rfl rfl
set_option maxRecDepth 20000 in
theorem w132_854 {ls st : List xV} {M : xM} {Q : Option xV → xM → Prop}  : Wp 132 854 (ls) (st) (M) Q = Wp 132 855 (ls) (xi 1 :: st) (M) Q := wp_const rfl
set_option maxRecDepth 20000 in
theorem w132_855 {ls st : List xV} {M : xM} {Q : Option xV → xM → Prop} {a : Int} {b : Int} : Wp 132 855 (ls) (xi b :: xi a :: st) (M) Q = Wp 132 856 (ls) (xi (a + b) :: st) (M) Q := wp_bin (f := xadd) rfl
set_option maxRecDepth 20000 in
theorem w132_856 {ls st : List xV} {M : xM} {Q : Option xV → xM → Prop} {a : Int} (ha : xG a) (h1 : 0 ≤ a) (h2 : a < M 58 (-1)) : Wp 132 856 (ls) (xi a :: xr 58 :: st) (M) Q = Wp 132 857 (ls) (xi (M 58 a) :: st) (M) Q := wp_sld rfl ha h1 h2
set_option maxRecDepth 20000 in
theorem w132_857 {ls st : List xV} {M : xM} {Q : Option xV → xM → Prop} {d : Nat} : Wp 132 857 (xr d :: ls) (st) (M) Q = Wp 132 858 (xr d :: ls) (xr d :: st) (M) Q := wp_aload rfl rfl
set_option maxRecDepth 20000 in
theorem w132_858 {ls st : List xV} {M : xM} {Q : Option xV → xM → Prop} {a : Int} {v0 : xV} {v1 : xV} {v2 : xV} : Wp 132 858 (v0 :: v1 :: v2 :: xi a :: ls) (st) (M) Q = Wp 132 859 (v0 :: v1 :: v2 :: xi a :: ls) (xi a :: st) (M) Q := wp_iload rfl rfl
set_option maxRecDepth 20000 in
theorem w132_859 {ls st : List xV} {M : xM} {Q : Option xV → xM → Prop}  : Wp 132 859 (ls) (st) (M) Q = Wp 132 860 (ls) (xi 2 :: st) (M) Q := wp_const rfl
set_option maxRecDepth 20000 in
theorem w132_860 {ls st : List xV} {M : xM} {Q : Option xV → xM → Prop} {a : Int} {b : Int} : Wp 132 860 (ls) (xi b :: xi a :: st) (M) Q = Wp 132 861 (ls) (xi (a + b) :: st) (M) Q := wp_bin (f := xadd) rfl
set_option maxRecDepth 20000 in
theorem w132_861 {ls st : List xV} {M : xM} {Q : Option xV → xM → Prop} {a : Int} (ha : xG a) (h1 : 0 ≤ a) (h2 : a < M 58 (-1)) : Wp 132 861 (ls) (xi a :: xr 58 :: st) (M) Q = Wp 132 862 (ls) (xi (M 58 a) :: st) (M) Q := wp_sld rfl ha h1 h2
set_option maxRecDepth 20000 in
theorem w132_862 {ls : List xV} {M : xM} {Q : Option xV → xM → Prop} {a1 : Int} {a2 : Int} {d0 : Nat} (hc : x_c d0 = 8) : Wp 132 862 (ls) (xi a2 :: xi a1 :: xr d0 :: []) (M) Q = Wc 68 [xr d0, xi a1, xi a2] M (fun r M2 => Wp 132 865 (ls) (r.toList ++ ([])) M2 Q) := wp_cV rfl rfl hc (Nat.le_of_ble_eq_true rfl) (Nat.le_of_ble_eq_true rfl) rfl rfl
set_option maxRecDepth 20000 in
theorem w132_865 {ls st : List xV} {M : xM} {Q : Option xV → xM → Prop} {d : Nat} {v0 : xV} {v1 : xV} : Wp 132 865 (v0 :: v1 :: xr d :: ls) (st) (M) Q = Wp 132 866 (v0 :: v1 :: xr d :: ls) (xr d :: st) (M) Q := wp_aload rfl rfl
set_option maxRecDepth 20000 in
theorem w132_866 {ls st : List xV} {M : xM} {Q : Option xV → xM → Prop} {d : Nat} : Wp 132 866 (xr d :: ls) (st) (M) Q = Wp 132 867 (xr d :: ls) (xr d :: st) (M) Q := wp_aload rfl rfl
set_option maxRecDepth 20000 in
theorem w132_867 {ls st : List xV} {M : xM} {Q : Option xV → xM → Prop} {a : Int} {v0 : xV} {v1 : xV} {v2 : xV} : Wp 132 867 (v0 :: v1 :: v2 :: xi a :: ls) (st) (M) Q = Wp 132 868 (v0 :: v1 :: v2 :: xi a :: ls) (xi a :: st) (M) Q := wp_iload rfl rfl
set_option maxRecDepth 20000 in
theorem w132_868 {ls st : List xV} {M : xM} {Q : Option xV → xM → Prop}  : Wp 132 868 (ls) (st) (M) Q = Wp 132 869 (ls) (xi 1 :: st) (M) Q := wp_const rfl
set_option maxRecDepth 20000 in
theorem w132_869 {ls st : List xV} {M : xM} {Q : Option xV → xM → Prop} {a : Int} {b : Int} : Wp 132 869 (ls) (xi b :: xi a :: st) (M) Q = Wp 132 870 (ls) (xi (a + b) :: st) (M) Q := wp_bin (f := xadd) rfl
set_option maxRecDepth 20000 in
theorem w132_870 {ls st : List xV} {M : xM} {Q : Option xV → xM → Prop} {a : Int} (ha : xG a) (h1 : 0 ≤ a) (h2 : a < M 58 (-1)) : Wp 132 870 (ls) (xi a :: xr 58 :: st) (M) Q = Wp 132 871 (ls) (xi (M 58 a) :: st) (M) Q := wp_sld rfl ha h1 h2
set_option maxRecDepth 20000 in
theorem w132_871 {ls st : List xV} {M : xM} {Q : Option xV → xM → Prop} {d : Nat} : Wp 132 871 (xr d :: ls) (st) (M) Q = Wp 132 872 (xr d :: ls) (xr d :: st) (M) Q := wp_aload rfl rfl
set_option maxRecDepth 20000 in
theorem w132_872 {ls st : List xV} {M : xM} {Q : Option xV → xM → Prop} {a : Int} {v0 : xV} {v1 : xV} {v2 : xV} : Wp 132 872 (v0 :: v1 :: v2 :: xi a :: ls) (st) (M) Q = Wp 132 873 (v0 :: v1 :: v2 :: xi a :: ls) (xi a :: st) (M) Q := wp_iload rfl rfl
set_option maxRecDepth 20000 in
theorem w132_873 {ls st : List xV} {M : xM} {Q : Option xV → xM → Prop}  : Wp 132 873 (ls) (st) (M) Q = Wp 132 874 (ls) (xi 2 :: st) (M) Q := wp_const rfl
set_option maxRecDepth 20000 in
theorem w132_874 {ls st : List xV} {M : xM} {Q : Option xV → xM → Prop} {a : Int} {b : Int} : Wp 132 874 (ls) (xi b :: xi a :: st) (M) Q = Wp 132 875 (ls) (xi (a + b) :: st) (M) Q := wp_bin (f := xadd) rfl
set_option maxRecDepth 20000 in
theorem w132_875 {ls st : List xV} {M : xM} {Q : Option xV → xM → Prop} {a : Int} (ha : xG a) (h1 : 0 ≤ a) (h2 : a < M 58 (-1)) : Wp 132 875 (ls) (xi a :: xr 58 :: st) (M) Q = Wp 132 876 (ls) (xi (M 58 a) :: st) (M) Q := wp_sld rfl ha h1 h2
set_option maxRecDepth 20000 in
theorem w132_876 {ls : List xV} {M : xM} {Q : Option xV → xM → Prop} {a1 : Int} {a2 : Int} {d0 : Nat} {s0 : xV} (hc : x_c d0 = 9) : Wp 132 876 (ls) (xi a2 :: xi a1 :: xr d0 :: s0 :: []) (M) Q = Wc 128 [xr d0, xi a1, xi a2] M (fun r M2 => Wp 132 879 (ls) (r.toList ++ (s0 :: [])) M2 Q) := wp_cV rfl rfl hc (Nat.le_of_ble_eq_true rfl) (Nat.le_of_ble_eq_true rfl) rfl rfl
set_option maxRecDepth 20000 in
theorem w132_879 {ls st : List xV} {M : xM} {Q : Option xV → xM → Prop} {a : Int} {b : Int} (ha : xG a) (hb : xG b) : Wp 132 879 (ls) (xi b :: xi a :: st) (M) Q = ((a = b → Wp 132 933 (ls) (st) (M) Q) ∧ (¬ (a = b) → Wp 132 882 (ls) (st) (M) Q)) := wp_cmp_eq rfl ha hb
set_option maxRecDepth 20000 in
theorem w132_882 {ls st : List xV} {M : xM} {Q : Option xV → xM → Prop}  : Wp 132 882 (ls) (st) (M) Q = Wp 132 883 (ls) (xi 0 :: st) (M) Q := wp_const rfl
set_option maxRecDepth 20000 in
theorem w132_883 {ls : List xV} {M : xM} {Q : Option xV → xM → Prop} {a : Int} (ha : a = 0 ∨ a = 1) : Wp 132 883 (ls) ([xi a]) (M) Q = Q (some (xi a)) M := wp_zret rfl ha
set_option maxRecDepth 20000 in
theorem w132_884 {ls st : List xV} {M : xM} {Q : Option xV → xM → Prop} {d : Nat} {v0 : xV} : Wp 132 884 (v0 :: xr d :: ls) (st) (M) Q = Wp 132 885 (v0 :: xr d :: ls) (xr d :: st) (M) Q := wp_aload rfl rfl
set_option maxRecDepth 20000 in
theorem w132_885 {ls : List xV} {M : xM} {Q : Option xV → xM → Prop} {d0 : Nat} (hc : x_c d0 = 8) : Wp 132 885 (ls) (xr d0 :: []) (M) Q = Wc 69 [xr d0] M (fun r M2 => Wp 132 888 (ls) (r.toList ++ ([])) M2 Q) := wp_cV rfl rfl hc (Nat.le_of_ble_eq_true rfl) (Nat.le_of_ble_eq_true rfl) rfl rfl
set_option maxRecDepth 20000 in
theorem w132_888 {ls st : List xV} {M : xM} {Q : Option xV → xM → Prop} {d : Nat} {v0 : xV} {v1 : xV} : Wp 132 888 (v0 :: v1 :: xr d :: ls) (st) (M) Q = Wp 132 889 (v0 :: v1 :: xr d :: ls) (xr d :: st) (M) Q := wp_aload rfl rfl
set_option maxRecDepth 20000 in
theorem w132_889 {ls : List xV} {M : xM} {Q : Option xV → xM → Prop} {d0 : Nat} {s0 : xV} (hc : x_c d0 = 9) : Wp 132 889 (ls) (xr d0 :: s0 :: []) (M) Q = Wc 129 [xr d0] M (fun r M2 => Wp 132 892 (ls) (r.toList ++ (s0 :: [])) M2 Q) := wp_cV rfl rfl hc (Nat.le_of_ble_eq_true rfl) (Nat.le_of_ble_eq_true rfl) rfl rfl
set_option maxRecDepth 20000 in
theorem w132_892 {ls st : List xV} {M : xM} {Q : Option xV → xM → Prop} {a : Int} {b : Int} (ha : xG a) (hb : xG b) : Wp 132 892 (ls) (xi b :: xi a :: st) (M) Q = ((a = b → Wp 132 933 (ls) (st) (M) Q) ∧ (¬ (a = b) → Wp 132 895 (ls) (st) (M) Q)) := wp_cmp_eq rfl ha hb
set_option maxRecDepth 20000 in
theorem w132_895 {ls st : List xV} {M : xM} {Q : Option xV → xM → Prop}  : Wp 132 895 (ls) (st) (M) Q = Wp 132 896 (ls) (xi 0 :: st) (M) Q := wp_const rfl
set_option maxRecDepth 20000 in
theorem w132_896 {ls : List xV} {M : xM} {Q : Option xV → xM → Prop} {a : Int} (ha : a = 0 ∨ a = 1) : Wp 132 896 (ls) ([xi a]) (M) Q = Q (some (xi a)) M := wp_zret rfl ha
set_option maxRecDepth 20000 in
theorem w132_897 {ls st : List xV} {M : xM} {Q : Option xV → xM → Prop} {d : Nat} {v0 : xV} : Wp 132 897 (v0 :: xr d :: ls) (st) (M) Q = Wp 132 898 (v0 :: xr d :: ls) (xr d :: st) (M) Q := wp_aload rfl rfl
set_option maxRecDepth 20000 in
theorem w132_898 {ls : List xV} {M : xM} {Q : Option xV → xM → Prop} {d0 : Nat} (hc : x_c d0 = 8) : Wp 132 898 (ls) (xr d0 :: []) (M) Q = Wc 70 [xr d0] M (fun r M2 => Wp 132 901 (ls) (r.toList ++ ([])) M2 Q) := wp_cV rfl rfl hc (Nat.le_of_ble_eq_true rfl) (Nat.le_of_ble_eq_true rfl) rfl rfl
set_option maxRecDepth 20000 in
theorem w132_901 {ls st : List xV} {M : xM} {Q : Option xV → xM → Prop} {d : Nat} {v0 : xV} {v1 : xV} : Wp 132 901 (v0 :: v1 :: xr d :: ls) (st) (M) Q = Wp 132 902 (v0 :: v1 :: xr d :: ls) (xr d :: st) (M) Q := wp_aload rfl rfl
set_option maxRecDepth 20000 in
theorem w132_902 {ls : List xV} {M : xM} {Q : Option xV → xM → Prop} {d0 : Nat} {s0 : xV} (hc : x_c d0 = 9) : Wp 132 902 (ls) (xr d0 :: s0 :: []) (M) Q = Wc 130 [xr d0] M (fun r M2 => Wp 132 905 (ls) (r.toList ++ (s0 :: [])) M2 Q) := wp_cV rfl rfl hc (Nat.le_of_ble_eq_true rfl) (Nat.le_of_ble_eq_true rfl) rfl rfl
set_option maxRecDepth 20000 in
theorem w132_905 {ls st : List xV} {M : xM} {Q : Option xV → xM → Prop} {a : Int} {b : Int} (ha : xG a) (hb : xG b) : Wp 132 905 (ls) (xi b :: xi a :: st) (M) Q = ((a = b → Wp 132 933 (ls) (st) (M) Q) ∧ (¬ (a = b) → Wp 132 908 (ls) (st) (M) Q)) := wp_cmp_eq rfl ha hb
set_option maxRecDepth 20000 in
theorem w132_908 {ls st : List xV} {M : xM} {Q : Option xV → xM → Prop}  : Wp 132 908 (ls) (st) (M) Q = Wp 132 909 (ls) (xi 0 :: st) (M) Q := wp_const rfl
set_option maxRecDepth 20000 in
theorem w132_909 {ls : List xV} {M : xM} {Q : Option xV → xM → Prop} {a : Int} (ha : a = 0 ∨ a = 1) : Wp 132 909 (ls) ([xi a]) (M) Q = Q (some (xi a)) M := wp_zret rfl ha
set_option maxRecDepth 20000 in
theorem w132_910 {ls st : List xV} {M : xM} {Q : Option xV → xM → Prop} {d : Nat} {v0 : xV} : Wp 132 910 (v0 :: xr d :: ls) (st) (M) Q = Wp 132 911 (v0 :: xr d :: ls) (xr d :: st) (M) Q := wp_aload rfl rfl
set_option maxRecDepth 20000 in
theorem w132_911 {ls st : List xV} {M : xM} {Q : Option xV → xM → Prop} {d : Nat} : Wp 132 911 (xr d :: ls) (st) (M) Q = Wp 132 912 (xr d :: ls) (xr d :: st) (M) Q := wp_aload rfl rfl
set_option maxRecDepth 20000 in
theorem w132_912 {ls st : List xV} {M : xM} {Q : Option xV → xM → Prop} {a : Int} {v0 : xV} {v1 : xV} {v2 : xV} : Wp 132 912 (v0 :: v1 :: v2 :: xi a :: ls) (st) (M) Q = Wp 132 913 (v0 :: v1 :: v2 :: xi a :: ls) (xi a :: st) (M) Q := wp_iload rfl rfl
set_option maxRecDepth 20000 in
theorem w132_913 {ls st : List xV} {M : xM} {Q : Option xV → xM → Prop}  : Wp 132 913 (ls) (st) (M) Q = Wp 132 914 (ls) (xi 1 :: st) (M) Q := wp_const rfl
set_option maxRecDepth 20000 in
theorem w132_914 {ls st : List xV} {M : xM} {Q : Option xV → xM → Prop} {a : Int} {b : Int} : Wp 132 914 (ls) (xi b :: xi a :: st) (M) Q = Wp 132 915 (ls) (xi (a + b) :: st) (M) Q := wp_bin (f := xadd) rfl
set_option maxRecDepth 20000 in
theorem w132_915 {ls st : List xV} {M : xM} {Q : Option xV → xM → Prop} {a : Int} (ha : xG a) (h1 : 0 ≤ a) (h2 : a < M 58 (-1)) : Wp 132 915 (ls) (xi a :: xr 58 :: st) (M) Q = Wp 132 916 (ls) (xi (M 58 a) :: st) (M) Q := wp_sld rfl ha h1 h2
set_option maxRecDepth 20000 in
theorem w132_916 {ls : List xV} {M : xM} {Q : Option xV → xM → Prop} {a1 : Int} {d0 : Nat} (hc : x_c d0 = 8) : Wp 132 916 (ls) (xi a1 :: xr d0 :: []) (M) Q = Wc 71 [xr d0, xi a1] M (fun r M2 => Wp 132 919 (ls) (r.toList ++ ([])) M2 Q) := wp_cV rfl rfl hc (Nat.le_of_ble_eq_true rfl) (Nat.le_of_ble_eq_true rfl) rfl rfl
set_option maxRecDepth 20000 in
theorem w132_919 {ls st : List xV} {M : xM} {Q : Option xV → xM → Prop} {d : Nat} {v0 : xV} {v1 : xV} : Wp 132 919 (v0 :: v1 :: xr d :: ls) (st) (M) Q = Wp 132 920 (v0 :: v1 :: xr d :: ls) (xr d :: st) (M) Q := wp_aload rfl rfl
set_option maxRecDepth 20000 in
theorem w132_920 {ls st : List xV} {M : xM} {Q : Option xV → xM → Prop} {d : Nat} : Wp 132 920 (xr d :: ls) (st) (M) Q = Wp 132 921 (xr d :: ls) (xr d :: st) (M) Q := wp_aload rfl rfl
set_option maxRecDepth 20000 in
theorem w132_921 {ls st : List xV} {M : xM} {Q : Option xV → xM → Prop} {a : Int} {v0 : xV} {v1 : xV} {v2 : xV} : Wp 132 921 (v0 :: v1 :: v2 :: xi a :: ls) (st) (M) Q = Wp 132 922 (v0 :: v1 :: v2 :: xi a :: ls) (xi a :: st) (M) Q := wp_iload rfl rfl
set_option maxRecDepth 20000 in
theorem w132_922 {ls st : List xV} {M : xM} {Q : Option xV → xM → Prop}  : Wp 132 922 (ls) (st) (M) Q = Wp 132 923 (ls) (xi 1 :: st) (M) Q := wp_const rfl
set_option maxRecDepth 20000 in
theorem w132_923 {ls st : List xV} {M : xM} {Q : Option xV → xM → Prop} {a : Int} {b : Int} : Wp 132 923 (ls) (xi b :: xi a :: st) (M) Q = Wp 132 924 (ls) (xi (a + b) :: st) (M) Q := wp_bin (f := xadd) rfl
set_option maxRecDepth 20000 in
theorem w132_924 {ls st : List xV} {M : xM} {Q : Option xV → xM → Prop} {a : Int} (ha : xG a) (h1 : 0 ≤ a) (h2 : a < M 58 (-1)) : Wp 132 924 (ls) (xi a :: xr 58 :: st) (M) Q = Wp 132 925 (ls) (xi (M 58 a) :: st) (M) Q := wp_sld rfl ha h1 h2
set_option maxRecDepth 20000 in
theorem w132_925 {ls : List xV} {M : xM} {Q : Option xV → xM → Prop} {a1 : Int} {d0 : Nat} {s0 : xV} (hc : x_c d0 = 9) : Wp 132 925 (ls) (xi a1 :: xr d0 :: s0 :: []) (M) Q = Wc 131 [xr d0, xi a1] M (fun r M2 => Wp 132 928 (ls) (r.toList ++ (s0 :: [])) M2 Q) := wp_cV rfl rfl hc (Nat.le_of_ble_eq_true rfl) (Nat.le_of_ble_eq_true rfl) rfl rfl
set_option maxRecDepth 20000 in
theorem w132_928 {ls st : List xV} {M : xM} {Q : Option xV → xM → Prop} {a : Int} {b : Int} (ha : xG a) (hb : xG b) : Wp 132 928 (ls) (xi b :: xi a :: st) (M) Q = ((a = b → Wp 132 933 (ls) (st) (M) Q) ∧ (¬ (a = b) → Wp 132 931 (ls) (st) (M) Q)) := wp_cmp_eq rfl ha hb
set_option maxRecDepth 20000 in
theorem w132_931 {ls st : List xV} {M : xM} {Q : Option xV → xM → Prop}  : Wp 132 931 (ls) (st) (M) Q = Wp 132 932 (ls) (xi 0 :: st) (M) Q := wp_const rfl
set_option maxRecDepth 20000 in
theorem w132_932 {ls : List xV} {M : xM} {Q : Option xV → xM → Prop} {a : Int} (ha : a = 0 ∨ a = 1) : Wp 132 932 (ls) ([xi a]) (M) Q = Q (some (xi a)) M := wp_zret rfl ha
set_option maxRecDepth 20000 in
theorem w132_933 {ls st : List xV} {M : xM} {Q : Option xV → xM → Prop} {a : Int} {v0 : xV} {v1 : xV} {v2 : xV} : Wp 132 933 (v0 :: v1 :: v2 :: xi a :: ls) (st) (M) Q = Wp 132 936 (v0 :: v1 :: xjl v2 :: xi (a + 6) :: ls) (st) (M) Q := wp_iinc rfl rfl rfl
set_option maxRecDepth 20000 in
theorem w132_936 {ls st : List xV} {M : xM} {Q : Option xV → xM → Prop}  : Wp 132 936 (ls) (st) (M) Q = Wp 132 18 (ls) (st) (M) Q := wp_goto rfl
set_option maxRecDepth 20000 in
theorem w132_939 {ls st : List xV} {M : xM} {Q : Option xV → xM → Prop}  : Wp 132 939 (ls) (st) (M) Q = Wp 132 940 (ls) (xi 1 :: st) (M) Q := wp_const rfl
set_option maxRecDepth 20000 in
theorem w132_940 {ls : List xV} {M : xM} {Q : Option xV → xM → Prop} {a : Int} (ha : a = 0 ∨ a = 1) : Wp 132 940 (ls) ([xi a]) (M) Q = Q (some (xi a)) M := wp_zret rfl ha
