/-! ===== rows by program ===== -/
section
variable {b : Nat × Nat} {st : List Value} {hi : am_HI} {g : am_G} {Φ : am_P} {x0 : Value}
theorem d_J9_abs_0f7a4_0 : decode cJ9_abs_0f7a4 0 = .ok (.iload_n 0, 1) := by decide +kernel
theorem s_J9_abs_0f7a4_0 {n : Int32} (h : AP M_J9_abs_0f7a4 b 1 [.int n] (.int n :: st) hi g Φ) : AP M_J9_abs_0f7a4 b 0 [.int n] (st) hi g Φ := AP.iload_n (x := n) (i := 0) d_J9_abs_0f7a4_0 rfl rfl h
theorem d_J9_abs_0f7a4_1 : decode cJ9_abs_0f7a4 1 = .ok (.ifCond .ge 8, 3) := by decide +kernel
theorem s_J9_abs_0f7a4_1 {x : Int32} (h1 : 0 ≤ x → AP M_J9_abs_0f7a4 b 9 [x0] st hi g Φ) (h2 : ¬ 0 ≤ x → AP M_J9_abs_0f7a4 b 4 [x0] st hi g Φ) : AP M_J9_abs_0f7a4 b 1 [x0] (.int x :: st) hi g Φ := AP.if_ge d_J9_abs_0f7a4_1 (by decide) h1 h2
theorem d_J9_abs_0f7a4_4 : decode cJ9_abs_0f7a4 4 = .ok (.iload_n 0, 1) := by decide +kernel
theorem s_J9_abs_0f7a4_4 {n : Int32} (h : AP M_J9_abs_0f7a4 b 5 [.int n] (.int n :: st) hi g Φ) : AP M_J9_abs_0f7a4 b 4 [.int n] (st) hi g Φ := AP.iload_n (x := n) (i := 0) d_J9_abs_0f7a4_4 rfl rfl h
theorem d_J9_abs_0f7a4_5 : decode cJ9_abs_0f7a4 5 = .ok (.ineg, 1) := by decide +kernel
theorem s_J9_abs_0f7a4_5 {x : Int32} (h : AP M_J9_abs_0f7a4 b 6 [x0] (.int (-x) :: st) hi g Φ) : AP M_J9_abs_0f7a4 b 5 [x0] (.int x :: st) hi g Φ := AP.ineg d_J9_abs_0f7a4_5 h
theorem d_J9_abs_0f7a4_6 : decode cJ9_abs_0f7a4 6 = .ok (.goto 4, 3) := by decide +kernel
theorem s_J9_abs_0f7a4_6 (h : AP M_J9_abs_0f7a4 b 10 [x0] st hi g Φ) : AP M_J9_abs_0f7a4 b 6 [x0] st hi g Φ := AP.goto d_J9_abs_0f7a4_6 (by decide) h
theorem d_J9_abs_0f7a4_9 : decode cJ9_abs_0f7a4 9 = .ok (.iload_n 0, 1) := by decide +kernel
theorem s_J9_abs_0f7a4_9 {n : Int32} (h : AP M_J9_abs_0f7a4 b 10 [.int n] (.int n :: st) hi g Φ) : AP M_J9_abs_0f7a4 b 9 [.int n] (st) hi g Φ := AP.iload_n (x := n) (i := 0) d_J9_abs_0f7a4_9 rfl rfl h
theorem d_J9_abs_0f7a4_10 : decode cJ9_abs_0f7a4 10 = .ok (.ireturn, 1) := by decide +kernel
theorem s_J9_abs_0f7a4_10 {x : Int32} (h : Φ (.ok (some (.int x))) hi g) : AP M_J9_abs_0f7a4 b 10 [x0] [.int x] hi g Φ := AP.iret d_J9_abs_0f7a4_10 rfl h
end
section
variable {b : Nat × Nat} {st : List Value} {hi : am_HI} {g : am_G} {Φ : am_P} {x0 x1 x2 : Value}
theorem d_J9_floorDiv_7cf53_0 : decode cJ9_floorDiv_7cf53 0 = .ok (.iload_n 0, 1) := by decide +kernel
theorem s_J9_floorDiv_7cf53_0 {n : Int32} (h : AP M_J9_floorDiv_7cf53 b 1 [.int n, x1, x2] (.int n :: st) hi g Φ) : AP M_J9_floorDiv_7cf53 b 0 [.int n, x1, x2] (st) hi g Φ := AP.iload_n (x := n) (i := 0) d_J9_floorDiv_7cf53_0 rfl rfl h
theorem d_J9_floorDiv_7cf53_1 : decode cJ9_floorDiv_7cf53 1 = .ok (.iload_n 1, 1) := by decide +kernel
theorem s_J9_floorDiv_7cf53_1 {n : Int32} (h : AP M_J9_floorDiv_7cf53 b 2 [x0, .int n, x2] (.int n :: st) hi g Φ) : AP M_J9_floorDiv_7cf53 b 1 [x0, .int n, x2] (st) hi g Φ := AP.iload_n (x := n) (i := 1) d_J9_floorDiv_7cf53_1 rfl rfl h
theorem d_J9_floorDiv_7cf53_2 : decode cJ9_floorDiv_7cf53 2 = .ok (.idiv, 1) := by decide +kernel
theorem s_J9_floorDiv_7cf53_2 {x y : Int32} (hy : ¬ y = 0) (h : AP M_J9_floorDiv_7cf53 b 3 [x0, x1, x2] (.int (x / y) :: st) hi g Φ) : AP M_J9_floorDiv_7cf53 b 2 [x0, x1, x2] (.int y :: .int x :: st) hi g Φ := AP.idiv d_J9_floorDiv_7cf53_2 hy h
theorem d_J9_floorDiv_7cf53_3 : decode cJ9_floorDiv_7cf53 3 = .ok (.istore_n 2, 1) := by decide +kernel
theorem s_J9_floorDiv_7cf53_3 {n : Int32} (hc : x1.category = 1) (h : AP M_J9_floorDiv_7cf53 b 4 [x0, x1, .int n] (st) hi g Φ) : AP M_J9_floorDiv_7cf53 b 3 [x0, x1, x2] (.int n :: st) hi g Φ := AP.istore_n (x := n) (i := 2) d_J9_floorDiv_7cf53_3 rfl (by decide) (by simp [am_st, am_ci, am_cr, am_cl, am_cd, hc]) h
theorem d_J9_floorDiv_7cf53_4 : decode cJ9_floorDiv_7cf53 4 = .ok (.iload_n 0, 1) := by decide +kernel
theorem s_J9_floorDiv_7cf53_4 {n : Int32} (h : AP M_J9_floorDiv_7cf53 b 5 [.int n, x1, x2] (.int n :: st) hi g Φ) : AP M_J9_floorDiv_7cf53 b 4 [.int n, x1, x2] (st) hi g Φ := AP.iload_n (x := n) (i := 0) d_J9_floorDiv_7cf53_4 rfl rfl h
theorem d_J9_floorDiv_7cf53_5 : decode cJ9_floorDiv_7cf53 5 = .ok (.iload_n 1, 1) := by decide +kernel
theorem s_J9_floorDiv_7cf53_5 {n : Int32} (h : AP M_J9_floorDiv_7cf53 b 6 [x0, .int n, x2] (.int n :: st) hi g Φ) : AP M_J9_floorDiv_7cf53 b 5 [x0, .int n, x2] (st) hi g Φ := AP.iload_n (x := n) (i := 1) d_J9_floorDiv_7cf53_5 rfl rfl h
theorem d_J9_floorDiv_7cf53_6 : decode cJ9_floorDiv_7cf53 6 = .ok (.ixor, 1) := by decide +kernel
theorem s_J9_floorDiv_7cf53_6 {x y : Int32} (h : AP M_J9_floorDiv_7cf53 b 7 [x0, x1, x2] (.int (x ^^^ y) :: st) hi g Φ) : AP M_J9_floorDiv_7cf53 b 6 [x0, x1, x2] (.int y :: .int x :: st) hi g Φ := AP.ixor d_J9_floorDiv_7cf53_6 h
theorem d_J9_floorDiv_7cf53_7 : decode cJ9_floorDiv_7cf53 7 = .ok (.ifCond .ge 14, 3) := by decide +kernel
theorem s_J9_floorDiv_7cf53_7 {x : Int32} (h1 : 0 ≤ x → AP M_J9_floorDiv_7cf53 b 21 [x0, x1, x2] st hi g Φ) (h2 : ¬ 0 ≤ x → AP M_J9_floorDiv_7cf53 b 10 [x0, x1, x2] st hi g Φ) : AP M_J9_floorDiv_7cf53 b 7 [x0, x1, x2] (.int x :: st) hi g Φ := AP.if_ge d_J9_floorDiv_7cf53_7 (by decide) h1 h2
theorem d_J9_floorDiv_7cf53_10 : decode cJ9_floorDiv_7cf53 10 = .ok (.iload_n 2, 1) := by decide +kernel
theorem s_J9_floorDiv_7cf53_10 {n : Int32} (h : AP M_J9_floorDiv_7cf53 b 11 [x0, x1, .int n] (.int n :: st) hi g Φ) : AP M_J9_floorDiv_7cf53 b 10 [x0, x1, .int n] (st) hi g Φ := AP.iload_n (x := n) (i := 2) d_J9_floorDiv_7cf53_10 rfl rfl h
theorem d_J9_floorDiv_7cf53_11 : decode cJ9_floorDiv_7cf53 11 = .ok (.iload_n 1, 1) := by decide +kernel
theorem s_J9_floorDiv_7cf53_11 {n : Int32} (h : AP M_J9_floorDiv_7cf53 b 12 [x0, .int n, x2] (.int n :: st) hi g Φ) : AP M_J9_floorDiv_7cf53 b 11 [x0, .int n, x2] (st) hi g Φ := AP.iload_n (x := n) (i := 1) d_J9_floorDiv_7cf53_11 rfl rfl h
theorem d_J9_floorDiv_7cf53_12 : decode cJ9_floorDiv_7cf53 12 = .ok (.imul, 1) := by decide +kernel
theorem s_J9_floorDiv_7cf53_12 {x y : Int32} (h : AP M_J9_floorDiv_7cf53 b 13 [x0, x1, x2] (.int (x * y) :: st) hi g Φ) : AP M_J9_floorDiv_7cf53 b 12 [x0, x1, x2] (.int y :: .int x :: st) hi g Φ := AP.imul d_J9_floorDiv_7cf53_12 h
theorem d_J9_floorDiv_7cf53_13 : decode cJ9_floorDiv_7cf53 13 = .ok (.iload_n 0, 1) := by decide +kernel
theorem s_J9_floorDiv_7cf53_13 {n : Int32} (h : AP M_J9_floorDiv_7cf53 b 14 [.int n, x1, x2] (.int n :: st) hi g Φ) : AP M_J9_floorDiv_7cf53 b 13 [.int n, x1, x2] (st) hi g Φ := AP.iload_n (x := n) (i := 0) d_J9_floorDiv_7cf53_13 rfl rfl h
theorem d_J9_floorDiv_7cf53_14 : decode cJ9_floorDiv_7cf53 14 = .ok (.if_icmp .eq 7, 3) := by decide +kernel
theorem s_J9_floorDiv_7cf53_14 {x y : Int32} (h1 : x = y → AP M_J9_floorDiv_7cf53 b 21 [x0, x1, x2] st hi g Φ) (h2 : ¬ x = y → AP M_J9_floorDiv_7cf53 b 17 [x0, x1, x2] st hi g Φ) : AP M_J9_floorDiv_7cf53 b 14 [x0, x1, x2] (.int y :: .int x :: st) hi g Φ := AP.icmp_eq d_J9_floorDiv_7cf53_14 (by decide) h1 h2
theorem d_J9_floorDiv_7cf53_17 : decode cJ9_floorDiv_7cf53 17 = .ok (.iload_n 2, 1) := by decide +kernel
theorem s_J9_floorDiv_7cf53_17 {n : Int32} (h : AP M_J9_floorDiv_7cf53 b 18 [x0, x1, .int n] (.int n :: st) hi g Φ) : AP M_J9_floorDiv_7cf53 b 17 [x0, x1, .int n] (st) hi g Φ := AP.iload_n (x := n) (i := 2) d_J9_floorDiv_7cf53_17 rfl rfl h
theorem d_J9_floorDiv_7cf53_18 : decode cJ9_floorDiv_7cf53 18 = .ok (.iconst 1, 1) := by decide +kernel
theorem s_J9_floorDiv_7cf53_18 (h : AP M_J9_floorDiv_7cf53 b 19 [x0, x1, x2] (.int 1 :: st) hi g Φ) : AP M_J9_floorDiv_7cf53 b 18 [x0, x1, x2] (st) hi g Φ := AP.iconst (x := 1) d_J9_floorDiv_7cf53_18 (by decide) h
theorem d_J9_floorDiv_7cf53_19 : decode cJ9_floorDiv_7cf53 19 = .ok (.isub, 1) := by decide +kernel
theorem s_J9_floorDiv_7cf53_19 {x y : Int32} (h : AP M_J9_floorDiv_7cf53 b 20 [x0, x1, x2] (.int (x - y) :: st) hi g Φ) : AP M_J9_floorDiv_7cf53 b 19 [x0, x1, x2] (.int y :: .int x :: st) hi g Φ := AP.isub d_J9_floorDiv_7cf53_19 h
theorem d_J9_floorDiv_7cf53_20 : decode cJ9_floorDiv_7cf53 20 = .ok (.ireturn, 1) := by decide +kernel
theorem s_J9_floorDiv_7cf53_20 {x : Int32} (h : Φ (.ok (some (.int x))) hi g) : AP M_J9_floorDiv_7cf53 b 20 [x0, x1, x2] [.int x] hi g Φ := AP.iret d_J9_floorDiv_7cf53_20 rfl h
theorem d_J9_floorDiv_7cf53_21 : decode cJ9_floorDiv_7cf53 21 = .ok (.iload_n 2, 1) := by decide +kernel
theorem s_J9_floorDiv_7cf53_21 {n : Int32} (h : AP M_J9_floorDiv_7cf53 b 22 [x0, x1, .int n] (.int n :: st) hi g Φ) : AP M_J9_floorDiv_7cf53 b 21 [x0, x1, .int n] (st) hi g Φ := AP.iload_n (x := n) (i := 2) d_J9_floorDiv_7cf53_21 rfl rfl h
theorem d_J9_floorDiv_7cf53_22 : decode cJ9_floorDiv_7cf53 22 = .ok (.ireturn, 1) := by decide +kernel
theorem s_J9_floorDiv_7cf53_22 {x : Int32} (h : Φ (.ok (some (.int x))) hi g) : AP M_J9_floorDiv_7cf53 b 22 [x0, x1, x2] [.int x] hi g Φ := AP.iret d_J9_floorDiv_7cf53_22 rfl h
end
section
variable {b : Nat × Nat} {st : List Value} {hi : am_HI} {g : am_G} {Φ : am_P} {x0 x1 : Value}
theorem d_J9_min_7cf53_0 : decode cJ9_min_7cf53 0 = .ok (.iload_n 0, 1) := by decide +kernel
theorem s_J9_min_7cf53_0 {n : Int32} (h : AP M_J9_min_7cf53 b 1 [.int n, x1] (.int n :: st) hi g Φ) : AP M_J9_min_7cf53 b 0 [.int n, x1] (st) hi g Φ := AP.iload_n (x := n) (i := 0) d_J9_min_7cf53_0 rfl rfl h
theorem d_J9_min_7cf53_1 : decode cJ9_min_7cf53 1 = .ok (.iload_n 1, 1) := by decide +kernel
theorem s_J9_min_7cf53_1 {n : Int32} (h : AP M_J9_min_7cf53 b 2 [x0, .int n] (.int n :: st) hi g Φ) : AP M_J9_min_7cf53 b 1 [x0, .int n] (st) hi g Φ := AP.iload_n (x := n) (i := 1) d_J9_min_7cf53_1 rfl rfl h
theorem d_J9_min_7cf53_2 : decode cJ9_min_7cf53 2 = .ok (.if_icmp .gt 7, 3) := by decide +kernel
theorem s_J9_min_7cf53_2 {x y : Int32} (h1 : y < x → AP M_J9_min_7cf53 b 9 [x0, x1] st hi g Φ) (h2 : ¬ y < x → AP M_J9_min_7cf53 b 5 [x0, x1] st hi g Φ) : AP M_J9_min_7cf53 b 2 [x0, x1] (.int y :: .int x :: st) hi g Φ := AP.icmp_gt d_J9_min_7cf53_2 (by decide) h1 h2
theorem d_J9_min_7cf53_5 : decode cJ9_min_7cf53 5 = .ok (.iload_n 0, 1) := by decide +kernel
theorem s_J9_min_7cf53_5 {n : Int32} (h : AP M_J9_min_7cf53 b 6 [.int n, x1] (.int n :: st) hi g Φ) : AP M_J9_min_7cf53 b 5 [.int n, x1] (st) hi g Φ := AP.iload_n (x := n) (i := 0) d_J9_min_7cf53_5 rfl rfl h
theorem d_J9_min_7cf53_6 : decode cJ9_min_7cf53 6 = .ok (.goto 4, 3) := by decide +kernel
theorem s_J9_min_7cf53_6 (h : AP M_J9_min_7cf53 b 10 [x0, x1] st hi g Φ) : AP M_J9_min_7cf53 b 6 [x0, x1] st hi g Φ := AP.goto d_J9_min_7cf53_6 (by decide) h
theorem d_J9_min_7cf53_9 : decode cJ9_min_7cf53 9 = .ok (.iload_n 1, 1) := by decide +kernel
theorem s_J9_min_7cf53_9 {n : Int32} (h : AP M_J9_min_7cf53 b 10 [x0, .int n] (.int n :: st) hi g Φ) : AP M_J9_min_7cf53 b 9 [x0, .int n] (st) hi g Φ := AP.iload_n (x := n) (i := 1) d_J9_min_7cf53_9 rfl rfl h
theorem d_J9_min_7cf53_10 : decode cJ9_min_7cf53 10 = .ok (.ireturn, 1) := by decide +kernel
theorem s_J9_min_7cf53_10 {x : Int32} (h : Φ (.ok (some (.int x))) hi g) : AP M_J9_min_7cf53 b 10 [x0, x1] [.int x] hi g Φ := AP.iret d_J9_min_7cf53_10 rfl h
end
section
variable {b : Nat × Nat} {st : List Value} {hi : am_HI} {g : am_G} {Φ : am_P} {x0 x1 : Value}
theorem d_Jxe99ae_isNaN_b9ae7_0 : decode cJxe99ae_isNaN_b9ae7 0 = .ok (.dload_n 0, 1) := by decide +kernel
theorem s_Jxe99ae_isNaN_b9ae7_0 {n : UInt64} (h : AP M_Jxe99ae_isNaN_b9ae7 b 1 [.double n, x1] (.double n :: st) hi g Φ) : AP M_Jxe99ae_isNaN_b9ae7 b 0 [.double n, x1] (st) hi g Φ := AP.dload_n (x := n) (i := 0) d_Jxe99ae_isNaN_b9ae7_0 rfl rfl h
theorem d_Jxe99ae_isNaN_b9ae7_1 : decode cJxe99ae_isNaN_b9ae7 1 = .ok (.dload_n 0, 1) := by decide +kernel
theorem s_Jxe99ae_isNaN_b9ae7_1 {n : UInt64} (h : AP M_Jxe99ae_isNaN_b9ae7 b 2 [.double n, x1] (.double n :: st) hi g Φ) : AP M_Jxe99ae_isNaN_b9ae7 b 1 [.double n, x1] (st) hi g Φ := AP.dload_n (x := n) (i := 0) d_Jxe99ae_isNaN_b9ae7_1 rfl rfl h
theorem d_Jxe99ae_isNaN_b9ae7_2 : decode cJxe99ae_isNaN_b9ae7 2 = .ok (.dcmp .l, 1) := by decide +kernel
theorem s_Jxe99ae_isNaN_b9ae7_2 {x y : UInt64} (h : AP M_Jxe99ae_isNaN_b9ae7 b 3 [x0, x1] (.int (Op.cmpValue (FP.dcmp x y) .l) :: st) hi g Φ) : AP M_Jxe99ae_isNaN_b9ae7 b 2 [x0, x1] (.double y :: .double x :: st) hi g Φ := AP.dcmp d_Jxe99ae_isNaN_b9ae7_2 h
theorem d_Jxe99ae_isNaN_b9ae7_3 : decode cJxe99ae_isNaN_b9ae7 3 = .ok (.ifCond .eq 7, 3) := by decide +kernel
theorem s_Jxe99ae_isNaN_b9ae7_3 {x : Int32} (h1 : x = 0 → AP M_Jxe99ae_isNaN_b9ae7 b 10 [x0, x1] st hi g Φ) (h2 : ¬ x = 0 → AP M_Jxe99ae_isNaN_b9ae7 b 6 [x0, x1] st hi g Φ) : AP M_Jxe99ae_isNaN_b9ae7 b 3 [x0, x1] (.int x :: st) hi g Φ := AP.if_eq d_Jxe99ae_isNaN_b9ae7_3 (by decide) h1 h2
theorem d_Jxe99ae_isNaN_b9ae7_6 : decode cJxe99ae_isNaN_b9ae7 6 = .ok (.iconst 1, 1) := by decide +kernel
theorem s_Jxe99ae_isNaN_b9ae7_6 (h : AP M_Jxe99ae_isNaN_b9ae7 b 7 [x0, x1] (.int 1 :: st) hi g Φ) : AP M_Jxe99ae_isNaN_b9ae7 b 6 [x0, x1] (st) hi g Φ := AP.iconst (x := 1) d_Jxe99ae_isNaN_b9ae7_6 (by decide) h
theorem d_Jxe99ae_isNaN_b9ae7_7 : decode cJxe99ae_isNaN_b9ae7 7 = .ok (.goto 4, 3) := by decide +kernel
theorem s_Jxe99ae_isNaN_b9ae7_7 (h : AP M_Jxe99ae_isNaN_b9ae7 b 11 [x0, x1] st hi g Φ) : AP M_Jxe99ae_isNaN_b9ae7 b 7 [x0, x1] st hi g Φ := AP.goto d_Jxe99ae_isNaN_b9ae7_7 (by decide) h
theorem d_Jxe99ae_isNaN_b9ae7_10 : decode cJxe99ae_isNaN_b9ae7 10 = .ok (.iconst 0, 1) := by decide +kernel
theorem s_Jxe99ae_isNaN_b9ae7_10 (h : AP M_Jxe99ae_isNaN_b9ae7 b 11 [x0, x1] (.int 0 :: st) hi g Φ) : AP M_Jxe99ae_isNaN_b9ae7 b 10 [x0, x1] (st) hi g Φ := AP.iconst (x := 0) d_Jxe99ae_isNaN_b9ae7_10 (by decide) h
theorem d_Jxe99ae_isNaN_b9ae7_11 : decode cJxe99ae_isNaN_b9ae7 11 = .ok (.ireturn, 1) := by decide +kernel
theorem s_Jxe99ae_isNaN_b9ae7_11 {x : Int32} (hx : x = 0 ∨ x = 1) (h : Φ (.ok (some (.int x))) hi g) : AP M_Jxe99ae_isNaN_b9ae7 b 11 [x0, x1] [.int x] hi g Φ := AP.zret d_Jxe99ae_isNaN_b9ae7_11 rfl hx h
end
section
variable {b : Nat × Nat} {st : List Value} {hi : am_HI} {g : am_G} {Φ : am_P} {x0 x1 : Value}
theorem d_Jxe99ae_doubleToLongBits_ccdee_0 : decode cJxe99ae_doubleToLongBits_ccdee 0 = .ok (.dload_n 0, 1) := by decide +kernel
theorem s_Jxe99ae_doubleToLongBits_ccdee_0 {n : UInt64} (h : AP M_Jxe99ae_doubleToLongBits_ccdee b 1 [.double n, x1] (.double n :: st) hi g Φ) : AP M_Jxe99ae_doubleToLongBits_ccdee b 0 [.double n, x1] (st) hi g Φ := AP.dload_n (x := n) (i := 0) d_Jxe99ae_doubleToLongBits_ccdee_0 rfl rfl h
theorem d_Jxe99ae_doubleToLongBits_ccdee_1 : decode cJxe99ae_doubleToLongBits_ccdee 1 = .ok (.invokestatic 122, 3) := by decide +kernel
theorem s_Jxe99ae_doubleToLongBits_ccdee_1 {a0 : UInt64} {r0 : Int32} {P : am_HI → Prop} (hI : am_Inv g) (hst : (st.map Value.category).sum ≤ 8) (hc : am_Cr M_Jxe99ae_isNaN_b9ae7 [.double a0] hi g (some (.int r0)) P) (h : ∀ hi' : am_HI, P hi' → AP M_Jxe99ae_doubleToLongBits_ccdee b 4 [x0, x1] (.int r0 :: st) hi' g Φ) : AP M_Jxe99ae_doubleToLongBits_ccdee b 1 [x0, x1] (.double a0 :: st) hi g Φ := AP.callSr (As := [.double a0]) hI hc k_Jxe99ae_doubleToLongBits_ccdee_122 d_Jxe99ae_doubleToLongBits_ccdee_1 rfl hst h
theorem d_Jxe99ae_doubleToLongBits_ccdee_4 : decode cJxe99ae_doubleToLongBits_ccdee 4 = .ok (.ifCond .ne 8, 3) := by decide +kernel
theorem s_Jxe99ae_doubleToLongBits_ccdee_4 {x : Int32} (h1 : ¬ x = 0 → AP M_Jxe99ae_doubleToLongBits_ccdee b 12 [x0, x1] st hi g Φ) (h2 : x = 0 → AP M_Jxe99ae_doubleToLongBits_ccdee b 7 [x0, x1] st hi g Φ) : AP M_Jxe99ae_doubleToLongBits_ccdee b 4 [x0, x1] (.int x :: st) hi g Φ := AP.if_ne d_Jxe99ae_doubleToLongBits_ccdee_4 (by decide) h1 h2
theorem d_Jxe99ae_doubleToLongBits_ccdee_7 : decode cJxe99ae_doubleToLongBits_ccdee 7 = .ok (.dload_n 0, 1) := by decide +kernel
theorem s_Jxe99ae_doubleToLongBits_ccdee_7 {n : UInt64} (h : AP M_Jxe99ae_doubleToLongBits_ccdee b 8 [.double n, x1] (.double n :: st) hi g Φ) : AP M_Jxe99ae_doubleToLongBits_ccdee b 7 [.double n, x1] (st) hi g Φ := AP.dload_n (x := n) (i := 0) d_Jxe99ae_doubleToLongBits_ccdee_7 rfl rfl h
theorem d_Jxe99ae_doubleToLongBits_ccdee_8 : decode cJxe99ae_doubleToLongBits_ccdee 8 = .ok (.invokestatic 134, 3) := by decide +kernel
-- s_Jxe99ae_doubleToLongBits_ccdee_8: a call apart
theorem d_Jxe99ae_doubleToLongBits_ccdee_11 : decode cJxe99ae_doubleToLongBits_ccdee 11 = .ok (.lreturn, 1) := by decide +kernel
theorem s_Jxe99ae_doubleToLongBits_ccdee_11 {x : Int64} (h : Φ (.ok (some (.long x))) hi g) : AP M_Jxe99ae_doubleToLongBits_ccdee b 11 [x0, x1] [.long x] hi g Φ := AP.lret d_Jxe99ae_doubleToLongBits_ccdee_11 rfl h
theorem d_Jxe99ae_doubleToLongBits_ccdee_12 : decode cJxe99ae_doubleToLongBits_ccdee 12 = .ok (.ldc2_w 137, 3) := by decide +kernel
theorem s_Jxe99ae_doubleToLongBits_ccdee_12 (h : AP M_Jxe99ae_doubleToLongBits_ccdee b 15 [x0, x1] (.long 9221120237041090560 :: st) hi g Φ) : AP M_Jxe99ae_doubleToLongBits_ccdee b 12 [x0, x1] (st) hi g Φ := AP.ldc2 (x := 9221120237041090560) d_Jxe99ae_doubleToLongBits_ccdee_12 w_1731 h
theorem d_Jxe99ae_doubleToLongBits_ccdee_15 : decode cJxe99ae_doubleToLongBits_ccdee 15 = .ok (.lreturn, 1) := by decide +kernel
theorem s_Jxe99ae_doubleToLongBits_ccdee_15 {x : Int64} (h : Φ (.ok (some (.long x))) hi g) : AP M_Jxe99ae_doubleToLongBits_ccdee b 15 [x0, x1] [.long x] hi g Φ := AP.lret d_Jxe99ae_doubleToLongBits_ccdee_15 rfl h
end
