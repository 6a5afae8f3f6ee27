/-! ===== rows by program ===== -/
section
variable {b : Nat × Nat} {st : List Value} {hi : am_HI} {g : am_G} {Φ : am_P} {x0 : Value}
theorem d_X9_allowed_0 : decode cX9_allowed 0 = .ok (.aload_n 0, 1) := by decide +kernel
theorem s_X9_allowed_0 {n : Nat} (h : AP M_X9_allowed b 1 [.ref n] (.ref n :: st) hi g Φ) : AP M_X9_allowed b 0 [.ref n] (st) hi g Φ := AP.aload_n (x := n) (i := 0) d_X9_allowed_0 rfl rfl h
theorem d_X9_allowed_1 : decode cX9_allowed 1 = .ok (.getfield 20, 3) := by decide +kernel
theorem s_X9_allowed_1 {k r : Nat} (hI : am_Inv g) (hs : am_SH k = (0, 9)) (hk : k < 134) (hr : am_HRf k 1 = some r) (hn : k ≠ 39) (h : AP M_X9_allowed b 4 [x0] (.ref r :: st) hi g Φ) : AP M_X9_allowed b 1 [x0] (.ref k :: st) hi g Φ := AP.getR (j := 1) (q := (RX9, TX9, 7)) d_X9_allowed_1 hs (hI.lt hk) rfl (by decide) (by decide) w_346 (hI.r hn hr) h
theorem d_X9_allowed_4 : decode cX9_allowed 4 = .ok (.getfield 148, 3) := by decide +kernel
theorem s_X9_allowed_4 {k : Nat} (hI : am_Inv g) (hs : am_SH k = (0, 6)) (hk : k < 134) (h : AP M_X9_allowed b 7 [x0] (.int (hi k 6) :: st) hi g Φ) : AP M_X9_allowed b 4 [x0] (.ref k :: st) hi g Φ := AP.getI (j := 6) (q := (RX6, TX6, 8)) d_X9_allowed_4 hs (hI.lt hk) rfl (by decide) (by decide) w_176 h
theorem d_X9_allowed_7 : decode cX9_allowed 7 = .ok (.ireturn, 1) := by decide +kernel
theorem s_X9_allowed_7 {x : Int32} (h : Φ (.ok (some (.int x))) hi g) : AP M_X9_allowed b 7 [x0] [.int x] hi g Φ := AP.iret d_X9_allowed_7 rfl h
end
section
variable {b : Nat × Nat} {st : List Value} {hi : am_HI} {g : am_G} {Φ : am_P} {x0 x1 x2 x3 x4 x5 : Value}
theorem d_X9_bitsOfDouble_0 : decode cX9_bitsOfDouble 0 = .ok (.dload_n 0, 1) := by decide +kernel
theorem s_X9_bitsOfDouble_0 {n : UInt64} (h : AP M_X9_bitsOfDouble b 1 [.double n, x1, x2, x3, x4, x5] (.double n :: st) hi g Φ) : AP M_X9_bitsOfDouble b 0 [.double n, x1, x2, x3, x4, x5] (st) hi g Φ := AP.dload_n (x := n) (i := 0) d_X9_bitsOfDouble_0 rfl rfl h
theorem d_X9_bitsOfDouble_1 : decode cX9_bitsOfDouble 1 = .ok (.dconst 0, 1) := by decide +kernel
theorem s_X9_bitsOfDouble_1 (h : AP M_X9_bitsOfDouble b 2 [x0, x1, x2, x3, x4, x5] (.double FP.dconst0 :: st) hi g Φ) : AP M_X9_bitsOfDouble b 1 [x0, x1, x2, x3, x4, x5] (st) hi g Φ := AP.dconst0 d_X9_bitsOfDouble_1 h
theorem d_X9_bitsOfDouble_2 : decode cX9_bitsOfDouble 2 = .ok (.dcmp .g, 1) := by decide +kernel
theorem s_X9_bitsOfDouble_2 {x y : UInt64} (h : AP M_X9_bitsOfDouble b 3 [x0, x1, x2, x3, x4, x5] (.int (Op.cmpValue (FP.dcmp x y) .g) :: st) hi g Φ) : AP M_X9_bitsOfDouble b 2 [x0, x1, x2, x3, x4, x5] (.double y :: .double x :: st) hi g Φ := AP.dcmp d_X9_bitsOfDouble_2 h
theorem d_X9_bitsOfDouble_3 : decode cX9_bitsOfDouble 3 = .ok (.ifCond .gt 5, 3) := by decide +kernel
theorem s_X9_bitsOfDouble_3 {x : Int32} (h1 : 0 < x → AP M_X9_bitsOfDouble b 8 [x0, x1, x2, x3, x4, x5] st hi g Φ) (h2 : ¬ 0 < x → AP M_X9_bitsOfDouble b 6 [x0, x1, x2, x3, x4, x5] st hi g Φ) : AP M_X9_bitsOfDouble b 3 [x0, x1, x2, x3, x4, x5] (.int x :: st) hi g Φ := AP.if_gt d_X9_bitsOfDouble_3 (by decide) h1 h2
theorem d_X9_bitsOfDouble_6 : decode cX9_bitsOfDouble 6 = .ok (.lconst 0, 1) := by decide +kernel
theorem s_X9_bitsOfDouble_6 (h : AP M_X9_bitsOfDouble b 7 [x0, x1, x2, x3, x4, x5] (.long 0 :: st) hi g Φ) : AP M_X9_bitsOfDouble b 6 [x0, x1, x2, x3, x4, x5] (st) hi g Φ := AP.lconst (x := 0) d_X9_bitsOfDouble_6 (by decide) h
theorem d_X9_bitsOfDouble_7 : decode cX9_bitsOfDouble 7 = .ok (.lreturn, 1) := by decide +kernel
theorem s_X9_bitsOfDouble_7 {x : Int64} (h : Φ (.ok (some (.long x))) hi g) : AP M_X9_bitsOfDouble b 7 [x0, x1, x2, x3, x4, x5] [.long x] hi g Φ := AP.lret d_X9_bitsOfDouble_7 rfl h
theorem d_X9_bitsOfDouble_8 : decode cX9_bitsOfDouble 8 = .ok (.dload_n 0, 1) := by decide +kernel
theorem s_X9_bitsOfDouble_8 {n : UInt64} (h : AP M_X9_bitsOfDouble b 9 [.double n, x1, x2, x3, x4, x5] (.double n :: st) hi g Φ) : AP M_X9_bitsOfDouble b 8 [.double n, x1, x2, x3, x4, x5] (st) hi g Φ := AP.dload_n (x := n) (i := 0) d_X9_bitsOfDouble_8 rfl rfl h
theorem d_X9_bitsOfDouble_9 : decode cX9_bitsOfDouble 9 = .ok (.dstore_n 2, 1) := by decide +kernel
theorem s_X9_bitsOfDouble_9 {n : UInt64} (hc : x1.category = 1) (h : AP M_X9_bitsOfDouble b 10 [x0, x1, .double n, jk, x4, x5] (st) hi g Φ) : AP M_X9_bitsOfDouble b 9 [x0, x1, x2, x3, x4, x5] (.double n :: st) hi g Φ := AP.dstore_n (x := n) (i := 2) d_X9_bitsOfDouble_9 rfl (by decide) (by simp [am_st, am_ci, am_cr, am_cl, am_cd, hc]) h
theorem d_X9_bitsOfDouble_10 : decode cX9_bitsOfDouble 10 = .ok (.ldc2_w 375, 3) := by decide +kernel
theorem s_X9_bitsOfDouble_10 (h : AP M_X9_bitsOfDouble b 13 [x0, x1, x2, x3, x4, x5] (.long 1023 :: st) hi g Φ) : AP M_X9_bitsOfDouble b 10 [x0, x1, x2, x3, x4, x5] (st) hi g Φ := AP.ldc2 (x := 1023) d_X9_bitsOfDouble_10 w_660 h
theorem d_X9_bitsOfDouble_13 : decode cX9_bitsOfDouble 13 = .ok (.lstore 4, 2) := by decide +kernel
theorem s_X9_bitsOfDouble_13 {n : Int64} (hc : x3.category = 1) (h : AP M_X9_bitsOfDouble b 15 [x0, x1, x2, x3, .long n, jk] (st) hi g Φ) : AP M_X9_bitsOfDouble b 13 [x0, x1, x2, x3, x4, x5] (.long n :: st) hi g Φ := AP.lstore (x := n) (i := 4) d_X9_bitsOfDouble_13 (by decide) (by simp [am_st, am_ci, am_cr, am_cl, am_cd, hc]) h
theorem d_X9_bitsOfDouble_15 : decode cX9_bitsOfDouble 15 = .ok (.dload_n 2, 1) := by decide +kernel
theorem s_X9_bitsOfDouble_15 {n : UInt64} (h : AP M_X9_bitsOfDouble b 16 [x0, x1, .double n, x3, x4, x5] (.double n :: st) hi g Φ) : AP M_X9_bitsOfDouble b 15 [x0, x1, .double n, x3, x4, x5] (st) hi g Φ := AP.dload_n (x := n) (i := 2) d_X9_bitsOfDouble_15 rfl rfl h
theorem d_X9_bitsOfDouble_16 : decode cX9_bitsOfDouble 16 = .ok (.ldc2_w 377, 3) := by decide +kernel
theorem s_X9_bitsOfDouble_16 (h : AP M_X9_bitsOfDouble b 19 [x0, x1, x2, x3, x4, x5] (.double 4611686018427387904 :: st) hi g Φ) : AP M_X9_bitsOfDouble b 16 [x0, x1, x2, x3, x4, x5] (st) hi g Φ := AP.ldc2d (x := 4611686018427387904) d_X9_bitsOfDouble_16 w_661 h
theorem d_X9_bitsOfDouble_19 : decode cX9_bitsOfDouble 19 = .ok (.dcmp .l, 1) := by decide +kernel
theorem s_X9_bitsOfDouble_19 {x y : UInt64} (h : AP M_X9_bitsOfDouble b 20 [x0, x1, x2, x3, x4, x5] (.int (Op.cmpValue (FP.dcmp x y) .l) :: st) hi g Φ) : AP M_X9_bitsOfDouble b 19 [x0, x1, x2, x3, x4, x5] (.double y :: .double x :: st) hi g Φ := AP.dcmp d_X9_bitsOfDouble_19 h
theorem d_X9_bitsOfDouble_20 : decode cX9_bitsOfDouble 20 = .ok (.ifCond .lt 27, 3) := by decide +kernel
theorem s_X9_bitsOfDouble_20 {x : Int32} (h1 : x < 0 → AP M_X9_bitsOfDouble b 47 [x0, x1, x2, x3, x4, x5] st hi g Φ) (h2 : ¬ x < 0 → AP M_X9_bitsOfDouble b 23 [x0, x1, x2, x3, x4, x5] st hi g Φ) : AP M_X9_bitsOfDouble b 20 [x0, x1, x2, x3, x4, x5] (.int x :: st) hi g Φ := AP.if_lt d_X9_bitsOfDouble_20 (by decide) h1 h2
theorem d_X9_bitsOfDouble_23 : decode cX9_bitsOfDouble 23 = .ok (.lload 4, 2) := by decide +kernel
theorem s_X9_bitsOfDouble_23 {n : Int64} (h : AP M_X9_bitsOfDouble b 25 [x0, x1, x2, x3, .long n, x5] (.long n :: st) hi g Φ) : AP M_X9_bitsOfDouble b 23 [x0, x1, x2, x3, .long n, x5] (st) hi g Φ := AP.lload (x := n) (i := 4) d_X9_bitsOfDouble_23 rfl h
theorem d_X9_bitsOfDouble_25 : decode cX9_bitsOfDouble 25 = .ok (.ldc2_w 379, 3) := by decide +kernel
theorem s_X9_bitsOfDouble_25 (h : AP M_X9_bitsOfDouble b 28 [x0, x1, x2, x3, x4, x5] (.long 2046 :: st) hi g Φ) : AP M_X9_bitsOfDouble b 25 [x0, x1, x2, x3, x4, x5] (st) hi g Φ := AP.ldc2 (x := 2046) d_X9_bitsOfDouble_25 w_662 h
theorem d_X9_bitsOfDouble_28 : decode cX9_bitsOfDouble 28 = .ok (.lcmp, 1) := by decide +kernel
theorem s_X9_bitsOfDouble_28 {x y : Int64} (h : AP M_X9_bitsOfDouble b 29 [x0, x1, x2, x3, x4, x5] (.int (lg_cmp x y) :: st) hi g Φ) : AP M_X9_bitsOfDouble b 28 [x0, x1, x2, x3, x4, x5] (.long y :: .long x :: st) hi g Φ := AP.lcmp d_X9_bitsOfDouble_28 h
theorem d_X9_bitsOfDouble_29 : decode cX9_bitsOfDouble 29 = .ok (.ifCond .ge 18, 3) := by decide +kernel
theorem s_X9_bitsOfDouble_29 {x : Int32} (h1 : 0 ≤ x → AP M_X9_bitsOfDouble b 47 [x0, x1, x2, x3, x4, x5] st hi g Φ) (h2 : ¬ 0 ≤ x → AP M_X9_bitsOfDouble b 32 [x0, x1, x2, x3, x4, x5] st hi g Φ) : AP M_X9_bitsOfDouble b 29 [x0, x1, x2, x3, x4, x5] (.int x :: st) hi g Φ := AP.if_ge d_X9_bitsOfDouble_29 (by decide) h1 h2
theorem d_X9_bitsOfDouble_32 : decode cX9_bitsOfDouble 32 = .ok (.dload_n 2, 1) := by decide +kernel
theorem s_X9_bitsOfDouble_32 {n : UInt64} (h : AP M_X9_bitsOfDouble b 33 [x0, x1, .double n, x3, x4, x5] (.double n :: st) hi g Φ) : AP M_X9_bitsOfDouble b 32 [x0, x1, .double n, x3, x4, x5] (st) hi g Φ := AP.dload_n (x := n) (i := 2) d_X9_bitsOfDouble_32 rfl rfl h
theorem d_X9_bitsOfDouble_33 : decode cX9_bitsOfDouble 33 = .ok (.ldc2_w 377, 3) := by decide +kernel
theorem s_X9_bitsOfDouble_33 (h : AP M_X9_bitsOfDouble b 36 [x0, x1, x2, x3, x4, x5] (.double 4611686018427387904 :: st) hi g Φ) : AP M_X9_bitsOfDouble b 33 [x0, x1, x2, x3, x4, x5] (st) hi g Φ := AP.ldc2d (x := 4611686018427387904) d_X9_bitsOfDouble_33 w_661 h
theorem d_X9_bitsOfDouble_36 : decode cX9_bitsOfDouble 36 = .ok (.ddiv, 1) := by decide +kernel
theorem s_X9_bitsOfDouble_36 {x y : UInt64} (hn : vf_n64 (FP.ddiv x y)) (h : AP M_X9_bitsOfDouble b 37 [x0, x1, x2, x3, x4, x5] (.double (FP.ddiv x y) :: st) hi g Φ) : AP M_X9_bitsOfDouble b 36 [x0, x1, x2, x3, x4, x5] (.double y :: .double x :: st) hi g Φ := AP.ddiv d_X9_bitsOfDouble_36 hn h
theorem d_X9_bitsOfDouble_37 : decode cX9_bitsOfDouble 37 = .ok (.dstore_n 2, 1) := by decide +kernel
theorem s_X9_bitsOfDouble_37 {n : UInt64} (hc : x1.category = 1) (h : AP M_X9_bitsOfDouble b 38 [x0, x1, .double n, jk, x4, x5] (st) hi g Φ) : AP M_X9_bitsOfDouble b 37 [x0, x1, x2, x3, x4, x5] (.double n :: st) hi g Φ := AP.dstore_n (x := n) (i := 2) d_X9_bitsOfDouble_37 rfl (by decide) (by simp [am_st, am_ci, am_cr, am_cl, am_cd, hc]) h
theorem d_X9_bitsOfDouble_38 : decode cX9_bitsOfDouble 38 = .ok (.lload 4, 2) := by decide +kernel
theorem s_X9_bitsOfDouble_38 {n : Int64} (h : AP M_X9_bitsOfDouble b 40 [x0, x1, x2, x3, .long n, x5] (.long n :: st) hi g Φ) : AP M_X9_bitsOfDouble b 38 [x0, x1, x2, x3, .long n, x5] (st) hi g Φ := AP.lload (x := n) (i := 4) d_X9_bitsOfDouble_38 rfl h
theorem d_X9_bitsOfDouble_40 : decode cX9_bitsOfDouble 40 = .ok (.lconst 1, 1) := by decide +kernel
theorem s_X9_bitsOfDouble_40 (h : AP M_X9_bitsOfDouble b 41 [x0, x1, x2, x3, x4, x5] (.long 1 :: st) hi g Φ) : AP M_X9_bitsOfDouble b 40 [x0, x1, x2, x3, x4, x5] (st) hi g Φ := AP.lconst (x := 1) d_X9_bitsOfDouble_40 (by decide) h
theorem d_X9_bitsOfDouble_41 : decode cX9_bitsOfDouble 41 = .ok (.ladd, 1) := by decide +kernel
theorem s_X9_bitsOfDouble_41 {x y : Int64} (h : AP M_X9_bitsOfDouble b 42 [x0, x1, x2, x3, x4, x5] (.long (x + y) :: st) hi g Φ) : AP M_X9_bitsOfDouble b 41 [x0, x1, x2, x3, x4, x5] (.long y :: .long x :: st) hi g Φ := AP.ladd d_X9_bitsOfDouble_41 h
theorem d_X9_bitsOfDouble_42 : decode cX9_bitsOfDouble 42 = .ok (.lstore 4, 2) := by decide +kernel
theorem s_X9_bitsOfDouble_42 {n : Int64} (hc : x3.category = 1) (h : AP M_X9_bitsOfDouble b 44 [x0, x1, x2, x3, .long n, jk] (st) hi g Φ) : AP M_X9_bitsOfDouble b 42 [x0, x1, x2, x3, x4, x5] (.long n :: st) hi g Φ := AP.lstore (x := n) (i := 4) d_X9_bitsOfDouble_42 (by decide) (by simp [am_st, am_ci, am_cr, am_cl, am_cd, hc]) h
theorem d_X9_bitsOfDouble_44 : decode cX9_bitsOfDouble 44 = .ok (.goto (-29), 3) := by decide +kernel
theorem s_X9_bitsOfDouble_44 (h : AP M_X9_bitsOfDouble b 15 [x0, x1, x2, x3, x4, x5] st hi g Φ) : AP M_X9_bitsOfDouble b 44 [x0, x1, x2, x3, x4, x5] st hi g Φ := AP.goto d_X9_bitsOfDouble_44 (by decide) h
theorem d_X9_bitsOfDouble_47 : decode cX9_bitsOfDouble 47 = .ok (.dload_n 2, 1) := by decide +kernel
theorem s_X9_bitsOfDouble_47 {n : UInt64} (h : AP M_X9_bitsOfDouble b 48 [x0, x1, .double n, x3, x4, x5] (.double n :: st) hi g Φ) : AP M_X9_bitsOfDouble b 47 [x0, x1, .double n, x3, x4, x5] (st) hi g Φ := AP.dload_n (x := n) (i := 2) d_X9_bitsOfDouble_47 rfl rfl h
theorem d_X9_bitsOfDouble_48 : decode cX9_bitsOfDouble 48 = .ok (.dconst 1, 1) := by decide +kernel
theorem s_X9_bitsOfDouble_48 (h : AP M_X9_bitsOfDouble b 49 [x0, x1, x2, x3, x4, x5] (.double FP.dconst1 :: st) hi g Φ) : AP M_X9_bitsOfDouble b 48 [x0, x1, x2, x3, x4, x5] (st) hi g Φ := AP.dconst1 d_X9_bitsOfDouble_48 h
theorem d_X9_bitsOfDouble_49 : decode cX9_bitsOfDouble 49 = .ok (.dcmp .g, 1) := by decide +kernel
theorem s_X9_bitsOfDouble_49 {x y : UInt64} (h : AP M_X9_bitsOfDouble b 50 [x0, x1, x2, x3, x4, x5] (.int (Op.cmpValue (FP.dcmp x y) .g) :: st) hi g Φ) : AP M_X9_bitsOfDouble b 49 [x0, x1, x2, x3, x4, x5] (.double y :: .double x :: st) hi g Φ := AP.dcmp d_X9_bitsOfDouble_49 h
theorem d_X9_bitsOfDouble_50 : decode cX9_bitsOfDouble 50 = .ok (.ifCond .ge 25, 3) := by decide +kernel
theorem s_X9_bitsOfDouble_50 {x : Int32} (h1 : 0 ≤ x → AP M_X9_bitsOfDouble b 75 [x0, x1, x2, x3, x4, x5] st hi g Φ) (h2 : ¬ 0 ≤ x → AP M_X9_bitsOfDouble b 53 [x0, x1, x2, x3, x4, x5] st hi g Φ) : AP M_X9_bitsOfDouble b 50 [x0, x1, x2, x3, x4, x5] (.int x :: st) hi g Φ := AP.if_ge d_X9_bitsOfDouble_50 (by decide) h1 h2
theorem d_X9_bitsOfDouble_53 : decode cX9_bitsOfDouble 53 = .ok (.lload 4, 2) := by decide +kernel
theorem s_X9_bitsOfDouble_53 {n : Int64} (h : AP M_X9_bitsOfDouble b 55 [x0, x1, x2, x3, .long n, x5] (.long n :: st) hi g Φ) : AP M_X9_bitsOfDouble b 53 [x0, x1, x2, x3, .long n, x5] (st) hi g Φ := AP.lload (x := n) (i := 4) d_X9_bitsOfDouble_53 rfl h
theorem d_X9_bitsOfDouble_55 : decode cX9_bitsOfDouble 55 = .ok (.lconst 1, 1) := by decide +kernel
theorem s_X9_bitsOfDouble_55 (h : AP M_X9_bitsOfDouble b 56 [x0, x1, x2, x3, x4, x5] (.long 1 :: st) hi g Φ) : AP M_X9_bitsOfDouble b 55 [x0, x1, x2, x3, x4, x5] (st) hi g Φ := AP.lconst (x := 1) d_X9_bitsOfDouble_55 (by decide) h
theorem d_X9_bitsOfDouble_56 : decode cX9_bitsOfDouble 56 = .ok (.lcmp, 1) := by decide +kernel
theorem s_X9_bitsOfDouble_56 {x y : Int64} (h : AP M_X9_bitsOfDouble b 57 [x0, x1, x2, x3, x4, x5] (.int (lg_cmp x y) :: st) hi g Φ) : AP M_X9_bitsOfDouble b 56 [x0, x1, x2, x3, x4, x5] (.long y :: .long x :: st) hi g Φ := AP.lcmp d_X9_bitsOfDouble_56 h
theorem d_X9_bitsOfDouble_57 : decode cX9_bitsOfDouble 57 = .ok (.ifCond .le 18, 3) := by decide +kernel
theorem s_X9_bitsOfDouble_57 {x : Int32} (h1 : x ≤ 0 → AP M_X9_bitsOfDouble b 75 [x0, x1, x2, x3, x4, x5] st hi g Φ) (h2 : ¬ x ≤ 0 → AP M_X9_bitsOfDouble b 60 [x0, x1, x2, x3, x4, x5] st hi g Φ) : AP M_X9_bitsOfDouble b 57 [x0, x1, x2, x3, x4, x5] (.int x :: st) hi g Φ := AP.if_le d_X9_bitsOfDouble_57 (by decide) h1 h2
theorem d_X9_bitsOfDouble_60 : decode cX9_bitsOfDouble 60 = .ok (.dload_n 2, 1) := by decide +kernel
theorem s_X9_bitsOfDouble_60 {n : UInt64} (h : AP M_X9_bitsOfDouble b 61 [x0, x1, .double n, x3, x4, x5] (.double n :: st) hi g Φ) : AP M_X9_bitsOfDouble b 60 [x0, x1, .double n, x3, x4, x5] (st) hi g Φ := AP.dload_n (x := n) (i := 2) d_X9_bitsOfDouble_60 rfl rfl h
theorem d_X9_bitsOfDouble_61 : decode cX9_bitsOfDouble 61 = .ok (.ldc2_w 377, 3) := by decide +kernel
theorem s_X9_bitsOfDouble_61 (h : AP M_X9_bitsOfDouble b 64 [x0, x1, x2, x3, x4, x5] (.double 4611686018427387904 :: st) hi g Φ) : AP M_X9_bitsOfDouble b 61 [x0, x1, x2, x3, x4, x5] (st) hi g Φ := AP.ldc2d (x := 4611686018427387904) d_X9_bitsOfDouble_61 w_661 h
theorem d_X9_bitsOfDouble_64 : decode cX9_bitsOfDouble 64 = .ok (.dmul, 1) := by decide +kernel
theorem s_X9_bitsOfDouble_64 {x y : UInt64} (hn : vf_n64 (FP.dmul x y)) (h : AP M_X9_bitsOfDouble b 65 [x0, x1, x2, x3, x4, x5] (.double (FP.dmul x y) :: st) hi g Φ) : AP M_X9_bitsOfDouble b 64 [x0, x1, x2, x3, x4, x5] (.double y :: .double x :: st) hi g Φ := AP.dmul d_X9_bitsOfDouble_64 hn h
theorem d_X9_bitsOfDouble_65 : decode cX9_bitsOfDouble 65 = .ok (.dstore_n 2, 1) := by decide +kernel
theorem s_X9_bitsOfDouble_65 {n : UInt64} (hc : x1.category = 1) (h : AP M_X9_bitsOfDouble b 66 [x0, x1, .double n, jk, x4, x5] (st) hi g Φ) : AP M_X9_bitsOfDouble b 65 [x0, x1, x2, x3, x4, x5] (.double n :: st) hi g Φ := AP.dstore_n (x := n) (i := 2) d_X9_bitsOfDouble_65 rfl (by decide) (by simp [am_st, am_ci, am_cr, am_cl, am_cd, hc]) h
theorem d_X9_bitsOfDouble_66 : decode cX9_bitsOfDouble 66 = .ok (.lload 4, 2) := by decide +kernel
theorem s_X9_bitsOfDouble_66 {n : Int64} (h : AP M_X9_bitsOfDouble b 68 [x0, x1, x2, x3, .long n, x5] (.long n :: st) hi g Φ) : AP M_X9_bitsOfDouble b 66 [x0, x1, x2, x3, .long n, x5] (st) hi g Φ := AP.lload (x := n) (i := 4) d_X9_bitsOfDouble_66 rfl h
theorem d_X9_bitsOfDouble_68 : decode cX9_bitsOfDouble 68 = .ok (.lconst 1, 1) := by decide +kernel
theorem s_X9_bitsOfDouble_68 (h : AP M_X9_bitsOfDouble b 69 [x0, x1, x2, x3, x4, x5] (.long 1 :: st) hi g Φ) : AP M_X9_bitsOfDouble b 68 [x0, x1, x2, x3, x4, x5] (st) hi g Φ := AP.lconst (x := 1) d_X9_bitsOfDouble_68 (by decide) h
theorem d_X9_bitsOfDouble_69 : decode cX9_bitsOfDouble 69 = .ok (.lsub, 1) := by decide +kernel
theorem s_X9_bitsOfDouble_69 {x y : Int64} (h : AP M_X9_bitsOfDouble b 70 [x0, x1, x2, x3, x4, x5] (.long (x - y) :: st) hi g Φ) : AP M_X9_bitsOfDouble b 69 [x0, x1, x2, x3, x4, x5] (.long y :: .long x :: st) hi g Φ := AP.lsub d_X9_bitsOfDouble_69 h
theorem d_X9_bitsOfDouble_70 : decode cX9_bitsOfDouble 70 = .ok (.lstore 4, 2) := by decide +kernel
theorem s_X9_bitsOfDouble_70 {n : Int64} (hc : x3.category = 1) (h : AP M_X9_bitsOfDouble b 72 [x0, x1, x2, x3, .long n, jk] (st) hi g Φ) : AP M_X9_bitsOfDouble b 70 [x0, x1, x2, x3, x4, x5] (.long n :: st) hi g Φ := AP.lstore (x := n) (i := 4) d_X9_bitsOfDouble_70 (by decide) (by simp [am_st, am_ci, am_cr, am_cl, am_cd, hc]) h
theorem d_X9_bitsOfDouble_72 : decode cX9_bitsOfDouble 72 = .ok (.goto (-25), 3) := by decide +kernel
theorem s_X9_bitsOfDouble_72 (h : AP M_X9_bitsOfDouble b 47 [x0, x1, x2, x3, x4, x5] st hi g Φ) : AP M_X9_bitsOfDouble b 72 [x0, x1, x2, x3, x4, x5] st hi g Φ := AP.goto d_X9_bitsOfDouble_72 (by decide) h
theorem d_X9_bitsOfDouble_75 : decode cX9_bitsOfDouble 75 = .ok (.lload 4, 2) := by decide +kernel
theorem s_X9_bitsOfDouble_75 {n : Int64} (h : AP M_X9_bitsOfDouble b 77 [x0, x1, x2, x3, .long n, x5] (.long n :: st) hi g Φ) : AP M_X9_bitsOfDouble b 75 [x0, x1, x2, x3, .long n, x5] (st) hi g Φ := AP.lload (x := n) (i := 4) d_X9_bitsOfDouble_75 rfl h
theorem d_X9_bitsOfDouble_77 : decode cX9_bitsOfDouble 77 = .ok (.bipush 52, 2) := by decide +kernel
theorem s_X9_bitsOfDouble_77 (h : AP M_X9_bitsOfDouble b 79 [x0, x1, x2, x3, x4, x5] (.int 52 :: st) hi g Φ) : AP M_X9_bitsOfDouble b 77 [x0, x1, x2, x3, x4, x5] (st) hi g Φ := AP.bipush (x := 52) d_X9_bitsOfDouble_77 (by decide) h
theorem d_X9_bitsOfDouble_79 : decode cX9_bitsOfDouble 79 = .ok (.lshl, 1) := by decide +kernel
theorem s_X9_bitsOfDouble_79 {x : Int64} {y : Int32} (h : AP M_X9_bitsOfDouble b 80 [x0, x1, x2, x3, x4, x5] (.long (x <<< (y.toInt64 &&& 63)) :: st) hi g Φ) : AP M_X9_bitsOfDouble b 79 [x0, x1, x2, x3, x4, x5] (.int y :: .long x :: st) hi g Φ := AP.lshl d_X9_bitsOfDouble_79 h
theorem d_X9_bitsOfDouble_80 : decode cX9_bitsOfDouble 80 = .ok (.dload_n 2, 1) := by decide +kernel
theorem s_X9_bitsOfDouble_80 {n : UInt64} (h : AP M_X9_bitsOfDouble b 81 [x0, x1, .double n, x3, x4, x5] (.double n :: st) hi g Φ) : AP M_X9_bitsOfDouble b 80 [x0, x1, .double n, x3, x4, x5] (st) hi g Φ := AP.dload_n (x := n) (i := 2) d_X9_bitsOfDouble_80 rfl rfl h
theorem d_X9_bitsOfDouble_81 : decode cX9_bitsOfDouble 81 = .ok (.dconst 1, 1) := by decide +kernel
theorem s_X9_bitsOfDouble_81 (h : AP M_X9_bitsOfDouble b 82 [x0, x1, x2, x3, x4, x5] (.double FP.dconst1 :: st) hi g Φ) : AP M_X9_bitsOfDouble b 81 [x0, x1, x2, x3, x4, x5] (st) hi g Φ := AP.dconst1 d_X9_bitsOfDouble_81 h
theorem d_X9_bitsOfDouble_82 : decode cX9_bitsOfDouble 82 = .ok (.dsub, 1) := by decide +kernel
theorem s_X9_bitsOfDouble_82 {x y : UInt64} (hn : vf_n64 (FP.dsub x y)) (h : AP M_X9_bitsOfDouble b 83 [x0, x1, x2, x3, x4, x5] (.double (FP.dsub x y) :: st) hi g Φ) : AP M_X9_bitsOfDouble b 82 [x0, x1, x2, x3, x4, x5] (.double y :: .double x :: st) hi g Φ := AP.dsub d_X9_bitsOfDouble_82 hn h
theorem d_X9_bitsOfDouble_83 : decode cX9_bitsOfDouble 83 = .ok (.ldc2_w 381, 3) := by decide +kernel
theorem s_X9_bitsOfDouble_83 (h : AP M_X9_bitsOfDouble b 86 [x0, x1, x2, x3, x4, x5] (.double 4841369599423283200 :: st) hi g Φ) : AP M_X9_bitsOfDouble b 83 [x0, x1, x2, x3, x4, x5] (st) hi g Φ := AP.ldc2d (x := 4841369599423283200) d_X9_bitsOfDouble_83 w_663 h
theorem d_X9_bitsOfDouble_86 : decode cX9_bitsOfDouble 86 = .ok (.dmul, 1) := by decide +kernel
theorem s_X9_bitsOfDouble_86 {x y : UInt64} (hn : vf_n64 (FP.dmul x y)) (h : AP M_X9_bitsOfDouble b 87 [x0, x1, x2, x3, x4, x5] (.double (FP.dmul x y) :: st) hi g Φ) : AP M_X9_bitsOfDouble b 86 [x0, x1, x2, x3, x4, x5] (.double y :: .double x :: st) hi g Φ := AP.dmul d_X9_bitsOfDouble_86 hn h
theorem d_X9_bitsOfDouble_87 : decode cX9_bitsOfDouble 87 = .ok (.d2l, 1) := by decide +kernel
theorem s_X9_bitsOfDouble_87 {x : UInt64} (h : AP M_X9_bitsOfDouble b 88 [x0, x1, x2, x3, x4, x5] (.long (FP.d2l x) :: st) hi g Φ) : AP M_X9_bitsOfDouble b 87 [x0, x1, x2, x3, x4, x5] (.double x :: st) hi g Φ := AP.d2l d_X9_bitsOfDouble_87 h
theorem d_X9_bitsOfDouble_88 : decode cX9_bitsOfDouble 88 = .ok (.lor, 1) := by decide +kernel
theorem s_X9_bitsOfDouble_88 {x y : Int64} (h : AP M_X9_bitsOfDouble b 89 [x0, x1, x2, x3, x4, x5] (.long (x ||| y) :: st) hi g Φ) : AP M_X9_bitsOfDouble b 88 [x0, x1, x2, x3, x4, x5] (.long y :: .long x :: st) hi g Φ := AP.lor d_X9_bitsOfDouble_88 h
theorem d_X9_bitsOfDouble_89 : decode cX9_bitsOfDouble 89 = .ok (.lreturn, 1) := by decide +kernel
theorem s_X9_bitsOfDouble_89 {x : Int64} (h : Φ (.ok (some (.long x))) hi g) : AP M_X9_bitsOfDouble b 89 [x0, x1, x2, x3, x4, x5] [.long x] hi g Φ := AP.lret d_X9_bitsOfDouble_89 rfl h
end
section
variable {b : Nat × Nat} {st : List Value} {hi : am_HI} {g : am_G} {Φ : am_P} {x0 x1 : Value}
theorem d_X9_bitsOfFolded_0 : decode cX9_bitsOfFolded 0 = .ok (.iload_n 0, 1) := by decide +kernel
theorem s_X9_bitsOfFolded_0 {n : Int32} (h : AP M_X9_bitsOfFolded b 1 [.int n, x1] (.int n :: st) hi g Φ) : AP M_X9_bitsOfFolded b 0 [.int n, x1] (st) hi g Φ := AP.iload_n (x := n) (i := 0) d_X9_bitsOfFolded_0 rfl rfl h
theorem d_X9_bitsOfFolded_1 : decode cX9_bitsOfFolded 1 = .ok (.iload_n 1, 1) := by decide +kernel
theorem s_X9_bitsOfFolded_1 {n : Int32} (h : AP M_X9_bitsOfFolded b 2 [x0, .int n] (.int n :: st) hi g Φ) : AP M_X9_bitsOfFolded b 1 [x0, .int n] (st) hi g Φ := AP.iload_n (x := n) (i := 1) d_X9_bitsOfFolded_1 rfl rfl h
theorem d_X9_bitsOfFolded_2 : decode cX9_bitsOfFolded 2 = .ok (.ishr, 1) := by decide +kernel
theorem s_X9_bitsOfFolded_2 {x y : Int32} (h : AP M_X9_bitsOfFolded b 3 [x0, x1] (.int (x >>> (y &&& 31)) :: st) hi g Φ) : AP M_X9_bitsOfFolded b 2 [x0, x1] (.int y :: .int x :: st) hi g Φ := AP.ishr d_X9_bitsOfFolded_2 h
theorem d_X9_bitsOfFolded_3 : decode cX9_bitsOfFolded 3 = .ok (.iconst 1, 1) := by decide +kernel
theorem s_X9_bitsOfFolded_3 (h : AP M_X9_bitsOfFolded b 4 [x0, x1] (.int 1 :: st) hi g Φ) : AP M_X9_bitsOfFolded b 3 [x0, x1] (st) hi g Φ := AP.iconst (x := 1) d_X9_bitsOfFolded_3 (by decide) h
theorem d_X9_bitsOfFolded_4 : decode cX9_bitsOfFolded 4 = .ok (.iadd, 1) := by decide +kernel
theorem s_X9_bitsOfFolded_4 {x y : Int32} (h : AP M_X9_bitsOfFolded b 5 [x0, x1] (.int (x + y) :: st) hi g Φ) : AP M_X9_bitsOfFolded b 4 [x0, x1] (.int y :: .int x :: st) hi g Φ := AP.iadd d_X9_bitsOfFolded_4 h
theorem d_X9_bitsOfFolded_5 : decode cX9_bitsOfFolded 5 = .ok (.iload_n 1, 1) := by decide +kernel
theorem s_X9_bitsOfFolded_5 {n : Int32} (h : AP M_X9_bitsOfFolded b 6 [x0, .int n] (.int n :: st) hi g Φ) : AP M_X9_bitsOfFolded b 5 [x0, .int n] (st) hi g Φ := AP.iload_n (x := n) (i := 1) d_X9_bitsOfFolded_5 rfl rfl h
theorem d_X9_bitsOfFolded_6 : decode cX9_bitsOfFolded 6 = .ok (.iadd, 1) := by decide +kernel
theorem s_X9_bitsOfFolded_6 {x y : Int32} (h : AP M_X9_bitsOfFolded b 7 [x0, x1] (.int (x + y) :: st) hi g Φ) : AP M_X9_bitsOfFolded b 6 [x0, x1] (.int y :: .int x :: st) hi g Φ := AP.iadd d_X9_bitsOfFolded_6 h
theorem d_X9_bitsOfFolded_7 : decode cX9_bitsOfFolded 7 = .ok (.ireturn, 1) := by decide +kernel
theorem s_X9_bitsOfFolded_7 {x : Int32} (h : Φ (.ok (some (.int x))) hi g) : AP M_X9_bitsOfFolded b 7 [x0, x1] [.int x] hi g Φ := AP.iret d_X9_bitsOfFolded_7 rfl h
end
section
variable {b : Nat × Nat} {st : List Value} {hi : am_HI} {g : am_G} {Φ : am_P} {x0 : Value}
theorem d_X9_blocksOf_0 : decode cX9_blocksOf 0 = .ok (.iload_n 0, 1) := by decide +kernel
theorem s_X9_blocksOf_0 {n : Int32} (h : AP M_X9_blocksOf b 1 [.int n] (.int n :: st) hi g Φ) : AP M_X9_blocksOf b 0 [.int n] (st) hi g Φ := AP.iload_n (x := n) (i := 0) d_X9_blocksOf_0 rfl rfl h
theorem d_X9_blocksOf_1 : decode cX9_blocksOf 1 = .ok (.bipush 8, 2) := by decide +kernel
theorem s_X9_blocksOf_1 (h : AP M_X9_blocksOf b 3 [x0] (.int 8 :: st) hi g Φ) : AP M_X9_blocksOf b 1 [x0] (st) hi g Φ := AP.bipush (x := 8) d_X9_blocksOf_1 (by decide) h
theorem d_X9_blocksOf_3 : decode cX9_blocksOf 3 = .ok (.iadd, 1) := by decide +kernel
theorem s_X9_blocksOf_3 {x y : Int32} (h : AP M_X9_blocksOf b 4 [x0] (.int (x + y) :: st) hi g Φ) : AP M_X9_blocksOf b 3 [x0] (.int y :: .int x :: st) hi g Φ := AP.iadd d_X9_blocksOf_3 h
theorem d_X9_blocksOf_4 : decode cX9_blocksOf 4 = .ok (.iconst 1, 1) := by decide +kernel
theorem s_X9_blocksOf_4 (h : AP M_X9_blocksOf b 5 [x0] (.int 1 :: st) hi g Φ) : AP M_X9_blocksOf b 4 [x0] (st) hi g Φ := AP.iconst (x := 1) d_X9_blocksOf_4 (by decide) h
theorem d_X9_blocksOf_5 : decode cX9_blocksOf 5 = .ok (.isub, 1) := by decide +kernel
theorem s_X9_blocksOf_5 {x y : Int32} (h : AP M_X9_blocksOf b 6 [x0] (.int (x - y) :: st) hi g Φ) : AP M_X9_blocksOf b 5 [x0] (.int y :: .int x :: st) hi g Φ := AP.isub d_X9_blocksOf_5 h
theorem d_X9_blocksOf_6 : decode cX9_blocksOf 6 = .ok (.bipush 8, 2) := by decide +kernel
theorem s_X9_blocksOf_6 (h : AP M_X9_blocksOf b 8 [x0] (.int 8 :: st) hi g Φ) : AP M_X9_blocksOf b 6 [x0] (st) hi g Φ := AP.bipush (x := 8) d_X9_blocksOf_6 (by decide) h
theorem d_X9_blocksOf_8 : decode cX9_blocksOf 8 = .ok (.idiv, 1) := by decide +kernel
theorem s_X9_blocksOf_8 {x y : Int32} (hy : ¬ y = 0) (h : AP M_X9_blocksOf b 9 [x0] (.int (x / y) :: st) hi g Φ) : AP M_X9_blocksOf b 8 [x0] (.int y :: .int x :: st) hi g Φ := AP.idiv d_X9_blocksOf_8 hy h
theorem d_X9_blocksOf_9 : decode cX9_blocksOf 9 = .ok (.ireturn, 1) := by decide +kernel
theorem s_X9_blocksOf_9 {x : Int32} (h : Φ (.ok (some (.int x))) hi g) : AP M_X9_blocksOf b 9 [x0] [.int x] hi g Φ := AP.iret d_X9_blocksOf_9 rfl h
end
section
variable {b : Nat × Nat} {st : List Value} {hi : am_HI} {g : am_G} {Φ : am_P} {x0 x1 : Value}
theorem d_X9_clearText_0 : decode cX9_clearText 0 = .ok (.aload_n 0, 1) := by decide +kernel
theorem s_X9_clearText_0 {n : Nat} (h : AP M_X9_clearText b 1 [.ref n, x1] (.ref n :: st) hi g Φ) : AP M_X9_clearText b 0 [.ref n, x1] (st) hi g Φ := AP.aload_n (x := n) (i := 0) d_X9_clearText_0 rfl rfl h
theorem d_X9_clearText_1 : decode cX9_clearText 1 = .ok (.getfield 40, 3) := by decide +kernel
theorem s_X9_clearText_1 {k r : Nat} (hI : am_Inv g) (hs : am_SH k = (0, 9)) (hk : k < 134) (hr : am_HRf k 4 = some r) (hn : k ≠ 39) (h : AP M_X9_clearText b 4 [x0, x1] (.ref r :: st) hi g Φ) : AP M_X9_clearText b 1 [x0, x1] (.ref k :: st) hi g Φ := AP.getR (j := 4) (q := (RX9, TX9, 7)) d_X9_clearText_1 hs (hI.lt hk) rfl (by decide) (by decide) w_349 (hI.r hn hr) h
theorem d_X9_clearText_4 : decode cX9_clearText 4 = .ok (.getfield 259, 3) := by decide +kernel
theorem s_X9_clearText_4 {k : Nat} (hI : am_Inv g) (hs : am_SH k = (0, 8)) (hk : k < 134) (h : AP M_X9_clearText b 7 [x0, x1] (.int (hi k 1) :: st) hi g Φ) : AP M_X9_clearText b 4 [x0, x1] (.ref k :: st) hi g Φ := AP.getI (j := 1) (q := (RX8, TX8, 6)) d_X9_clearText_4 hs (hI.lt hk) rfl (by decide) (by decide) w_293 h
theorem d_X9_clearText_7 : decode cX9_clearText 7 = .ok (.istore_n 1, 1) := by decide +kernel
theorem s_X9_clearText_7 {n : Int32} (hc : x0.category = 1) (h : AP M_X9_clearText b 8 [x0, .int n] (st) hi g Φ) : AP M_X9_clearText b 7 [x0, x1] (.int n :: st) hi g Φ := AP.istore_n (x := n) (i := 1) d_X9_clearText_7 rfl (by decide) (by simp [am_st, am_ci, am_cr, am_cl, am_cd, hc]) h
theorem d_X9_clearText_8 : decode cX9_clearText 8 = .ok (.aload_n 0, 1) := by decide +kernel
theorem s_X9_clearText_8 {n : Nat} (h : AP M_X9_clearText b 9 [.ref n, x1] (.ref n :: st) hi g Φ) : AP M_X9_clearText b 8 [.ref n, x1] (st) hi g Φ := AP.aload_n (x := n) (i := 0) d_X9_clearText_8 rfl rfl h
theorem d_X9_clearText_9 : decode cX9_clearText 9 = .ok (.getfield 40, 3) := by decide +kernel
theorem s_X9_clearText_9 {k r : Nat} (hI : am_Inv g) (hs : am_SH k = (0, 9)) (hk : k < 134) (hr : am_HRf k 4 = some r) (hn : k ≠ 39) (h : AP M_X9_clearText b 12 [x0, x1] (.ref r :: st) hi g Φ) : AP M_X9_clearText b 9 [x0, x1] (.ref k :: st) hi g Φ := AP.getR (j := 4) (q := (RX9, TX9, 7)) d_X9_clearText_9 hs (hI.lt hk) rfl (by decide) (by decide) w_349 (hI.r hn hr) h
theorem d_X9_clearText_12 : decode cX9_clearText 12 = .ok (.iconst 0, 1) := by decide +kernel
theorem s_X9_clearText_12 (h : AP M_X9_clearText b 13 [x0, x1] (.int 0 :: st) hi g Φ) : AP M_X9_clearText b 12 [x0, x1] (st) hi g Φ := AP.iconst (x := 0) d_X9_clearText_12 (by decide) h
theorem d_X9_clearText_13 : decode cX9_clearText 13 = .ok (.putfield 259, 3) := by decide +kernel
theorem s_X9_clearText_13 {k : Nat} {n : Int32} (hI : am_Inv g) (hs : am_SH k = (0, 8)) (hk : k < 134) (h : AP M_X9_clearText b 16 [x0, x1] (st) (am_up hi k 1 n) g Φ) : AP M_X9_clearText b 13 [x0, x1] (.int n :: .ref k :: st) hi g Φ := AP.putI (j := 1) (q := (RX8, TX8, 6)) d_X9_clearText_13 hs (hI.lt hk) rfl (by decide) rfl rfl w_293 h
theorem d_X9_clearText_16 : decode cX9_clearText 16 = .ok (.iload_n 1, 1) := by decide +kernel
theorem s_X9_clearText_16 {n : Int32} (h : AP M_X9_clearText b 17 [x0, .int n] (.int n :: st) hi g Φ) : AP M_X9_clearText b 16 [x0, .int n] (st) hi g Φ := AP.iload_n (x := n) (i := 1) d_X9_clearText_16 rfl rfl h
theorem d_X9_clearText_17 : decode cX9_clearText 17 = .ok (.ireturn, 1) := by decide +kernel
theorem s_X9_clearText_17 {x : Int32} (h : Φ (.ok (some (.int x))) hi g) : AP M_X9_clearText b 17 [x0, x1] [.int x] hi g Φ := AP.iret d_X9_clearText_17 rfl h
end
section
variable {b : Nat × Nat} {st : List Value} {hi : am_HI} {g : am_G} {Φ : am_P} {x0 : Value}
theorem d_X9_delay_0 : decode cX9_delay 0 = .ok (.aload_n 0, 1) := by decide +kernel
theorem s_X9_delay_0 {n : Nat} (h : AP M_X9_delay b 1 [.ref n] (.ref n :: st) hi g Φ) : AP M_X9_delay b 0 [.ref n] (st) hi g Φ := AP.aload_n (x := n) (i := 0) d_X9_delay_0 rfl rfl h
theorem d_X9_delay_1 : decode cX9_delay 1 = .ok (.getfield 20, 3) := by decide +kernel
theorem s_X9_delay_1 {k r : Nat} (hI : am_Inv g) (hs : am_SH k = (0, 9)) (hk : k < 134) (hr : am_HRf k 1 = some r) (hn : k ≠ 39) (h : AP M_X9_delay b 4 [x0] (.ref r :: st) hi g Φ) : AP M_X9_delay b 1 [x0] (.ref k :: st) hi g Φ := AP.getR (j := 1) (q := (RX9, TX9, 7)) d_X9_delay_1 hs (hI.lt hk) rfl (by decide) (by decide) w_346 (hI.r hn hr) h
theorem d_X9_delay_4 : decode cX9_delay 4 = .ok (.getfield 104, 3) := by decide +kernel
theorem s_X9_delay_4 {k : Nat} (hI : am_Inv g) (hs : am_SH k = (0, 6)) (hk : k < 134) (h : AP M_X9_delay b 7 [x0] (.int (hi k 4) :: st) hi g Φ) : AP M_X9_delay b 4 [x0] (.ref k :: st) hi g Φ := AP.getI (j := 4) (q := (RX6, TX6, 8)) d_X9_delay_4 hs (hI.lt hk) rfl (by decide) (by decide) w_171 h
theorem d_X9_delay_7 : decode cX9_delay 7 = .ok (.ireturn, 1) := by decide +kernel
theorem s_X9_delay_7 {x : Int32} (h : Φ (.ok (some (.int x))) hi g) : AP M_X9_delay b 7 [x0] [.int x] hi g Φ := AP.iret d_X9_delay_7 rfl h
end
section
variable {b : Nat × Nat} {st : List Value} {hi : am_HI} {g : am_G} {Φ : am_P} {x0 : Value}
theorem d_X9_fold_0 : decode cX9_fold 0 = .ok (.iload_n 0, 1) := by decide +kernel
theorem s_X9_fold_0 {n : Int32} (h : AP M_X9_fold b 1 [.int n] (.int n :: st) hi g Φ) : AP M_X9_fold b 0 [.int n] (st) hi g Φ := AP.iload_n (x := n) (i := 0) d_X9_fold_0 rfl rfl h
theorem d_X9_fold_1 : decode cX9_fold 1 = .ok (.ifCond .lt 9, 3) := by decide +kernel
theorem s_X9_fold_1 {x : Int32} (h1 : x < 0 → AP M_X9_fold b 10 [x0] st hi g Φ) (h2 : ¬ x < 0 → AP M_X9_fold b 4 [x0] st hi g Φ) : AP M_X9_fold b 1 [x0] (.int x :: st) hi g Φ := AP.if_lt d_X9_fold_1 (by decide) h1 h2
theorem d_X9_fold_4 : decode cX9_fold 4 = .ok (.iconst 2, 1) := by decide +kernel
theorem s_X9_fold_4 (h : AP M_X9_fold b 5 [x0] (.int 2 :: st) hi g Φ) : AP M_X9_fold b 4 [x0] (st) hi g Φ := AP.iconst (x := 2) d_X9_fold_4 (by decide) h
theorem d_X9_fold_5 : decode cX9_fold 5 = .ok (.iload_n 0, 1) := by decide +kernel
theorem s_X9_fold_5 {n : Int32} (h : AP M_X9_fold b 6 [.int n] (.int n :: st) hi g Φ) : AP M_X9_fold b 5 [.int n] (st) hi g Φ := AP.iload_n (x := n) (i := 0) d_X9_fold_5 rfl rfl h
theorem d_X9_fold_6 : decode cX9_fold 6 = .ok (.imul, 1) := by decide +kernel
theorem s_X9_fold_6 {x y : Int32} (h : AP M_X9_fold b 7 [x0] (.int (x * y) :: st) hi g Φ) : AP M_X9_fold b 6 [x0] (.int y :: .int x :: st) hi g Φ := AP.imul d_X9_fold_6 h
theorem d_X9_fold_7 : decode cX9_fold 7 = .ok (.goto 9, 3) := by decide +kernel
theorem s_X9_fold_7 (h : AP M_X9_fold b 16 [x0] st hi g Φ) : AP M_X9_fold b 7 [x0] st hi g Φ := AP.goto d_X9_fold_7 (by decide) h
theorem d_X9_fold_10 : decode cX9_fold 10 = .ok (.bipush (-2), 2) := by decide +kernel
theorem s_X9_fold_10 (h : AP M_X9_fold b 12 [x0] (.int (-2) :: st) hi g Φ) : AP M_X9_fold b 10 [x0] (st) hi g Φ := AP.bipush (x := (-2)) d_X9_fold_10 (by decide) h
theorem d_X9_fold_12 : decode cX9_fold 12 = .ok (.iload_n 0, 1) := by decide +kernel
theorem s_X9_fold_12 {n : Int32} (h : AP M_X9_fold b 13 [.int n] (.int n :: st) hi g Φ) : AP M_X9_fold b 12 [.int n] (st) hi g Φ := AP.iload_n (x := n) (i := 0) d_X9_fold_12 rfl rfl h
theorem d_X9_fold_13 : decode cX9_fold 13 = .ok (.imul, 1) := by decide +kernel
theorem s_X9_fold_13 {x y : Int32} (h : AP M_X9_fold b 14 [x0] (.int (x * y) :: st) hi g Φ) : AP M_X9_fold b 13 [x0] (.int y :: .int x :: st) hi g Φ := AP.imul d_X9_fold_13 h
theorem d_X9_fold_14 : decode cX9_fold 14 = .ok (.iconst 1, 1) := by decide +kernel
theorem s_X9_fold_14 (h : AP M_X9_fold b 15 [x0] (.int 1 :: st) hi g Φ) : AP M_X9_fold b 14 [x0] (st) hi g Φ := AP.iconst (x := 1) d_X9_fold_14 (by decide) h
theorem d_X9_fold_15 : decode cX9_fold 15 = .ok (.isub, 1) := by decide +kernel
theorem s_X9_fold_15 {x y : Int32} (h : AP M_X9_fold b 16 [x0] (.int (x - y) :: st) hi g Φ) : AP M_X9_fold b 15 [x0] (.int y :: .int x :: st) hi g Φ := AP.isub d_X9_fold_15 h
theorem d_X9_fold_16 : decode cX9_fold 16 = .ok (.ireturn, 1) := by decide +kernel
theorem s_X9_fold_16 {x : Int32} (h : Φ (.ok (some (.int x))) hi g) : AP M_X9_fold b 16 [x0] [.int x] hi g Φ := AP.iret d_X9_fold_16 rfl h
end
section
variable {b : Nat × Nat} {st : List Value} {hi : am_HI} {g : am_G} {Φ : am_P} {x0 x1 : Value}
theorem d_X9_haveSameSign_0 : decode cX9_haveSameSign 0 = .ok (.iload_n 0, 1) := by decide +kernel
theorem s_X9_haveSameSign_0 {n : Int32} (h : AP M_X9_haveSameSign b 1 [.int n, x1] (.int n :: st) hi g Φ) : AP M_X9_haveSameSign b 0 [.int n, x1] (st) hi g Φ := AP.iload_n (x := n) (i := 0) d_X9_haveSameSign_0 rfl rfl h
theorem d_X9_haveSameSign_1 : decode cX9_haveSameSign 1 = .ok (.ifCond .le 7, 3) := by decide +kernel
theorem s_X9_haveSameSign_1 {x : Int32} (h1 : x ≤ 0 → AP M_X9_haveSameSign b 8 [x0, x1] st hi g Φ) (h2 : ¬ x ≤ 0 → AP M_X9_haveSameSign b 4 [x0, x1] st hi g Φ) : AP M_X9_haveSameSign b 1 [x0, x1] (.int x :: st) hi g Φ := AP.if_le d_X9_haveSameSign_1 (by decide) h1 h2
theorem d_X9_haveSameSign_4 : decode cX9_haveSameSign 4 = .ok (.iconst 1, 1) := by decide +kernel
theorem s_X9_haveSameSign_4 (h : AP M_X9_haveSameSign b 5 [x0, x1] (.int 1 :: st) hi g Φ) : AP M_X9_haveSameSign b 4 [x0, x1] (st) hi g Φ := AP.iconst (x := 1) d_X9_haveSameSign_4 (by decide) h
theorem d_X9_haveSameSign_5 : decode cX9_haveSameSign 5 = .ok (.goto 4, 3) := by decide +kernel
theorem s_X9_haveSameSign_5 (h : AP M_X9_haveSameSign b 9 [x0, x1] st hi g Φ) : AP M_X9_haveSameSign b 5 [x0, x1] st hi g Φ := AP.goto d_X9_haveSameSign_5 (by decide) h
theorem d_X9_haveSameSign_8 : decode cX9_haveSameSign 8 = .ok (.iconst 0, 1) := by decide +kernel
theorem s_X9_haveSameSign_8 (h : AP M_X9_haveSameSign b 9 [x0, x1] (.int 0 :: st) hi g Φ) : AP M_X9_haveSameSign b 8 [x0, x1] (st) hi g Φ := AP.iconst (x := 0) d_X9_haveSameSign_8 (by decide) h
theorem d_X9_haveSameSign_9 : decode cX9_haveSameSign 9 = .ok (.iload_n 1, 1) := by decide +kernel
theorem s_X9_haveSameSign_9 {n : Int32} (h : AP M_X9_haveSameSign b 10 [x0, .int n] (.int n :: st) hi g Φ) : AP M_X9_haveSameSign b 9 [x0, .int n] (st) hi g Φ := AP.iload_n (x := n) (i := 1) d_X9_haveSameSign_9 rfl rfl h
theorem d_X9_haveSameSign_10 : decode cX9_haveSameSign 10 = .ok (.ifCond .le 7, 3) := by decide +kernel
theorem s_X9_haveSameSign_10 {x : Int32} (h1 : x ≤ 0 → AP M_X9_haveSameSign b 17 [x0, x1] st hi g Φ) (h2 : ¬ x ≤ 0 → AP M_X9_haveSameSign b 13 [x0, x1] st hi g Φ) : AP M_X9_haveSameSign b 10 [x0, x1] (.int x :: st) hi g Φ := AP.if_le d_X9_haveSameSign_10 (by decide) h1 h2
theorem d_X9_haveSameSign_13 : decode cX9_haveSameSign 13 = .ok (.iconst 1, 1) := by decide +kernel
theorem s_X9_haveSameSign_13 (h : AP M_X9_haveSameSign b 14 [x0, x1] (.int 1 :: st) hi g Φ) : AP M_X9_haveSameSign b 13 [x0, x1] (st) hi g Φ := AP.iconst (x := 1) d_X9_haveSameSign_13 (by decide) h
theorem d_X9_haveSameSign_14 : decode cX9_haveSameSign 14 = .ok (.goto 4, 3) := by decide +kernel
theorem s_X9_haveSameSign_14 (h : AP M_X9_haveSameSign b 18 [x0, x1] st hi g Φ) : AP M_X9_haveSameSign b 14 [x0, x1] st hi g Φ := AP.goto d_X9_haveSameSign_14 (by decide) h
theorem d_X9_haveSameSign_17 : decode cX9_haveSameSign 17 = .ok (.iconst 0, 1) := by decide +kernel
theorem s_X9_haveSameSign_17 (h : AP M_X9_haveSameSign b 18 [x0, x1] (.int 0 :: st) hi g Φ) : AP M_X9_haveSameSign b 17 [x0, x1] (st) hi g Φ := AP.iconst (x := 0) d_X9_haveSameSign_17 (by decide) h
theorem d_X9_haveSameSign_18 : decode cX9_haveSameSign 18 = .ok (.if_icmp .ne 7, 3) := by decide +kernel
theorem s_X9_haveSameSign_18 {x y : Int32} (h1 : ¬ x = y → AP M_X9_haveSameSign b 25 [x0, x1] st hi g Φ) (h2 : x = y → AP M_X9_haveSameSign b 21 [x0, x1] st hi g Φ) : AP M_X9_haveSameSign b 18 [x0, x1] (.int y :: .int x :: st) hi g Φ := AP.icmp_ne d_X9_haveSameSign_18 (by decide) h1 h2
theorem d_X9_haveSameSign_21 : decode cX9_haveSameSign 21 = .ok (.iconst 1, 1) := by decide +kernel
theorem s_X9_haveSameSign_21 (h : AP M_X9_haveSameSign b 22 [x0, x1] (.int 1 :: st) hi g Φ) : AP M_X9_haveSameSign b 21 [x0, x1] (st) hi g Φ := AP.iconst (x := 1) d_X9_haveSameSign_21 (by decide) h
theorem d_X9_haveSameSign_22 : decode cX9_haveSameSign 22 = .ok (.goto 4, 3) := by decide +kernel
theorem s_X9_haveSameSign_22 (h : AP M_X9_haveSameSign b 26 [x0, x1] st hi g Φ) : AP M_X9_haveSameSign b 22 [x0, x1] st hi g Φ := AP.goto d_X9_haveSameSign_22 (by decide) h
theorem d_X9_haveSameSign_25 : decode cX9_haveSameSign 25 = .ok (.iconst 0, 1) := by decide +kernel
theorem s_X9_haveSameSign_25 (h : AP M_X9_haveSameSign b 26 [x0, x1] (.int 0 :: st) hi g Φ) : AP M_X9_haveSameSign b 25 [x0, x1] (st) hi g Φ := AP.iconst (x := 0) d_X9_haveSameSign_25 (by decide) h
theorem d_X9_haveSameSign_26 : decode cX9_haveSameSign 26 = .ok (.ireturn, 1) := by decide +kernel
theorem s_X9_haveSameSign_26 {x : Int32} (hx : x = 0 ∨ x = 1) (h : Φ (.ok (some (.int x))) hi g) : AP M_X9_haveSameSign b 26 [x0, x1] [.int x] hi g Φ := AP.zret d_X9_haveSameSign_26 rfl hx h
end
section
variable {b : Nat × Nat} {st : List Value} {hi : am_HI} {g : am_G} {Φ : am_P} {x0 x1 x2 : Value}
theorem d_X9_isWithin_0 : decode cX9_isWithin 0 = .ok (.iload_n 0, 1) := by decide +kernel
theorem s_X9_isWithin_0 {n : Int32} (h : AP M_X9_isWithin b 1 [.int n, x1, x2] (.int n :: st) hi g Φ) : AP M_X9_isWithin b 0 [.int n, x1, x2] (st) hi g Φ := AP.iload_n (x := n) (i := 0) d_X9_isWithin_0 rfl rfl h
theorem d_X9_isWithin_1 : decode cX9_isWithin 1 = .ok (.iload_n 1, 1) := by decide +kernel
theorem s_X9_isWithin_1 {n : Int32} (h : AP M_X9_isWithin b 2 [x0, .int n, x2] (.int n :: st) hi g Φ) : AP M_X9_isWithin b 1 [x0, .int n, x2] (st) hi g Φ := AP.iload_n (x := n) (i := 1) d_X9_isWithin_1 rfl rfl h
theorem d_X9_isWithin_2 : decode cX9_isWithin 2 = .ok (.if_icmp .lt 12, 3) := by decide +kernel
theorem s_X9_isWithin_2 {x y : Int32} (h1 : x < y → AP M_X9_isWithin b 14 [x0, x1, x2] st hi g Φ) (h2 : ¬ x < y → AP M_X9_isWithin b 5 [x0, x1, x2] st hi g Φ) : AP M_X9_isWithin b 2 [x0, x1, x2] (.int y :: .int x :: st) hi g Φ := AP.icmp_lt d_X9_isWithin_2 (by decide) h1 h2
theorem d_X9_isWithin_5 : decode cX9_isWithin 5 = .ok (.iload_n 0, 1) := by decide +kernel
theorem s_X9_isWithin_5 {n : Int32} (h : AP M_X9_isWithin b 6 [.int n, x1, x2] (.int n :: st) hi g Φ) : AP M_X9_isWithin b 5 [.int n, x1, x2] (st) hi g Φ := AP.iload_n (x := n) (i := 0) d_X9_isWithin_5 rfl rfl h
theorem d_X9_isWithin_6 : decode cX9_isWithin 6 = .ok (.iload_n 2, 1) := by decide +kernel
theorem s_X9_isWithin_6 {n : Int32} (h : AP M_X9_isWithin b 7 [x0, x1, .int n] (.int n :: st) hi g Φ) : AP M_X9_isWithin b 6 [x0, x1, .int n] (st) hi g Φ := AP.iload_n (x := n) (i := 2) d_X9_isWithin_6 rfl rfl h
theorem d_X9_isWithin_7 : decode cX9_isWithin 7 = .ok (.if_icmp .gt 7, 3) := by decide +kernel
theorem s_X9_isWithin_7 {x y : Int32} (h1 : y < x → AP M_X9_isWithin b 14 [x0, x1, x2] st hi g Φ) (h2 : ¬ y < x → AP M_X9_isWithin b 10 [x0, x1, x2] st hi g Φ) : AP M_X9_isWithin b 7 [x0, x1, x2] (.int y :: .int x :: st) hi g Φ := AP.icmp_gt d_X9_isWithin_7 (by decide) h1 h2
theorem d_X9_isWithin_10 : decode cX9_isWithin 10 = .ok (.iconst 1, 1) := by decide +kernel
theorem s_X9_isWithin_10 (h : AP M_X9_isWithin b 11 [x0, x1, x2] (.int 1 :: st) hi g Φ) : AP M_X9_isWithin b 10 [x0, x1, x2] (st) hi g Φ := AP.iconst (x := 1) d_X9_isWithin_10 (by decide) h
theorem d_X9_isWithin_11 : decode cX9_isWithin 11 = .ok (.goto 4, 3) := by decide +kernel
theorem s_X9_isWithin_11 (h : AP M_X9_isWithin b 15 [x0, x1, x2] st hi g Φ) : AP M_X9_isWithin b 11 [x0, x1, x2] st hi g Φ := AP.goto d_X9_isWithin_11 (by decide) h
theorem d_X9_isWithin_14 : decode cX9_isWithin 14 = .ok (.iconst 0, 1) := by decide +kernel
theorem s_X9_isWithin_14 (h : AP M_X9_isWithin b 15 [x0, x1, x2] (.int 0 :: st) hi g Φ) : AP M_X9_isWithin b 14 [x0, x1, x2] (st) hi g Φ := AP.iconst (x := 0) d_X9_isWithin_14 (by decide) h
theorem d_X9_isWithin_15 : decode cX9_isWithin 15 = .ok (.ireturn, 1) := by decide +kernel
theorem s_X9_isWithin_15 {x : Int32} (hx : x = 0 ∨ x = 1) (h : Φ (.ok (some (.int x))) hi g) : AP M_X9_isWithin b 15 [x0, x1, x2] [.int x] hi g Φ := AP.zret d_X9_isWithin_15 rfl hx h
end
section
variable {b : Nat × Nat} {st : List Value} {hi : am_HI} {g : am_G} {Φ : am_P} {x0 : Value}
theorem d_X9_limit_0 : decode cX9_limit 0 = .ok (.iload_n 0, 1) := by decide +kernel
theorem s_X9_limit_0 {n : Int32} (h : AP M_X9_limit b 1 [.int n] (.int n :: st) hi g Φ) : AP M_X9_limit b 0 [.int n] (st) hi g Φ := AP.iload_n (x := n) (i := 0) d_X9_limit_0 rfl rfl h
theorem d_X9_limit_1 : decode cX9_limit 1 = .ok (.bipush 99, 2) := by decide +kernel
theorem s_X9_limit_1 (h : AP M_X9_limit b 3 [x0] (.int 99 :: st) hi g Φ) : AP M_X9_limit b 1 [x0] (st) hi g Φ := AP.bipush (x := 99) d_X9_limit_1 (by decide) h
theorem d_X9_limit_3 : decode cX9_limit 3 = .ok (.if_icmp .le 8, 3) := by decide +kernel
theorem s_X9_limit_3 {x y : Int32} (h1 : x ≤ y → AP M_X9_limit b 11 [x0] st hi g Φ) (h2 : ¬ x ≤ y → AP M_X9_limit b 6 [x0] st hi g Φ) : AP M_X9_limit b 3 [x0] (.int y :: .int x :: st) hi g Φ := AP.icmp_le d_X9_limit_3 (by decide) h1 h2
theorem d_X9_limit_6 : decode cX9_limit 6 = .ok (.bipush 99, 2) := by decide +kernel
theorem s_X9_limit_6 (h : AP M_X9_limit b 8 [x0] (.int 99 :: st) hi g Φ) : AP M_X9_limit b 6 [x0] (st) hi g Φ := AP.bipush (x := 99) d_X9_limit_6 (by decide) h
theorem d_X9_limit_8 : decode cX9_limit 8 = .ok (.goto 15, 3) := by decide +kernel
theorem s_X9_limit_8 (h : AP M_X9_limit b 23 [x0] st hi g Φ) : AP M_X9_limit b 8 [x0] st hi g Φ := AP.goto d_X9_limit_8 (by decide) h
theorem d_X9_limit_11 : decode cX9_limit 11 = .ok (.iload_n 0, 1) := by decide +kernel
theorem s_X9_limit_11 {n : Int32} (h : AP M_X9_limit b 12 [.int n] (.int n :: st) hi g Φ) : AP M_X9_limit b 11 [.int n] (st) hi g Φ := AP.iload_n (x := n) (i := 0) d_X9_limit_11 rfl rfl h
theorem d_X9_limit_12 : decode cX9_limit 12 = .ok (.bipush (-99), 2) := by decide +kernel
theorem s_X9_limit_12 (h : AP M_X9_limit b 14 [x0] (.int (-99) :: st) hi g Φ) : AP M_X9_limit b 12 [x0] (st) hi g Φ := AP.bipush (x := (-99)) d_X9_limit_12 (by decide) h
theorem d_X9_limit_14 : decode cX9_limit 14 = .ok (.if_icmp .ge 8, 3) := by decide +kernel
theorem s_X9_limit_14 {x y : Int32} (h1 : y ≤ x → AP M_X9_limit b 22 [x0] st hi g Φ) (h2 : ¬ y ≤ x → AP M_X9_limit b 17 [x0] st hi g Φ) : AP M_X9_limit b 14 [x0] (.int y :: .int x :: st) hi g Φ := AP.icmp_ge d_X9_limit_14 (by decide) h1 h2
theorem d_X9_limit_17 : decode cX9_limit 17 = .ok (.bipush (-99), 2) := by decide +kernel
theorem s_X9_limit_17 (h : AP M_X9_limit b 19 [x0] (.int (-99) :: st) hi g Φ) : AP M_X9_limit b 17 [x0] (st) hi g Φ := AP.bipush (x := (-99)) d_X9_limit_17 (by decide) h
theorem d_X9_limit_19 : decode cX9_limit 19 = .ok (.goto 4, 3) := by decide +kernel
theorem s_X9_limit_19 (h : AP M_X9_limit b 23 [x0] st hi g Φ) : AP M_X9_limit b 19 [x0] st hi g Φ := AP.goto d_X9_limit_19 (by decide) h
theorem d_X9_limit_22 : decode cX9_limit 22 = .ok (.iload_n 0, 1) := by decide +kernel
theorem s_X9_limit_22 {n : Int32} (h : AP M_X9_limit b 23 [.int n] (.int n :: st) hi g Φ) : AP M_X9_limit b 22 [.int n] (st) hi g Φ := AP.iload_n (x := n) (i := 0) d_X9_limit_22 rfl rfl h
theorem d_X9_limit_23 : decode cX9_limit 23 = .ok (.ireturn, 1) := by decide +kernel
theorem s_X9_limit_23 {x : Int32} (h : Φ (.ok (some (.int x))) hi g) : AP M_X9_limit b 23 [x0] [.int x] hi g Φ := AP.iret d_X9_limit_23 rfl h
end
section
variable {b : Nat × Nat} {st : List Value} {hi : am_HI} {g : am_G} {Φ : am_P} {x0 x1 x2 x3 : Value}
theorem d_X9_mix_0 : decode cX9_mix 0 = .ok (.ldc2_w 351, 3) := by decide +kernel
theorem s_X9_mix_0 (h : AP M_X9_mix b 3 [x0, x1, x2, x3] (.long 31 :: st) hi g Φ) : AP M_X9_mix b 0 [x0, x1, x2, x3] (st) hi g Φ := AP.ldc2 (x := 31) d_X9_mix_0 w_647 h
theorem d_X9_mix_3 : decode cX9_mix 3 = .ok (.lload_n 0, 1) := by decide +kernel
theorem s_X9_mix_3 {n : Int64} (h : AP M_X9_mix b 4 [.long n, x1, x2, x3] (.long n :: st) hi g Φ) : AP M_X9_mix b 3 [.long n, x1, x2, x3] (st) hi g Φ := AP.lload_n (x := n) (i := 0) d_X9_mix_3 rfl rfl h
theorem d_X9_mix_4 : decode cX9_mix 4 = .ok (.lmul, 1) := by decide +kernel
theorem s_X9_mix_4 {x y : Int64} (h : AP M_X9_mix b 5 [x0, x1, x2, x3] (.long (x * y) :: st) hi g Φ) : AP M_X9_mix b 4 [x0, x1, x2, x3] (.long y :: .long x :: st) hi g Φ := AP.lmul d_X9_mix_4 h
theorem d_X9_mix_5 : decode cX9_mix 5 = .ok (.lload_n 2, 1) := by decide +kernel
theorem s_X9_mix_5 {n : Int64} (h : AP M_X9_mix b 6 [x0, x1, .long n, x3] (.long n :: st) hi g Φ) : AP M_X9_mix b 5 [x0, x1, .long n, x3] (st) hi g Φ := AP.lload_n (x := n) (i := 2) d_X9_mix_5 rfl rfl h
theorem d_X9_mix_6 : decode cX9_mix 6 = .ok (.ladd, 1) := by decide +kernel
theorem s_X9_mix_6 {x y : Int64} (h : AP M_X9_mix b 7 [x0, x1, x2, x3] (.long (x + y) :: st) hi g Φ) : AP M_X9_mix b 6 [x0, x1, x2, x3] (.long y :: .long x :: st) hi g Φ := AP.ladd d_X9_mix_6 h
theorem d_X9_mix_7 : decode cX9_mix 7 = .ok (.lreturn, 1) := by decide +kernel
theorem s_X9_mix_7 {x : Int64} (h : Φ (.ok (some (.long x))) hi g) : AP M_X9_mix b 7 [x0, x1, x2, x3] [.long x] hi g Φ := AP.lret d_X9_mix_7 rfl h
end
section
variable {b : Nat × Nat} {st : List Value} {hi : am_HI} {g : am_G} {Φ : am_P} {x0 : Value}
theorem d_X9_samples_0 : decode cX9_samples 0 = .ok (.aload_n 0, 1) := by decide +kernel
theorem s_X9_samples_0 {n : Nat} (h : AP M_X9_samples b 1 [.ref n] (.ref n :: st) hi g Φ) : AP M_X9_samples b 0 [.ref n] (st) hi g Φ := AP.aload_n (x := n) (i := 0) d_X9_samples_0 rfl rfl h
theorem d_X9_samples_1 : decode cX9_samples 1 = .ok (.getfield 20, 3) := by decide +kernel
theorem s_X9_samples_1 {k r : Nat} (hI : am_Inv g) (hs : am_SH k = (0, 9)) (hk : k < 134) (hr : am_HRf k 1 = some r) (hn : k ≠ 39) (h : AP M_X9_samples b 4 [x0] (.ref r :: st) hi g Φ) : AP M_X9_samples b 1 [x0] (.ref k :: st) hi g Φ := AP.getR (j := 1) (q := (RX9, TX9, 7)) d_X9_samples_1 hs (hI.lt hk) rfl (by decide) (by decide) w_346 (hI.r hn hr) h
theorem d_X9_samples_4 : decode cX9_samples 4 = .ok (.getfield 83, 3) := by decide +kernel
theorem s_X9_samples_4 {k : Nat} (hI : am_Inv g) (hs : am_SH k = (0, 6)) (hk : k < 134) (h : AP M_X9_samples b 7 [x0] (.int (hi k 3) :: st) hi g Φ) : AP M_X9_samples b 4 [x0] (.ref k :: st) hi g Φ := AP.getI (j := 3) (q := (RX6, TX6, 8)) d_X9_samples_4 hs (hI.lt hk) rfl (by decide) (by decide) w_168 h
theorem d_X9_samples_7 : decode cX9_samples 7 = .ok (.ireturn, 1) := by decide +kernel
theorem s_X9_samples_7 {x : Int32} (h : Φ (.ok (some (.int x))) hi g) : AP M_X9_samples b 7 [x0] [.int x] hi g Φ := AP.iret d_X9_samples_7 rfl h
end
section
variable {b : Nat × Nat} {st : List Value} {hi : am_HI} {g : am_G} {Φ : am_P} {x0 : Value}
theorem d_X9_sent_0 : decode cX9_sent 0 = .ok (.aload_n 0, 1) := by decide +kernel
theorem s_X9_sent_0 {n : Nat} (h : AP M_X9_sent b 1 [.ref n] (.ref n :: st) hi g Φ) : AP M_X9_sent b 0 [.ref n] (st) hi g Φ := AP.aload_n (x := n) (i := 0) d_X9_sent_0 rfl rfl h
theorem d_X9_sent_1 : decode cX9_sent 1 = .ok (.getfield 20, 3) := by decide +kernel
theorem s_X9_sent_1 {k r : Nat} (hI : am_Inv g) (hs : am_SH k = (0, 9)) (hk : k < 134) (hr : am_HRf k 1 = some r) (hn : k ≠ 39) (h : AP M_X9_sent b 4 [x0] (.ref r :: st) hi g Φ) : AP M_X9_sent b 1 [x0] (.ref k :: st) hi g Φ := AP.getR (j := 1) (q := (RX9, TX9, 7)) d_X9_sent_1 hs (hI.lt hk) rfl (by decide) (by decide) w_346 (hI.r hn hr) h
theorem d_X9_sent_4 : decode cX9_sent 4 = .ok (.getfield 247, 3) := by decide +kernel
theorem s_X9_sent_4 {k : Nat} (hI : am_Inv g) (hs : am_SH k = (0, 6)) (hk : k < 134) (h : AP M_X9_sent b 7 [x0] (.int (hi k 7) :: st) hi g Φ) : AP M_X9_sent b 4 [x0] (.ref k :: st) hi g Φ := AP.getI (j := 7) (q := (RX6, TX6, 8)) d_X9_sent_4 hs (hI.lt hk) rfl (by decide) (by decide) w_178 h
theorem d_X9_sent_7 : decode cX9_sent 7 = .ok (.ireturn, 1) := by decide +kernel
theorem s_X9_sent_7 {x : Int32} (h : Φ (.ok (some (.int x))) hi g) : AP M_X9_sent b 7 [x0] [.int x] hi g Φ := AP.iret d_X9_sent_7 rfl h
end
section
variable {b : Nat × Nat} {st : List Value} {hi : am_HI} {g : am_G} {Φ : am_P} {x0 : Value}
theorem d_X9_speed_0 : decode cX9_speed 0 = .ok (.aload_n 0, 1) := by decide +kernel
theorem s_X9_speed_0 {n : Nat} (h : AP M_X9_speed b 1 [.ref n] (.ref n :: st) hi g Φ) : AP M_X9_speed b 0 [.ref n] (st) hi g Φ := AP.aload_n (x := n) (i := 0) d_X9_speed_0 rfl rfl h
theorem d_X9_speed_1 : decode cX9_speed 1 = .ok (.getfield 20, 3) := by decide +kernel
theorem s_X9_speed_1 {k r : Nat} (hI : am_Inv g) (hs : am_SH k = (0, 9)) (hk : k < 134) (hr : am_HRf k 1 = some r) (hn : k ≠ 39) (h : AP M_X9_speed b 4 [x0] (.ref r :: st) hi g Φ) : AP M_X9_speed b 1 [x0] (.ref k :: st) hi g Φ := AP.getR (j := 1) (q := (RX9, TX9, 7)) d_X9_speed_1 hs (hI.lt hk) rfl (by decide) (by decide) w_346 (hI.r hn hr) h
theorem d_X9_speed_4 : decode cX9_speed 4 = .ok (.getfield 107, 3) := by decide +kernel
theorem s_X9_speed_4 {k : Nat} (hI : am_Inv g) (hs : am_SH k = (0, 6)) (hk : k < 134) (h : AP M_X9_speed b 7 [x0] (.int (hi k 5) :: st) hi g Φ) : AP M_X9_speed b 4 [x0] (.ref k :: st) hi g Φ := AP.getI (j := 5) (q := (RX6, TX6, 8)) d_X9_speed_4 hs (hI.lt hk) rfl (by decide) (by decide) w_174 h
theorem d_X9_speed_7 : decode cX9_speed 7 = .ok (.ireturn, 1) := by decide +kernel
theorem s_X9_speed_7 {x : Int32} (h : Φ (.ok (some (.int x))) hi g) : AP M_X9_speed b 7 [x0] [.int x] hi g Φ := AP.iret d_X9_speed_7 rfl h
end
section
variable {b : Nat × Nat} {st : List Value} {hi : am_HI} {g : am_G} {Φ : am_P} {x0 : Value}
theorem d_X9_told_0 : decode cX9_told 0 = .ok (.aload_n 0, 1) := by decide +kernel
theorem s_X9_told_0 {n : Nat} (h : AP M_X9_told b 1 [.ref n] (.ref n :: st) hi g Φ) : AP M_X9_told b 0 [.ref n] (st) hi g Φ := AP.aload_n (x := n) (i := 0) d_X9_told_0 rfl rfl h
theorem d_X9_told_1 : decode cX9_told 1 = .ok (.getfield 20, 3) := by decide +kernel
theorem s_X9_told_1 {k r : Nat} (hI : am_Inv g) (hs : am_SH k = (0, 9)) (hk : k < 134) (hr : am_HRf k 1 = some r) (hn : k ≠ 39) (h : AP M_X9_told b 4 [x0] (.ref r :: st) hi g Φ) : AP M_X9_told b 1 [x0] (.ref k :: st) hi g Φ := AP.getR (j := 1) (q := (RX9, TX9, 7)) d_X9_told_1 hs (hI.lt hk) rfl (by decide) (by decide) w_346 (hI.r hn hr) h
theorem d_X9_told_4 : decode cX9_told 4 = .ok (.getfield 129, 3) := by decide +kernel
theorem s_X9_told_4 {k r : Nat} (hI : am_Inv g) (hs : am_SH k = (0, 6)) (hk : k < 134) (hr : am_HRf k 2 = some r) (hn : k ≠ 39) (h : AP M_X9_told b 7 [x0] (.ref r :: st) hi g Φ) : AP M_X9_told b 4 [x0] (.ref k :: st) hi g Φ := AP.getR (j := 2) (q := (RX6, TX6, 8)) d_X9_told_4 hs (hI.lt hk) rfl (by decide) (by decide) w_165 (hI.r hn hr) h
theorem d_X9_told_7 : decode cX9_told 7 = .ok (.getfield 216, 3) := by decide +kernel
theorem s_X9_told_7 {k : Nat} (hI : am_Inv g) (hs : am_SH k = (0, 2)) (hk : k < 134) (h : AP M_X9_told b 10 [x0] (.int (hi k 5) :: st) hi g Φ) : AP M_X9_told b 7 [x0] (.ref k :: st) hi g Φ := AP.getI (j := 5) (q := (RX2, TX2, 8)) d_X9_told_7 hs (hI.lt hk) rfl (by decide) (by decide) w_133 h
theorem d_X9_told_10 : decode cX9_told 10 = .ok (.ireturn, 1) := by decide +kernel
theorem s_X9_told_10 {x : Int32} (h : Φ (.ok (some (.int x))) hi g) : AP M_X9_told b 10 [x0] [.int x] hi g Φ := AP.iret d_X9_told_10 rfl h
end
section
variable {b : Nat × Nat} {st : List Value} {hi : am_HI} {g : am_G} {Φ : am_P} {x0 : Value}
theorem d_X9_unfold_0 : decode cX9_unfold 0 = .ok (.iload_n 0, 1) := by decide +kernel
theorem s_X9_unfold_0 {n : Int32} (h : AP M_X9_unfold b 1 [.int n] (.int n :: st) hi g Φ) : AP M_X9_unfold b 0 [.int n] (st) hi g Φ := AP.iload_n (x := n) (i := 0) d_X9_unfold_0 rfl rfl h
theorem d_X9_unfold_1 : decode cX9_unfold 1 = .ok (.iconst 1, 1) := by decide +kernel
theorem s_X9_unfold_1 (h : AP M_X9_unfold b 2 [x0] (.int 1 :: st) hi g Φ) : AP M_X9_unfold b 1 [x0] (st) hi g Φ := AP.iconst (x := 1) d_X9_unfold_1 (by decide) h
theorem d_X9_unfold_2 : decode cX9_unfold 2 = .ok (.iand, 1) := by decide +kernel
theorem s_X9_unfold_2 {x y : Int32} (h : AP M_X9_unfold b 3 [x0] (.int (x &&& y) :: st) hi g Φ) : AP M_X9_unfold b 2 [x0] (.int y :: .int x :: st) hi g Φ := AP.iand d_X9_unfold_2 h
theorem d_X9_unfold_3 : decode cX9_unfold 3 = .ok (.ifCond .ne 9, 3) := by decide +kernel
theorem s_X9_unfold_3 {x : Int32} (h1 : ¬ x = 0 → AP M_X9_unfold b 12 [x0] st hi g Φ) (h2 : x = 0 → AP M_X9_unfold b 6 [x0] st hi g Φ) : AP M_X9_unfold b 3 [x0] (.int x :: st) hi g Φ := AP.if_ne d_X9_unfold_3 (by decide) h1 h2
theorem d_X9_unfold_6 : decode cX9_unfold 6 = .ok (.iload_n 0, 1) := by decide +kernel
theorem s_X9_unfold_6 {n : Int32} (h : AP M_X9_unfold b 7 [.int n] (.int n :: st) hi g Φ) : AP M_X9_unfold b 6 [.int n] (st) hi g Φ := AP.iload_n (x := n) (i := 0) d_X9_unfold_6 rfl rfl h
theorem d_X9_unfold_7 : decode cX9_unfold 7 = .ok (.iconst 2, 1) := by decide +kernel
theorem s_X9_unfold_7 (h : AP M_X9_unfold b 8 [x0] (.int 2 :: st) hi g Φ) : AP M_X9_unfold b 7 [x0] (st) hi g Φ := AP.iconst (x := 2) d_X9_unfold_7 (by decide) h
theorem d_X9_unfold_8 : decode cX9_unfold 8 = .ok (.idiv, 1) := by decide +kernel
theorem s_X9_unfold_8 {x y : Int32} (hy : ¬ y = 0) (h : AP M_X9_unfold b 9 [x0] (.int (x / y) :: st) hi g Φ) : AP M_X9_unfold b 8 [x0] (.int y :: .int x :: st) hi g Φ := AP.idiv d_X9_unfold_8 hy h
theorem d_X9_unfold_9 : decode cX9_unfold 9 = .ok (.goto 9, 3) := by decide +kernel
theorem s_X9_unfold_9 (h : AP M_X9_unfold b 18 [x0] st hi g Φ) : AP M_X9_unfold b 9 [x0] st hi g Φ := AP.goto d_X9_unfold_9 (by decide) h
theorem d_X9_unfold_12 : decode cX9_unfold 12 = .ok (.iload_n 0, 1) := by decide +kernel
theorem s_X9_unfold_12 {n : Int32} (h : AP M_X9_unfold b 13 [.int n] (.int n :: st) hi g Φ) : AP M_X9_unfold b 12 [.int n] (st) hi g Φ := AP.iload_n (x := n) (i := 0) d_X9_unfold_12 rfl rfl h
theorem d_X9_unfold_13 : decode cX9_unfold 13 = .ok (.iconst 1, 1) := by decide +kernel
theorem s_X9_unfold_13 (h : AP M_X9_unfold b 14 [x0] (.int 1 :: st) hi g Φ) : AP M_X9_unfold b 13 [x0] (st) hi g Φ := AP.iconst (x := 1) d_X9_unfold_13 (by decide) h
theorem d_X9_unfold_14 : decode cX9_unfold 14 = .ok (.iadd, 1) := by decide +kernel
theorem s_X9_unfold_14 {x y : Int32} (h : AP M_X9_unfold b 15 [x0] (.int (x + y) :: st) hi g Φ) : AP M_X9_unfold b 14 [x0] (.int y :: .int x :: st) hi g Φ := AP.iadd d_X9_unfold_14 h
theorem d_X9_unfold_15 : decode cX9_unfold 15 = .ok (.ineg, 1) := by decide +kernel
theorem s_X9_unfold_15 {x : Int32} (h : AP M_X9_unfold b 16 [x0] (.int (-x) :: st) hi g Φ) : AP M_X9_unfold b 15 [x0] (.int x :: st) hi g Φ := AP.ineg d_X9_unfold_15 h
theorem d_X9_unfold_16 : decode cX9_unfold 16 = .ok (.iconst 2, 1) := by decide +kernel
theorem s_X9_unfold_16 (h : AP M_X9_unfold b 17 [x0] (.int 2 :: st) hi g Φ) : AP M_X9_unfold b 16 [x0] (st) hi g Φ := AP.iconst (x := 2) d_X9_unfold_16 (by decide) h
theorem d_X9_unfold_17 : decode cX9_unfold 17 = .ok (.idiv, 1) := by decide +kernel
theorem s_X9_unfold_17 {x y : Int32} (hy : ¬ y = 0) (h : AP M_X9_unfold b 18 [x0] (.int (x / y) :: st) hi g Φ) : AP M_X9_unfold b 17 [x0] (.int y :: .int x :: st) hi g Φ := AP.idiv d_X9_unfold_17 hy h
theorem d_X9_unfold_18 : decode cX9_unfold 18 = .ok (.ireturn, 1) := by decide +kernel
theorem s_X9_unfold_18 {x : Int32} (h : Φ (.ok (some (.int x))) hi g) : AP M_X9_unfold b 18 [x0] [.int x] hi g Φ := AP.iret d_X9_unfold_18 rfl h
end
section
variable {b : Nat × Nat} {st : List Value} {hi : am_HI} {g : am_G} {Φ : am_P} {x0 : Value}
theorem d_X9_blocks_0 : decode cX9_blocks 0 = .ok (.aload_n 0, 1) := by decide +kernel
theorem s_X9_blocks_0 {n : Nat} (h : AP M_X9_blocks b 1 [.ref n] (.ref n :: st) hi g Φ) : AP M_X9_blocks b 0 [.ref n] (st) hi g Φ := AP.aload_n (x := n) (i := 0) d_X9_blocks_0 rfl rfl h
theorem d_X9_blocks_1 : decode cX9_blocks 1 = .ok (.getfield 20, 3) := by decide +kernel
theorem s_X9_blocks_1 {k r : Nat} (hI : am_Inv g) (hs : am_SH k = (0, 9)) (hk : k < 134) (hr : am_HRf k 1 = some r) (hn : k ≠ 39) (h : AP M_X9_blocks b 4 [x0] (.ref r :: st) hi g Φ) : AP M_X9_blocks b 1 [x0] (.ref k :: st) hi g Φ := AP.getR (j := 1) (q := (RX9, TX9, 7)) d_X9_blocks_1 hs (hI.lt hk) rfl (by decide) (by decide) w_346 (hI.r hn hr) h
theorem d_X9_blocks_4 : decode cX9_blocks 4 = .ok (.getfield 83, 3) := by decide +kernel
theorem s_X9_blocks_4 {k : Nat} (hI : am_Inv g) (hs : am_SH k = (0, 6)) (hk : k < 134) (h : AP M_X9_blocks b 7 [x0] (.int (hi k 3) :: st) hi g Φ) : AP M_X9_blocks b 4 [x0] (.ref k :: st) hi g Φ := AP.getI (j := 3) (q := (RX6, TX6, 8)) d_X9_blocks_4 hs (hI.lt hk) rfl (by decide) (by decide) w_168 h
theorem d_X9_blocks_7 : decode cX9_blocks 7 = .ok (.invokestatic 145, 3) := by decide +kernel
theorem s_X9_blocks_7 {a0 : Int32} {r0 : Int32} {P : am_HI → Prop} (hI : am_Inv g) (hst : (st.map Value.category).sum ≤ 8) (hc : am_Cr M_X9_blocksOf [.int a0] hi g (some (.int r0)) P) (h : ∀ hi' : am_HI, P hi' → AP M_X9_blocks b 10 [x0] (.int r0 :: st) hi' g Φ) : AP M_X9_blocks b 7 [x0] (.int a0 :: st) hi g Φ := AP.callSr (As := [.int a0]) hI hc k_X9_blocks_145 d_X9_blocks_7 rfl hst h
theorem d_X9_blocks_10 : decode cX9_blocks 10 = .ok (.ireturn, 1) := by decide +kernel
theorem s_X9_blocks_10 {x : Int32} (h : Φ (.ok (some (.int x))) hi g) : AP M_X9_blocks b 10 [x0] [.int x] hi g Φ := AP.iret d_X9_blocks_10 rfl h
end
section
variable {b : Nat × Nat} {st : List Value} {hi : am_HI} {g : am_G} {Φ : am_P} {x0 x1 x2 x3 x4 x5 x6 : Value}
theorem d_X9_hashOfSamples_0 : decode cX9_hashOfSamples 0 = .ok (.lload_n 1, 1) := by decide +kernel
theorem s_X9_hashOfSamples_0 {n : Int64} (h : AP M_X9_hashOfSamples b 1 [x0, .long n, x2, x3, x4, x5, x6] (.long n :: st) hi g Φ) : AP M_X9_hashOfSamples b 0 [x0, .long n, x2, x3, x4, x5, x6] (st) hi g Φ := AP.lload_n (x := n) (i := 1) d_X9_hashOfSamples_0 rfl rfl h
theorem d_X9_hashOfSamples_1 : decode cX9_hashOfSamples 1 = .ok (.lstore_n 3, 1) := by decide +kernel
theorem s_X9_hashOfSamples_1 {n : Int64} (hc : x2.category = 1) (h : AP M_X9_hashOfSamples b 2 [x0, x1, x2, .long n, jk, x5, x6] (st) hi g Φ) : AP M_X9_hashOfSamples b 1 [x0, x1, x2, x3, x4, x5, x6] (.long n :: st) hi g Φ := AP.lstore_n (x := n) (i := 3) d_X9_hashOfSamples_1 rfl (by decide) (by simp [am_st, am_ci, am_cr, am_cl, am_cd, hc]) h
theorem d_X9_hashOfSamples_2 : decode cX9_hashOfSamples 2 = .ok (.iconst 0, 1) := by decide +kernel
theorem s_X9_hashOfSamples_2 (h : AP M_X9_hashOfSamples b 3 [x0, x1, x2, x3, x4, x5, x6] (.int 0 :: st) hi g Φ) : AP M_X9_hashOfSamples b 2 [x0, x1, x2, x3, x4, x5, x6] (st) hi g Φ := AP.iconst (x := 0) d_X9_hashOfSamples_2 (by decide) h
theorem d_X9_hashOfSamples_3 : decode cX9_hashOfSamples 3 = .ok (.istore 5, 2) := by decide +kernel
theorem s_X9_hashOfSamples_3 {n : Int32} (hc : x4.category = 1) (h : AP M_X9_hashOfSamples b 5 [x0, x1, x2, x3, x4, .int n, x6] (st) hi g Φ) : AP M_X9_hashOfSamples b 3 [x0, x1, x2, x3, x4, x5, x6] (.int n :: st) hi g Φ := AP.istore (x := n) (i := 5) d_X9_hashOfSamples_3 (by decide) (by simp [am_st, am_ci, am_cr, am_cl, am_cd, hc]) h
theorem d_X9_hashOfSamples_5 : decode cX9_hashOfSamples 5 = .ok (.iload 5, 2) := by decide +kernel
theorem s_X9_hashOfSamples_5 {n : Int32} (h : AP M_X9_hashOfSamples b 7 [x0, x1, x2, x3, x4, .int n, x6] (.int n :: st) hi g Φ) : AP M_X9_hashOfSamples b 5 [x0, x1, x2, x3, x4, .int n, x6] (st) hi g Φ := AP.iload (x := n) (i := 5) d_X9_hashOfSamples_5 rfl h
theorem d_X9_hashOfSamples_7 : decode cX9_hashOfSamples 7 = .ok (.aload_n 0, 1) := by decide +kernel
theorem s_X9_hashOfSamples_7 {n : Nat} (h : AP M_X9_hashOfSamples b 8 [.ref n, x1, x2, x3, x4, x5, x6] (.ref n :: st) hi g Φ) : AP M_X9_hashOfSamples b 7 [.ref n, x1, x2, x3, x4, x5, x6] (st) hi g Φ := AP.aload_n (x := n) (i := 0) d_X9_hashOfSamples_7 rfl rfl h
theorem d_X9_hashOfSamples_8 : decode cX9_hashOfSamples 8 = .ok (.getfield 20, 3) := by decide +kernel
theorem s_X9_hashOfSamples_8 {k r : Nat} (hI : am_Inv g) (hs : am_SH k = (0, 9)) (hk : k < 134) (hr : am_HRf k 1 = some r) (hn : k ≠ 39) (h : AP M_X9_hashOfSamples b 11 [x0, x1, x2, x3, x4, x5, x6] (.ref r :: st) hi g Φ) : AP M_X9_hashOfSamples b 8 [x0, x1, x2, x3, x4, x5, x6] (.ref k :: st) hi g Φ := AP.getR (j := 1) (q := (RX9, TX9, 7)) d_X9_hashOfSamples_8 hs (hI.lt hk) rfl (by decide) (by decide) w_346 (hI.r hn hr) h
theorem d_X9_hashOfSamples_11 : decode cX9_hashOfSamples 11 = .ok (.getfield 83, 3) := by decide +kernel
theorem s_X9_hashOfSamples_11 {k : Nat} (hI : am_Inv g) (hs : am_SH k = (0, 6)) (hk : k < 134) (h : AP M_X9_hashOfSamples b 14 [x0, x1, x2, x3, x4, x5, x6] (.int (hi k 3) :: st) hi g Φ) : AP M_X9_hashOfSamples b 11 [x0, x1, x2, x3, x4, x5, x6] (.ref k :: st) hi g Φ := AP.getI (j := 3) (q := (RX6, TX6, 8)) d_X9_hashOfSamples_11 hs (hI.lt hk) rfl (by decide) (by decide) w_168 h
theorem d_X9_hashOfSamples_14 : decode cX9_hashOfSamples 14 = .ok (.if_icmp .ge 76, 3) := by decide +kernel
theorem s_X9_hashOfSamples_14 {x y : Int32} (h1 : y ≤ x → AP M_X9_hashOfSamples b 90 [x0, x1, x2, x3, x4, x5, x6] st hi g Φ) (h2 : ¬ y ≤ x → AP M_X9_hashOfSamples b 17 [x0, x1, x2, x3, x4, x5, x6] st hi g Φ) : AP M_X9_hashOfSamples b 14 [x0, x1, x2, x3, x4, x5, x6] (.int y :: .int x :: st) hi g Φ := AP.icmp_ge d_X9_hashOfSamples_14 (by decide) h1 h2
theorem d_X9_hashOfSamples_17 : decode cX9_hashOfSamples 17 = .ok (.lload_n 3, 1) := by decide +kernel
theorem s_X9_hashOfSamples_17 {n : Int64} (h : AP M_X9_hashOfSamples b 18 [x0, x1, x2, .long n, x4, x5, x6] (.long n :: st) hi g Φ) : AP M_X9_hashOfSamples b 17 [x0, x1, x2, .long n, x4, x5, x6] (st) hi g Φ := AP.lload_n (x := n) (i := 3) d_X9_hashOfSamples_17 rfl rfl h
theorem d_X9_hashOfSamples_18 : decode cX9_hashOfSamples 18 = .ok (.aload_n 0, 1) := by decide +kernel
theorem s_X9_hashOfSamples_18 {n : Nat} (h : AP M_X9_hashOfSamples b 19 [.ref n, x1, x2, x3, x4, x5, x6] (.ref n :: st) hi g Φ) : AP M_X9_hashOfSamples b 18 [.ref n, x1, x2, x3, x4, x5, x6] (st) hi g Φ := AP.aload_n (x := n) (i := 0) d_X9_hashOfSamples_18 rfl rfl h
theorem d_X9_hashOfSamples_19 : decode cX9_hashOfSamples 19 = .ok (.getfield 20, 3) := by decide +kernel
theorem s_X9_hashOfSamples_19 {k r : Nat} (hI : am_Inv g) (hs : am_SH k = (0, 9)) (hk : k < 134) (hr : am_HRf k 1 = some r) (hn : k ≠ 39) (h : AP M_X9_hashOfSamples b 22 [x0, x1, x2, x3, x4, x5, x6] (.ref r :: st) hi g Φ) : AP M_X9_hashOfSamples b 19 [x0, x1, x2, x3, x4, x5, x6] (.ref k :: st) hi g Φ := AP.getR (j := 1) (q := (RX9, TX9, 7)) d_X9_hashOfSamples_19 hs (hI.lt hk) rfl (by decide) (by decide) w_346 (hI.r hn hr) h
theorem d_X9_hashOfSamples_22 : decode cX9_hashOfSamples 22 = .ok (.iload 5, 2) := by decide +kernel
theorem s_X9_hashOfSamples_22 {n : Int32} (h : AP M_X9_hashOfSamples b 24 [x0, x1, x2, x3, x4, .int n, x6] (.int n :: st) hi g Φ) : AP M_X9_hashOfSamples b 22 [x0, x1, x2, x3, x4, .int n, x6] (st) hi g Φ := AP.iload (x := n) (i := 5) d_X9_hashOfSamples_22 rfl h
theorem d_X9_hashOfSamples_24 : decode cX9_hashOfSamples 24 = .ok (.invokevirtual 87, 3) := by decide +kernel
theorem s_X9_hashOfSamples_24 {a0 : Int32} {k : Nat} {r0 : Int32} {P : am_HI → Prop} (hI : am_Inv g) (hs : am_SH k = (0, 6)) (hk : k < 134) (hst : (st.map Value.category).sum ≤ 8) (hc : am_Cr M_X6_soundAt [.ref k, .int a0] hi g (some (.int r0)) P) (h : ∀ hi' : am_HI, P hi' → AP M_X9_hashOfSamples b 27 [x0, x1, x2, x3, x4, x5, x6] (.int r0 :: st) hi' g Φ) : AP M_X9_hashOfSamples b 24 [x0, x1, x2, x3, x4, x5, x6] (.int a0 :: .ref k :: st) hi g Φ := AP.callVr (As := [.int a0]) (q := (RX6, TX6, 8)) hI hc k_X9_hashOfSamples_87 d_X9_hashOfSamples_24 rfl hs hk rfl rfl hst h
theorem d_X9_hashOfSamples_27 : decode cX9_hashOfSamples 27 = .ok (.i2l, 1) := by decide +kernel
theorem s_X9_hashOfSamples_27 {x : Int32} (h : AP M_X9_hashOfSamples b 28 [x0, x1, x2, x3, x4, x5, x6] (.long x.toInt64 :: st) hi g Φ) : AP M_X9_hashOfSamples b 27 [x0, x1, x2, x3, x4, x5, x6] (.int x :: st) hi g Φ := AP.i2l d_X9_hashOfSamples_27 h
theorem d_X9_hashOfSamples_28 : decode cX9_hashOfSamples 28 = .ok (.invokestatic 353, 3) := by decide +kernel
theorem s_X9_hashOfSamples_28 {a0 : Int64} {a1 : Int64} {r0 : Int64} {P : am_HI → Prop} (hI : am_Inv g) (hst : (st.map Value.category).sum ≤ 8) (hc : am_Cr M_X9_mix [.long a0, .long a1] hi g (some (.long r0)) P) (h : ∀ hi' : am_HI, P hi' → AP M_X9_hashOfSamples b 31 [x0, x1, x2, x3, x4, x5, x6] (.long r0 :: st) hi' g Φ) : AP M_X9_hashOfSamples b 28 [x0, x1, x2, x3, x4, x5, x6] (.long a1 :: .long a0 :: st) hi g Φ := AP.callSr (As := [.long a0, .long a1]) hI hc k_X9_hashOfSamples_353 d_X9_hashOfSamples_28 rfl hst h
theorem d_X9_hashOfSamples_31 : decode cX9_hashOfSamples 31 = .ok (.lstore_n 3, 1) := by decide +kernel
theorem s_X9_hashOfSamples_31 {n : Int64} (hc : x2.category = 1) (h : AP M_X9_hashOfSamples b 32 [x0, x1, x2, .long n, jk, x5, x6] (st) hi g Φ) : AP M_X9_hashOfSamples b 31 [x0, x1, x2, x3, x4, x5, x6] (.long n :: st) hi g Φ := AP.lstore_n (x := n) (i := 3) d_X9_hashOfSamples_31 rfl (by decide) (by simp [am_st, am_ci, am_cr, am_cl, am_cd, hc]) h
theorem d_X9_hashOfSamples_32 : decode cX9_hashOfSamples 32 = .ok (.lload_n 3, 1) := by decide +kernel
theorem s_X9_hashOfSamples_32 {n : Int64} (h : AP M_X9_hashOfSamples b 33 [x0, x1, x2, .long n, x4, x5, x6] (.long n :: st) hi g Φ) : AP M_X9_hashOfSamples b 32 [x0, x1, x2, .long n, x4, x5, x6] (st) hi g Φ := AP.lload_n (x := n) (i := 3) d_X9_hashOfSamples_32 rfl rfl h
theorem d_X9_hashOfSamples_33 : decode cX9_hashOfSamples 33 = .ok (.aload_n 0, 1) := by decide +kernel
theorem s_X9_hashOfSamples_33 {n : Nat} (h : AP M_X9_hashOfSamples b 34 [.ref n, x1, x2, x3, x4, x5, x6] (.ref n :: st) hi g Φ) : AP M_X9_hashOfSamples b 33 [.ref n, x1, x2, x3, x4, x5, x6] (st) hi g Φ := AP.aload_n (x := n) (i := 0) d_X9_hashOfSamples_33 rfl rfl h
theorem d_X9_hashOfSamples_34 : decode cX9_hashOfSamples 34 = .ok (.getfield 12, 3) := by decide +kernel
theorem s_X9_hashOfSamples_34 {k r : Nat} (hI : am_Inv g) (hs : am_SH k = (0, 9)) (hk : k < 134) (hr : am_HRf k 0 = some r) (hn : k ≠ 39) (h : AP M_X9_hashOfSamples b 37 [x0, x1, x2, x3, x4, x5, x6] (.ref r :: st) hi g Φ) : AP M_X9_hashOfSamples b 34 [x0, x1, x2, x3, x4, x5, x6] (.ref k :: st) hi g Φ := AP.getR (j := 0) (q := (RX9, TX9, 7)) d_X9_hashOfSamples_34 hs (hI.lt hk) rfl (by decide) (by decide) w_345 (hI.r hn hr) h
theorem d_X9_hashOfSamples_37 : decode cX9_hashOfSamples 37 = .ok (.iconst 4, 1) := by decide +kernel
theorem s_X9_hashOfSamples_37 (h : AP M_X9_hashOfSamples b 38 [x0, x1, x2, x3, x4, x5, x6] (.int 4 :: st) hi g Φ) : AP M_X9_hashOfSamples b 37 [x0, x1, x2, x3, x4, x5, x6] (st) hi g Φ := AP.iconst (x := 4) d_X9_hashOfSamples_37 (by decide) h
theorem d_X9_hashOfSamples_38 : decode cX9_hashOfSamples 38 = .ok (.iload 5, 2) := by decide +kernel
theorem s_X9_hashOfSamples_38 {n : Int32} (h : AP M_X9_hashOfSamples b 40 [x0, x1, x2, x3, x4, .int n, x6] (.int n :: st) hi g Φ) : AP M_X9_hashOfSamples b 38 [x0, x1, x2, x3, x4, .int n, x6] (st) hi g Φ := AP.iload (x := n) (i := 5) d_X9_hashOfSamples_38 rfl h
theorem d_X9_hashOfSamples_40 : decode cX9_hashOfSamples 40 = .ok (.invokevirtual 167, 3) := by decide +kernel
theorem s_X9_hashOfSamples_40 {a0 : Int32} {a1 : Int32} {k : Nat} {r0 : Int32} {P : am_HI → Prop} (hI : am_Inv g) (hs : am_SH k = (0, 7)) (hk : k < 134) (hst : (st.map Value.category).sum ≤ 8) (hc : am_Cr M_X7_leftBy [.ref k, .int a0, .int a1] hi g (some (.int r0)) P) (h : ∀ hi' : am_HI, P hi' → AP M_X9_hashOfSamples b 43 [x0, x1, x2, x3, x4, x5, x6] (.int r0 :: st) hi' g Φ) : AP M_X9_hashOfSamples b 40 [x0, x1, x2, x3, x4, x5, x6] (.int a1 :: .int a0 :: .ref k :: st) hi g Φ := AP.callVr (As := [.int a0, .int a1]) (q := (RX7, TX7, 7)) hI hc k_X9_hashOfSamples_167 d_X9_hashOfSamples_40 rfl hs hk rfl rfl hst h
theorem d_X9_hashOfSamples_43 : decode cX9_hashOfSamples 43 = .ok (.i2l, 1) := by decide +kernel
theorem s_X9_hashOfSamples_43 {x : Int32} (h : AP M_X9_hashOfSamples b 44 [x0, x1, x2, x3, x4, x5, x6] (.long x.toInt64 :: st) hi g Φ) : AP M_X9_hashOfSamples b 43 [x0, x1, x2, x3, x4, x5, x6] (.int x :: st) hi g Φ := AP.i2l d_X9_hashOfSamples_43 h
theorem d_X9_hashOfSamples_44 : decode cX9_hashOfSamples 44 = .ok (.invokestatic 353, 3) := by decide +kernel
theorem s_X9_hashOfSamples_44 {a0 : Int64} {a1 : Int64} {r0 : Int64} {P : am_HI → Prop} (hI : am_Inv g) (hst : (st.map Value.category).sum ≤ 8) (hc : am_Cr M_X9_mix [.long a0, .long a1] hi g (some (.long r0)) P) (h : ∀ hi' : am_HI, P hi' → AP M_X9_hashOfSamples b 47 [x0, x1, x2, x3, x4, x5, x6] (.long r0 :: st) hi' g Φ) : AP M_X9_hashOfSamples b 44 [x0, x1, x2, x3, x4, x5, x6] (.long a1 :: .long a0 :: st) hi g Φ := AP.callSr (As := [.long a0, .long a1]) hI hc k_X9_hashOfSamples_353 d_X9_hashOfSamples_44 rfl hst h
theorem d_X9_hashOfSamples_47 : decode cX9_hashOfSamples 47 = .ok (.lstore_n 3, 1) := by decide +kernel
theorem s_X9_hashOfSamples_47 {n : Int64} (hc : x2.category = 1) (h : AP M_X9_hashOfSamples b 48 [x0, x1, x2, .long n, jk, x5, x6] (st) hi g Φ) : AP M_X9_hashOfSamples b 47 [x0, x1, x2, x3, x4, x5, x6] (.long n :: st) hi g Φ := AP.lstore_n (x := n) (i := 3) d_X9_hashOfSamples_47 rfl (by decide) (by simp [am_st, am_ci, am_cr, am_cl, am_cd, hc]) h
theorem d_X9_hashOfSamples_48 : decode cX9_hashOfSamples 48 = .ok (.iconst 1, 1) := by decide +kernel
theorem s_X9_hashOfSamples_48 (h : AP M_X9_hashOfSamples b 49 [x0, x1, x2, x3, x4, x5, x6] (.int 1 :: st) hi g Φ) : AP M_X9_hashOfSamples b 48 [x0, x1, x2, x3, x4, x5, x6] (st) hi g Φ := AP.iconst (x := 1) d_X9_hashOfSamples_48 (by decide) h
theorem d_X9_hashOfSamples_49 : decode cX9_hashOfSamples 49 = .ok (.istore 6, 2) := by decide +kernel
theorem s_X9_hashOfSamples_49 {n : Int32} (hc : x5.category = 1) (h : AP M_X9_hashOfSamples b 51 [x0, x1, x2, x3, x4, x5, .int n] (st) hi g Φ) : AP M_X9_hashOfSamples b 49 [x0, x1, x2, x3, x4, x5, x6] (.int n :: st) hi g Φ := AP.istore (x := n) (i := 6) d_X9_hashOfSamples_49 (by decide) (by simp [am_st, am_ci, am_cr, am_cl, am_cd, hc]) h
theorem d_X9_hashOfSamples_51 : decode cX9_hashOfSamples 51 = .ok (.iload 6, 2) := by decide +kernel
theorem s_X9_hashOfSamples_51 {n : Int32} (h : AP M_X9_hashOfSamples b 53 [x0, x1, x2, x3, x4, x5, .int n] (.int n :: st) hi g Φ) : AP M_X9_hashOfSamples b 51 [x0, x1, x2, x3, x4, x5, .int n] (st) hi g Φ := AP.iload (x := n) (i := 6) d_X9_hashOfSamples_51 rfl h
theorem d_X9_hashOfSamples_53 : decode cX9_hashOfSamples 53 = .ok (.iconst 4, 1) := by decide +kernel
theorem s_X9_hashOfSamples_53 (h : AP M_X9_hashOfSamples b 54 [x0, x1, x2, x3, x4, x5, x6] (.int 4 :: st) hi g Φ) : AP M_X9_hashOfSamples b 53 [x0, x1, x2, x3, x4, x5, x6] (st) hi g Φ := AP.iconst (x := 4) d_X9_hashOfSamples_53 (by decide) h
theorem d_X9_hashOfSamples_54 : decode cX9_hashOfSamples 54 = .ok (.if_icmp .gt 30, 3) := by decide +kernel
theorem s_X9_hashOfSamples_54 {x y : Int32} (h1 : y < x → AP M_X9_hashOfSamples b 84 [x0, x1, x2, x3, x4, x5, x6] st hi g Φ) (h2 : ¬ y < x → AP M_X9_hashOfSamples b 57 [x0, x1, x2, x3, x4, x5, x6] st hi g Φ) : AP M_X9_hashOfSamples b 54 [x0, x1, x2, x3, x4, x5, x6] (.int y :: .int x :: st) hi g Φ := AP.icmp_gt d_X9_hashOfSamples_54 (by decide) h1 h2
theorem d_X9_hashOfSamples_57 : decode cX9_hashOfSamples 57 = .ok (.lload_n 3, 1) := by decide +kernel
theorem s_X9_hashOfSamples_57 {n : Int64} (h : AP M_X9_hashOfSamples b 58 [x0, x1, x2, .long n, x4, x5, x6] (.long n :: st) hi g Φ) : AP M_X9_hashOfSamples b 57 [x0, x1, x2, .long n, x4, x5, x6] (st) hi g Φ := AP.lload_n (x := n) (i := 3) d_X9_hashOfSamples_57 rfl rfl h
theorem d_X9_hashOfSamples_58 : decode cX9_hashOfSamples 58 = .ok (.aload_n 0, 1) := by decide +kernel
theorem s_X9_hashOfSamples_58 {n : Nat} (h : AP M_X9_hashOfSamples b 59 [.ref n, x1, x2, x3, x4, x5, x6] (.ref n :: st) hi g Φ) : AP M_X9_hashOfSamples b 58 [.ref n, x1, x2, x3, x4, x5, x6] (st) hi g Φ := AP.aload_n (x := n) (i := 0) d_X9_hashOfSamples_58 rfl rfl h
theorem d_X9_hashOfSamples_59 : decode cX9_hashOfSamples 59 = .ok (.getfield 12, 3) := by decide +kernel
theorem s_X9_hashOfSamples_59 {k r : Nat} (hI : am_Inv g) (hs : am_SH k = (0, 9)) (hk : k < 134) (hr : am_HRf k 0 = some r) (hn : k ≠ 39) (h : AP M_X9_hashOfSamples b 62 [x0, x1, x2, x3, x4, x5, x6] (.ref r :: st) hi g Φ) : AP M_X9_hashOfSamples b 59 [x0, x1, x2, x3, x4, x5, x6] (.ref k :: st) hi g Φ := AP.getR (j := 0) (q := (RX9, TX9, 7)) d_X9_hashOfSamples_59 hs (hI.lt hk) rfl (by decide) (by decide) w_345 (hI.r hn hr) h
theorem d_X9_hashOfSamples_62 : decode cX9_hashOfSamples 62 = .ok (.getfield 157, 3) := by decide +kernel
theorem s_X9_hashOfSamples_62 {k r : Nat} (hI : am_Inv g) (hs : am_SH k = (0, 7)) (hk : k < 134) (hr : am_HRf k 4 = some r) (hn : k ≠ 39) (h : AP M_X9_hashOfSamples b 65 [x0, x1, x2, x3, x4, x5, x6] (.ref r :: st) hi g Φ) : AP M_X9_hashOfSamples b 62 [x0, x1, x2, x3, x4, x5, x6] (.ref k :: st) hi g Φ := AP.getR (j := 4) (q := (RX7, TX7, 7)) d_X9_hashOfSamples_62 hs (hI.lt hk) rfl (by decide) (by decide) w_233 (hI.r hn hr) h
theorem d_X9_hashOfSamples_65 : decode cX9_hashOfSamples 65 = .ok (.iload 6, 2) := by decide +kernel
theorem s_X9_hashOfSamples_65 {n : Int32} (h : AP M_X9_hashOfSamples b 67 [x0, x1, x2, x3, x4, x5, .int n] (.int n :: st) hi g Φ) : AP M_X9_hashOfSamples b 65 [x0, x1, x2, x3, x4, x5, .int n] (st) hi g Φ := AP.iload (x := n) (i := 6) d_X9_hashOfSamples_65 rfl h
theorem d_X9_hashOfSamples_67 : decode cX9_hashOfSamples 67 = .ok (.iconst 1, 1) := by decide +kernel
theorem s_X9_hashOfSamples_67 (h : AP M_X9_hashOfSamples b 68 [x0, x1, x2, x3, x4, x5, x6] (.int 1 :: st) hi g Φ) : AP M_X9_hashOfSamples b 67 [x0, x1, x2, x3, x4, x5, x6] (st) hi g Φ := AP.iconst (x := 1) d_X9_hashOfSamples_67 (by decide) h
theorem d_X9_hashOfSamples_68 : decode cX9_hashOfSamples 68 = .ok (.isub, 1) := by decide +kernel
theorem s_X9_hashOfSamples_68 {x y : Int32} (h : AP M_X9_hashOfSamples b 69 [x0, x1, x2, x3, x4, x5, x6] (.int (x - y) :: st) hi g Φ) : AP M_X9_hashOfSamples b 68 [x0, x1, x2, x3, x4, x5, x6] (.int y :: .int x :: st) hi g Φ := AP.isub d_X9_hashOfSamples_68 h
theorem d_X9_hashOfSamples_69 : decode cX9_hashOfSamples 69 = .ok (.aaload, 1) := by decide +kernel
theorem s_X9_hashOfSamples_69 {k n j r : Nat} {i : Int32} (hI : am_Inv g) (hs : am_SH k = (6, n)) (hk : k < 134) (hn : n < 2 ^ 31) (hx : i = nI j) (hj : j < n) (hr : g.2.1 k j = some r) (h : AP M_X9_hashOfSamples b 70 [x0, x1, x2, x3, x4, x5, x6] (.ref r :: st) hi g Φ) : AP M_X9_hashOfSamples b 69 [x0, x1, x2, x3, x4, x5, x6] (.int i :: .ref k :: st) hi g Φ := AP.rald d_X9_hashOfSamples_69 hs (hI.lt hk) hn hx hj hr h
theorem s_X9_hashOfSamples_69a {k n j r : Nat} {i : Int32} (hI : am_Inv g) (hs : am_SH k = (5, n)) (hk : k < 134) (hn : n < 2 ^ 31) (hx : i = nI j) (hj : j < n) (hr : g.2.1 k j = some r) (h : AP M_X9_hashOfSamples b 70 [x0, x1, x2, x3, x4, x5, x6] (.ref r :: st) hi g Φ) : AP M_X9_hashOfSamples b 69 [x0, x1, x2, x3, x4, x5, x6] (.int i :: .ref k :: st) hi g Φ := AP.aald d_X9_hashOfSamples_69 hs (hI.lt hk) hn hx hj hr h
theorem d_X9_hashOfSamples_70 : decode cX9_hashOfSamples 70 = .ok (.iload 5, 2) := by decide +kernel
theorem s_X9_hashOfSamples_70 {n : Int32} (h : AP M_X9_hashOfSamples b 72 [x0, x1, x2, x3, x4, .int n, x6] (.int n :: st) hi g Φ) : AP M_X9_hashOfSamples b 70 [x0, x1, x2, x3, x4, .int n, x6] (st) hi g Φ := AP.iload (x := n) (i := 5) d_X9_hashOfSamples_70 rfl h
theorem d_X9_hashOfSamples_72 : decode cX9_hashOfSamples 72 = .ok (.iaload, 1) := by decide +kernel
theorem s_X9_hashOfSamples_72 {k n j : Nat} {i : Int32} (hI : am_Inv g) (hs : am_SH k = (1, n)) (hk : k < 134) (hn : n < 2 ^ 31) (hx : i = nI j) (hj : j < n) (h : AP M_X9_hashOfSamples b 73 [x0, x1, x2, x3, x4, x5, x6] (.int (hi k j) :: st) hi g Φ) : AP M_X9_hashOfSamples b 72 [x0, x1, x2, x3, x4, x5, x6] (.int i :: .ref k :: st) hi g Φ := AP.iald d_X9_hashOfSamples_72 hs (hI.lt hk) hn hx hj h
theorem d_X9_hashOfSamples_73 : decode cX9_hashOfSamples 73 = .ok (.i2l, 1) := by decide +kernel
theorem s_X9_hashOfSamples_73 {x : Int32} (h : AP M_X9_hashOfSamples b 74 [x0, x1, x2, x3, x4, x5, x6] (.long x.toInt64 :: st) hi g Φ) : AP M_X9_hashOfSamples b 73 [x0, x1, x2, x3, x4, x5, x6] (.int x :: st) hi g Φ := AP.i2l d_X9_hashOfSamples_73 h
theorem d_X9_hashOfSamples_74 : decode cX9_hashOfSamples 74 = .ok (.invokestatic 353, 3) := by decide +kernel
theorem s_X9_hashOfSamples_74 {a0 : Int64} {a1 : Int64} {r0 : Int64} {P : am_HI → Prop} (hI : am_Inv g) (hst : (st.map Value.category).sum ≤ 8) (hc : am_Cr M_X9_mix [.long a0, .long a1] hi g (some (.long r0)) P) (h : ∀ hi' : am_HI, P hi' → AP M_X9_hashOfSamples b 77 [x0, x1, x2, x3, x4, x5, x6] (.long r0 :: st) hi' g Φ) : AP M_X9_hashOfSamples b 74 [x0, x1, x2, x3, x4, x5, x6] (.long a1 :: .long a0 :: st) hi g Φ := AP.callSr (As := [.long a0, .long a1]) hI hc k_X9_hashOfSamples_353 d_X9_hashOfSamples_74 rfl hst h
theorem d_X9_hashOfSamples_77 : decode cX9_hashOfSamples 77 = .ok (.lstore_n 3, 1) := by decide +kernel
theorem s_X9_hashOfSamples_77 {n : Int64} (hc : x2.category = 1) (h : AP M_X9_hashOfSamples b 78 [x0, x1, x2, .long n, jk, x5, x6] (st) hi g Φ) : AP M_X9_hashOfSamples b 77 [x0, x1, x2, x3, x4, x5, x6] (.long n :: st) hi g Φ := AP.lstore_n (x := n) (i := 3) d_X9_hashOfSamples_77 rfl (by decide) (by simp [am_st, am_ci, am_cr, am_cl, am_cd, hc]) h
theorem d_X9_hashOfSamples_78 : decode cX9_hashOfSamples 78 = .ok (.iinc 6 1, 3) := by decide +kernel
theorem s_X9_hashOfSamples_78 {n : Int32} (hc : x5.category = 1) (h : AP M_X9_hashOfSamples b 81 [x0, x1, x2, x3, x4, x5, .int (n + 1)] (st) hi g Φ) : AP M_X9_hashOfSamples b 78 [x0, x1, x2, x3, x4, x5, .int n] (st) hi g Φ := AP.iinc (i := 6) (x := n) (y := n + 1) d_X9_hashOfSamples_78 rfl rfl (by decide) (by simp [am_st, am_ci, am_cr, am_cl, am_cd, hc]) h
theorem d_X9_hashOfSamples_81 : decode cX9_hashOfSamples 81 = .ok (.goto (-30), 3) := by decide +kernel
theorem s_X9_hashOfSamples_81 (h : AP M_X9_hashOfSamples b 51 [x0, x1, x2, x3, x4, x5, x6] st hi g Φ) : AP M_X9_hashOfSamples b 81 [x0, x1, x2, x3, x4, x5, x6] st hi g Φ := AP.goto d_X9_hashOfSamples_81 (by decide) h
theorem d_X9_hashOfSamples_84 : decode cX9_hashOfSamples 84 = .ok (.iinc 5 1, 3) := by decide +kernel
theorem s_X9_hashOfSamples_84 {n : Int32} (hc : x4.category = 1) (h : AP M_X9_hashOfSamples b 87 [x0, x1, x2, x3, x4, .int (n + 1), x6] (st) hi g Φ) : AP M_X9_hashOfSamples b 84 [x0, x1, x2, x3, x4, .int n, x6] (st) hi g Φ := AP.iinc (i := 5) (x := n) (y := n + 1) d_X9_hashOfSamples_84 rfl rfl (by decide) (by simp [am_st, am_ci, am_cr, am_cl, am_cd, hc]) h
theorem d_X9_hashOfSamples_87 : decode cX9_hashOfSamples 87 = .ok (.goto (-82), 3) := by decide +kernel
theorem s_X9_hashOfSamples_87 (h : AP M_X9_hashOfSamples b 5 [x0, x1, x2, x3, x4, x5, x6] st hi g Φ) : AP M_X9_hashOfSamples b 87 [x0, x1, x2, x3, x4, x5, x6] st hi g Φ := AP.goto d_X9_hashOfSamples_87 (by decide) h
theorem d_X9_hashOfSamples_90 : decode cX9_hashOfSamples 90 = .ok (.lload_n 3, 1) := by decide +kernel
theorem s_X9_hashOfSamples_90 {n : Int64} (h : AP M_X9_hashOfSamples b 91 [x0, x1, x2, .long n, x4, x5, x6] (.long n :: st) hi g Φ) : AP M_X9_hashOfSamples b 90 [x0, x1, x2, .long n, x4, x5, x6] (st) hi g Φ := AP.lload_n (x := n) (i := 3) d_X9_hashOfSamples_90 rfl rfl h
theorem d_X9_hashOfSamples_91 : decode cX9_hashOfSamples 91 = .ok (.lreturn, 1) := by decide +kernel
theorem s_X9_hashOfSamples_91 {x : Int64} (h : Φ (.ok (some (.long x))) hi g) : AP M_X9_hashOfSamples b 91 [x0, x1, x2, x3, x4, x5, x6] [.long x] hi g Φ := AP.lret d_X9_hashOfSamples_91 rfl h
end
section
variable {b : Nat × Nat} {st : List Value} {hi : am_HI} {g : am_G} {Φ : am_P} {x0 x1 : Value}
theorem d_X9_isBlock_0 : decode cX9_isBlock 0 = .ok (.iload_n 1, 1) := by decide +kernel
theorem s_X9_isBlock_0 {n : Int32} (h : AP M_X9_isBlock b 1 [x0, .int n] (.int n :: st) hi g Φ) : AP M_X9_isBlock b 0 [x0, .int n] (st) hi g Φ := AP.iload_n (x := n) (i := 1) d_X9_isBlock_0 rfl rfl h
theorem d_X9_isBlock_1 : decode cX9_isBlock 1 = .ok (.iconst 0, 1) := by decide +kernel
theorem s_X9_isBlock_1 (h : AP M_X9_isBlock b 2 [x0, x1] (.int 0 :: st) hi g Φ) : AP M_X9_isBlock b 1 [x0, x1] (st) hi g Φ := AP.iconst (x := 0) d_X9_isBlock_1 (by decide) h
theorem d_X9_isBlock_2 : decode cX9_isBlock 2 = .ok (.aload_n 0, 1) := by decide +kernel
theorem s_X9_isBlock_2 {n : Nat} (h : AP M_X9_isBlock b 3 [.ref n, x1] (.ref n :: st) hi g Φ) : AP M_X9_isBlock b 2 [.ref n, x1] (st) hi g Φ := AP.aload_n (x := n) (i := 0) d_X9_isBlock_2 rfl rfl h
theorem d_X9_isBlock_3 : decode cX9_isBlock 3 = .ok (.getfield 20, 3) := by decide +kernel
theorem s_X9_isBlock_3 {k r : Nat} (hI : am_Inv g) (hs : am_SH k = (0, 9)) (hk : k < 134) (hr : am_HRf k 1 = some r) (hn : k ≠ 39) (h : AP M_X9_isBlock b 6 [x0, x1] (.ref r :: st) hi g Φ) : AP M_X9_isBlock b 3 [x0, x1] (.ref k :: st) hi g Φ := AP.getR (j := 1) (q := (RX9, TX9, 7)) d_X9_isBlock_3 hs (hI.lt hk) rfl (by decide) (by decide) w_346 (hI.r hn hr) h
theorem d_X9_isBlock_6 : decode cX9_isBlock 6 = .ok (.getfield 83, 3) := by decide +kernel
theorem s_X9_isBlock_6 {k : Nat} (hI : am_Inv g) (hs : am_SH k = (0, 6)) (hk : k < 134) (h : AP M_X9_isBlock b 9 [x0, x1] (.int (hi k 3) :: st) hi g Φ) : AP M_X9_isBlock b 6 [x0, x1] (.ref k :: st) hi g Φ := AP.getI (j := 3) (q := (RX6, TX6, 8)) d_X9_isBlock_6 hs (hI.lt hk) rfl (by decide) (by decide) w_168 h
theorem d_X9_isBlock_9 : decode cX9_isBlock 9 = .ok (.invokestatic 145, 3) := by decide +kernel
theorem s_X9_isBlock_9 {a0 : Int32} {r0 : Int32} {P : am_HI → Prop} (hI : am_Inv g) (hst : (st.map Value.category).sum ≤ 8) (hc : am_Cr M_X9_blocksOf [.int a0] hi g (some (.int r0)) P) (h : ∀ hi' : am_HI, P hi' → AP M_X9_isBlock b 12 [x0, x1] (.int r0 :: st) hi' g Φ) : AP M_X9_isBlock b 9 [x0, x1] (.int a0 :: st) hi g Φ := AP.callSr (As := [.int a0]) hI hc k_X9_isBlock_145 d_X9_isBlock_9 rfl hst h
theorem d_X9_isBlock_12 : decode cX9_isBlock 12 = .ok (.iconst 1, 1) := by decide +kernel
theorem s_X9_isBlock_12 (h : AP M_X9_isBlock b 13 [x0, x1] (.int 1 :: st) hi g Φ) : AP M_X9_isBlock b 12 [x0, x1] (st) hi g Φ := AP.iconst (x := 1) d_X9_isBlock_12 (by decide) h
theorem d_X9_isBlock_13 : decode cX9_isBlock 13 = .ok (.isub, 1) := by decide +kernel
theorem s_X9_isBlock_13 {x y : Int32} (h : AP M_X9_isBlock b 14 [x0, x1] (.int (x - y) :: st) hi g Φ) : AP M_X9_isBlock b 13 [x0, x1] (.int y :: .int x :: st) hi g Φ := AP.isub d_X9_isBlock_13 h
theorem d_X9_isBlock_14 : decode cX9_isBlock 14 = .ok (.invokestatic 58, 3) := by decide +kernel
theorem s_X9_isBlock_14 {a0 : Int32} {a1 : Int32} {a2 : Int32} {r0 : Int32} {P : am_HI → Prop} (hI : am_Inv g) (hst : (st.map Value.category).sum ≤ 8) (hc : am_Cr M_X9_isWithin [.int a0, .int a1, .int a2] hi g (some (.int r0)) P) (h : ∀ hi' : am_HI, P hi' → AP M_X9_isBlock b 17 [x0, x1] (.int r0 :: st) hi' g Φ) : AP M_X9_isBlock b 14 [x0, x1] (.int a2 :: .int a1 :: .int a0 :: st) hi g Φ := AP.callSr (As := [.int a0, .int a1, .int a2]) hI hc k_X9_isBlock_58 d_X9_isBlock_14 rfl hst h
theorem d_X9_isBlock_17 : decode cX9_isBlock 17 = .ok (.ireturn, 1) := by decide +kernel
theorem s_X9_isBlock_17 {x : Int32} (hx : x = 0 ∨ x = 1) (h : Φ (.ok (some (.int x))) hi g) : AP M_X9_isBlock b 17 [x0, x1] [.int x] hi g Φ := AP.zret d_X9_isBlock_17 rfl hx h
end
section
variable {b : Nat × Nat} {st : List Value} {hi : am_HI} {g : am_G} {Φ : am_P} {x0 : Value}
theorem d_X9_isKind_0 : decode cX9_isKind 0 = .ok (.iload_n 0, 1) := by decide +kernel
theorem s_X9_isKind_0 {n : Int32} (h : AP M_X9_isKind b 1 [.int n] (.int n :: st) hi g Φ) : AP M_X9_isKind b 0 [.int n] (st) hi g Φ := AP.iload_n (x := n) (i := 0) d_X9_isKind_0 rfl rfl h
theorem d_X9_isKind_1 : decode cX9_isKind 1 = .ok (.iconst 0, 1) := by decide +kernel
theorem s_X9_isKind_1 (h : AP M_X9_isKind b 2 [x0] (.int 0 :: st) hi g Φ) : AP M_X9_isKind b 1 [x0] (st) hi g Φ := AP.iconst (x := 0) d_X9_isKind_1 (by decide) h
theorem d_X9_isKind_2 : decode cX9_isKind 2 = .ok (.iconst 4, 1) := by decide +kernel
theorem s_X9_isKind_2 (h : AP M_X9_isKind b 3 [x0] (.int 4 :: st) hi g Φ) : AP M_X9_isKind b 2 [x0] (st) hi g Φ := AP.iconst (x := 4) d_X9_isKind_2 (by decide) h
theorem d_X9_isKind_3 : decode cX9_isKind 3 = .ok (.invokestatic 58, 3) := by decide +kernel
theorem s_X9_isKind_3 {a0 : Int32} {a1 : Int32} {a2 : Int32} {r0 : Int32} {P : am_HI → Prop} (hI : am_Inv g) (hst : (st.map Value.category).sum ≤ 8) (hc : am_Cr M_X9_isWithin [.int a0, .int a1, .int a2] hi g (some (.int r0)) P) (h : ∀ hi' : am_HI, P hi' → AP M_X9_isKind b 6 [x0] (.int r0 :: st) hi' g Φ) : AP M_X9_isKind b 3 [x0] (.int a2 :: .int a1 :: .int a0 :: st) hi g Φ := AP.callSr (As := [.int a0, .int a1, .int a2]) hI hc k_X9_isKind_58 d_X9_isKind_3 rfl hst h
theorem d_X9_isKind_6 : decode cX9_isKind 6 = .ok (.ireturn, 1) := by decide +kernel
theorem s_X9_isKind_6 {x : Int32} (hx : x = 0 ∨ x = 1) (h : Φ (.ok (some (.int x))) hi g) : AP M_X9_isKind b 6 [x0] [.int x] hi g Φ := AP.zret d_X9_isKind_6 rfl hx h
end
section
variable {b : Nat × Nat} {st : List Value} {hi : am_HI} {g : am_G} {Φ : am_P} {x0 x1 : Value}
theorem d_X9_isTold_0 : decode cX9_isTold 0 = .ok (.iload_n 1, 1) := by decide +kernel
theorem s_X9_isTold_0 {n : Int32} (h : AP M_X9_isTold b 1 [x0, .int n] (.int n :: st) hi g Φ) : AP M_X9_isTold b 0 [x0, .int n] (st) hi g Φ := AP.iload_n (x := n) (i := 1) d_X9_isTold_0 rfl rfl h
theorem d_X9_isTold_1 : decode cX9_isTold 1 = .ok (.iconst 0, 1) := by decide +kernel
theorem s_X9_isTold_1 (h : AP M_X9_isTold b 2 [x0, x1] (.int 0 :: st) hi g Φ) : AP M_X9_isTold b 1 [x0, x1] (st) hi g Φ := AP.iconst (x := 0) d_X9_isTold_1 (by decide) h
theorem d_X9_isTold_2 : decode cX9_isTold 2 = .ok (.aload_n 0, 1) := by decide +kernel
theorem s_X9_isTold_2 {n : Nat} (h : AP M_X9_isTold b 3 [.ref n, x1] (.ref n :: st) hi g Φ) : AP M_X9_isTold b 2 [.ref n, x1] (st) hi g Φ := AP.aload_n (x := n) (i := 0) d_X9_isTold_2 rfl rfl h
theorem d_X9_isTold_3 : decode cX9_isTold 3 = .ok (.getfield 20, 3) := by decide +kernel
theorem s_X9_isTold_3 {k r : Nat} (hI : am_Inv g) (hs : am_SH k = (0, 9)) (hk : k < 134) (hr : am_HRf k 1 = some r) (hn : k ≠ 39) (h : AP M_X9_isTold b 6 [x0, x1] (.ref r :: st) hi g Φ) : AP M_X9_isTold b 3 [x0, x1] (.ref k :: st) hi g Φ := AP.getR (j := 1) (q := (RX9, TX9, 7)) d_X9_isTold_3 hs (hI.lt hk) rfl (by decide) (by decide) w_346 (hI.r hn hr) h
theorem d_X9_isTold_6 : decode cX9_isTold 6 = .ok (.getfield 129, 3) := by decide +kernel
theorem s_X9_isTold_6 {k r : Nat} (hI : am_Inv g) (hs : am_SH k = (0, 6)) (hk : k < 134) (hr : am_HRf k 2 = some r) (hn : k ≠ 39) (h : AP M_X9_isTold b 9 [x0, x1] (.ref r :: st) hi g Φ) : AP M_X9_isTold b 6 [x0, x1] (.ref k :: st) hi g Φ := AP.getR (j := 2) (q := (RX6, TX6, 8)) d_X9_isTold_6 hs (hI.lt hk) rfl (by decide) (by decide) w_165 (hI.r hn hr) h
theorem d_X9_isTold_9 : decode cX9_isTold 9 = .ok (.getfield 216, 3) := by decide +kernel
theorem s_X9_isTold_9 {k : Nat} (hI : am_Inv g) (hs : am_SH k = (0, 2)) (hk : k < 134) (h : AP M_X9_isTold b 12 [x0, x1] (.int (hi k 5) :: st) hi g Φ) : AP M_X9_isTold b 9 [x0, x1] (.ref k :: st) hi g Φ := AP.getI (j := 5) (q := (RX2, TX2, 8)) d_X9_isTold_9 hs (hI.lt hk) rfl (by decide) (by decide) w_133 h
theorem d_X9_isTold_12 : decode cX9_isTold 12 = .ok (.iconst 1, 1) := by decide +kernel
theorem s_X9_isTold_12 (h : AP M_X9_isTold b 13 [x0, x1] (.int 1 :: st) hi g Φ) : AP M_X9_isTold b 12 [x0, x1] (st) hi g Φ := AP.iconst (x := 1) d_X9_isTold_12 (by decide) h
theorem d_X9_isTold_13 : decode cX9_isTold 13 = .ok (.isub, 1) := by decide +kernel
theorem s_X9_isTold_13 {x y : Int32} (h : AP M_X9_isTold b 14 [x0, x1] (.int (x - y) :: st) hi g Φ) : AP M_X9_isTold b 13 [x0, x1] (.int y :: .int x :: st) hi g Φ := AP.isub d_X9_isTold_13 h
theorem d_X9_isTold_14 : decode cX9_isTold 14 = .ok (.invokestatic 58, 3) := by decide +kernel
theorem s_X9_isTold_14 {a0 : Int32} {a1 : Int32} {a2 : Int32} {r0 : Int32} {P : am_HI → Prop} (hI : am_Inv g) (hst : (st.map Value.category).sum ≤ 8) (hc : am_Cr M_X9_isWithin [.int a0, .int a1, .int a2] hi g (some (.int r0)) P) (h : ∀ hi' : am_HI, P hi' → AP M_X9_isTold b 17 [x0, x1] (.int r0 :: st) hi' g Φ) : AP M_X9_isTold b 14 [x0, x1] (.int a2 :: .int a1 :: .int a0 :: st) hi g Φ := AP.callSr (As := [.int a0, .int a1, .int a2]) hI hc k_X9_isTold_58 d_X9_isTold_14 rfl hst h
theorem d_X9_isTold_17 : decode cX9_isTold 17 = .ok (.ireturn, 1) := by decide +kernel
theorem s_X9_isTold_17 {x : Int32} (hx : x = 0 ∨ x = 1) (h : Φ (.ok (some (.int x))) hi g) : AP M_X9_isTold b 17 [x0, x1] [.int x] hi g Φ := AP.zret d_X9_isTold_17 rfl hx h
end
section
variable {b : Nat × Nat} {st : List Value} {hi : am_HI} {g : am_G} {Φ : am_P} {x0 x1 x2 : Value}
theorem d_X9_loudness_0 : decode cX9_loudness 0 = .ok (.aload_n 0, 1) := by decide +kernel
theorem s_X9_loudness_0 {n : Nat} (h : AP M_X9_loudness b 1 [.ref n, x1, x2] (.ref n :: st) hi g Φ) : AP M_X9_loudness b 0 [.ref n, x1, x2] (st) hi g Φ := AP.aload_n (x := n) (i := 0) d_X9_loudness_0 rfl rfl h
theorem d_X9_loudness_1 : decode cX9_loudness 1 = .ok (.getfield 20, 3) := by decide +kernel
theorem s_X9_loudness_1 {k r : Nat} (hI : am_Inv g) (hs : am_SH k = (0, 9)) (hk : k < 134) (hr : am_HRf k 1 = some r) (hn : k ≠ 39) (h : AP M_X9_loudness b 4 [x0, x1, x2] (.ref r :: st) hi g Φ) : AP M_X9_loudness b 1 [x0, x1, x2] (.ref k :: st) hi g Φ := AP.getR (j := 1) (q := (RX9, TX9, 7)) d_X9_loudness_1 hs (hI.lt hk) rfl (by decide) (by decide) w_346 (hI.r hn hr) h
theorem d_X9_loudness_4 : decode cX9_loudness 4 = .ok (.getfield 83, 3) := by decide +kernel
theorem s_X9_loudness_4 {k : Nat} (hI : am_Inv g) (hs : am_SH k = (0, 6)) (hk : k < 134) (h : AP M_X9_loudness b 7 [x0, x1, x2] (.int (hi k 3) :: st) hi g Φ) : AP M_X9_loudness b 4 [x0, x1, x2] (.ref k :: st) hi g Φ := AP.getI (j := 3) (q := (RX6, TX6, 8)) d_X9_loudness_4 hs (hI.lt hk) rfl (by decide) (by decide) w_168 h
theorem d_X9_loudness_7 : decode cX9_loudness 7 = .ok (.ifCond .gt 5, 3) := by decide +kernel
theorem s_X9_loudness_7 {x : Int32} (h1 : 0 < x → AP M_X9_loudness b 12 [x0, x1, x2] st hi g Φ) (h2 : ¬ 0 < x → AP M_X9_loudness b 10 [x0, x1, x2] st hi g Φ) : AP M_X9_loudness b 7 [x0, x1, x2] (.int x :: st) hi g Φ := AP.if_gt d_X9_loudness_7 (by decide) h1 h2
theorem d_X9_loudness_10 : decode cX9_loudness 10 = .ok (.dconst 0, 1) := by decide +kernel
theorem s_X9_loudness_10 (h : AP M_X9_loudness b 11 [x0, x1, x2] (.double FP.dconst0 :: st) hi g Φ) : AP M_X9_loudness b 10 [x0, x1, x2] (st) hi g Φ := AP.dconst0 d_X9_loudness_10 h
theorem d_X9_loudness_11 : decode cX9_loudness 11 = .ok (.dreturn, 1) := by decide +kernel
theorem s_X9_loudness_11 {x : UInt64} (h : Φ (.ok (some (.double x))) hi g) : AP M_X9_loudness b 11 [x0, x1, x2] [.double x] hi g Φ := AP.dret d_X9_loudness_11 rfl h
theorem d_X9_loudness_12 : decode cX9_loudness 12 = .ok (.iconst 0, 1) := by decide +kernel
theorem s_X9_loudness_12 (h : AP M_X9_loudness b 13 [x0, x1, x2] (.int 0 :: st) hi g Φ) : AP M_X9_loudness b 12 [x0, x1, x2] (st) hi g Φ := AP.iconst (x := 0) d_X9_loudness_12 (by decide) h
theorem d_X9_loudness_13 : decode cX9_loudness 13 = .ok (.istore_n 1, 1) := by decide +kernel
theorem s_X9_loudness_13 {n : Int32} (hc : x0.category = 1) (h : AP M_X9_loudness b 14 [x0, .int n, x2] (st) hi g Φ) : AP M_X9_loudness b 13 [x0, x1, x2] (.int n :: st) hi g Φ := AP.istore_n (x := n) (i := 1) d_X9_loudness_13 rfl (by decide) (by simp [am_st, am_ci, am_cr, am_cl, am_cd, hc]) h
theorem d_X9_loudness_14 : decode cX9_loudness 14 = .ok (.iconst 0, 1) := by decide +kernel
theorem s_X9_loudness_14 (h : AP M_X9_loudness b 15 [x0, x1, x2] (.int 0 :: st) hi g Φ) : AP M_X9_loudness b 14 [x0, x1, x2] (st) hi g Φ := AP.iconst (x := 0) d_X9_loudness_14 (by decide) h
theorem d_X9_loudness_15 : decode cX9_loudness 15 = .ok (.istore_n 2, 1) := by decide +kernel
theorem s_X9_loudness_15 {n : Int32} (hc : x1.category = 1) (h : AP M_X9_loudness b 16 [x0, x1, .int n] (st) hi g Φ) : AP M_X9_loudness b 15 [x0, x1, x2] (.int n :: st) hi g Φ := AP.istore_n (x := n) (i := 2) d_X9_loudness_15 rfl (by decide) (by simp [am_st, am_ci, am_cr, am_cl, am_cd, hc]) h
theorem d_X9_loudness_16 : decode cX9_loudness 16 = .ok (.iload_n 2, 1) := by decide +kernel
theorem s_X9_loudness_16 {n : Int32} (h : AP M_X9_loudness b 17 [x0, x1, .int n] (.int n :: st) hi g Φ) : AP M_X9_loudness b 16 [x0, x1, .int n] (st) hi g Φ := AP.iload_n (x := n) (i := 2) d_X9_loudness_16 rfl rfl h
theorem d_X9_loudness_17 : decode cX9_loudness 17 = .ok (.aload_n 0, 1) := by decide +kernel
theorem s_X9_loudness_17 {n : Nat} (h : AP M_X9_loudness b 18 [.ref n, x1, x2] (.ref n :: st) hi g Φ) : AP M_X9_loudness b 17 [.ref n, x1, x2] (st) hi g Φ := AP.aload_n (x := n) (i := 0) d_X9_loudness_17 rfl rfl h
theorem d_X9_loudness_18 : decode cX9_loudness 18 = .ok (.getfield 20, 3) := by decide +kernel
theorem s_X9_loudness_18 {k r : Nat} (hI : am_Inv g) (hs : am_SH k = (0, 9)) (hk : k < 134) (hr : am_HRf k 1 = some r) (hn : k ≠ 39) (h : AP M_X9_loudness b 21 [x0, x1, x2] (.ref r :: st) hi g Φ) : AP M_X9_loudness b 18 [x0, x1, x2] (.ref k :: st) hi g Φ := AP.getR (j := 1) (q := (RX9, TX9, 7)) d_X9_loudness_18 hs (hI.lt hk) rfl (by decide) (by decide) w_346 (hI.r hn hr) h
theorem d_X9_loudness_21 : decode cX9_loudness 21 = .ok (.getfield 83, 3) := by decide +kernel
theorem s_X9_loudness_21 {k : Nat} (hI : am_Inv g) (hs : am_SH k = (0, 6)) (hk : k < 134) (h : AP M_X9_loudness b 24 [x0, x1, x2] (.int (hi k 3) :: st) hi g Φ) : AP M_X9_loudness b 21 [x0, x1, x2] (.ref k :: st) hi g Φ := AP.getI (j := 3) (q := (RX6, TX6, 8)) d_X9_loudness_21 hs (hI.lt hk) rfl (by decide) (by decide) w_168 h
theorem d_X9_loudness_24 : decode cX9_loudness 24 = .ok (.if_icmp .ge 23, 3) := by decide +kernel
theorem s_X9_loudness_24 {x y : Int32} (h1 : y ≤ x → AP M_X9_loudness b 47 [x0, x1, x2] st hi g Φ) (h2 : ¬ y ≤ x → AP M_X9_loudness b 27 [x0, x1, x2] st hi g Φ) : AP M_X9_loudness b 24 [x0, x1, x2] (.int y :: .int x :: st) hi g Φ := AP.icmp_ge d_X9_loudness_24 (by decide) h1 h2
theorem d_X9_loudness_27 : decode cX9_loudness 27 = .ok (.iload_n 1, 1) := by decide +kernel
theorem s_X9_loudness_27 {n : Int32} (h : AP M_X9_loudness b 28 [x0, .int n, x2] (.int n :: st) hi g Φ) : AP M_X9_loudness b 27 [x0, .int n, x2] (st) hi g Φ := AP.iload_n (x := n) (i := 1) d_X9_loudness_27 rfl rfl h
theorem d_X9_loudness_28 : decode cX9_loudness 28 = .ok (.aload_n 0, 1) := by decide +kernel
theorem s_X9_loudness_28 {n : Nat} (h : AP M_X9_loudness b 29 [.ref n, x1, x2] (.ref n :: st) hi g Φ) : AP M_X9_loudness b 28 [.ref n, x1, x2] (st) hi g Φ := AP.aload_n (x := n) (i := 0) d_X9_loudness_28 rfl rfl h
theorem d_X9_loudness_29 : decode cX9_loudness 29 = .ok (.getfield 20, 3) := by decide +kernel
theorem s_X9_loudness_29 {k r : Nat} (hI : am_Inv g) (hs : am_SH k = (0, 9)) (hk : k < 134) (hr : am_HRf k 1 = some r) (hn : k ≠ 39) (h : AP M_X9_loudness b 32 [x0, x1, x2] (.ref r :: st) hi g Φ) : AP M_X9_loudness b 29 [x0, x1, x2] (.ref k :: st) hi g Φ := AP.getR (j := 1) (q := (RX9, TX9, 7)) d_X9_loudness_29 hs (hI.lt hk) rfl (by decide) (by decide) w_346 (hI.r hn hr) h
theorem d_X9_loudness_32 : decode cX9_loudness 32 = .ok (.iload_n 2, 1) := by decide +kernel
theorem s_X9_loudness_32 {n : Int32} (h : AP M_X9_loudness b 33 [x0, x1, .int n] (.int n :: st) hi g Φ) : AP M_X9_loudness b 32 [x0, x1, .int n] (st) hi g Φ := AP.iload_n (x := n) (i := 2) d_X9_loudness_32 rfl rfl h
theorem d_X9_loudness_33 : decode cX9_loudness 33 = .ok (.invokevirtual 87, 3) := by decide +kernel
theorem s_X9_loudness_33 {a0 : Int32} {k : Nat} {r0 : Int32} {P : am_HI → Prop} (hI : am_Inv g) (hs : am_SH k = (0, 6)) (hk : k < 134) (hst : (st.map Value.category).sum ≤ 8) (hc : am_Cr M_X6_soundAt [.ref k, .int a0] hi g (some (.int r0)) P) (h : ∀ hi' : am_HI, P hi' → AP M_X9_loudness b 36 [x0, x1, x2] (.int r0 :: st) hi' g Φ) : AP M_X9_loudness b 33 [x0, x1, x2] (.int a0 :: .ref k :: st) hi g Φ := AP.callVr (As := [.int a0]) (q := (RX6, TX6, 8)) hI hc k_X9_loudness_87 d_X9_loudness_33 rfl hs hk rfl rfl hst h
theorem d_X9_loudness_36 : decode cX9_loudness 36 = .ok (.invokestatic 151, 3) := by decide +kernel
theorem s_X9_loudness_36 {a0 : Int32} {r0 : Int32} {P : am_HI → Prop} (hI : am_Inv g) (hst : (st.map Value.category).sum ≤ 8) (hc : am_Cr M_J9_abs_0f7a4 [.int a0] hi g (some (.int r0)) P) (h : ∀ hi' : am_HI, P hi' → AP M_X9_loudness b 39 [x0, x1, x2] (.int r0 :: st) hi' g Φ) : AP M_X9_loudness b 36 [x0, x1, x2] (.int a0 :: st) hi g Φ := AP.callSr (As := [.int a0]) hI hc k_X9_loudness_151 d_X9_loudness_36 rfl hst h
theorem d_X9_loudness_39 : decode cX9_loudness 39 = .ok (.iadd, 1) := by decide +kernel
theorem s_X9_loudness_39 {x y : Int32} (h : AP M_X9_loudness b 40 [x0, x1, x2] (.int (x + y) :: st) hi g Φ) : AP M_X9_loudness b 39 [x0, x1, x2] (.int y :: .int x :: st) hi g Φ := AP.iadd d_X9_loudness_39 h
theorem d_X9_loudness_40 : decode cX9_loudness 40 = .ok (.istore_n 1, 1) := by decide +kernel
theorem s_X9_loudness_40 {n : Int32} (hc : x0.category = 1) (h : AP M_X9_loudness b 41 [x0, .int n, x2] (st) hi g Φ) : AP M_X9_loudness b 40 [x0, x1, x2] (.int n :: st) hi g Φ := AP.istore_n (x := n) (i := 1) d_X9_loudness_40 rfl (by decide) (by simp [am_st, am_ci, am_cr, am_cl, am_cd, hc]) h
theorem d_X9_loudness_41 : decode cX9_loudness 41 = .ok (.iinc 2 1, 3) := by decide +kernel
theorem s_X9_loudness_41 {n : Int32} (hc : x1.category = 1) (h : AP M_X9_loudness b 44 [x0, x1, .int (n + 1)] (st) hi g Φ) : AP M_X9_loudness b 41 [x0, x1, .int n] (st) hi g Φ := AP.iinc (i := 2) (x := n) (y := n + 1) d_X9_loudness_41 rfl rfl (by decide) (by simp [am_st, am_ci, am_cr, am_cl, am_cd, hc]) h
theorem d_X9_loudness_44 : decode cX9_loudness 44 = .ok (.goto (-28), 3) := by decide +kernel
theorem s_X9_loudness_44 (h : AP M_X9_loudness b 16 [x0, x1, x2] st hi g Φ) : AP M_X9_loudness b 44 [x0, x1, x2] st hi g Φ := AP.goto d_X9_loudness_44 (by decide) h
theorem d_X9_loudness_47 : decode cX9_loudness 47 = .ok (.iload_n 1, 1) := by decide +kernel
theorem s_X9_loudness_47 {n : Int32} (h : AP M_X9_loudness b 48 [x0, .int n, x2] (.int n :: st) hi g Φ) : AP M_X9_loudness b 47 [x0, .int n, x2] (st) hi g Φ := AP.iload_n (x := n) (i := 1) d_X9_loudness_47 rfl rfl h
theorem d_X9_loudness_48 : decode cX9_loudness 48 = .ok (.i2d, 1) := by decide +kernel
theorem s_X9_loudness_48 {x : Int32} (h : AP M_X9_loudness b 49 [x0, x1, x2] (.double (FP.i2d x) :: st) hi g Φ) : AP M_X9_loudness b 48 [x0, x1, x2] (.int x :: st) hi g Φ := AP.i2d d_X9_loudness_48 h
theorem d_X9_loudness_49 : decode cX9_loudness 49 = .ok (.aload_n 0, 1) := by decide +kernel
theorem s_X9_loudness_49 {n : Nat} (h : AP M_X9_loudness b 50 [.ref n, x1, x2] (.ref n :: st) hi g Φ) : AP M_X9_loudness b 49 [.ref n, x1, x2] (st) hi g Φ := AP.aload_n (x := n) (i := 0) d_X9_loudness_49 rfl rfl h
theorem d_X9_loudness_50 : decode cX9_loudness 50 = .ok (.getfield 20, 3) := by decide +kernel
theorem s_X9_loudness_50 {k r : Nat} (hI : am_Inv g) (hs : am_SH k = (0, 9)) (hk : k < 134) (hr : am_HRf k 1 = some r) (hn : k ≠ 39) (h : AP M_X9_loudness b 53 [x0, x1, x2] (.ref r :: st) hi g Φ) : AP M_X9_loudness b 50 [x0, x1, x2] (.ref k :: st) hi g Φ := AP.getR (j := 1) (q := (RX9, TX9, 7)) d_X9_loudness_50 hs (hI.lt hk) rfl (by decide) (by decide) w_346 (hI.r hn hr) h
theorem d_X9_loudness_53 : decode cX9_loudness 53 = .ok (.getfield 83, 3) := by decide +kernel
theorem s_X9_loudness_53 {k : Nat} (hI : am_Inv g) (hs : am_SH k = (0, 6)) (hk : k < 134) (h : AP M_X9_loudness b 56 [x0, x1, x2] (.int (hi k 3) :: st) hi g Φ) : AP M_X9_loudness b 53 [x0, x1, x2] (.ref k :: st) hi g Φ := AP.getI (j := 3) (q := (RX6, TX6, 8)) d_X9_loudness_53 hs (hI.lt hk) rfl (by decide) (by decide) w_168 h
theorem d_X9_loudness_56 : decode cX9_loudness 56 = .ok (.i2d, 1) := by decide +kernel
theorem s_X9_loudness_56 {x : Int32} (h : AP M_X9_loudness b 57 [x0, x1, x2] (.double (FP.i2d x) :: st) hi g Φ) : AP M_X9_loudness b 56 [x0, x1, x2] (.int x :: st) hi g Φ := AP.i2d d_X9_loudness_56 h
theorem d_X9_loudness_57 : decode cX9_loudness 57 = .ok (.ddiv, 1) := by decide +kernel
theorem s_X9_loudness_57 {x y : UInt64} (hn : vf_n64 (FP.ddiv x y)) (h : AP M_X9_loudness b 58 [x0, x1, x2] (.double (FP.ddiv x y) :: st) hi g Φ) : AP M_X9_loudness b 57 [x0, x1, x2] (.double y :: .double x :: st) hi g Φ := AP.ddiv d_X9_loudness_57 hn h
theorem d_X9_loudness_58 : decode cX9_loudness 58 = .ok (.dreturn, 1) := by decide +kernel
theorem s_X9_loudness_58 {x : UInt64} (h : Φ (.ok (some (.double x))) hi g) : AP M_X9_loudness b 58 [x0, x1, x2] [.double x] hi g Φ := AP.dret d_X9_loudness_58 rfl h
end
section
variable {b : Nat × Nat} {st : List Value} {hi : am_HI} {g : am_G} {Φ : am_P} {x0 x1 x2 x3 : Value}
theorem d_X9_setFirst_0 : decode cX9_setFirst 0 = .ok (.iload_n 1, 1) := by decide +kernel
theorem s_X9_setFirst_0 {n : Int32} (h : AP M_X9_setFirst b 1 [x0, .int n, x2, x3] (.int n :: st) hi g Φ) : AP M_X9_setFirst b 0 [x0, .int n, x2, x3] (st) hi g Φ := AP.iload_n (x := n) (i := 1) d_X9_setFirst_0 rfl rfl h
theorem d_X9_setFirst_1 : decode cX9_setFirst 1 = .ok (.iconst 1, 1) := by decide +kernel
theorem s_X9_setFirst_1 (h : AP M_X9_setFirst b 2 [x0, x1, x2, x3] (.int 1 :: st) hi g Φ) : AP M_X9_setFirst b 1 [x0, x1, x2, x3] (st) hi g Φ := AP.iconst (x := 1) d_X9_setFirst_1 (by decide) h
theorem d_X9_setFirst_2 : decode cX9_setFirst 2 = .ok (.iconst 4, 1) := by decide +kernel
theorem s_X9_setFirst_2 (h : AP M_X9_setFirst b 3 [x0, x1, x2, x3] (.int 4 :: st) hi g Φ) : AP M_X9_setFirst b 2 [x0, x1, x2, x3] (st) hi g Φ := AP.iconst (x := 4) d_X9_setFirst_2 (by decide) h
theorem d_X9_setFirst_3 : decode cX9_setFirst 3 = .ok (.invokestatic 58, 3) := by decide +kernel
theorem s_X9_setFirst_3 {a0 : Int32} {a1 : Int32} {a2 : Int32} {r0 : Int32} {P : am_HI → Prop} (hI : am_Inv g) (hst : (st.map Value.category).sum ≤ 8) (hc : am_Cr M_X9_isWithin [.int a0, .int a1, .int a2] hi g (some (.int r0)) P) (h : ∀ hi' : am_HI, P hi' → AP M_X9_setFirst b 6 [x0, x1, x2, x3] (.int r0 :: st) hi' g Φ) : AP M_X9_setFirst b 3 [x0, x1, x2, x3] (.int a2 :: .int a1 :: .int a0 :: st) hi g Φ := AP.callSr (As := [.int a0, .int a1, .int a2]) hI hc k_X9_setFirst_58 d_X9_setFirst_3 rfl hst h
theorem d_X9_setFirst_6 : decode cX9_setFirst 6 = .ok (.istore_n 3, 1) := by decide +kernel
theorem s_X9_setFirst_6 {n : Int32} (hc : x2.category = 1) (h : AP M_X9_setFirst b 7 [x0, x1, x2, .int n] (st) hi g Φ) : AP M_X9_setFirst b 6 [x0, x1, x2, x3] (.int n :: st) hi g Φ := AP.istore_n (x := n) (i := 3) d_X9_setFirst_6 rfl (by decide) (by simp [am_st, am_ci, am_cr, am_cl, am_cd, hc]) h
theorem d_X9_setFirst_7 : decode cX9_setFirst 7 = .ok (.iload_n 3, 1) := by decide +kernel
theorem s_X9_setFirst_7 {n : Int32} (h : AP M_X9_setFirst b 8 [x0, x1, x2, .int n] (.int n :: st) hi g Φ) : AP M_X9_setFirst b 7 [x0, x1, x2, .int n] (st) hi g Φ := AP.iload_n (x := n) (i := 3) d_X9_setFirst_7 rfl rfl h
theorem d_X9_setFirst_8 : decode cX9_setFirst 8 = .ok (.ifCond .eq 15, 3) := by decide +kernel
theorem s_X9_setFirst_8 {x : Int32} (h1 : x = 0 → AP M_X9_setFirst b 23 [x0, x1, x2, x3] st hi g Φ) (h2 : ¬ x = 0 → AP M_X9_setFirst b 11 [x0, x1, x2, x3] st hi g Φ) : AP M_X9_setFirst b 8 [x0, x1, x2, x3] (.int x :: st) hi g Φ := AP.if_eq d_X9_setFirst_8 (by decide) h1 h2
theorem d_X9_setFirst_11 : decode cX9_setFirst 11 = .ok (.aload_n 0, 1) := by decide +kernel
theorem s_X9_setFirst_11 {n : Nat} (h : AP M_X9_setFirst b 12 [.ref n, x1, x2, x3] (.ref n :: st) hi g Φ) : AP M_X9_setFirst b 11 [.ref n, x1, x2, x3] (st) hi g Φ := AP.aload_n (x := n) (i := 0) d_X9_setFirst_11 rfl rfl h
theorem d_X9_setFirst_12 : decode cX9_setFirst 12 = .ok (.getfield 20, 3) := by decide +kernel
theorem s_X9_setFirst_12 {k r : Nat} (hI : am_Inv g) (hs : am_SH k = (0, 9)) (hk : k < 134) (hr : am_HRf k 1 = some r) (hn : k ≠ 39) (h : AP M_X9_setFirst b 15 [x0, x1, x2, x3] (.ref r :: st) hi g Φ) : AP M_X9_setFirst b 12 [x0, x1, x2, x3] (.ref k :: st) hi g Φ := AP.getR (j := 1) (q := (RX9, TX9, 7)) d_X9_setFirst_12 hs (hI.lt hk) rfl (by decide) (by decide) w_346 (hI.r hn hr) h
theorem d_X9_setFirst_15 : decode cX9_setFirst 15 = .ok (.getfield 110, 3) := by decide +kernel
theorem s_X9_setFirst_15 {k r : Nat} (hI : am_Inv g) (hs : am_SH k = (0, 6)) (hk : k < 134) (hr : am_HRf k 1 = some r) (hn : k ≠ 39) (h : AP M_X9_setFirst b 18 [x0, x1, x2, x3] (.ref r :: st) hi g Φ) : AP M_X9_setFirst b 15 [x0, x1, x2, x3] (.ref k :: st) hi g Φ := AP.getR (j := 1) (q := (RX6, TX6, 8)) d_X9_setFirst_15 hs (hI.lt hk) rfl (by decide) (by decide) w_163 (hI.r hn hr) h
theorem d_X9_setFirst_18 : decode cX9_setFirst 18 = .ok (.iload_n 1, 1) := by decide +kernel
theorem s_X9_setFirst_18 {n : Int32} (h : AP M_X9_setFirst b 19 [x0, .int n, x2, x3] (.int n :: st) hi g Φ) : AP M_X9_setFirst b 18 [x0, .int n, x2, x3] (st) hi g Φ := AP.iload_n (x := n) (i := 1) d_X9_setFirst_18 rfl rfl h
theorem d_X9_setFirst_19 : decode cX9_setFirst 19 = .ok (.iconst 1, 1) := by decide +kernel
theorem s_X9_setFirst_19 (h : AP M_X9_setFirst b 20 [x0, x1, x2, x3] (.int 1 :: st) hi g Φ) : AP M_X9_setFirst b 19 [x0, x1, x2, x3] (st) hi g Φ := AP.iconst (x := 1) d_X9_setFirst_19 (by decide) h
theorem d_X9_setFirst_20 : decode cX9_setFirst 20 = .ok (.isub, 1) := by decide +kernel
theorem s_X9_setFirst_20 {x y : Int32} (h : AP M_X9_setFirst b 21 [x0, x1, x2, x3] (.int (x - y) :: st) hi g Φ) : AP M_X9_setFirst b 20 [x0, x1, x2, x3] (.int y :: .int x :: st) hi g Φ := AP.isub d_X9_setFirst_20 h
theorem d_X9_setFirst_21 : decode cX9_setFirst 21 = .ok (.iload_n 2, 1) := by decide +kernel
theorem s_X9_setFirst_21 {n : Int32} (h : AP M_X9_setFirst b 22 [x0, x1, .int n, x3] (.int n :: st) hi g Φ) : AP M_X9_setFirst b 21 [x0, x1, .int n, x3] (st) hi g Φ := AP.iload_n (x := n) (i := 2) d_X9_setFirst_21 rfl rfl h
theorem d_X9_setFirst_22 : decode cX9_setFirst 22 = .ok (.iastore, 1) := by decide +kernel
theorem s_X9_setFirst_22 {k n j : Nat} {i x : Int32} (hI : am_Inv g) (hs : am_SH k = (1, n)) (hk : k < 134) (hn : n < 2 ^ 31) (hx : i = nI j) (hj : j < n) (h : AP M_X9_setFirst b 23 [x0, x1, x2, x3] (st) (am_up hi k j x) g Φ) : AP M_X9_setFirst b 22 [x0, x1, x2, x3] (.int x :: .int i :: .ref k :: st) hi g Φ := AP.iast d_X9_setFirst_22 hs (hI.lt hk) hn hx hj h
theorem d_X9_setFirst_23 : decode cX9_setFirst 23 = .ok (.iload_n 3, 1) := by decide +kernel
theorem s_X9_setFirst_23 {n : Int32} (h : AP M_X9_setFirst b 24 [x0, x1, x2, .int n] (.int n :: st) hi g Φ) : AP M_X9_setFirst b 23 [x0, x1, x2, .int n] (st) hi g Φ := AP.iload_n (x := n) (i := 3) d_X9_setFirst_23 rfl rfl h
theorem d_X9_setFirst_24 : decode cX9_setFirst 24 = .ok (.ireturn, 1) := by decide +kernel
theorem s_X9_setFirst_24 {x : Int32} (hx : x = 0 ∨ x = 1) (h : Φ (.ok (some (.int x))) hi g) : AP M_X9_setFirst b 24 [x0, x1, x2, x3] [.int x] hi g Φ := AP.zret d_X9_setFirst_24 rfl hx h
end
section
variable {b : Nat × Nat} {st : List Value} {hi : am_HI} {g : am_G} {Φ : am_P} {x0 x1 x2 : Value}
theorem d_X9_turnIfPossible_0 : decode cX9_turnIfPossible 0 = .ok (.aload_n 0, 1) := by decide +kernel
theorem s_X9_turnIfPossible_0 {n : Nat} (h : AP M_X9_turnIfPossible b 1 [.ref n, x1, x2] (.ref n :: st) hi g Φ) : AP M_X9_turnIfPossible b 0 [.ref n, x1, x2] (st) hi g Φ := AP.aload_n (x := n) (i := 0) d_X9_turnIfPossible_0 rfl rfl h
theorem d_X9_turnIfPossible_1 : decode cX9_turnIfPossible 1 = .ok (.getfield 20, 3) := by decide +kernel
theorem s_X9_turnIfPossible_1 {k r : Nat} (hI : am_Inv g) (hs : am_SH k = (0, 9)) (hk : k < 134) (hr : am_HRf k 1 = some r) (hn : k ≠ 39) (h : AP M_X9_turnIfPossible b 4 [x0, x1, x2] (.ref r :: st) hi g Φ) : AP M_X9_turnIfPossible b 1 [x0, x1, x2] (.ref k :: st) hi g Φ := AP.getR (j := 1) (q := (RX9, TX9, 7)) d_X9_turnIfPossible_1 hs (hI.lt hk) rfl (by decide) (by decide) w_346 (hI.r hn hr) h
theorem d_X9_turnIfPossible_4 : decode cX9_turnIfPossible 4 = .ok (.iload_n 1, 1) := by decide +kernel
theorem s_X9_turnIfPossible_4 {n : Int32} (h : AP M_X9_turnIfPossible b 5 [x0, .int n, x2] (.int n :: st) hi g Φ) : AP M_X9_turnIfPossible b 4 [x0, .int n, x2] (st) hi g Φ := AP.iload_n (x := n) (i := 1) d_X9_turnIfPossible_4 rfl rfl h
theorem d_X9_turnIfPossible_5 : decode cX9_turnIfPossible 5 = .ok (.invokevirtual 116, 3) := by decide +kernel
theorem s_X9_turnIfPossible_5 {a0 : Int32} {k : Nat} {r0 : Int32} {P : am_HI → Prop} (hI : am_Inv g) (hs : am_SH k = (0, 6)) (hk : k < 134) (hst : (st.map Value.category).sum ≤ 8) (hc : am_Cr M_X6_canTurn [.ref k, .int a0] hi g (some (.int r0)) P) (h : ∀ hi' : am_HI, P hi' → AP M_X9_turnIfPossible b 8 [x0, x1, x2] (.int r0 :: st) hi' g Φ) : AP M_X9_turnIfPossible b 5 [x0, x1, x2] (.int a0 :: .ref k :: st) hi g Φ := AP.callVr (As := [.int a0]) (q := (RX6, TX6, 8)) hI hc k_X9_turnIfPossible_116 d_X9_turnIfPossible_5 rfl hs hk rfl rfl hst h
theorem d_X9_turnIfPossible_8 : decode cX9_turnIfPossible 8 = .ok (.istore_n 2, 1) := by decide +kernel
theorem s_X9_turnIfPossible_8 {n : Int32} (hc : x1.category = 1) (h : AP M_X9_turnIfPossible b 9 [x0, x1, .int n] (st) hi g Φ) : AP M_X9_turnIfPossible b 8 [x0, x1, x2] (.int n :: st) hi g Φ := AP.istore_n (x := n) (i := 2) d_X9_turnIfPossible_8 rfl (by decide) (by simp [am_st, am_ci, am_cr, am_cl, am_cd, hc]) h
theorem d_X9_turnIfPossible_9 : decode cX9_turnIfPossible 9 = .ok (.iload_n 2, 1) := by decide +kernel
theorem s_X9_turnIfPossible_9 {n : Int32} (h : AP M_X9_turnIfPossible b 10 [x0, x1, .int n] (.int n :: st) hi g Φ) : AP M_X9_turnIfPossible b 9 [x0, x1, .int n] (st) hi g Φ := AP.iload_n (x := n) (i := 2) d_X9_turnIfPossible_9 rfl rfl h
theorem d_X9_turnIfPossible_10 : decode cX9_turnIfPossible 10 = .ok (.ifCond .eq 11, 3) := by decide +kernel
theorem s_X9_turnIfPossible_10 {x : Int32} (h1 : x = 0 → AP M_X9_turnIfPossible b 21 [x0, x1, x2] st hi g Φ) (h2 : ¬ x = 0 → AP M_X9_turnIfPossible b 13 [x0, x1, x2] st hi g Φ) : AP M_X9_turnIfPossible b 10 [x0, x1, x2] (.int x :: st) hi g Φ := AP.if_eq d_X9_turnIfPossible_10 (by decide) h1 h2
theorem d_X9_turnIfPossible_13 : decode cX9_turnIfPossible 13 = .ok (.aload_n 0, 1) := by decide +kernel
theorem s_X9_turnIfPossible_13 {n : Nat} (h : AP M_X9_turnIfPossible b 14 [.ref n, x1, x2] (.ref n :: st) hi g Φ) : AP M_X9_turnIfPossible b 13 [.ref n, x1, x2] (st) hi g Φ := AP.aload_n (x := n) (i := 0) d_X9_turnIfPossible_13 rfl rfl h
theorem d_X9_turnIfPossible_14 : decode cX9_turnIfPossible 14 = .ok (.getfield 20, 3) := by decide +kernel
theorem s_X9_turnIfPossible_14 {k r : Nat} (hI : am_Inv g) (hs : am_SH k = (0, 9)) (hk : k < 134) (hr : am_HRf k 1 = some r) (hn : k ≠ 39) (h : AP M_X9_turnIfPossible b 17 [x0, x1, x2] (.ref r :: st) hi g Φ) : AP M_X9_turnIfPossible b 14 [x0, x1, x2] (.ref k :: st) hi g Φ := AP.getR (j := 1) (q := (RX9, TX9, 7)) d_X9_turnIfPossible_14 hs (hI.lt hk) rfl (by decide) (by decide) w_346 (hI.r hn hr) h
theorem d_X9_turnIfPossible_17 : decode cX9_turnIfPossible 17 = .ok (.iload_n 1, 1) := by decide +kernel
theorem s_X9_turnIfPossible_17 {n : Int32} (h : AP M_X9_turnIfPossible b 18 [x0, .int n, x2] (.int n :: st) hi g Φ) : AP M_X9_turnIfPossible b 17 [x0, .int n, x2] (st) hi g Φ := AP.iload_n (x := n) (i := 1) d_X9_turnIfPossible_17 rfl rfl h
theorem d_X9_turnIfPossible_18 : decode cX9_turnIfPossible 18 = .ok (.invokevirtual 119, 3) := by decide +kernel
theorem s_X9_turnIfPossible_18 {a0 : Int32} {k : Nat} {P : am_HI → Prop} (hI : am_Inv g) (hs : am_SH k = (0, 6)) (hk : k < 134) (hst : (st.map Value.category).sum ≤ 8) (hc : am_Cr M_X6_turn [.ref k, .int a0] hi g none P) (h : ∀ hi' : am_HI, P hi' → AP M_X9_turnIfPossible b 21 [x0, x1, x2] (st) hi' g Φ) : AP M_X9_turnIfPossible b 18 [x0, x1, x2] (.int a0 :: .ref k :: st) hi g Φ := AP.callVr (As := [.int a0]) (q := (RX6, TX6, 8)) hI hc k_X9_turnIfPossible_119 d_X9_turnIfPossible_18 rfl hs hk rfl rfl hst h
theorem d_X9_turnIfPossible_21 : decode cX9_turnIfPossible 21 = .ok (.iload_n 2, 1) := by decide +kernel
theorem s_X9_turnIfPossible_21 {n : Int32} (h : AP M_X9_turnIfPossible b 22 [x0, x1, .int n] (.int n :: st) hi g Φ) : AP M_X9_turnIfPossible b 21 [x0, x1, .int n] (st) hi g Φ := AP.iload_n (x := n) (i := 2) d_X9_turnIfPossible_21 rfl rfl h
theorem d_X9_turnIfPossible_22 : decode cX9_turnIfPossible 22 = .ok (.ireturn, 1) := by decide +kernel
theorem s_X9_turnIfPossible_22 {x : Int32} (hx : x = 0 ∨ x = 1) (h : Φ (.ok (some (.int x))) hi g) : AP M_X9_turnIfPossible b 22 [x0, x1, x2] [.int x] hi g Φ := AP.zret d_X9_turnIfPossible_22 rfl hx h
end
section
variable {b : Nat × Nat} {st : List Value} {hi : am_HI} {g : am_G} {Φ : am_P} {x0 x1 x2 : Value}
theorem d_X9_addIfPossible_0 : decode cX9_addIfPossible 0 = .ok (.aload_n 0, 1) := by decide +kernel
theorem s_X9_addIfPossible_0 {n : Nat} (h : AP M_X9_addIfPossible b 1 [.ref n, x1, x2] (.ref n :: st) hi g Φ) : AP M_X9_addIfPossible b 0 [.ref n, x1, x2] (st) hi g Φ := AP.aload_n (x := n) (i := 0) d_X9_addIfPossible_0 rfl rfl h
theorem d_X9_addIfPossible_1 : decode cX9_addIfPossible 1 = .ok (.getfield 20, 3) := by decide +kernel
theorem s_X9_addIfPossible_1 {k r : Nat} (hI : am_Inv g) (hs : am_SH k = (0, 9)) (hk : k < 134) (hr : am_HRf k 1 = some r) (hn : k ≠ 39) (h : AP M_X9_addIfPossible b 4 [x0, x1, x2] (.ref r :: st) hi g Φ) : AP M_X9_addIfPossible b 1 [x0, x1, x2] (.ref k :: st) hi g Φ := AP.getR (j := 1) (q := (RX9, TX9, 7)) d_X9_addIfPossible_1 hs (hI.lt hk) rfl (by decide) (by decide) w_346 (hI.r hn hr) h
theorem d_X9_addIfPossible_4 : decode cX9_addIfPossible 4 = .ok (.iconst 1, 1) := by decide +kernel
theorem s_X9_addIfPossible_4 (h : AP M_X9_addIfPossible b 5 [x0, x1, x2] (.int 1 :: st) hi g Φ) : AP M_X9_addIfPossible b 4 [x0, x1, x2] (st) hi g Φ := AP.iconst (x := 1) d_X9_addIfPossible_4 (by decide) h
theorem d_X9_addIfPossible_5 : decode cX9_addIfPossible 5 = .ok (.invokevirtual 66, 3) := by decide +kernel
theorem s_X9_addIfPossible_5 {a0 : Int32} {k : Nat} {r0 : Int32} {P : am_HI → Prop} (hI : am_Inv g) (hs : am_SH k = (0, 6)) (hk : k < 134) (hst : (st.map Value.category).sum ≤ 8) (hc : am_Cr M_X6_hasRoomFor [.ref k, .int a0] hi g (some (.int r0)) P) (h : ∀ hi' : am_HI, P hi' → AP M_X9_addIfPossible b 8 [x0, x1, x2] (.int r0 :: st) hi' g Φ) : AP M_X9_addIfPossible b 5 [x0, x1, x2] (.int a0 :: .ref k :: st) hi g Φ := AP.callVr (As := [.int a0]) (q := (RX6, TX6, 8)) hI hc k_X9_addIfPossible_66 d_X9_addIfPossible_5 rfl hs hk rfl rfl hst h
theorem d_X9_addIfPossible_8 : decode cX9_addIfPossible 8 = .ok (.istore_n 2, 1) := by decide +kernel
theorem s_X9_addIfPossible_8 {n : Int32} (hc : x1.category = 1) (h : AP M_X9_addIfPossible b 9 [x0, x1, .int n] (st) hi g Φ) : AP M_X9_addIfPossible b 8 [x0, x1, x2] (.int n :: st) hi g Φ := AP.istore_n (x := n) (i := 2) d_X9_addIfPossible_8 rfl (by decide) (by simp [am_st, am_ci, am_cr, am_cl, am_cd, hc]) h
theorem d_X9_addIfPossible_9 : decode cX9_addIfPossible 9 = .ok (.iload_n 2, 1) := by decide +kernel
theorem s_X9_addIfPossible_9 {n : Int32} (h : AP M_X9_addIfPossible b 10 [x0, x1, .int n] (.int n :: st) hi g Φ) : AP M_X9_addIfPossible b 9 [x0, x1, .int n] (st) hi g Φ := AP.iload_n (x := n) (i := 2) d_X9_addIfPossible_9 rfl rfl h
theorem d_X9_addIfPossible_10 : decode cX9_addIfPossible 10 = .ok (.ifCond .eq 11, 3) := by decide +kernel
theorem s_X9_addIfPossible_10 {x : Int32} (h1 : x = 0 → AP M_X9_addIfPossible b 21 [x0, x1, x2] st hi g Φ) (h2 : ¬ x = 0 → AP M_X9_addIfPossible b 13 [x0, x1, x2] st hi g Φ) : AP M_X9_addIfPossible b 10 [x0, x1, x2] (.int x :: st) hi g Φ := AP.if_eq d_X9_addIfPossible_10 (by decide) h1 h2
theorem d_X9_addIfPossible_13 : decode cX9_addIfPossible 13 = .ok (.aload_n 0, 1) := by decide +kernel
theorem s_X9_addIfPossible_13 {n : Nat} (h : AP M_X9_addIfPossible b 14 [.ref n, x1, x2] (.ref n :: st) hi g Φ) : AP M_X9_addIfPossible b 13 [.ref n, x1, x2] (st) hi g Φ := AP.aload_n (x := n) (i := 0) d_X9_addIfPossible_13 rfl rfl h
theorem d_X9_addIfPossible_14 : decode cX9_addIfPossible 14 = .ok (.getfield 20, 3) := by decide +kernel
theorem s_X9_addIfPossible_14 {k r : Nat} (hI : am_Inv g) (hs : am_SH k = (0, 9)) (hk : k < 134) (hr : am_HRf k 1 = some r) (hn : k ≠ 39) (h : AP M_X9_addIfPossible b 17 [x0, x1, x2] (.ref r :: st) hi g Φ) : AP M_X9_addIfPossible b 14 [x0, x1, x2] (.ref k :: st) hi g Φ := AP.getR (j := 1) (q := (RX9, TX9, 7)) d_X9_addIfPossible_14 hs (hI.lt hk) rfl (by decide) (by decide) w_346 (hI.r hn hr) h
theorem d_X9_addIfPossible_17 : decode cX9_addIfPossible 17 = .ok (.iload_n 1, 1) := by decide +kernel
theorem s_X9_addIfPossible_17 {n : Int32} (h : AP M_X9_addIfPossible b 18 [x0, .int n, x2] (.int n :: st) hi g Φ) : AP M_X9_addIfPossible b 17 [x0, .int n, x2] (st) hi g Φ := AP.iload_n (x := n) (i := 1) d_X9_addIfPossible_17 rfl rfl h
theorem d_X9_addIfPossible_18 : decode cX9_addIfPossible 18 = .ok (.invokevirtual 79, 3) := by decide +kernel
theorem s_X9_addIfPossible_18 {a0 : Int32} {k : Nat} {P : am_HI → Prop} (hI : am_Inv g) (hs : am_SH k = (0, 6)) (hk : k < 134) (hst : (st.map Value.category).sum ≤ 8) (hc : am_Cr M_X6_put [.ref k, .int a0] hi g none P) (h : ∀ hi' : am_HI, P hi' → AP M_X9_addIfPossible b 21 [x0, x1, x2] (st) hi' g Φ) : AP M_X9_addIfPossible b 18 [x0, x1, x2] (.int a0 :: .ref k :: st) hi g Φ := AP.callVr (As := [.int a0]) (q := (RX6, TX6, 8)) hI hc k_X9_addIfPossible_79 d_X9_addIfPossible_18 rfl hs hk rfl rfl hst h
theorem d_X9_addIfPossible_21 : decode cX9_addIfPossible 21 = .ok (.iload_n 2, 1) := by decide +kernel
theorem s_X9_addIfPossible_21 {n : Int32} (h : AP M_X9_addIfPossible b 22 [x0, x1, .int n] (.int n :: st) hi g Φ) : AP M_X9_addIfPossible b 21 [x0, x1, .int n] (st) hi g Φ := AP.iload_n (x := n) (i := 2) d_X9_addIfPossible_21 rfl rfl h
theorem d_X9_addIfPossible_22 : decode cX9_addIfPossible 22 = .ok (.ireturn, 1) := by decide +kernel
theorem s_X9_addIfPossible_22 {x : Int32} (hx : x = 0 ∨ x = 1) (h : Φ (.ok (some (.int x))) hi g) : AP M_X9_addIfPossible b 22 [x0, x1, x2] [.int x] hi g Φ := AP.zret d_X9_addIfPossible_22 rfl hx h
end
section
variable {b : Nat × Nat} {st : List Value} {hi : am_HI} {g : am_G} {Φ : am_P} {x0 : Value}
theorem d_X9_letterBits_0 : decode cX9_letterBits 0 = .ok (.aload_n 0, 1) := by decide +kernel
theorem s_X9_letterBits_0 {n : Nat} (h : AP M_X9_letterBits b 1 [.ref n] (.ref n :: st) hi g Φ) : AP M_X9_letterBits b 0 [.ref n] (st) hi g Φ := AP.aload_n (x := n) (i := 0) d_X9_letterBits_0 rfl rfl h
theorem d_X9_letterBits_1 : decode cX9_letterBits 1 = .ok (.getfield 20, 3) := by decide +kernel
theorem s_X9_letterBits_1 {k r : Nat} (hI : am_Inv g) (hs : am_SH k = (0, 9)) (hk : k < 134) (hr : am_HRf k 1 = some r) (hn : k ≠ 39) (h : AP M_X9_letterBits b 4 [x0] (.ref r :: st) hi g Φ) : AP M_X9_letterBits b 1 [x0] (.ref k :: st) hi g Φ := AP.getR (j := 1) (q := (RX9, TX9, 7)) d_X9_letterBits_1 hs (hI.lt hk) rfl (by decide) (by decide) w_346 (hI.r hn hr) h
theorem d_X9_letterBits_4 : decode cX9_letterBits 4 = .ok (.getfield 129, 3) := by decide +kernel
theorem s_X9_letterBits_4 {k r : Nat} (hI : am_Inv g) (hs : am_SH k = (0, 6)) (hk : k < 134) (hr : am_HRf k 2 = some r) (hn : k ≠ 39) (h : AP M_X9_letterBits b 7 [x0] (.ref r :: st) hi g Φ) : AP M_X9_letterBits b 4 [x0] (.ref k :: st) hi g Φ := AP.getR (j := 2) (q := (RX6, TX6, 8)) d_X9_letterBits_4 hs (hI.lt hk) rfl (by decide) (by decide) w_165 (hI.r hn hr) h
theorem d_X9_letterBits_7 : decode cX9_letterBits 7 = .ok (.invokevirtual 133, 3) := by decide +kernel
theorem s_X9_letterBits_7  {k : Nat} {r0 : Int32} {P : am_HI → Prop} (hI : am_Inv g) (hs : am_SH k = (0, 2)) (hk : k < 134) (hst : (st.map Value.category).sum ≤ 8) (hc : am_Cr M_X2_countBits [.ref k] hi g (some (.int r0)) P) (h : ∀ hi' : am_HI, P hi' → AP M_X9_letterBits b 10 [x0] (.int r0 :: st) hi' g Φ) : AP M_X9_letterBits b 7 [x0] (.ref k :: st) hi g Φ := AP.callVr (As := []) (q := (RX2, TX2, 8)) hI hc k_X9_letterBits_133 d_X9_letterBits_7 rfl hs hk rfl rfl hst h
theorem d_X9_letterBits_10 : decode cX9_letterBits 10 = .ok (.ireturn, 1) := by decide +kernel
theorem s_X9_letterBits_10 {x : Int32} (h : Φ (.ok (some (.int x))) hi g) : AP M_X9_letterBits b 10 [x0] [.int x] hi g Φ := AP.iret d_X9_letterBits_10 rfl h
end
section
variable {b : Nat × Nat} {st : List Value} {hi : am_HI} {g : am_G} {Φ : am_P} {x0 x1 x2 x3 : Value}
theorem d_X9_tamperIfPossible_0 : decode cX9_tamperIfPossible 0 = .ok (.aload_n 0, 1) := by decide +kernel
theorem s_X9_tamperIfPossible_0 {n : Nat} (h : AP M_X9_tamperIfPossible b 1 [.ref n, x1, x2, x3] (.ref n :: st) hi g Φ) : AP M_X9_tamperIfPossible b 0 [.ref n, x1, x2, x3] (st) hi g Φ := AP.aload_n (x := n) (i := 0) d_X9_tamperIfPossible_0 rfl rfl h
theorem d_X9_tamperIfPossible_1 : decode cX9_tamperIfPossible 1 = .ok (.iload_n 1, 1) := by decide +kernel
theorem s_X9_tamperIfPossible_1 {n : Int32} (h : AP M_X9_tamperIfPossible b 2 [x0, .int n, x2, x3] (.int n :: st) hi g Φ) : AP M_X9_tamperIfPossible b 1 [x0, .int n, x2, x3] (st) hi g Φ := AP.iload_n (x := n) (i := 1) d_X9_tamperIfPossible_1 rfl rfl h
theorem d_X9_tamperIfPossible_2 : decode cX9_tamperIfPossible 2 = .ok (.invokevirtual 139, 3) := by decide +kernel
theorem s_X9_tamperIfPossible_2 {a0 : Int32} {k : Nat} {r0 : Int32} {P : am_HI → Prop} (hI : am_Inv g) (hs : am_SH k = (0, 9)) (hk : k < 134) (hst : (st.map Value.category).sum ≤ 8) (hc : am_Cr M_X9_isTold [.ref k, .int a0] hi g (some (.int r0)) P) (h : ∀ hi' : am_HI, P hi' → AP M_X9_tamperIfPossible b 5 [x0, x1, x2, x3] (.int r0 :: st) hi' g Φ) : AP M_X9_tamperIfPossible b 2 [x0, x1, x2, x3] (.int a0 :: .ref k :: st) hi g Φ := AP.callVr (As := [.int a0]) (q := (RX9, TX9, 7)) hI hc k_X9_tamperIfPossible_139 d_X9_tamperIfPossible_2 rfl hs hk rfl rfl hst h
theorem d_X9_tamperIfPossible_5 : decode cX9_tamperIfPossible 5 = .ok (.istore_n 3, 1) := by decide +kernel
theorem s_X9_tamperIfPossible_5 {n : Int32} (hc : x2.category = 1) (h : AP M_X9_tamperIfPossible b 6 [x0, x1, x2, .int n] (st) hi g Φ) : AP M_X9_tamperIfPossible b 5 [x0, x1, x2, x3] (.int n :: st) hi g Φ := AP.istore_n (x := n) (i := 3) d_X9_tamperIfPossible_5 rfl (by decide) (by simp [am_st, am_ci, am_cr, am_cl, am_cd, hc]) h
theorem d_X9_tamperIfPossible_6 : decode cX9_tamperIfPossible 6 = .ok (.iload_n 3, 1) := by decide +kernel
theorem s_X9_tamperIfPossible_6 {n : Int32} (h : AP M_X9_tamperIfPossible b 7 [x0, x1, x2, .int n] (.int n :: st) hi g Φ) : AP M_X9_tamperIfPossible b 6 [x0, x1, x2, .int n] (st) hi g Φ := AP.iload_n (x := n) (i := 3) d_X9_tamperIfPossible_6 rfl rfl h
theorem d_X9_tamperIfPossible_7 : decode cX9_tamperIfPossible 7 = .ok (.ifCond .eq 16, 3) := by decide +kernel
theorem s_X9_tamperIfPossible_7 {x : Int32} (h1 : x = 0 → AP M_X9_tamperIfPossible b 23 [x0, x1, x2, x3] st hi g Φ) (h2 : ¬ x = 0 → AP M_X9_tamperIfPossible b 10 [x0, x1, x2, x3] st hi g Φ) : AP M_X9_tamperIfPossible b 7 [x0, x1, x2, x3] (.int x :: st) hi g Φ := AP.if_eq d_X9_tamperIfPossible_7 (by decide) h1 h2
theorem d_X9_tamperIfPossible_10 : decode cX9_tamperIfPossible 10 = .ok (.aload_n 0, 1) := by decide +kernel
theorem s_X9_tamperIfPossible_10 {n : Nat} (h : AP M_X9_tamperIfPossible b 11 [.ref n, x1, x2, x3] (.ref n :: st) hi g Φ) : AP M_X9_tamperIfPossible b 10 [.ref n, x1, x2, x3] (st) hi g Φ := AP.aload_n (x := n) (i := 0) d_X9_tamperIfPossible_10 rfl rfl h
theorem d_X9_tamperIfPossible_11 : decode cX9_tamperIfPossible 11 = .ok (.getfield 20, 3) := by decide +kernel
theorem s_X9_tamperIfPossible_11 {k r : Nat} (hI : am_Inv g) (hs : am_SH k = (0, 9)) (hk : k < 134) (hr : am_HRf k 1 = some r) (hn : k ≠ 39) (h : AP M_X9_tamperIfPossible b 14 [x0, x1, x2, x3] (.ref r :: st) hi g Φ) : AP M_X9_tamperIfPossible b 11 [x0, x1, x2, x3] (.ref k :: st) hi g Φ := AP.getR (j := 1) (q := (RX9, TX9, 7)) d_X9_tamperIfPossible_11 hs (hI.lt hk) rfl (by decide) (by decide) w_346 (hI.r hn hr) h
theorem d_X9_tamperIfPossible_14 : decode cX9_tamperIfPossible 14 = .ok (.getfield 129, 3) := by decide +kernel
theorem s_X9_tamperIfPossible_14 {k r : Nat} (hI : am_Inv g) (hs : am_SH k = (0, 6)) (hk : k < 134) (hr : am_HRf k 2 = some r) (hn : k ≠ 39) (h : AP M_X9_tamperIfPossible b 17 [x0, x1, x2, x3] (.ref r :: st) hi g Φ) : AP M_X9_tamperIfPossible b 14 [x0, x1, x2, x3] (.ref k :: st) hi g Φ := AP.getR (j := 2) (q := (RX6, TX6, 8)) d_X9_tamperIfPossible_14 hs (hI.lt hk) rfl (by decide) (by decide) w_165 (hI.r hn hr) h
theorem d_X9_tamperIfPossible_17 : decode cX9_tamperIfPossible 17 = .ok (.getfield 142, 3) := by decide +kernel
theorem s_X9_tamperIfPossible_17 {k r : Nat} (hI : am_Inv g) (hs : am_SH k = (0, 2)) (hk : k < 134) (hr : am_HRf k 3 = some r) (hn : k ≠ 39) (h : AP M_X9_tamperIfPossible b 20 [x0, x1, x2, x3] (.ref r :: st) hi g Φ) : AP M_X9_tamperIfPossible b 17 [x0, x1, x2, x3] (.ref k :: st) hi g Φ := AP.getR (j := 3) (q := (RX2, TX2, 8)) d_X9_tamperIfPossible_17 hs (hI.lt hk) rfl (by decide) (by decide) w_126 (hI.r hn hr) h
theorem d_X9_tamperIfPossible_20 : decode cX9_tamperIfPossible 20 = .ok (.iload_n 1, 1) := by decide +kernel
theorem s_X9_tamperIfPossible_20 {n : Int32} (h : AP M_X9_tamperIfPossible b 21 [x0, .int n, x2, x3] (.int n :: st) hi g Φ) : AP M_X9_tamperIfPossible b 20 [x0, .int n, x2, x3] (st) hi g Φ := AP.iload_n (x := n) (i := 1) d_X9_tamperIfPossible_20 rfl rfl h
theorem d_X9_tamperIfPossible_21 : decode cX9_tamperIfPossible 21 = .ok (.iload_n 2, 1) := by decide +kernel
theorem s_X9_tamperIfPossible_21 {n : Int32} (h : AP M_X9_tamperIfPossible b 22 [x0, x1, .int n, x3] (.int n :: st) hi g Φ) : AP M_X9_tamperIfPossible b 21 [x0, x1, .int n, x3] (st) hi g Φ := AP.iload_n (x := n) (i := 2) d_X9_tamperIfPossible_21 rfl rfl h
theorem d_X9_tamperIfPossible_22 : decode cX9_tamperIfPossible 22 = .ok (.iastore, 1) := by decide +kernel
theorem s_X9_tamperIfPossible_22 {k n j : Nat} {i x : Int32} (hI : am_Inv g) (hs : am_SH k = (1, n)) (hk : k < 134) (hn : n < 2 ^ 31) (hx : i = nI j) (hj : j < n) (h : AP M_X9_tamperIfPossible b 23 [x0, x1, x2, x3] (st) (am_up hi k j x) g Φ) : AP M_X9_tamperIfPossible b 22 [x0, x1, x2, x3] (.int x :: .int i :: .ref k :: st) hi g Φ := AP.iast d_X9_tamperIfPossible_22 hs (hI.lt hk) hn hx hj h
theorem d_X9_tamperIfPossible_23 : decode cX9_tamperIfPossible 23 = .ok (.iload_n 3, 1) := by decide +kernel
theorem s_X9_tamperIfPossible_23 {n : Int32} (h : AP M_X9_tamperIfPossible b 24 [x0, x1, x2, .int n] (.int n :: st) hi g Φ) : AP M_X9_tamperIfPossible b 23 [x0, x1, x2, .int n] (st) hi g Φ := AP.iload_n (x := n) (i := 3) d_X9_tamperIfPossible_23 rfl rfl h
theorem d_X9_tamperIfPossible_24 : decode cX9_tamperIfPossible 24 = .ok (.ireturn, 1) := by decide +kernel
theorem s_X9_tamperIfPossible_24 {x : Int32} (hx : x = 0 ∨ x = 1) (h : Φ (.ok (some (.int x))) hi g) : AP M_X9_tamperIfPossible b 24 [x0, x1, x2, x3] [.int x] hi g Φ := AP.zret d_X9_tamperIfPossible_24 rfl hx h
end
section
variable {b : Nat × Nat} {st : List Value} {hi : am_HI} {g : am_G} {Φ : am_P} {x0 x1 x2 x3 x4 x5 x6 : Value}
theorem d_X9_hashOfBlocks_0 : decode cX9_hashOfBlocks 0 = .ok (.lload_n 1, 1) := by decide +kernel
theorem s_X9_hashOfBlocks_0 {n : Int64} (h : AP M_X9_hashOfBlocks b 1 [x0, .long n, x2, x3, x4, x5, x6] (.long n :: st) hi g Φ) : AP M_X9_hashOfBlocks b 0 [x0, .long n, x2, x3, x4, x5, x6] (st) hi g Φ := AP.lload_n (x := n) (i := 1) d_X9_hashOfBlocks_0 rfl rfl h
theorem d_X9_hashOfBlocks_1 : decode cX9_hashOfBlocks 1 = .ok (.lstore_n 3, 1) := by decide +kernel
theorem s_X9_hashOfBlocks_1 {n : Int64} (hc : x2.category = 1) (h : AP M_X9_hashOfBlocks b 2 [x0, x1, x2, .long n, jk, x5, x6] (st) hi g Φ) : AP M_X9_hashOfBlocks b 1 [x0, x1, x2, x3, x4, x5, x6] (.long n :: st) hi g Φ := AP.lstore_n (x := n) (i := 3) d_X9_hashOfBlocks_1 rfl (by decide) (by simp [am_st, am_ci, am_cr, am_cl, am_cd, hc]) h
theorem d_X9_hashOfBlocks_2 : decode cX9_hashOfBlocks 2 = .ok (.iconst 0, 1) := by decide +kernel
theorem s_X9_hashOfBlocks_2 (h : AP M_X9_hashOfBlocks b 3 [x0, x1, x2, x3, x4, x5, x6] (.int 0 :: st) hi g Φ) : AP M_X9_hashOfBlocks b 2 [x0, x1, x2, x3, x4, x5, x6] (st) hi g Φ := AP.iconst (x := 0) d_X9_hashOfBlocks_2 (by decide) h
theorem d_X9_hashOfBlocks_3 : decode cX9_hashOfBlocks 3 = .ok (.istore 5, 2) := by decide +kernel
theorem s_X9_hashOfBlocks_3 {n : Int32} (hc : x4.category = 1) (h : AP M_X9_hashOfBlocks b 5 [x0, x1, x2, x3, x4, .int n, x6] (st) hi g Φ) : AP M_X9_hashOfBlocks b 3 [x0, x1, x2, x3, x4, x5, x6] (.int n :: st) hi g Φ := AP.istore (x := n) (i := 5) d_X9_hashOfBlocks_3 (by decide) (by simp [am_st, am_ci, am_cr, am_cl, am_cd, hc]) h
theorem d_X9_hashOfBlocks_5 : decode cX9_hashOfBlocks 5 = .ok (.iload 5, 2) := by decide +kernel
theorem s_X9_hashOfBlocks_5 {n : Int32} (h : AP M_X9_hashOfBlocks b 7 [x0, x1, x2, x3, x4, .int n, x6] (.int n :: st) hi g Φ) : AP M_X9_hashOfBlocks b 5 [x0, x1, x2, x3, x4, .int n, x6] (st) hi g Φ := AP.iload (x := n) (i := 5) d_X9_hashOfBlocks_5 rfl h
theorem d_X9_hashOfBlocks_7 : decode cX9_hashOfBlocks 7 = .ok (.aload_n 0, 1) := by decide +kernel
theorem s_X9_hashOfBlocks_7 {n : Nat} (h : AP M_X9_hashOfBlocks b 8 [.ref n, x1, x2, x3, x4, x5, x6] (.ref n :: st) hi g Φ) : AP M_X9_hashOfBlocks b 7 [.ref n, x1, x2, x3, x4, x5, x6] (st) hi g Φ := AP.aload_n (x := n) (i := 0) d_X9_hashOfBlocks_7 rfl rfl h
theorem d_X9_hashOfBlocks_8 : decode cX9_hashOfBlocks 8 = .ok (.getfield 20, 3) := by decide +kernel
theorem s_X9_hashOfBlocks_8 {k r : Nat} (hI : am_Inv g) (hs : am_SH k = (0, 9)) (hk : k < 134) (hr : am_HRf k 1 = some r) (hn : k ≠ 39) (h : AP M_X9_hashOfBlocks b 11 [x0, x1, x2, x3, x4, x5, x6] (.ref r :: st) hi g Φ) : AP M_X9_hashOfBlocks b 8 [x0, x1, x2, x3, x4, x5, x6] (.ref k :: st) hi g Φ := AP.getR (j := 1) (q := (RX9, TX9, 7)) d_X9_hashOfBlocks_8 hs (hI.lt hk) rfl (by decide) (by decide) w_346 (hI.r hn hr) h
theorem d_X9_hashOfBlocks_11 : decode cX9_hashOfBlocks 11 = .ok (.getfield 83, 3) := by decide +kernel
theorem s_X9_hashOfBlocks_11 {k : Nat} (hI : am_Inv g) (hs : am_SH k = (0, 6)) (hk : k < 134) (h : AP M_X9_hashOfBlocks b 14 [x0, x1, x2, x3, x4, x5, x6] (.int (hi k 3) :: st) hi g Φ) : AP M_X9_hashOfBlocks b 11 [x0, x1, x2, x3, x4, x5, x6] (.ref k :: st) hi g Φ := AP.getI (j := 3) (q := (RX6, TX6, 8)) d_X9_hashOfBlocks_11 hs (hI.lt hk) rfl (by decide) (by decide) w_168 h
theorem d_X9_hashOfBlocks_14 : decode cX9_hashOfBlocks 14 = .ok (.invokestatic 145, 3) := by decide +kernel
theorem s_X9_hashOfBlocks_14 {a0 : Int32} {r0 : Int32} {P : am_HI → Prop} (hI : am_Inv g) (hst : (st.map Value.category).sum ≤ 8) (hc : am_Cr M_X9_blocksOf [.int a0] hi g (some (.int r0)) P) (h : ∀ hi' : am_HI, P hi' → AP M_X9_hashOfBlocks b 17 [x0, x1, x2, x3, x4, x5, x6] (.int r0 :: st) hi' g Φ) : AP M_X9_hashOfBlocks b 14 [x0, x1, x2, x3, x4, x5, x6] (.int a0 :: st) hi g Φ := AP.callSr (As := [.int a0]) hI hc k_X9_hashOfBlocks_145 d_X9_hashOfBlocks_14 rfl hst h
theorem d_X9_hashOfBlocks_17 : decode cX9_hashOfBlocks 17 = .ok (.if_icmp .ge 73, 3) := by decide +kernel
theorem s_X9_hashOfBlocks_17 {x y : Int32} (h1 : y ≤ x → AP M_X9_hashOfBlocks b 90 [x0, x1, x2, x3, x4, x5, x6] st hi g Φ) (h2 : ¬ y ≤ x → AP M_X9_hashOfBlocks b 20 [x0, x1, x2, x3, x4, x5, x6] st hi g Φ) : AP M_X9_hashOfBlocks b 17 [x0, x1, x2, x3, x4, x5, x6] (.int y :: .int x :: st) hi g Φ := AP.icmp_ge d_X9_hashOfBlocks_17 (by decide) h1 h2
theorem d_X9_hashOfBlocks_20 : decode cX9_hashOfBlocks 20 = .ok (.lload_n 3, 1) := by decide +kernel
theorem s_X9_hashOfBlocks_20 {n : Int64} (h : AP M_X9_hashOfBlocks b 21 [x0, x1, x2, .long n, x4, x5, x6] (.long n :: st) hi g Φ) : AP M_X9_hashOfBlocks b 20 [x0, x1, x2, .long n, x4, x5, x6] (st) hi g Φ := AP.lload_n (x := n) (i := 3) d_X9_hashOfBlocks_20 rfl rfl h
theorem d_X9_hashOfBlocks_21 : decode cX9_hashOfBlocks 21 = .ok (.aload_n 0, 1) := by decide +kernel
theorem s_X9_hashOfBlocks_21 {n : Nat} (h : AP M_X9_hashOfBlocks b 22 [.ref n, x1, x2, x3, x4, x5, x6] (.ref n :: st) hi g Φ) : AP M_X9_hashOfBlocks b 21 [.ref n, x1, x2, x3, x4, x5, x6] (st) hi g Φ := AP.aload_n (x := n) (i := 0) d_X9_hashOfBlocks_21 rfl rfl h
theorem d_X9_hashOfBlocks_22 : decode cX9_hashOfBlocks 22 = .ok (.getfield 12, 3) := by decide +kernel
theorem s_X9_hashOfBlocks_22 {k r : Nat} (hI : am_Inv g) (hs : am_SH k = (0, 9)) (hk : k < 134) (hr : am_HRf k 0 = some r) (hn : k ≠ 39) (h : AP M_X9_hashOfBlocks b 25 [x0, x1, x2, x3, x4, x5, x6] (.ref r :: st) hi g Φ) : AP M_X9_hashOfBlocks b 22 [x0, x1, x2, x3, x4, x5, x6] (.ref k :: st) hi g Φ := AP.getR (j := 0) (q := (RX9, TX9, 7)) d_X9_hashOfBlocks_22 hs (hI.lt hk) rfl (by decide) (by decide) w_345 (hI.r hn hr) h
theorem d_X9_hashOfBlocks_25 : decode cX9_hashOfBlocks 25 = .ok (.iload 5, 2) := by decide +kernel
theorem s_X9_hashOfBlocks_25 {n : Int32} (h : AP M_X9_hashOfBlocks b 27 [x0, x1, x2, x3, x4, .int n, x6] (.int n :: st) hi g Φ) : AP M_X9_hashOfBlocks b 25 [x0, x1, x2, x3, x4, .int n, x6] (st) hi g Φ := AP.iload (x := n) (i := 5) d_X9_hashOfBlocks_25 rfl h
theorem d_X9_hashOfBlocks_27 : decode cX9_hashOfBlocks 27 = .ok (.invokevirtual 198, 3) := by decide +kernel
theorem s_X9_hashOfBlocks_27 {a0 : Int32} {k : Nat} {r0 : Int32} {P : am_HI → Prop} (hI : am_Inv g) (hs : am_SH k = (0, 7)) (hk : k < 134) (hst : (st.map Value.category).sum ≤ 8) (hc : am_Cr M_X7_kindFor [.ref k, .int a0] hi g (some (.int r0)) P) (h : ∀ hi' : am_HI, P hi' → AP M_X9_hashOfBlocks b 30 [x0, x1, x2, x3, x4, x5, x6] (.int r0 :: st) hi' g Φ) : AP M_X9_hashOfBlocks b 27 [x0, x1, x2, x3, x4, x5, x6] (.int a0 :: .ref k :: st) hi g Φ := AP.callVr (As := [.int a0]) (q := (RX7, TX7, 7)) hI hc k_X9_hashOfBlocks_198 d_X9_hashOfBlocks_27 rfl hs hk rfl rfl hst h
theorem d_X9_hashOfBlocks_30 : decode cX9_hashOfBlocks 30 = .ok (.i2l, 1) := by decide +kernel
theorem s_X9_hashOfBlocks_30 {x : Int32} (h : AP M_X9_hashOfBlocks b 31 [x0, x1, x2, x3, x4, x5, x6] (.long x.toInt64 :: st) hi g Φ) : AP M_X9_hashOfBlocks b 30 [x0, x1, x2, x3, x4, x5, x6] (.int x :: st) hi g Φ := AP.i2l d_X9_hashOfBlocks_30 h
theorem d_X9_hashOfBlocks_31 : decode cX9_hashOfBlocks 31 = .ok (.invokestatic 353, 3) := by decide +kernel
theorem s_X9_hashOfBlocks_31 {a0 : Int64} {a1 : Int64} {r0 : Int64} {P : am_HI → Prop} (hI : am_Inv g) (hst : (st.map Value.category).sum ≤ 8) (hc : am_Cr M_X9_mix [.long a0, .long a1] hi g (some (.long r0)) P) (h : ∀ hi' : am_HI, P hi' → AP M_X9_hashOfBlocks b 34 [x0, x1, x2, x3, x4, x5, x6] (.long r0 :: st) hi' g Φ) : AP M_X9_hashOfBlocks b 31 [x0, x1, x2, x3, x4, x5, x6] (.long a1 :: .long a0 :: st) hi g Φ := AP.callSr (As := [.long a0, .long a1]) hI hc k_X9_hashOfBlocks_353 d_X9_hashOfBlocks_31 rfl hst h
theorem d_X9_hashOfBlocks_34 : decode cX9_hashOfBlocks 34 = .ok (.lstore_n 3, 1) := by decide +kernel
theorem s_X9_hashOfBlocks_34 {n : Int64} (hc : x2.category = 1) (h : AP M_X9_hashOfBlocks b 35 [x0, x1, x2, .long n, jk, x5, x6] (st) hi g Φ) : AP M_X9_hashOfBlocks b 34 [x0, x1, x2, x3, x4, x5, x6] (.long n :: st) hi g Φ := AP.lstore_n (x := n) (i := 3) d_X9_hashOfBlocks_34 rfl (by decide) (by simp [am_st, am_ci, am_cr, am_cl, am_cd, hc]) h
theorem d_X9_hashOfBlocks_35 : decode cX9_hashOfBlocks 35 = .ok (.lload_n 3, 1) := by decide +kernel
theorem s_X9_hashOfBlocks_35 {n : Int64} (h : AP M_X9_hashOfBlocks b 36 [x0, x1, x2, .long n, x4, x5, x6] (.long n :: st) hi g Φ) : AP M_X9_hashOfBlocks b 35 [x0, x1, x2, .long n, x4, x5, x6] (st) hi g Φ := AP.lload_n (x := n) (i := 3) d_X9_hashOfBlocks_35 rfl rfl h
theorem d_X9_hashOfBlocks_36 : decode cX9_hashOfBlocks 36 = .ok (.aload_n 0, 1) := by decide +kernel
theorem s_X9_hashOfBlocks_36 {n : Nat} (h : AP M_X9_hashOfBlocks b 37 [.ref n, x1, x2, x3, x4, x5, x6] (.ref n :: st) hi g Φ) : AP M_X9_hashOfBlocks b 36 [.ref n, x1, x2, x3, x4, x5, x6] (st) hi g Φ := AP.aload_n (x := n) (i := 0) d_X9_hashOfBlocks_36 rfl rfl h
theorem d_X9_hashOfBlocks_37 : decode cX9_hashOfBlocks 37 = .ok (.getfield 12, 3) := by decide +kernel
theorem s_X9_hashOfBlocks_37 {k r : Nat} (hI : am_Inv g) (hs : am_SH k = (0, 9)) (hk : k < 134) (hr : am_HRf k 0 = some r) (hn : k ≠ 39) (h : AP M_X9_hashOfBlocks b 40 [x0, x1, x2, x3, x4, x5, x6] (.ref r :: st) hi g Φ) : AP M_X9_hashOfBlocks b 37 [x0, x1, x2, x3, x4, x5, x6] (.ref k :: st) hi g Φ := AP.getR (j := 0) (q := (RX9, TX9, 7)) d_X9_hashOfBlocks_37 hs (hI.lt hk) rfl (by decide) (by decide) w_345 (hI.r hn hr) h
theorem d_X9_hashOfBlocks_40 : decode cX9_hashOfBlocks 40 = .ok (.iload 5, 2) := by decide +kernel
theorem s_X9_hashOfBlocks_40 {n : Int32} (h : AP M_X9_hashOfBlocks b 42 [x0, x1, x2, x3, x4, .int n, x6] (.int n :: st) hi g Φ) : AP M_X9_hashOfBlocks b 40 [x0, x1, x2, x3, x4, .int n, x6] (st) hi g Φ := AP.iload (x := n) (i := 5) d_X9_hashOfBlocks_40 rfl h
theorem d_X9_hashOfBlocks_42 : decode cX9_hashOfBlocks 42 = .ok (.invokevirtual 201, 3) := by decide +kernel
theorem s_X9_hashOfBlocks_42 {a0 : Int32} {k : Nat} {r0 : Int32} {P : am_HI → Prop} (hI : am_Inv g) (hs : am_SH k = (0, 7)) (hk : k < 134) (hst : (st.map Value.category).sum ≤ 8) (hc : am_Cr M_X7_reasonFor [.ref k, .int a0] hi g (some (.int r0)) P) (h : ∀ hi' : am_HI, P hi' → AP M_X9_hashOfBlocks b 45 [x0, x1, x2, x3, x4, x5, x6] (.int r0 :: st) hi' g Φ) : AP M_X9_hashOfBlocks b 42 [x0, x1, x2, x3, x4, x5, x6] (.int a0 :: .ref k :: st) hi g Φ := AP.callVr (As := [.int a0]) (q := (RX7, TX7, 7)) hI hc k_X9_hashOfBlocks_201 d_X9_hashOfBlocks_42 rfl hs hk rfl rfl hst h
theorem d_X9_hashOfBlocks_45 : decode cX9_hashOfBlocks 45 = .ok (.i2l, 1) := by decide +kernel
theorem s_X9_hashOfBlocks_45 {x : Int32} (h : AP M_X9_hashOfBlocks b 46 [x0, x1, x2, x3, x4, x5, x6] (.long x.toInt64 :: st) hi g Φ) : AP M_X9_hashOfBlocks b 45 [x0, x1, x2, x3, x4, x5, x6] (.int x :: st) hi g Φ := AP.i2l d_X9_hashOfBlocks_45 h
theorem d_X9_hashOfBlocks_46 : decode cX9_hashOfBlocks 46 = .ok (.invokestatic 353, 3) := by decide +kernel
theorem s_X9_hashOfBlocks_46 {a0 : Int64} {a1 : Int64} {r0 : Int64} {P : am_HI → Prop} (hI : am_Inv g) (hst : (st.map Value.category).sum ≤ 8) (hc : am_Cr M_X9_mix [.long a0, .long a1] hi g (some (.long r0)) P) (h : ∀ hi' : am_HI, P hi' → AP M_X9_hashOfBlocks b 49 [x0, x1, x2, x3, x4, x5, x6] (.long r0 :: st) hi' g Φ) : AP M_X9_hashOfBlocks b 46 [x0, x1, x2, x3, x4, x5, x6] (.long a1 :: .long a0 :: st) hi g Φ := AP.callSr (As := [.long a0, .long a1]) hI hc k_X9_hashOfBlocks_353 d_X9_hashOfBlocks_46 rfl hst h
theorem d_X9_hashOfBlocks_49 : decode cX9_hashOfBlocks 49 = .ok (.lstore_n 3, 1) := by decide +kernel
theorem s_X9_hashOfBlocks_49 {n : Int64} (hc : x2.category = 1) (h : AP M_X9_hashOfBlocks b 50 [x0, x1, x2, .long n, jk, x5, x6] (st) hi g Φ) : AP M_X9_hashOfBlocks b 49 [x0, x1, x2, x3, x4, x5, x6] (.long n :: st) hi g Φ := AP.lstore_n (x := n) (i := 3) d_X9_hashOfBlocks_49 rfl (by decide) (by simp [am_st, am_ci, am_cr, am_cl, am_cd, hc]) h
theorem d_X9_hashOfBlocks_50 : decode cX9_hashOfBlocks 50 = .ok (.iconst 0, 1) := by decide +kernel
theorem s_X9_hashOfBlocks_50 (h : AP M_X9_hashOfBlocks b 51 [x0, x1, x2, x3, x4, x5, x6] (.int 0 :: st) hi g Φ) : AP M_X9_hashOfBlocks b 50 [x0, x1, x2, x3, x4, x5, x6] (st) hi g Φ := AP.iconst (x := 0) d_X9_hashOfBlocks_50 (by decide) h
theorem d_X9_hashOfBlocks_51 : decode cX9_hashOfBlocks 51 = .ok (.istore 6, 2) := by decide +kernel
theorem s_X9_hashOfBlocks_51 {n : Int32} (hc : x5.category = 1) (h : AP M_X9_hashOfBlocks b 53 [x0, x1, x2, x3, x4, x5, .int n] (st) hi g Φ) : AP M_X9_hashOfBlocks b 51 [x0, x1, x2, x3, x4, x5, x6] (.int n :: st) hi g Φ := AP.istore (x := n) (i := 6) d_X9_hashOfBlocks_51 (by decide) (by simp [am_st, am_ci, am_cr, am_cl, am_cd, hc]) h
theorem d_X9_hashOfBlocks_53 : decode cX9_hashOfBlocks 53 = .ok (.iload 6, 2) := by decide +kernel
theorem s_X9_hashOfBlocks_53 {n : Int32} (h : AP M_X9_hashOfBlocks b 55 [x0, x1, x2, x3, x4, x5, .int n] (.int n :: st) hi g Φ) : AP M_X9_hashOfBlocks b 53 [x0, x1, x2, x3, x4, x5, .int n] (st) hi g Φ := AP.iload (x := n) (i := 6) d_X9_hashOfBlocks_53 rfl h
theorem d_X9_hashOfBlocks_55 : decode cX9_hashOfBlocks 55 = .ok (.iconst 5, 1) := by decide +kernel
theorem s_X9_hashOfBlocks_55 (h : AP M_X9_hashOfBlocks b 56 [x0, x1, x2, x3, x4, x5, x6] (.int 5 :: st) hi g Φ) : AP M_X9_hashOfBlocks b 55 [x0, x1, x2, x3, x4, x5, x6] (st) hi g Φ := AP.iconst (x := 5) d_X9_hashOfBlocks_55 (by decide) h
theorem d_X9_hashOfBlocks_56 : decode cX9_hashOfBlocks 56 = .ok (.if_icmp .ge 28, 3) := by decide +kernel
theorem s_X9_hashOfBlocks_56 {x y : Int32} (h1 : y ≤ x → AP M_X9_hashOfBlocks b 84 [x0, x1, x2, x3, x4, x5, x6] st hi g Φ) (h2 : ¬ y ≤ x → AP M_X9_hashOfBlocks b 59 [x0, x1, x2, x3, x4, x5, x6] st hi g Φ) : AP M_X9_hashOfBlocks b 56 [x0, x1, x2, x3, x4, x5, x6] (.int y :: .int x :: st) hi g Φ := AP.icmp_ge d_X9_hashOfBlocks_56 (by decide) h1 h2
theorem d_X9_hashOfBlocks_59 : decode cX9_hashOfBlocks 59 = .ok (.lload_n 3, 1) := by decide +kernel
theorem s_X9_hashOfBlocks_59 {n : Int64} (h : AP M_X9_hashOfBlocks b 60 [x0, x1, x2, .long n, x4, x5, x6] (.long n :: st) hi g Φ) : AP M_X9_hashOfBlocks b 59 [x0, x1, x2, .long n, x4, x5, x6] (st) hi g Φ := AP.lload_n (x := n) (i := 3) d_X9_hashOfBlocks_59 rfl rfl h
theorem d_X9_hashOfBlocks_60 : decode cX9_hashOfBlocks 60 = .ok (.aload_n 0, 1) := by decide +kernel
theorem s_X9_hashOfBlocks_60 {n : Nat} (h : AP M_X9_hashOfBlocks b 61 [.ref n, x1, x2, x3, x4, x5, x6] (.ref n :: st) hi g Φ) : AP M_X9_hashOfBlocks b 60 [.ref n, x1, x2, x3, x4, x5, x6] (st) hi g Φ := AP.aload_n (x := n) (i := 0) d_X9_hashOfBlocks_60 rfl rfl h
theorem d_X9_hashOfBlocks_61 : decode cX9_hashOfBlocks 61 = .ok (.getfield 12, 3) := by decide +kernel
theorem s_X9_hashOfBlocks_61 {k r : Nat} (hI : am_Inv g) (hs : am_SH k = (0, 9)) (hk : k < 134) (hr : am_HRf k 0 = some r) (hn : k ≠ 39) (h : AP M_X9_hashOfBlocks b 64 [x0, x1, x2, x3, x4, x5, x6] (.ref r :: st) hi g Φ) : AP M_X9_hashOfBlocks b 61 [x0, x1, x2, x3, x4, x5, x6] (.ref k :: st) hi g Φ := AP.getR (j := 0) (q := (RX9, TX9, 7)) d_X9_hashOfBlocks_61 hs (hI.lt hk) rfl (by decide) (by decide) w_345 (hI.r hn hr) h
theorem d_X9_hashOfBlocks_64 : decode cX9_hashOfBlocks 64 = .ok (.getfield 195, 3) := by decide +kernel
theorem s_X9_hashOfBlocks_64 {k r : Nat} (hI : am_Inv g) (hs : am_SH k = (0, 7)) (hk : k < 134) (hr : am_HRf k 5 = some r) (hn : k ≠ 39) (h : AP M_X9_hashOfBlocks b 67 [x0, x1, x2, x3, x4, x5, x6] (.ref r :: st) hi g Φ) : AP M_X9_hashOfBlocks b 64 [x0, x1, x2, x3, x4, x5, x6] (.ref k :: st) hi g Φ := AP.getR (j := 5) (q := (RX7, TX7, 7)) d_X9_hashOfBlocks_64 hs (hI.lt hk) rfl (by decide) (by decide) w_235 (hI.r hn hr) h
theorem d_X9_hashOfBlocks_67 : decode cX9_hashOfBlocks 67 = .ok (.iload 6, 2) := by decide +kernel
theorem s_X9_hashOfBlocks_67 {n : Int32} (h : AP M_X9_hashOfBlocks b 69 [x0, x1, x2, x3, x4, x5, .int n] (.int n :: st) hi g Φ) : AP M_X9_hashOfBlocks b 67 [x0, x1, x2, x3, x4, x5, .int n] (st) hi g Φ := AP.iload (x := n) (i := 6) d_X9_hashOfBlocks_67 rfl h
theorem d_X9_hashOfBlocks_69 : decode cX9_hashOfBlocks 69 = .ok (.aaload, 1) := by decide +kernel
theorem s_X9_hashOfBlocks_69 {k n j r : Nat} {i : Int32} (hI : am_Inv g) (hs : am_SH k = (6, n)) (hk : k < 134) (hn : n < 2 ^ 31) (hx : i = nI j) (hj : j < n) (hr : g.2.1 k j = some r) (h : AP M_X9_hashOfBlocks b 70 [x0, x1, x2, x3, x4, x5, x6] (.ref r :: st) hi g Φ) : AP M_X9_hashOfBlocks b 69 [x0, x1, x2, x3, x4, x5, x6] (.int i :: .ref k :: st) hi g Φ := AP.rald d_X9_hashOfBlocks_69 hs (hI.lt hk) hn hx hj hr h
theorem s_X9_hashOfBlocks_69a {k n j r : Nat} {i : Int32} (hI : am_Inv g) (hs : am_SH k = (5, n)) (hk : k < 134) (hn : n < 2 ^ 31) (hx : i = nI j) (hj : j < n) (hr : g.2.1 k j = some r) (h : AP M_X9_hashOfBlocks b 70 [x0, x1, x2, x3, x4, x5, x6] (.ref r :: st) hi g Φ) : AP M_X9_hashOfBlocks b 69 [x0, x1, x2, x3, x4, x5, x6] (.int i :: .ref k :: st) hi g Φ := AP.aald d_X9_hashOfBlocks_69 hs (hI.lt hk) hn hx hj hr h
theorem d_X9_hashOfBlocks_70 : decode cX9_hashOfBlocks 70 = .ok (.iload 5, 2) := by decide +kernel
theorem s_X9_hashOfBlocks_70 {n : Int32} (h : AP M_X9_hashOfBlocks b 72 [x0, x1, x2, x3, x4, .int n, x6] (.int n :: st) hi g Φ) : AP M_X9_hashOfBlocks b 70 [x0, x1, x2, x3, x4, .int n, x6] (st) hi g Φ := AP.iload (x := n) (i := 5) d_X9_hashOfBlocks_70 rfl h
theorem d_X9_hashOfBlocks_72 : decode cX9_hashOfBlocks 72 = .ok (.iaload, 1) := by decide +kernel
theorem s_X9_hashOfBlocks_72 {k n j : Nat} {i : Int32} (hI : am_Inv g) (hs : am_SH k = (1, n)) (hk : k < 134) (hn : n < 2 ^ 31) (hx : i = nI j) (hj : j < n) (h : AP M_X9_hashOfBlocks b 73 [x0, x1, x2, x3, x4, x5, x6] (.int (hi k j) :: st) hi g Φ) : AP M_X9_hashOfBlocks b 72 [x0, x1, x2, x3, x4, x5, x6] (.int i :: .ref k :: st) hi g Φ := AP.iald d_X9_hashOfBlocks_72 hs (hI.lt hk) hn hx hj h
theorem d_X9_hashOfBlocks_73 : decode cX9_hashOfBlocks 73 = .ok (.i2l, 1) := by decide +kernel
theorem s_X9_hashOfBlocks_73 {x : Int32} (h : AP M_X9_hashOfBlocks b 74 [x0, x1, x2, x3, x4, x5, x6] (.long x.toInt64 :: st) hi g Φ) : AP M_X9_hashOfBlocks b 73 [x0, x1, x2, x3, x4, x5, x6] (.int x :: st) hi g Φ := AP.i2l d_X9_hashOfBlocks_73 h
theorem d_X9_hashOfBlocks_74 : decode cX9_hashOfBlocks 74 = .ok (.invokestatic 353, 3) := by decide +kernel
theorem s_X9_hashOfBlocks_74 {a0 : Int64} {a1 : Int64} {r0 : Int64} {P : am_HI → Prop} (hI : am_Inv g) (hst : (st.map Value.category).sum ≤ 8) (hc : am_Cr M_X9_mix [.long a0, .long a1] hi g (some (.long r0)) P) (h : ∀ hi' : am_HI, P hi' → AP M_X9_hashOfBlocks b 77 [x0, x1, x2, x3, x4, x5, x6] (.long r0 :: st) hi' g Φ) : AP M_X9_hashOfBlocks b 74 [x0, x1, x2, x3, x4, x5, x6] (.long a1 :: .long a0 :: st) hi g Φ := AP.callSr (As := [.long a0, .long a1]) hI hc k_X9_hashOfBlocks_353 d_X9_hashOfBlocks_74 rfl hst h
theorem d_X9_hashOfBlocks_77 : decode cX9_hashOfBlocks 77 = .ok (.lstore_n 3, 1) := by decide +kernel
theorem s_X9_hashOfBlocks_77 {n : Int64} (hc : x2.category = 1) (h : AP M_X9_hashOfBlocks b 78 [x0, x1, x2, .long n, jk, x5, x6] (st) hi g Φ) : AP M_X9_hashOfBlocks b 77 [x0, x1, x2, x3, x4, x5, x6] (.long n :: st) hi g Φ := AP.lstore_n (x := n) (i := 3) d_X9_hashOfBlocks_77 rfl (by decide) (by simp [am_st, am_ci, am_cr, am_cl, am_cd, hc]) h
theorem d_X9_hashOfBlocks_78 : decode cX9_hashOfBlocks 78 = .ok (.iinc 6 1, 3) := by decide +kernel
theorem s_X9_hashOfBlocks_78 {n : Int32} (hc : x5.category = 1) (h : AP M_X9_hashOfBlocks b 81 [x0, x1, x2, x3, x4, x5, .int (n + 1)] (st) hi g Φ) : AP M_X9_hashOfBlocks b 78 [x0, x1, x2, x3, x4, x5, .int n] (st) hi g Φ := AP.iinc (i := 6) (x := n) (y := n + 1) d_X9_hashOfBlocks_78 rfl rfl (by decide) (by simp [am_st, am_ci, am_cr, am_cl, am_cd, hc]) h
theorem d_X9_hashOfBlocks_81 : decode cX9_hashOfBlocks 81 = .ok (.goto (-28), 3) := by decide +kernel
theorem s_X9_hashOfBlocks_81 (h : AP M_X9_hashOfBlocks b 53 [x0, x1, x2, x3, x4, x5, x6] st hi g Φ) : AP M_X9_hashOfBlocks b 81 [x0, x1, x2, x3, x4, x5, x6] st hi g Φ := AP.goto d_X9_hashOfBlocks_81 (by decide) h
theorem d_X9_hashOfBlocks_84 : decode cX9_hashOfBlocks 84 = .ok (.iinc 5 1, 3) := by decide +kernel
theorem s_X9_hashOfBlocks_84 {n : Int32} (hc : x4.category = 1) (h : AP M_X9_hashOfBlocks b 87 [x0, x1, x2, x3, x4, .int (n + 1), x6] (st) hi g Φ) : AP M_X9_hashOfBlocks b 84 [x0, x1, x2, x3, x4, .int n, x6] (st) hi g Φ := AP.iinc (i := 5) (x := n) (y := n + 1) d_X9_hashOfBlocks_84 rfl rfl (by decide) (by simp [am_st, am_ci, am_cr, am_cl, am_cd, hc]) h
theorem d_X9_hashOfBlocks_87 : decode cX9_hashOfBlocks 87 = .ok (.goto (-82), 3) := by decide +kernel
theorem s_X9_hashOfBlocks_87 (h : AP M_X9_hashOfBlocks b 5 [x0, x1, x2, x3, x4, x5, x6] st hi g Φ) : AP M_X9_hashOfBlocks b 87 [x0, x1, x2, x3, x4, x5, x6] st hi g Φ := AP.goto d_X9_hashOfBlocks_87 (by decide) h
theorem d_X9_hashOfBlocks_90 : decode cX9_hashOfBlocks 90 = .ok (.lload_n 3, 1) := by decide +kernel
theorem s_X9_hashOfBlocks_90 {n : Int64} (h : AP M_X9_hashOfBlocks b 91 [x0, x1, x2, .long n, x4, x5, x6] (.long n :: st) hi g Φ) : AP M_X9_hashOfBlocks b 90 [x0, x1, x2, .long n, x4, x5, x6] (st) hi g Φ := AP.lload_n (x := n) (i := 3) d_X9_hashOfBlocks_90 rfl rfl h
theorem d_X9_hashOfBlocks_91 : decode cX9_hashOfBlocks 91 = .ok (.lreturn, 1) := by decide +kernel
theorem s_X9_hashOfBlocks_91 {x : Int64} (h : Φ (.ok (some (.long x))) hi g) : AP M_X9_hashOfBlocks b 91 [x0, x1, x2, x3, x4, x5, x6] [.long x] hi g Φ := AP.lret d_X9_hashOfBlocks_91 rfl h
end
section
variable {b : Nat × Nat} {st : List Value} {hi : am_HI} {g : am_G} {Φ : am_P} {x0 x1 : Value}
theorem d_X9_empty_0 : decode cX9_empty 0 = .ok (.aload_n 0, 1) := by decide +kernel
theorem s_X9_empty_0 {n : Nat} (h : AP M_X9_empty b 1 [.ref n, x1] (.ref n :: st) hi g Φ) : AP M_X9_empty b 0 [.ref n, x1] (st) hi g Φ := AP.aload_n (x := n) (i := 0) d_X9_empty_0 rfl rfl h
theorem d_X9_empty_1 : decode cX9_empty 1 = .ok (.getfield 26, 3) := by decide +kernel
theorem s_X9_empty_1 {k r : Nat} (hI : am_Inv g) (hs : am_SH k = (0, 9)) (hk : k < 134) (hr : am_HRf k 2 = some r) (hn : k ≠ 39) (h : AP M_X9_empty b 4 [x0, x1] (.ref r :: st) hi g Φ) : AP M_X9_empty b 1 [x0, x1] (.ref k :: st) hi g Φ := AP.getR (j := 2) (q := (RX9, TX9, 7)) d_X9_empty_1 hs (hI.lt hk) rfl (by decide) (by decide) w_347 (hI.r hn hr) h
theorem d_X9_empty_4 : decode cX9_empty 4 = .ok (.aload_n 0, 1) := by decide +kernel
theorem s_X9_empty_4 {n : Nat} (h : AP M_X9_empty b 5 [.ref n, x1] (.ref n :: st) hi g Φ) : AP M_X9_empty b 4 [.ref n, x1] (st) hi g Φ := AP.aload_n (x := n) (i := 0) d_X9_empty_4 rfl rfl h
theorem d_X9_empty_5 : decode cX9_empty 5 = .ok (.getfield 20, 3) := by decide +kernel
theorem s_X9_empty_5 {k r : Nat} (hI : am_Inv g) (hs : am_SH k = (0, 9)) (hk : k < 134) (hr : am_HRf k 1 = some r) (hn : k ≠ 39) (h : AP M_X9_empty b 8 [x0, x1] (.ref r :: st) hi g Φ) : AP M_X9_empty b 5 [x0, x1] (.ref k :: st) hi g Φ := AP.getR (j := 1) (q := (RX9, TX9, 7)) d_X9_empty_5 hs (hI.lt hk) rfl (by decide) (by decide) w_346 (hI.r hn hr) h
theorem d_X9_empty_8 : decode cX9_empty 8 = .ok (.invokevirtual 75, 3) := by decide +kernel
theorem s_X9_empty_8 {a0 : Nat} {k : Nat} {P : am_HI → Prop} (hI : am_Inv g) (hs : am_SH k = (0, 1)) (hk : k < 134) (hst : (st.map Value.category).sum ≤ 8) (hc : am_Cr M_X1_save [.ref k, .ref a0] hi g none P) (h : ∀ hi' : am_HI, P hi' → AP M_X9_empty b 11 [x0, x1] (st) hi' g Φ) : AP M_X9_empty b 8 [x0, x1] (.ref a0 :: .ref k :: st) hi g Φ := AP.callVr (As := [.ref a0]) (q := (RX1, TX1, 2)) hI hc k_X9_empty_75 d_X9_empty_8 rfl hs hk rfl rfl hst h
theorem d_X9_empty_11 : decode cX9_empty 11 = .ok (.aload_n 0, 1) := by decide +kernel
theorem s_X9_empty_11 {n : Nat} (h : AP M_X9_empty b 12 [.ref n, x1] (.ref n :: st) hi g Φ) : AP M_X9_empty b 11 [.ref n, x1] (st) hi g Φ := AP.aload_n (x := n) (i := 0) d_X9_empty_11 rfl rfl h
theorem d_X9_empty_12 : decode cX9_empty 12 = .ok (.getfield 20, 3) := by decide +kernel
theorem s_X9_empty_12 {k r : Nat} (hI : am_Inv g) (hs : am_SH k = (0, 9)) (hk : k < 134) (hr : am_HRf k 1 = some r) (hn : k ≠ 39) (h : AP M_X9_empty b 15 [x0, x1] (.ref r :: st) hi g Φ) : AP M_X9_empty b 12 [x0, x1] (.ref k :: st) hi g Φ := AP.getR (j := 1) (q := (RX9, TX9, 7)) d_X9_empty_12 hs (hI.lt hk) rfl (by decide) (by decide) w_346 (hI.r hn hr) h
theorem d_X9_empty_15 : decode cX9_empty 15 = .ok (.getfield 83, 3) := by decide +kernel
theorem s_X9_empty_15 {k : Nat} (hI : am_Inv g) (hs : am_SH k = (0, 6)) (hk : k < 134) (h : AP M_X9_empty b 18 [x0, x1] (.int (hi k 3) :: st) hi g Φ) : AP M_X9_empty b 15 [x0, x1] (.ref k :: st) hi g Φ := AP.getI (j := 3) (q := (RX6, TX6, 8)) d_X9_empty_15 hs (hI.lt hk) rfl (by decide) (by decide) w_168 h
theorem d_X9_empty_18 : decode cX9_empty 18 = .ok (.istore_n 1, 1) := by decide +kernel
theorem s_X9_empty_18 {n : Int32} (hc : x0.category = 1) (h : AP M_X9_empty b 19 [x0, .int n] (st) hi g Φ) : AP M_X9_empty b 18 [x0, x1] (.int n :: st) hi g Φ := AP.istore_n (x := n) (i := 1) d_X9_empty_18 rfl (by decide) (by simp [am_st, am_ci, am_cr, am_cl, am_cd, hc]) h
theorem d_X9_empty_19 : decode cX9_empty 19 = .ok (.aload_n 0, 1) := by decide +kernel
theorem s_X9_empty_19 {n : Nat} (h : AP M_X9_empty b 20 [.ref n, x1] (.ref n :: st) hi g Φ) : AP M_X9_empty b 19 [.ref n, x1] (st) hi g Φ := AP.aload_n (x := n) (i := 0) d_X9_empty_19 rfl rfl h
theorem d_X9_empty_20 : decode cX9_empty 20 = .ok (.getfield 20, 3) := by decide +kernel
theorem s_X9_empty_20 {k r : Nat} (hI : am_Inv g) (hs : am_SH k = (0, 9)) (hk : k < 134) (hr : am_HRf k 1 = some r) (hn : k ≠ 39) (h : AP M_X9_empty b 23 [x0, x1] (.ref r :: st) hi g Φ) : AP M_X9_empty b 20 [x0, x1] (.ref k :: st) hi g Φ := AP.getR (j := 1) (q := (RX9, TX9, 7)) d_X9_empty_20 hs (hI.lt hk) rfl (by decide) (by decide) w_346 (hI.r hn hr) h
theorem d_X9_empty_23 : decode cX9_empty 23 = .ok (.iconst 0, 1) := by decide +kernel
theorem s_X9_empty_23 (h : AP M_X9_empty b 24 [x0, x1] (.int 0 :: st) hi g Φ) : AP M_X9_empty b 23 [x0, x1] (st) hi g Φ := AP.iconst (x := 0) d_X9_empty_23 (by decide) h
theorem d_X9_empty_24 : decode cX9_empty 24 = .ok (.putfield 83, 3) := by decide +kernel
theorem s_X9_empty_24 {k : Nat} {n : Int32} (hI : am_Inv g) (hs : am_SH k = (0, 6)) (hk : k < 134) (h : AP M_X9_empty b 27 [x0, x1] (st) (am_up hi k 3 n) g Φ) : AP M_X9_empty b 24 [x0, x1] (.int n :: .ref k :: st) hi g Φ := AP.putI (j := 3) (q := (RX6, TX6, 8)) d_X9_empty_24 hs (hI.lt hk) rfl (by decide) rfl rfl w_168 h
theorem d_X9_empty_27 : decode cX9_empty 27 = .ok (.iload_n 1, 1) := by decide +kernel
theorem s_X9_empty_27 {n : Int32} (h : AP M_X9_empty b 28 [x0, .int n] (.int n :: st) hi g Φ) : AP M_X9_empty b 27 [x0, .int n] (st) hi g Φ := AP.iload_n (x := n) (i := 1) d_X9_empty_27 rfl rfl h
theorem d_X9_empty_28 : decode cX9_empty 28 = .ok (.ireturn, 1) := by decide +kernel
theorem s_X9_empty_28 {x : Int32} (h : Φ (.ok (some (.int x))) hi g) : AP M_X9_empty b 28 [x0, x1] [.int x] hi g Φ := AP.iret d_X9_empty_28 rfl h
end
section
variable {b : Nat × Nat} {st : List Value} {hi : am_HI} {g : am_G} {Φ : am_P} {x0 : Value}
theorem d_X9_firstUnlike_0 : decode cX9_firstUnlike 0 = .ok (.aload_n 0, 1) := by decide +kernel
theorem s_X9_firstUnlike_0 {n : Nat} (h : AP M_X9_firstUnlike b 1 [.ref n] (.ref n :: st) hi g Φ) : AP M_X9_firstUnlike b 0 [.ref n] (st) hi g Φ := AP.aload_n (x := n) (i := 0) d_X9_firstUnlike_0 rfl rfl h
theorem d_X9_firstUnlike_1 : decode cX9_firstUnlike 1 = .ok (.getfield 47, 3) := by decide +kernel
theorem s_X9_firstUnlike_1 {k r : Nat} (hI : am_Inv g) (hs : am_SH k = (0, 9)) (hk : k < 134) (hr : am_HRf k 5 = some r) (hn : k ≠ 39) (h : AP M_X9_firstUnlike b 4 [x0] (.ref r :: st) hi g Φ) : AP M_X9_firstUnlike b 1 [x0] (.ref k :: st) hi g Φ := AP.getR (j := 5) (q := (RX9, TX9, 7)) d_X9_firstUnlike_1 hs (hI.lt hk) rfl (by decide) (by decide) w_350 (hI.r hn hr) h
theorem d_X9_firstUnlike_4 : decode cX9_firstUnlike 4 = .ok (.aload_n 0, 1) := by decide +kernel
theorem s_X9_firstUnlike_4 {n : Nat} (h : AP M_X9_firstUnlike b 5 [.ref n] (.ref n :: st) hi g Φ) : AP M_X9_firstUnlike b 4 [.ref n] (st) hi g Φ := AP.aload_n (x := n) (i := 0) d_X9_firstUnlike_4 rfl rfl h
theorem d_X9_firstUnlike_5 : decode cX9_firstUnlike 5 = .ok (.getfield 20, 3) := by decide +kernel
theorem s_X9_firstUnlike_5 {k r : Nat} (hI : am_Inv g) (hs : am_SH k = (0, 9)) (hk : k < 134) (hr : am_HRf k 1 = some r) (hn : k ≠ 39) (h : AP M_X9_firstUnlike b 8 [x0] (.ref r :: st) hi g Φ) : AP M_X9_firstUnlike b 5 [x0] (.ref k :: st) hi g Φ := AP.getR (j := 1) (q := (RX9, TX9, 7)) d_X9_firstUnlike_5 hs (hI.lt hk) rfl (by decide) (by decide) w_346 (hI.r hn hr) h
theorem d_X9_firstUnlike_8 : decode cX9_firstUnlike 8 = .ok (.getfield 129, 3) := by decide +kernel
theorem s_X9_firstUnlike_8 {k r : Nat} (hI : am_Inv g) (hs : am_SH k = (0, 6)) (hk : k < 134) (hr : am_HRf k 2 = some r) (hn : k ≠ 39) (h : AP M_X9_firstUnlike b 11 [x0] (.ref r :: st) hi g Φ) : AP M_X9_firstUnlike b 8 [x0] (.ref k :: st) hi g Φ := AP.getR (j := 2) (q := (RX6, TX6, 8)) d_X9_firstUnlike_8 hs (hI.lt hk) rfl (by decide) (by decide) w_165 (hI.r hn hr) h
theorem d_X9_firstUnlike_11 : decode cX9_firstUnlike 11 = .ok (.iconst (-1), 1) := by decide +kernel
theorem s_X9_firstUnlike_11 (h : AP M_X9_firstUnlike b 12 [x0] (.int (-1) :: st) hi g Φ) : AP M_X9_firstUnlike b 11 [x0] (st) hi g Φ := AP.iconst (x := (-1)) d_X9_firstUnlike_11 (by decide) h
theorem d_X9_firstUnlike_12 : decode cX9_firstUnlike 12 = .ok (.invokevirtual 229, 3) := by decide +kernel
theorem s_X9_firstUnlike_12 {a0 : Nat} {a1 : Int32} {k : Nat} {P : am_HI → Prop} (hI : am_Inv g) (hs : am_SH k = (0, 4)) (hk : k < 134) (hst : (st.map Value.category).sum ≤ 8) (hc : am_Cr M_X4_read [.ref k, .ref a0, .int a1] hi g none P) (h : ∀ hi' : am_HI, P hi' → AP M_X9_firstUnlike b 15 [x0] (st) hi' g Φ) : AP M_X9_firstUnlike b 12 [x0] (.int a1 :: .ref a0 :: .ref k :: st) hi g Φ := AP.callVr (As := [.ref a0, .int a1]) (q := (RX4, TX4, 1)) hI hc k_X9_firstUnlike_229 d_X9_firstUnlike_12 rfl hs hk rfl rfl hst h
theorem d_X9_firstUnlike_15 : decode cX9_firstUnlike 15 = .ok (.aload_n 0, 1) := by decide +kernel
theorem s_X9_firstUnlike_15 {n : Nat} (h : AP M_X9_firstUnlike b 16 [.ref n] (.ref n :: st) hi g Φ) : AP M_X9_firstUnlike b 15 [.ref n] (st) hi g Φ := AP.aload_n (x := n) (i := 0) d_X9_firstUnlike_15 rfl rfl h
theorem d_X9_firstUnlike_16 : decode cX9_firstUnlike 16 = .ok (.getfield 47, 3) := by decide +kernel
theorem s_X9_firstUnlike_16 {k r : Nat} (hI : am_Inv g) (hs : am_SH k = (0, 9)) (hk : k < 134) (hr : am_HRf k 5 = some r) (hn : k ≠ 39) (h : AP M_X9_firstUnlike b 19 [x0] (.ref r :: st) hi g Φ) : AP M_X9_firstUnlike b 16 [x0] (.ref k :: st) hi g Φ := AP.getR (j := 5) (q := (RX9, TX9, 7)) d_X9_firstUnlike_16 hs (hI.lt hk) rfl (by decide) (by decide) w_350 (hI.r hn hr) h
theorem d_X9_firstUnlike_19 : decode cX9_firstUnlike 19 = .ok (.aload_n 0, 1) := by decide +kernel
theorem s_X9_firstUnlike_19 {n : Nat} (h : AP M_X9_firstUnlike b 20 [.ref n] (.ref n :: st) hi g Φ) : AP M_X9_firstUnlike b 19 [.ref n] (st) hi g Φ := AP.aload_n (x := n) (i := 0) d_X9_firstUnlike_19 rfl rfl h
theorem d_X9_firstUnlike_20 : decode cX9_firstUnlike 20 = .ok (.getfield 20, 3) := by decide +kernel
theorem s_X9_firstUnlike_20 {k r : Nat} (hI : am_Inv g) (hs : am_SH k = (0, 9)) (hk : k < 134) (hr : am_HRf k 1 = some r) (hn : k ≠ 39) (h : AP M_X9_firstUnlike b 23 [x0] (.ref r :: st) hi g Φ) : AP M_X9_firstUnlike b 20 [x0] (.ref k :: st) hi g Φ := AP.getR (j := 1) (q := (RX9, TX9, 7)) d_X9_firstUnlike_20 hs (hI.lt hk) rfl (by decide) (by decide) w_346 (hI.r hn hr) h
theorem d_X9_firstUnlike_23 : decode cX9_firstUnlike 23 = .ok (.getfield 129, 3) := by decide +kernel
theorem s_X9_firstUnlike_23 {k r : Nat} (hI : am_Inv g) (hs : am_SH k = (0, 6)) (hk : k < 134) (hr : am_HRf k 2 = some r) (hn : k ≠ 39) (h : AP M_X9_firstUnlike b 26 [x0] (.ref r :: st) hi g Φ) : AP M_X9_firstUnlike b 23 [x0] (.ref k :: st) hi g Φ := AP.getR (j := 2) (q := (RX6, TX6, 8)) d_X9_firstUnlike_23 hs (hI.lt hk) rfl (by decide) (by decide) w_165 (hI.r hn hr) h
theorem d_X9_firstUnlike_26 : decode cX9_firstUnlike 26 = .ok (.invokevirtual 244, 3) := by decide +kernel
theorem s_X9_firstUnlike_26 {a0 : Nat} {k : Nat} {r0 : Int32} {P : am_HI → Prop} (hI : am_Inv g) (hs : am_SH k = (0, 4)) (hk : k < 134) (hst : (st.map Value.category).sum ≤ 8) (hc : am_Cr M_X4_findUnlike [.ref k, .ref a0] hi g (some (.int r0)) P) (h : ∀ hi' : am_HI, P hi' → AP M_X9_firstUnlike b 29 [x0] (.int r0 :: st) hi' g Φ) : AP M_X9_firstUnlike b 26 [x0] (.ref a0 :: .ref k :: st) hi g Φ := AP.callVr (As := [.ref a0]) (q := (RX4, TX4, 1)) hI hc k_X9_firstUnlike_244 d_X9_firstUnlike_26 rfl hs hk rfl rfl hst h
theorem d_X9_firstUnlike_29 : decode cX9_firstUnlike 29 = .ok (.ireturn, 1) := by decide +kernel
theorem s_X9_firstUnlike_29 {x : Int32} (h : Φ (.ok (some (.int x))) hi g) : AP M_X9_firstUnlike b 29 [x0] [.int x] hi g Φ := AP.iret d_X9_firstUnlike_29 rfl h
end
section
variable {b : Nat × Nat} {st : List Value} {hi : am_HI} {g : am_G} {Φ : am_P} {x0 x1 x2 x3 x4 x5 x6 : Value}
theorem d_X9_hashOfLetter_0 : decode cX9_hashOfLetter 0 = .ok (.aload_n 0, 1) := by decide +kernel
theorem s_X9_hashOfLetter_0 {n : Nat} (h : AP M_X9_hashOfLetter b 1 [.ref n, x1, x2, x3, x4, x5, x6] (.ref n :: st) hi g Φ) : AP M_X9_hashOfLetter b 0 [.ref n, x1, x2, x3, x4, x5, x6] (st) hi g Φ := AP.aload_n (x := n) (i := 0) d_X9_hashOfLetter_0 rfl rfl h
theorem d_X9_hashOfLetter_1 : decode cX9_hashOfLetter 1 = .ok (.getfield 20, 3) := by decide +kernel
theorem s_X9_hashOfLetter_1 {k r : Nat} (hI : am_Inv g) (hs : am_SH k = (0, 9)) (hk : k < 134) (hr : am_HRf k 1 = some r) (hn : k ≠ 39) (h : AP M_X9_hashOfLetter b 4 [x0, x1, x2, x3, x4, x5, x6] (.ref r :: st) hi g Φ) : AP M_X9_hashOfLetter b 1 [x0, x1, x2, x3, x4, x5, x6] (.ref k :: st) hi g Φ := AP.getR (j := 1) (q := (RX9, TX9, 7)) d_X9_hashOfLetter_1 hs (hI.lt hk) rfl (by decide) (by decide) w_346 (hI.r hn hr) h
theorem d_X9_hashOfLetter_4 : decode cX9_hashOfLetter 4 = .ok (.getfield 129, 3) := by decide +kernel
theorem s_X9_hashOfLetter_4 {k r : Nat} (hI : am_Inv g) (hs : am_SH k = (0, 6)) (hk : k < 134) (hr : am_HRf k 2 = some r) (hn : k ≠ 39) (h : AP M_X9_hashOfLetter b 7 [x0, x1, x2, x3, x4, x5, x6] (.ref r :: st) hi g Φ) : AP M_X9_hashOfLetter b 4 [x0, x1, x2, x3, x4, x5, x6] (.ref k :: st) hi g Φ := AP.getR (j := 2) (q := (RX6, TX6, 8)) d_X9_hashOfLetter_4 hs (hI.lt hk) rfl (by decide) (by decide) w_165 (hI.r hn hr) h
theorem d_X9_hashOfLetter_7 : decode cX9_hashOfLetter 7 = .ok (.astore_n 3, 1) := by decide +kernel
theorem s_X9_hashOfLetter_7 {n : Nat} (hc : x2.category = 1) (h : AP M_X9_hashOfLetter b 8 [x0, x1, x2, .ref n, x4, x5, x6] (st) hi g Φ) : AP M_X9_hashOfLetter b 7 [x0, x1, x2, x3, x4, x5, x6] (.ref n :: st) hi g Φ := AP.astore_n (x := n) (i := 3) d_X9_hashOfLetter_7 rfl (by decide) (by simp [am_st, am_ci, am_cr, am_cl, am_cd, hc]) h
theorem d_X9_hashOfLetter_8 : decode cX9_hashOfLetter 8 = .ok (.lload_n 1, 1) := by decide +kernel
theorem s_X9_hashOfLetter_8 {n : Int64} (h : AP M_X9_hashOfLetter b 9 [x0, .long n, x2, x3, x4, x5, x6] (.long n :: st) hi g Φ) : AP M_X9_hashOfLetter b 8 [x0, .long n, x2, x3, x4, x5, x6] (st) hi g Φ := AP.lload_n (x := n) (i := 1) d_X9_hashOfLetter_8 rfl rfl h
theorem d_X9_hashOfLetter_9 : decode cX9_hashOfLetter 9 = .ok (.lstore 4, 2) := by decide +kernel
theorem s_X9_hashOfLetter_9 {n : Int64} (hc : x3.category = 1) (h : AP M_X9_hashOfLetter b 11 [x0, x1, x2, x3, .long n, jk, x6] (st) hi g Φ) : AP M_X9_hashOfLetter b 9 [x0, x1, x2, x3, x4, x5, x6] (.long n :: st) hi g Φ := AP.lstore (x := n) (i := 4) d_X9_hashOfLetter_9 (by decide) (by simp [am_st, am_ci, am_cr, am_cl, am_cd, hc]) h
theorem d_X9_hashOfLetter_11 : decode cX9_hashOfLetter 11 = .ok (.iconst 0, 1) := by decide +kernel
theorem s_X9_hashOfLetter_11 (h : AP M_X9_hashOfLetter b 12 [x0, x1, x2, x3, x4, x5, x6] (.int 0 :: st) hi g Φ) : AP M_X9_hashOfLetter b 11 [x0, x1, x2, x3, x4, x5, x6] (st) hi g Φ := AP.iconst (x := 0) d_X9_hashOfLetter_11 (by decide) h
theorem d_X9_hashOfLetter_12 : decode cX9_hashOfLetter 12 = .ok (.istore 6, 2) := by decide +kernel
theorem s_X9_hashOfLetter_12 {n : Int32} (hc : x5.category = 1) (h : AP M_X9_hashOfLetter b 14 [x0, x1, x2, x3, x4, x5, .int n] (st) hi g Φ) : AP M_X9_hashOfLetter b 12 [x0, x1, x2, x3, x4, x5, x6] (.int n :: st) hi g Φ := AP.istore (x := n) (i := 6) d_X9_hashOfLetter_12 (by decide) (by simp [am_st, am_ci, am_cr, am_cl, am_cd, hc]) h
theorem d_X9_hashOfLetter_14 : decode cX9_hashOfLetter 14 = .ok (.iload 6, 2) := by decide +kernel
theorem s_X9_hashOfLetter_14 {n : Int32} (h : AP M_X9_hashOfLetter b 16 [x0, x1, x2, x3, x4, x5, .int n] (.int n :: st) hi g Φ) : AP M_X9_hashOfLetter b 14 [x0, x1, x2, x3, x4, x5, .int n] (st) hi g Φ := AP.iload (x := n) (i := 6) d_X9_hashOfLetter_14 rfl h
theorem d_X9_hashOfLetter_16 : decode cX9_hashOfLetter 16 = .ok (.aload_n 3, 1) := by decide +kernel
theorem s_X9_hashOfLetter_16 {n : Nat} (h : AP M_X9_hashOfLetter b 17 [x0, x1, x2, .ref n, x4, x5, x6] (.ref n :: st) hi g Φ) : AP M_X9_hashOfLetter b 16 [x0, x1, x2, .ref n, x4, x5, x6] (st) hi g Φ := AP.aload_n (x := n) (i := 3) d_X9_hashOfLetter_16 rfl rfl h
theorem d_X9_hashOfLetter_17 : decode cX9_hashOfLetter 17 = .ok (.getfield 216, 3) := by decide +kernel
theorem s_X9_hashOfLetter_17 {k : Nat} (hI : am_Inv g) (hs : am_SH k = (0, 2)) (hk : k < 134) (h : AP M_X9_hashOfLetter b 20 [x0, x1, x2, x3, x4, x5, x6] (.int (hi k 5) :: st) hi g Φ) : AP M_X9_hashOfLetter b 17 [x0, x1, x2, x3, x4, x5, x6] (.ref k :: st) hi g Φ := AP.getI (j := 5) (q := (RX2, TX2, 8)) d_X9_hashOfLetter_17 hs (hI.lt hk) rfl (by decide) (by decide) w_133 h
theorem d_X9_hashOfLetter_20 : decode cX9_hashOfLetter 20 = .ok (.invokestatic 145, 3) := by decide +kernel
theorem s_X9_hashOfLetter_20 {a0 : Int32} {r0 : Int32} {P : am_HI → Prop} (hI : am_Inv g) (hst : (st.map Value.category).sum ≤ 8) (hc : am_Cr M_X9_blocksOf [.int a0] hi g (some (.int r0)) P) (h : ∀ hi' : am_HI, P hi' → AP M_X9_hashOfLetter b 23 [x0, x1, x2, x3, x4, x5, x6] (.int r0 :: st) hi' g Φ) : AP M_X9_hashOfLetter b 20 [x0, x1, x2, x3, x4, x5, x6] (.int a0 :: st) hi g Φ := AP.callSr (As := [.int a0]) hI hc k_X9_hashOfLetter_145 d_X9_hashOfLetter_20 rfl hst h
theorem d_X9_hashOfLetter_23 : decode cX9_hashOfLetter 23 = .ok (.if_icmp .ge 39, 3) := by decide +kernel
theorem s_X9_hashOfLetter_23 {x y : Int32} (h1 : y ≤ x → AP M_X9_hashOfLetter b 62 [x0, x1, x2, x3, x4, x5, x6] st hi g Φ) (h2 : ¬ y ≤ x → AP M_X9_hashOfLetter b 26 [x0, x1, x2, x3, x4, x5, x6] st hi g Φ) : AP M_X9_hashOfLetter b 23 [x0, x1, x2, x3, x4, x5, x6] (.int y :: .int x :: st) hi g Φ := AP.icmp_ge d_X9_hashOfLetter_23 (by decide) h1 h2
theorem d_X9_hashOfLetter_26 : decode cX9_hashOfLetter 26 = .ok (.lload 4, 2) := by decide +kernel
theorem s_X9_hashOfLetter_26 {n : Int64} (h : AP M_X9_hashOfLetter b 28 [x0, x1, x2, x3, .long n, x5, x6] (.long n :: st) hi g Φ) : AP M_X9_hashOfLetter b 26 [x0, x1, x2, x3, .long n, x5, x6] (st) hi g Φ := AP.lload (x := n) (i := 4) d_X9_hashOfLetter_26 rfl h
theorem d_X9_hashOfLetter_28 : decode cX9_hashOfLetter 28 = .ok (.aload_n 3, 1) := by decide +kernel
theorem s_X9_hashOfLetter_28 {n : Nat} (h : AP M_X9_hashOfLetter b 29 [x0, x1, x2, .ref n, x4, x5, x6] (.ref n :: st) hi g Φ) : AP M_X9_hashOfLetter b 28 [x0, x1, x2, .ref n, x4, x5, x6] (st) hi g Φ := AP.aload_n (x := n) (i := 3) d_X9_hashOfLetter_28 rfl rfl h
theorem d_X9_hashOfLetter_29 : decode cX9_hashOfLetter 29 = .ok (.getfield 217, 3) := by decide +kernel
theorem s_X9_hashOfLetter_29 {k r : Nat} (hI : am_Inv g) (hs : am_SH k = (0, 2)) (hk : k < 134) (hr : am_HRf k 1 = some r) (hn : k ≠ 39) (h : AP M_X9_hashOfLetter b 32 [x0, x1, x2, x3, x4, x5, x6] (.ref r :: st) hi g Φ) : AP M_X9_hashOfLetter b 29 [x0, x1, x2, x3, x4, x5, x6] (.ref k :: st) hi g Φ := AP.getR (j := 1) (q := (RX2, TX2, 8)) d_X9_hashOfLetter_29 hs (hI.lt hk) rfl (by decide) (by decide) w_119 (hI.r hn hr) h
theorem d_X9_hashOfLetter_32 : decode cX9_hashOfLetter 32 = .ok (.iload 6, 2) := by decide +kernel
theorem s_X9_hashOfLetter_32 {n : Int32} (h : AP M_X9_hashOfLetter b 34 [x0, x1, x2, x3, x4, x5, .int n] (.int n :: st) hi g Φ) : AP M_X9_hashOfLetter b 32 [x0, x1, x2, x3, x4, x5, .int n] (st) hi g Φ := AP.iload (x := n) (i := 6) d_X9_hashOfLetter_32 rfl h
theorem d_X9_hashOfLetter_34 : decode cX9_hashOfLetter 34 = .ok (.iaload, 1) := by decide +kernel
theorem s_X9_hashOfLetter_34 {k n j : Nat} {i : Int32} (hI : am_Inv g) (hs : am_SH k = (1, n)) (hk : k < 134) (hn : n < 2 ^ 31) (hx : i = nI j) (hj : j < n) (h : AP M_X9_hashOfLetter b 35 [x0, x1, x2, x3, x4, x5, x6] (.int (hi k j) :: st) hi g Φ) : AP M_X9_hashOfLetter b 34 [x0, x1, x2, x3, x4, x5, x6] (.int i :: .ref k :: st) hi g Φ := AP.iald d_X9_hashOfLetter_34 hs (hI.lt hk) hn hx hj h
theorem d_X9_hashOfLetter_35 : decode cX9_hashOfLetter 35 = .ok (.i2l, 1) := by decide +kernel
theorem s_X9_hashOfLetter_35 {x : Int32} (h : AP M_X9_hashOfLetter b 36 [x0, x1, x2, x3, x4, x5, x6] (.long x.toInt64 :: st) hi g Φ) : AP M_X9_hashOfLetter b 35 [x0, x1, x2, x3, x4, x5, x6] (.int x :: st) hi g Φ := AP.i2l d_X9_hashOfLetter_35 h
theorem d_X9_hashOfLetter_36 : decode cX9_hashOfLetter 36 = .ok (.invokestatic 353, 3) := by decide +kernel
theorem s_X9_hashOfLetter_36 {a0 : Int64} {a1 : Int64} {r0 : Int64} {P : am_HI → Prop} (hI : am_Inv g) (hst : (st.map Value.category).sum ≤ 8) (hc : am_Cr M_X9_mix [.long a0, .long a1] hi g (some (.long r0)) P) (h : ∀ hi' : am_HI, P hi' → AP M_X9_hashOfLetter b 39 [x0, x1, x2, x3, x4, x5, x6] (.long r0 :: st) hi' g Φ) : AP M_X9_hashOfLetter b 36 [x0, x1, x2, x3, x4, x5, x6] (.long a1 :: .long a0 :: st) hi g Φ := AP.callSr (As := [.long a0, .long a1]) hI hc k_X9_hashOfLetter_353 d_X9_hashOfLetter_36 rfl hst h
theorem d_X9_hashOfLetter_39 : decode cX9_hashOfLetter 39 = .ok (.lstore 4, 2) := by decide +kernel
theorem s_X9_hashOfLetter_39 {n : Int64} (hc : x3.category = 1) (h : AP M_X9_hashOfLetter b 41 [x0, x1, x2, x3, .long n, jk, x6] (st) hi g Φ) : AP M_X9_hashOfLetter b 39 [x0, x1, x2, x3, x4, x5, x6] (.long n :: st) hi g Φ := AP.lstore (x := n) (i := 4) d_X9_hashOfLetter_39 (by decide) (by simp [am_st, am_ci, am_cr, am_cl, am_cd, hc]) h
theorem d_X9_hashOfLetter_41 : decode cX9_hashOfLetter 41 = .ok (.lload 4, 2) := by decide +kernel
theorem s_X9_hashOfLetter_41 {n : Int64} (h : AP M_X9_hashOfLetter b 43 [x0, x1, x2, x3, .long n, x5, x6] (.long n :: st) hi g Φ) : AP M_X9_hashOfLetter b 41 [x0, x1, x2, x3, .long n, x5, x6] (st) hi g Φ := AP.lload (x := n) (i := 4) d_X9_hashOfLetter_41 rfl h
theorem d_X9_hashOfLetter_43 : decode cX9_hashOfLetter 43 = .ok (.aload_n 3, 1) := by decide +kernel
theorem s_X9_hashOfLetter_43 {n : Nat} (h : AP M_X9_hashOfLetter b 44 [x0, x1, x2, .ref n, x4, x5, x6] (.ref n :: st) hi g Φ) : AP M_X9_hashOfLetter b 43 [x0, x1, x2, .ref n, x4, x5, x6] (st) hi g Φ := AP.aload_n (x := n) (i := 3) d_X9_hashOfLetter_43 rfl rfl h
theorem d_X9_hashOfLetter_44 : decode cX9_hashOfLetter 44 = .ok (.getfield 220, 3) := by decide +kernel
theorem s_X9_hashOfLetter_44 {k r : Nat} (hI : am_Inv g) (hs : am_SH k = (0, 2)) (hk : k < 134) (hr : am_HRf k 2 = some r) (hn : k ≠ 39) (h : AP M_X9_hashOfLetter b 47 [x0, x1, x2, x3, x4, x5, x6] (.ref r :: st) hi g Φ) : AP M_X9_hashOfLetter b 44 [x0, x1, x2, x3, x4, x5, x6] (.ref k :: st) hi g Φ := AP.getR (j := 2) (q := (RX2, TX2, 8)) d_X9_hashOfLetter_44 hs (hI.lt hk) rfl (by decide) (by decide) w_122 (hI.r hn hr) h
theorem d_X9_hashOfLetter_47 : decode cX9_hashOfLetter 47 = .ok (.iload 6, 2) := by decide +kernel
theorem s_X9_hashOfLetter_47 {n : Int32} (h : AP M_X9_hashOfLetter b 49 [x0, x1, x2, x3, x4, x5, .int n] (.int n :: st) hi g Φ) : AP M_X9_hashOfLetter b 47 [x0, x1, x2, x3, x4, x5, .int n] (st) hi g Φ := AP.iload (x := n) (i := 6) d_X9_hashOfLetter_47 rfl h
theorem d_X9_hashOfLetter_49 : decode cX9_hashOfLetter 49 = .ok (.iaload, 1) := by decide +kernel
theorem s_X9_hashOfLetter_49 {k n j : Nat} {i : Int32} (hI : am_Inv g) (hs : am_SH k = (1, n)) (hk : k < 134) (hn : n < 2 ^ 31) (hx : i = nI j) (hj : j < n) (h : AP M_X9_hashOfLetter b 50 [x0, x1, x2, x3, x4, x5, x6] (.int (hi k j) :: st) hi g Φ) : AP M_X9_hashOfLetter b 49 [x0, x1, x2, x3, x4, x5, x6] (.int i :: .ref k :: st) hi g Φ := AP.iald d_X9_hashOfLetter_49 hs (hI.lt hk) hn hx hj h
theorem d_X9_hashOfLetter_50 : decode cX9_hashOfLetter 50 = .ok (.i2l, 1) := by decide +kernel
theorem s_X9_hashOfLetter_50 {x : Int32} (h : AP M_X9_hashOfLetter b 51 [x0, x1, x2, x3, x4, x5, x6] (.long x.toInt64 :: st) hi g Φ) : AP M_X9_hashOfLetter b 50 [x0, x1, x2, x3, x4, x5, x6] (.int x :: st) hi g Φ := AP.i2l d_X9_hashOfLetter_50 h
theorem d_X9_hashOfLetter_51 : decode cX9_hashOfLetter 51 = .ok (.invokestatic 353, 3) := by decide +kernel
theorem s_X9_hashOfLetter_51 {a0 : Int64} {a1 : Int64} {r0 : Int64} {P : am_HI → Prop} (hI : am_Inv g) (hst : (st.map Value.category).sum ≤ 8) (hc : am_Cr M_X9_mix [.long a0, .long a1] hi g (some (.long r0)) P) (h : ∀ hi' : am_HI, P hi' → AP M_X9_hashOfLetter b 54 [x0, x1, x2, x3, x4, x5, x6] (.long r0 :: st) hi' g Φ) : AP M_X9_hashOfLetter b 51 [x0, x1, x2, x3, x4, x5, x6] (.long a1 :: .long a0 :: st) hi g Φ := AP.callSr (As := [.long a0, .long a1]) hI hc k_X9_hashOfLetter_353 d_X9_hashOfLetter_51 rfl hst h
theorem d_X9_hashOfLetter_54 : decode cX9_hashOfLetter 54 = .ok (.lstore 4, 2) := by decide +kernel
theorem s_X9_hashOfLetter_54 {n : Int64} (hc : x3.category = 1) (h : AP M_X9_hashOfLetter b 56 [x0, x1, x2, x3, .long n, jk, x6] (st) hi g Φ) : AP M_X9_hashOfLetter b 54 [x0, x1, x2, x3, x4, x5, x6] (.long n :: st) hi g Φ := AP.lstore (x := n) (i := 4) d_X9_hashOfLetter_54 (by decide) (by simp [am_st, am_ci, am_cr, am_cl, am_cd, hc]) h
theorem d_X9_hashOfLetter_56 : decode cX9_hashOfLetter 56 = .ok (.iinc 6 1, 3) := by decide +kernel
theorem s_X9_hashOfLetter_56 {n : Int32} (hc : x5.category = 1) (h : AP M_X9_hashOfLetter b 59 [x0, x1, x2, x3, x4, x5, .int (n + 1)] (st) hi g Φ) : AP M_X9_hashOfLetter b 56 [x0, x1, x2, x3, x4, x5, .int n] (st) hi g Φ := AP.iinc (i := 6) (x := n) (y := n + 1) d_X9_hashOfLetter_56 rfl rfl (by decide) (by simp [am_st, am_ci, am_cr, am_cl, am_cd, hc]) h
theorem d_X9_hashOfLetter_59 : decode cX9_hashOfLetter 59 = .ok (.goto (-45), 3) := by decide +kernel
theorem s_X9_hashOfLetter_59 (h : AP M_X9_hashOfLetter b 14 [x0, x1, x2, x3, x4, x5, x6] st hi g Φ) : AP M_X9_hashOfLetter b 59 [x0, x1, x2, x3, x4, x5, x6] st hi g Φ := AP.goto d_X9_hashOfLetter_59 (by decide) h
theorem d_X9_hashOfLetter_62 : decode cX9_hashOfLetter 62 = .ok (.aload_n 0, 1) := by decide +kernel
theorem s_X9_hashOfLetter_62 {n : Nat} (h : AP M_X9_hashOfLetter b 63 [.ref n, x1, x2, x3, x4, x5, x6] (.ref n :: st) hi g Φ) : AP M_X9_hashOfLetter b 62 [.ref n, x1, x2, x3, x4, x5, x6] (st) hi g Φ := AP.aload_n (x := n) (i := 0) d_X9_hashOfLetter_62 rfl rfl h
theorem d_X9_hashOfLetter_63 : decode cX9_hashOfLetter 63 = .ok (.getfield 47, 3) := by decide +kernel
theorem s_X9_hashOfLetter_63 {k r : Nat} (hI : am_Inv g) (hs : am_SH k = (0, 9)) (hk : k < 134) (hr : am_HRf k 5 = some r) (hn : k ≠ 39) (h : AP M_X9_hashOfLetter b 66 [x0, x1, x2, x3, x4, x5, x6] (.ref r :: st) hi g Φ) : AP M_X9_hashOfLetter b 63 [x0, x1, x2, x3, x4, x5, x6] (.ref k :: st) hi g Φ := AP.getR (j := 5) (q := (RX9, TX9, 7)) d_X9_hashOfLetter_63 hs (hI.lt hk) rfl (by decide) (by decide) w_350 (hI.r hn hr) h
theorem d_X9_hashOfLetter_66 : decode cX9_hashOfLetter 66 = .ok (.aload_n 3, 1) := by decide +kernel
theorem s_X9_hashOfLetter_66 {n : Nat} (h : AP M_X9_hashOfLetter b 67 [x0, x1, x2, .ref n, x4, x5, x6] (.ref n :: st) hi g Φ) : AP M_X9_hashOfLetter b 66 [x0, x1, x2, .ref n, x4, x5, x6] (st) hi g Φ := AP.aload_n (x := n) (i := 3) d_X9_hashOfLetter_66 rfl rfl h
theorem d_X9_hashOfLetter_67 : decode cX9_hashOfLetter 67 = .ok (.iconst (-1), 1) := by decide +kernel
theorem s_X9_hashOfLetter_67 (h : AP M_X9_hashOfLetter b 68 [x0, x1, x2, x3, x4, x5, x6] (.int (-1) :: st) hi g Φ) : AP M_X9_hashOfLetter b 67 [x0, x1, x2, x3, x4, x5, x6] (st) hi g Φ := AP.iconst (x := (-1)) d_X9_hashOfLetter_67 (by decide) h
theorem d_X9_hashOfLetter_68 : decode cX9_hashOfLetter 68 = .ok (.invokevirtual 229, 3) := by decide +kernel
theorem s_X9_hashOfLetter_68 {a0 : Nat} {a1 : Int32} {k : Nat} {P : am_HI → Prop} (hI : am_Inv g) (hs : am_SH k = (0, 4)) (hk : k < 134) (hst : (st.map Value.category).sum ≤ 8) (hc : am_Cr M_X4_read [.ref k, .ref a0, .int a1] hi g none P) (h : ∀ hi' : am_HI, P hi' → AP M_X9_hashOfLetter b 71 [x0, x1, x2, x3, x4, x5, x6] (st) hi' g Φ) : AP M_X9_hashOfLetter b 68 [x0, x1, x2, x3, x4, x5, x6] (.int a1 :: .ref a0 :: .ref k :: st) hi g Φ := AP.callVr (As := [.ref a0, .int a1]) (q := (RX4, TX4, 1)) hI hc k_X9_hashOfLetter_229 d_X9_hashOfLetter_68 rfl hs hk rfl rfl hst h
theorem d_X9_hashOfLetter_71 : decode cX9_hashOfLetter 71 = .ok (.iconst 0, 1) := by decide +kernel
theorem s_X9_hashOfLetter_71 (h : AP M_X9_hashOfLetter b 72 [x0, x1, x2, x3, x4, x5, x6] (.int 0 :: st) hi g Φ) : AP M_X9_hashOfLetter b 71 [x0, x1, x2, x3, x4, x5, x6] (st) hi g Φ := AP.iconst (x := 0) d_X9_hashOfLetter_71 (by decide) h
theorem d_X9_hashOfLetter_72 : decode cX9_hashOfLetter 72 = .ok (.istore 6, 2) := by decide +kernel
theorem s_X9_hashOfLetter_72 {n : Int32} (hc : x5.category = 1) (h : AP M_X9_hashOfLetter b 74 [x0, x1, x2, x3, x4, x5, .int n] (st) hi g Φ) : AP M_X9_hashOfLetter b 72 [x0, x1, x2, x3, x4, x5, x6] (.int n :: st) hi g Φ := AP.istore (x := n) (i := 6) d_X9_hashOfLetter_72 (by decide) (by simp [am_st, am_ci, am_cr, am_cl, am_cd, hc]) h
theorem d_X9_hashOfLetter_74 : decode cX9_hashOfLetter 74 = .ok (.iload 6, 2) := by decide +kernel
theorem s_X9_hashOfLetter_74 {n : Int32} (h : AP M_X9_hashOfLetter b 76 [x0, x1, x2, x3, x4, x5, .int n] (.int n :: st) hi g Φ) : AP M_X9_hashOfLetter b 74 [x0, x1, x2, x3, x4, x5, .int n] (st) hi g Φ := AP.iload (x := n) (i := 6) d_X9_hashOfLetter_74 rfl h
theorem d_X9_hashOfLetter_76 : decode cX9_hashOfLetter 76 = .ok (.aload_n 3, 1) := by decide +kernel
theorem s_X9_hashOfLetter_76 {n : Nat} (h : AP M_X9_hashOfLetter b 77 [x0, x1, x2, .ref n, x4, x5, x6] (.ref n :: st) hi g Φ) : AP M_X9_hashOfLetter b 76 [x0, x1, x2, .ref n, x4, x5, x6] (st) hi g Φ := AP.aload_n (x := n) (i := 3) d_X9_hashOfLetter_76 rfl rfl h
theorem d_X9_hashOfLetter_77 : decode cX9_hashOfLetter 77 = .ok (.getfield 216, 3) := by decide +kernel
theorem s_X9_hashOfLetter_77 {k : Nat} (hI : am_Inv g) (hs : am_SH k = (0, 2)) (hk : k < 134) (h : AP M_X9_hashOfLetter b 80 [x0, x1, x2, x3, x4, x5, x6] (.int (hi k 5) :: st) hi g Φ) : AP M_X9_hashOfLetter b 77 [x0, x1, x2, x3, x4, x5, x6] (.ref k :: st) hi g Φ := AP.getI (j := 5) (q := (RX2, TX2, 8)) d_X9_hashOfLetter_77 hs (hI.lt hk) rfl (by decide) (by decide) w_133 h
theorem d_X9_hashOfLetter_80 : decode cX9_hashOfLetter 80 = .ok (.if_icmp .ge 41, 3) := by decide +kernel
theorem s_X9_hashOfLetter_80 {x y : Int32} (h1 : y ≤ x → AP M_X9_hashOfLetter b 121 [x0, x1, x2, x3, x4, x5, x6] st hi g Φ) (h2 : ¬ y ≤ x → AP M_X9_hashOfLetter b 83 [x0, x1, x2, x3, x4, x5, x6] st hi g Φ) : AP M_X9_hashOfLetter b 80 [x0, x1, x2, x3, x4, x5, x6] (.int y :: .int x :: st) hi g Φ := AP.icmp_ge d_X9_hashOfLetter_80 (by decide) h1 h2
theorem d_X9_hashOfLetter_83 : decode cX9_hashOfLetter 83 = .ok (.lload 4, 2) := by decide +kernel
theorem s_X9_hashOfLetter_83 {n : Int64} (h : AP M_X9_hashOfLetter b 85 [x0, x1, x2, x3, .long n, x5, x6] (.long n :: st) hi g Φ) : AP M_X9_hashOfLetter b 83 [x0, x1, x2, x3, .long n, x5, x6] (st) hi g Φ := AP.lload (x := n) (i := 4) d_X9_hashOfLetter_83 rfl h
theorem d_X9_hashOfLetter_85 : decode cX9_hashOfLetter 85 = .ok (.aload_n 3, 1) := by decide +kernel
theorem s_X9_hashOfLetter_85 {n : Nat} (h : AP M_X9_hashOfLetter b 86 [x0, x1, x2, .ref n, x4, x5, x6] (.ref n :: st) hi g Φ) : AP M_X9_hashOfLetter b 85 [x0, x1, x2, .ref n, x4, x5, x6] (st) hi g Φ := AP.aload_n (x := n) (i := 3) d_X9_hashOfLetter_85 rfl rfl h
theorem d_X9_hashOfLetter_86 : decode cX9_hashOfLetter 86 = .ok (.getfield 142, 3) := by decide +kernel
theorem s_X9_hashOfLetter_86 {k r : Nat} (hI : am_Inv g) (hs : am_SH k = (0, 2)) (hk : k < 134) (hr : am_HRf k 3 = some r) (hn : k ≠ 39) (h : AP M_X9_hashOfLetter b 89 [x0, x1, x2, x3, x4, x5, x6] (.ref r :: st) hi g Φ) : AP M_X9_hashOfLetter b 86 [x0, x1, x2, x3, x4, x5, x6] (.ref k :: st) hi g Φ := AP.getR (j := 3) (q := (RX2, TX2, 8)) d_X9_hashOfLetter_86 hs (hI.lt hk) rfl (by decide) (by decide) w_126 (hI.r hn hr) h
theorem d_X9_hashOfLetter_89 : decode cX9_hashOfLetter 89 = .ok (.iload 6, 2) := by decide +kernel
theorem s_X9_hashOfLetter_89 {n : Int32} (h : AP M_X9_hashOfLetter b 91 [x0, x1, x2, x3, x4, x5, .int n] (.int n :: st) hi g Φ) : AP M_X9_hashOfLetter b 89 [x0, x1, x2, x3, x4, x5, .int n] (st) hi g Φ := AP.iload (x := n) (i := 6) d_X9_hashOfLetter_89 rfl h
theorem d_X9_hashOfLetter_91 : decode cX9_hashOfLetter 91 = .ok (.iaload, 1) := by decide +kernel
theorem s_X9_hashOfLetter_91 {k n j : Nat} {i : Int32} (hI : am_Inv g) (hs : am_SH k = (1, n)) (hk : k < 134) (hn : n < 2 ^ 31) (hx : i = nI j) (hj : j < n) (h : AP M_X9_hashOfLetter b 92 [x0, x1, x2, x3, x4, x5, x6] (.int (hi k j) :: st) hi g Φ) : AP M_X9_hashOfLetter b 91 [x0, x1, x2, x3, x4, x5, x6] (.int i :: .ref k :: st) hi g Φ := AP.iald d_X9_hashOfLetter_91 hs (hI.lt hk) hn hx hj h
theorem d_X9_hashOfLetter_92 : decode cX9_hashOfLetter 92 = .ok (.i2l, 1) := by decide +kernel
theorem s_X9_hashOfLetter_92 {x : Int32} (h : AP M_X9_hashOfLetter b 93 [x0, x1, x2, x3, x4, x5, x6] (.long x.toInt64 :: st) hi g Φ) : AP M_X9_hashOfLetter b 92 [x0, x1, x2, x3, x4, x5, x6] (.int x :: st) hi g Φ := AP.i2l d_X9_hashOfLetter_92 h
theorem d_X9_hashOfLetter_93 : decode cX9_hashOfLetter 93 = .ok (.invokestatic 353, 3) := by decide +kernel
theorem s_X9_hashOfLetter_93 {a0 : Int64} {a1 : Int64} {r0 : Int64} {P : am_HI → Prop} (hI : am_Inv g) (hst : (st.map Value.category).sum ≤ 8) (hc : am_Cr M_X9_mix [.long a0, .long a1] hi g (some (.long r0)) P) (h : ∀ hi' : am_HI, P hi' → AP M_X9_hashOfLetter b 96 [x0, x1, x2, x3, x4, x5, x6] (.long r0 :: st) hi' g Φ) : AP M_X9_hashOfLetter b 93 [x0, x1, x2, x3, x4, x5, x6] (.long a1 :: .long a0 :: st) hi g Φ := AP.callSr (As := [.long a0, .long a1]) hI hc k_X9_hashOfLetter_353 d_X9_hashOfLetter_93 rfl hst h
theorem d_X9_hashOfLetter_96 : decode cX9_hashOfLetter 96 = .ok (.lstore 4, 2) := by decide +kernel
theorem s_X9_hashOfLetter_96 {n : Int64} (hc : x3.category = 1) (h : AP M_X9_hashOfLetter b 98 [x0, x1, x2, x3, .long n, jk, x6] (st) hi g Φ) : AP M_X9_hashOfLetter b 96 [x0, x1, x2, x3, x4, x5, x6] (.long n :: st) hi g Φ := AP.lstore (x := n) (i := 4) d_X9_hashOfLetter_96 (by decide) (by simp [am_st, am_ci, am_cr, am_cl, am_cd, hc]) h
theorem d_X9_hashOfLetter_98 : decode cX9_hashOfLetter 98 = .ok (.lload 4, 2) := by decide +kernel
theorem s_X9_hashOfLetter_98 {n : Int64} (h : AP M_X9_hashOfLetter b 100 [x0, x1, x2, x3, .long n, x5, x6] (.long n :: st) hi g Φ) : AP M_X9_hashOfLetter b 98 [x0, x1, x2, x3, .long n, x5, x6] (st) hi g Φ := AP.lload (x := n) (i := 4) d_X9_hashOfLetter_98 rfl h
theorem d_X9_hashOfLetter_100 : decode cX9_hashOfLetter 100 = .ok (.aload_n 0, 1) := by decide +kernel
theorem s_X9_hashOfLetter_100 {n : Nat} (h : AP M_X9_hashOfLetter b 101 [.ref n, x1, x2, x3, x4, x5, x6] (.ref n :: st) hi g Φ) : AP M_X9_hashOfLetter b 100 [.ref n, x1, x2, x3, x4, x5, x6] (st) hi g Φ := AP.aload_n (x := n) (i := 0) d_X9_hashOfLetter_100 rfl rfl h
theorem d_X9_hashOfLetter_101 : decode cX9_hashOfLetter 101 = .ok (.getfield 47, 3) := by decide +kernel
theorem s_X9_hashOfLetter_101 {k r : Nat} (hI : am_Inv g) (hs : am_SH k = (0, 9)) (hk : k < 134) (hr : am_HRf k 5 = some r) (hn : k ≠ 39) (h : AP M_X9_hashOfLetter b 104 [x0, x1, x2, x3, x4, x5, x6] (.ref r :: st) hi g Φ) : AP M_X9_hashOfLetter b 101 [x0, x1, x2, x3, x4, x5, x6] (.ref k :: st) hi g Φ := AP.getR (j := 5) (q := (RX9, TX9, 7)) d_X9_hashOfLetter_101 hs (hI.lt hk) rfl (by decide) (by decide) w_350 (hI.r hn hr) h
theorem d_X9_hashOfLetter_104 : decode cX9_hashOfLetter 104 = .ok (.iload 6, 2) := by decide +kernel
theorem s_X9_hashOfLetter_104 {n : Int32} (h : AP M_X9_hashOfLetter b 106 [x0, x1, x2, x3, x4, x5, .int n] (.int n :: st) hi g Φ) : AP M_X9_hashOfLetter b 104 [x0, x1, x2, x3, x4, x5, .int n] (st) hi g Φ := AP.iload (x := n) (i := 6) d_X9_hashOfLetter_104 rfl h
theorem d_X9_hashOfLetter_106 : decode cX9_hashOfLetter 106 = .ok (.invokevirtual 233, 3) := by decide +kernel
theorem s_X9_hashOfLetter_106 {a0 : Int32} {k : Nat} {r0 : Int32} {P : am_HI → Prop} (hI : am_Inv g) (hs : am_SH k = (0, 4)) (hk : k < 134) (hst : (st.map Value.category).sum ≤ 8) (hc : am_Cr M_X4_heardAt [.ref k, .int a0] hi g (some (.int r0)) P) (h : ∀ hi' : am_HI, P hi' → AP M_X9_hashOfLetter b 109 [x0, x1, x2, x3, x4, x5, x6] (.int r0 :: st) hi' g Φ) : AP M_X9_hashOfLetter b 106 [x0, x1, x2, x3, x4, x5, x6] (.int a0 :: .ref k :: st) hi g Φ := AP.callVr (As := [.int a0]) (q := (RX4, TX4, 1)) hI hc k_X9_hashOfLetter_233 d_X9_hashOfLetter_106 rfl hs hk rfl rfl hst h
theorem d_X9_hashOfLetter_109 : decode cX9_hashOfLetter 109 = .ok (.i2l, 1) := by decide +kernel
theorem s_X9_hashOfLetter_109 {x : Int32} (h : AP M_X9_hashOfLetter b 110 [x0, x1, x2, x3, x4, x5, x6] (.long x.toInt64 :: st) hi g Φ) : AP M_X9_hashOfLetter b 109 [x0, x1, x2, x3, x4, x5, x6] (.int x :: st) hi g Φ := AP.i2l d_X9_hashOfLetter_109 h
theorem d_X9_hashOfLetter_110 : decode cX9_hashOfLetter 110 = .ok (.invokestatic 353, 3) := by decide +kernel
theorem s_X9_hashOfLetter_110 {a0 : Int64} {a1 : Int64} {r0 : Int64} {P : am_HI → Prop} (hI : am_Inv g) (hst : (st.map Value.category).sum ≤ 8) (hc : am_Cr M_X9_mix [.long a0, .long a1] hi g (some (.long r0)) P) (h : ∀ hi' : am_HI, P hi' → AP M_X9_hashOfLetter b 113 [x0, x1, x2, x3, x4, x5, x6] (.long r0 :: st) hi' g Φ) : AP M_X9_hashOfLetter b 110 [x0, x1, x2, x3, x4, x5, x6] (.long a1 :: .long a0 :: st) hi g Φ := AP.callSr (As := [.long a0, .long a1]) hI hc k_X9_hashOfLetter_353 d_X9_hashOfLetter_110 rfl hst h
theorem d_X9_hashOfLetter_113 : decode cX9_hashOfLetter 113 = .ok (.lstore 4, 2) := by decide +kernel
theorem s_X9_hashOfLetter_113 {n : Int64} (hc : x3.category = 1) (h : AP M_X9_hashOfLetter b 115 [x0, x1, x2, x3, .long n, jk, x6] (st) hi g Φ) : AP M_X9_hashOfLetter b 113 [x0, x1, x2, x3, x4, x5, x6] (.long n :: st) hi g Φ := AP.lstore (x := n) (i := 4) d_X9_hashOfLetter_113 (by decide) (by simp [am_st, am_ci, am_cr, am_cl, am_cd, hc]) h
theorem d_X9_hashOfLetter_115 : decode cX9_hashOfLetter 115 = .ok (.iinc 6 1, 3) := by decide +kernel
theorem s_X9_hashOfLetter_115 {n : Int32} (hc : x5.category = 1) (h : AP M_X9_hashOfLetter b 118 [x0, x1, x2, x3, x4, x5, .int (n + 1)] (st) hi g Φ) : AP M_X9_hashOfLetter b 115 [x0, x1, x2, x3, x4, x5, .int n] (st) hi g Φ := AP.iinc (i := 6) (x := n) (y := n + 1) d_X9_hashOfLetter_115 rfl rfl (by decide) (by simp [am_st, am_ci, am_cr, am_cl, am_cd, hc]) h
theorem d_X9_hashOfLetter_118 : decode cX9_hashOfLetter 118 = .ok (.goto (-44), 3) := by decide +kernel
theorem s_X9_hashOfLetter_118 (h : AP M_X9_hashOfLetter b 74 [x0, x1, x2, x3, x4, x5, x6] st hi g Φ) : AP M_X9_hashOfLetter b 118 [x0, x1, x2, x3, x4, x5, x6] st hi g Φ := AP.goto d_X9_hashOfLetter_118 (by decide) h
theorem d_X9_hashOfLetter_121 : decode cX9_hashOfLetter 121 = .ok (.aload_n 0, 1) := by decide +kernel
theorem s_X9_hashOfLetter_121 {n : Nat} (h : AP M_X9_hashOfLetter b 122 [.ref n, x1, x2, x3, x4, x5, x6] (.ref n :: st) hi g Φ) : AP M_X9_hashOfLetter b 121 [.ref n, x1, x2, x3, x4, x5, x6] (st) hi g Φ := AP.aload_n (x := n) (i := 0) d_X9_hashOfLetter_121 rfl rfl h
theorem d_X9_hashOfLetter_122 : decode cX9_hashOfLetter 122 = .ok (.getfield 54, 3) := by decide +kernel
theorem s_X9_hashOfLetter_122 {k r : Nat} (hI : am_Inv g) (hs : am_SH k = (0, 9)) (hk : k < 134) (hr : am_HRf k 6 = some r) (hn : k ≠ 39) (h : AP M_X9_hashOfLetter b 125 [x0, x1, x2, x3, x4, x5, x6] (.ref r :: st) hi g Φ) : AP M_X9_hashOfLetter b 122 [x0, x1, x2, x3, x4, x5, x6] (.ref k :: st) hi g Φ := AP.getR (j := 6) (q := (RX9, TX9, 7)) d_X9_hashOfLetter_122 hs (hI.lt hk) rfl (by decide) (by decide) w_351 (hI.r hn hr) h
theorem d_X9_hashOfLetter_125 : decode cX9_hashOfLetter 125 = .ok (.aload_n 3, 1) := by decide +kernel
theorem s_X9_hashOfLetter_125 {n : Nat} (h : AP M_X9_hashOfLetter b 126 [x0, x1, x2, .ref n, x4, x5, x6] (.ref n :: st) hi g Φ) : AP M_X9_hashOfLetter b 125 [x0, x1, x2, .ref n, x4, x5, x6] (st) hi g Φ := AP.aload_n (x := n) (i := 3) d_X9_hashOfLetter_125 rfl rfl h
theorem d_X9_hashOfLetter_126 : decode cX9_hashOfLetter 126 = .ok (.invokevirtual 222, 3) := by decide +kernel
theorem s_X9_hashOfLetter_126 {a0 : Nat} {k : Nat} {P : am_HI → Prop} (hI : am_Inv g) (hs : am_SH k = (0, 3)) (hk : k < 134) (hst : (st.map Value.category).sum ≤ 8) (hc : am_Cr M_X3_write [.ref k, .ref a0] hi g none P) (h : ∀ hi' : am_HI, P hi' → AP M_X9_hashOfLetter b 129 [x0, x1, x2, x3, x4, x5, x6] (st) hi' g Φ) : AP M_X9_hashOfLetter b 126 [x0, x1, x2, x3, x4, x5, x6] (.ref a0 :: .ref k :: st) hi g Φ := AP.callVr (As := [.ref a0]) (q := (RX3, TX3, 3)) hI hc k_X9_hashOfLetter_222 d_X9_hashOfLetter_126 rfl hs hk rfl rfl hst h
theorem d_X9_hashOfLetter_129 : decode cX9_hashOfLetter 129 = .ok (.iconst 0, 1) := by decide +kernel
theorem s_X9_hashOfLetter_129 (h : AP M_X9_hashOfLetter b 130 [x0, x1, x2, x3, x4, x5, x6] (.int 0 :: st) hi g Φ) : AP M_X9_hashOfLetter b 129 [x0, x1, x2, x3, x4, x5, x6] (st) hi g Φ := AP.iconst (x := 0) d_X9_hashOfLetter_129 (by decide) h
theorem d_X9_hashOfLetter_130 : decode cX9_hashOfLetter 130 = .ok (.istore 6, 2) := by decide +kernel
theorem s_X9_hashOfLetter_130 {n : Int32} (hc : x5.category = 1) (h : AP M_X9_hashOfLetter b 132 [x0, x1, x2, x3, x4, x5, .int n] (st) hi g Φ) : AP M_X9_hashOfLetter b 130 [x0, x1, x2, x3, x4, x5, x6] (.int n :: st) hi g Φ := AP.istore (x := n) (i := 6) d_X9_hashOfLetter_130 (by decide) (by simp [am_st, am_ci, am_cr, am_cl, am_cd, hc]) h
theorem d_X9_hashOfLetter_132 : decode cX9_hashOfLetter 132 = .ok (.iload 6, 2) := by decide +kernel
theorem s_X9_hashOfLetter_132 {n : Int32} (h : AP M_X9_hashOfLetter b 134 [x0, x1, x2, x3, x4, x5, .int n] (.int n :: st) hi g Φ) : AP M_X9_hashOfLetter b 132 [x0, x1, x2, x3, x4, x5, .int n] (st) hi g Φ := AP.iload (x := n) (i := 6) d_X9_hashOfLetter_132 rfl h
theorem d_X9_hashOfLetter_134 : decode cX9_hashOfLetter 134 = .ok (.aload_n 0, 1) := by decide +kernel
theorem s_X9_hashOfLetter_134 {n : Nat} (h : AP M_X9_hashOfLetter b 135 [.ref n, x1, x2, x3, x4, x5, x6] (.ref n :: st) hi g Φ) : AP M_X9_hashOfLetter b 134 [.ref n, x1, x2, x3, x4, x5, x6] (st) hi g Φ := AP.aload_n (x := n) (i := 0) d_X9_hashOfLetter_134 rfl rfl h
theorem d_X9_hashOfLetter_135 : decode cX9_hashOfLetter 135 = .ok (.getfield 54, 3) := by decide +kernel
theorem s_X9_hashOfLetter_135 {k r : Nat} (hI : am_Inv g) (hs : am_SH k = (0, 9)) (hk : k < 134) (hr : am_HRf k 6 = some r) (hn : k ≠ 39) (h : AP M_X9_hashOfLetter b 138 [x0, x1, x2, x3, x4, x5, x6] (.ref r :: st) hi g Φ) : AP M_X9_hashOfLetter b 135 [x0, x1, x2, x3, x4, x5, x6] (.ref k :: st) hi g Φ := AP.getR (j := 6) (q := (RX9, TX9, 7)) d_X9_hashOfLetter_135 hs (hI.lt hk) rfl (by decide) (by decide) w_351 (hI.r hn hr) h
theorem d_X9_hashOfLetter_138 : decode cX9_hashOfLetter 138 = .ok (.getfield 374, 3) := by decide +kernel
theorem s_X9_hashOfLetter_138 {k : Nat} (hI : am_Inv g) (hs : am_SH k = (0, 3)) (hk : k < 134) (h : AP M_X9_hashOfLetter b 141 [x0, x1, x2, x3, x4, x5, x6] (.int (hi k 1) :: st) hi g Φ) : AP M_X9_hashOfLetter b 138 [x0, x1, x2, x3, x4, x5, x6] (.ref k :: st) hi g Φ := AP.getI (j := 1) (q := (RX3, TX3, 3)) d_X9_hashOfLetter_138 hs (hI.lt hk) rfl (by decide) (by decide) w_335 h
theorem d_X9_hashOfLetter_141 : decode cX9_hashOfLetter 141 = .ok (.if_icmp .ge 33, 3) := by decide +kernel
theorem s_X9_hashOfLetter_141 {x y : Int32} (h1 : y ≤ x → AP M_X9_hashOfLetter b 174 [x0, x1, x2, x3, x4, x5, x6] st hi g Φ) (h2 : ¬ y ≤ x → AP M_X9_hashOfLetter b 144 [x0, x1, x2, x3, x4, x5, x6] st hi g Φ) : AP M_X9_hashOfLetter b 141 [x0, x1, x2, x3, x4, x5, x6] (.int y :: .int x :: st) hi g Φ := AP.icmp_ge d_X9_hashOfLetter_141 (by decide) h1 h2
theorem d_X9_hashOfLetter_144 : decode cX9_hashOfLetter 144 = .ok (.lload 4, 2) := by decide +kernel
theorem s_X9_hashOfLetter_144 {n : Int64} (h : AP M_X9_hashOfLetter b 146 [x0, x1, x2, x3, .long n, x5, x6] (.long n :: st) hi g Φ) : AP M_X9_hashOfLetter b 144 [x0, x1, x2, x3, .long n, x5, x6] (st) hi g Φ := AP.lload (x := n) (i := 4) d_X9_hashOfLetter_144 rfl h
theorem d_X9_hashOfLetter_146 : decode cX9_hashOfLetter 146 = .ok (.aload_n 0, 1) := by decide +kernel
theorem s_X9_hashOfLetter_146 {n : Nat} (h : AP M_X9_hashOfLetter b 147 [.ref n, x1, x2, x3, x4, x5, x6] (.ref n :: st) hi g Φ) : AP M_X9_hashOfLetter b 146 [.ref n, x1, x2, x3, x4, x5, x6] (st) hi g Φ := AP.aload_n (x := n) (i := 0) d_X9_hashOfLetter_146 rfl rfl h
theorem d_X9_hashOfLetter_147 : decode cX9_hashOfLetter 147 = .ok (.getfield 54, 3) := by decide +kernel
theorem s_X9_hashOfLetter_147 {k r : Nat} (hI : am_Inv g) (hs : am_SH k = (0, 9)) (hk : k < 134) (hr : am_HRf k 6 = some r) (hn : k ≠ 39) (h : AP M_X9_hashOfLetter b 150 [x0, x1, x2, x3, x4, x5, x6] (.ref r :: st) hi g Φ) : AP M_X9_hashOfLetter b 147 [x0, x1, x2, x3, x4, x5, x6] (.ref k :: st) hi g Φ := AP.getR (j := 6) (q := (RX9, TX9, 7)) d_X9_hashOfLetter_147 hs (hI.lt hk) rfl (by decide) (by decide) w_351 (hI.r hn hr) h
theorem d_X9_hashOfLetter_150 : decode cX9_hashOfLetter 150 = .ok (.iload 6, 2) := by decide +kernel
theorem s_X9_hashOfLetter_150 {n : Int32} (h : AP M_X9_hashOfLetter b 152 [x0, x1, x2, x3, x4, x5, .int n] (.int n :: st) hi g Φ) : AP M_X9_hashOfLetter b 150 [x0, x1, x2, x3, x4, x5, .int n] (st) hi g Φ := AP.iload (x := n) (i := 6) d_X9_hashOfLetter_150 rfl h
theorem d_X9_hashOfLetter_152 : decode cX9_hashOfLetter 152 = .ok (.invokevirtual 226, 3) := by decide +kernel
theorem s_X9_hashOfLetter_152 {a0 : Int32} {k : Nat} {r0 : Int32} {P : am_HI → Prop} (hI : am_Inv g) (hs : am_SH k = (0, 3)) (hk : k < 134) (hst : (st.map Value.category).sum ≤ 8) (hc : am_Cr M_X3_isOne [.ref k, .int a0] hi g (some (.int r0)) P) (h : ∀ hi' : am_HI, P hi' → AP M_X9_hashOfLetter b 155 [x0, x1, x2, x3, x4, x5, x6] (.int r0 :: st) hi' g Φ) : AP M_X9_hashOfLetter b 152 [x0, x1, x2, x3, x4, x5, x6] (.int a0 :: .ref k :: st) hi g Φ := AP.callVr (As := [.int a0]) (q := (RX3, TX3, 3)) hI hc k_X9_hashOfLetter_226 d_X9_hashOfLetter_152 rfl hs hk rfl rfl hst h
theorem d_X9_hashOfLetter_155 : decode cX9_hashOfLetter 155 = .ok (.ifCond .eq 7, 3) := by decide +kernel
theorem s_X9_hashOfLetter_155 {x : Int32} (h1 : x = 0 → AP M_X9_hashOfLetter b 162 [x0, x1, x2, x3, x4, x5, x6] st hi g Φ) (h2 : ¬ x = 0 → AP M_X9_hashOfLetter b 158 [x0, x1, x2, x3, x4, x5, x6] st hi g Φ) : AP M_X9_hashOfLetter b 155 [x0, x1, x2, x3, x4, x5, x6] (.int x :: st) hi g Φ := AP.if_eq d_X9_hashOfLetter_155 (by decide) h1 h2
theorem d_X9_hashOfLetter_158 : decode cX9_hashOfLetter 158 = .ok (.lconst 1, 1) := by decide +kernel
theorem s_X9_hashOfLetter_158 (h : AP M_X9_hashOfLetter b 159 [x0, x1, x2, x3, x4, x5, x6] (.long 1 :: st) hi g Φ) : AP M_X9_hashOfLetter b 158 [x0, x1, x2, x3, x4, x5, x6] (st) hi g Φ := AP.lconst (x := 1) d_X9_hashOfLetter_158 (by decide) h
theorem d_X9_hashOfLetter_159 : decode cX9_hashOfLetter 159 = .ok (.goto 4, 3) := by decide +kernel
theorem s_X9_hashOfLetter_159 (h : AP M_X9_hashOfLetter b 163 [x0, x1, x2, x3, x4, x5, x6] st hi g Φ) : AP M_X9_hashOfLetter b 159 [x0, x1, x2, x3, x4, x5, x6] st hi g Φ := AP.goto d_X9_hashOfLetter_159 (by decide) h
theorem d_X9_hashOfLetter_162 : decode cX9_hashOfLetter 162 = .ok (.lconst 0, 1) := by decide +kernel
theorem s_X9_hashOfLetter_162 (h : AP M_X9_hashOfLetter b 163 [x0, x1, x2, x3, x4, x5, x6] (.long 0 :: st) hi g Φ) : AP M_X9_hashOfLetter b 162 [x0, x1, x2, x3, x4, x5, x6] (st) hi g Φ := AP.lconst (x := 0) d_X9_hashOfLetter_162 (by decide) h
theorem d_X9_hashOfLetter_163 : decode cX9_hashOfLetter 163 = .ok (.invokestatic 353, 3) := by decide +kernel
theorem s_X9_hashOfLetter_163 {a0 : Int64} {a1 : Int64} {r0 : Int64} {P : am_HI → Prop} (hI : am_Inv g) (hst : (st.map Value.category).sum ≤ 8) (hc : am_Cr M_X9_mix [.long a0, .long a1] hi g (some (.long r0)) P) (h : ∀ hi' : am_HI, P hi' → AP M_X9_hashOfLetter b 166 [x0, x1, x2, x3, x4, x5, x6] (.long r0 :: st) hi' g Φ) : AP M_X9_hashOfLetter b 163 [x0, x1, x2, x3, x4, x5, x6] (.long a1 :: .long a0 :: st) hi g Φ := AP.callSr (As := [.long a0, .long a1]) hI hc k_X9_hashOfLetter_353 d_X9_hashOfLetter_163 rfl hst h
theorem d_X9_hashOfLetter_166 : decode cX9_hashOfLetter 166 = .ok (.lstore 4, 2) := by decide +kernel
theorem s_X9_hashOfLetter_166 {n : Int64} (hc : x3.category = 1) (h : AP M_X9_hashOfLetter b 168 [x0, x1, x2, x3, .long n, jk, x6] (st) hi g Φ) : AP M_X9_hashOfLetter b 166 [x0, x1, x2, x3, x4, x5, x6] (.long n :: st) hi g Φ := AP.lstore (x := n) (i := 4) d_X9_hashOfLetter_166 (by decide) (by simp [am_st, am_ci, am_cr, am_cl, am_cd, hc]) h
theorem d_X9_hashOfLetter_168 : decode cX9_hashOfLetter 168 = .ok (.iinc 6 1, 3) := by decide +kernel
theorem s_X9_hashOfLetter_168 {n : Int32} (hc : x5.category = 1) (h : AP M_X9_hashOfLetter b 171 [x0, x1, x2, x3, x4, x5, .int (n + 1)] (st) hi g Φ) : AP M_X9_hashOfLetter b 168 [x0, x1, x2, x3, x4, x5, .int n] (st) hi g Φ := AP.iinc (i := 6) (x := n) (y := n + 1) d_X9_hashOfLetter_168 rfl rfl (by decide) (by simp [am_st, am_ci, am_cr, am_cl, am_cd, hc]) h
theorem d_X9_hashOfLetter_171 : decode cX9_hashOfLetter 171 = .ok (.goto (-39), 3) := by decide +kernel
theorem s_X9_hashOfLetter_171 (h : AP M_X9_hashOfLetter b 132 [x0, x1, x2, x3, x4, x5, x6] st hi g Φ) : AP M_X9_hashOfLetter b 171 [x0, x1, x2, x3, x4, x5, x6] st hi g Φ := AP.goto d_X9_hashOfLetter_171 (by decide) h
theorem d_X9_hashOfLetter_174 : decode cX9_hashOfLetter 174 = .ok (.lload 4, 2) := by decide +kernel
theorem s_X9_hashOfLetter_174 {n : Int64} (h : AP M_X9_hashOfLetter b 176 [x0, x1, x2, x3, .long n, x5, x6] (.long n :: st) hi g Φ) : AP M_X9_hashOfLetter b 174 [x0, x1, x2, x3, .long n, x5, x6] (st) hi g Φ := AP.lload (x := n) (i := 4) d_X9_hashOfLetter_174 rfl h
theorem d_X9_hashOfLetter_176 : decode cX9_hashOfLetter 176 = .ok (.lreturn, 1) := by decide +kernel
theorem s_X9_hashOfLetter_176 {x : Int64} (h : Φ (.ok (some (.long x))) hi g) : AP M_X9_hashOfLetter b 176 [x0, x1, x2, x3, x4, x5, x6] [.long x] hi g Φ := AP.lret d_X9_hashOfLetter_176 rfl h
end
section
variable {b : Nat × Nat} {st : List Value} {hi : am_HI} {g : am_G} {Φ : am_P} {x0 : Value}
theorem d_X9_unlike_0 : decode cX9_unlike 0 = .ok (.aload_n 0, 1) := by decide +kernel
theorem s_X9_unlike_0 {n : Nat} (h : AP M_X9_unlike b 1 [.ref n] (.ref n :: st) hi g Φ) : AP M_X9_unlike b 0 [.ref n] (st) hi g Φ := AP.aload_n (x := n) (i := 0) d_X9_unlike_0 rfl rfl h
theorem d_X9_unlike_1 : decode cX9_unlike 1 = .ok (.getfield 47, 3) := by decide +kernel
theorem s_X9_unlike_1 {k r : Nat} (hI : am_Inv g) (hs : am_SH k = (0, 9)) (hk : k < 134) (hr : am_HRf k 5 = some r) (hn : k ≠ 39) (h : AP M_X9_unlike b 4 [x0] (.ref r :: st) hi g Φ) : AP M_X9_unlike b 1 [x0] (.ref k :: st) hi g Φ := AP.getR (j := 5) (q := (RX9, TX9, 7)) d_X9_unlike_1 hs (hI.lt hk) rfl (by decide) (by decide) w_350 (hI.r hn hr) h
theorem d_X9_unlike_4 : decode cX9_unlike 4 = .ok (.aload_n 0, 1) := by decide +kernel
theorem s_X9_unlike_4 {n : Nat} (h : AP M_X9_unlike b 5 [.ref n] (.ref n :: st) hi g Φ) : AP M_X9_unlike b 4 [.ref n] (st) hi g Φ := AP.aload_n (x := n) (i := 0) d_X9_unlike_4 rfl rfl h
theorem d_X9_unlike_5 : decode cX9_unlike 5 = .ok (.getfield 20, 3) := by decide +kernel
theorem s_X9_unlike_5 {k r : Nat} (hI : am_Inv g) (hs : am_SH k = (0, 9)) (hk : k < 134) (hr : am_HRf k 1 = some r) (hn : k ≠ 39) (h : AP M_X9_unlike b 8 [x0] (.ref r :: st) hi g Φ) : AP M_X9_unlike b 5 [x0] (.ref k :: st) hi g Φ := AP.getR (j := 1) (q := (RX9, TX9, 7)) d_X9_unlike_5 hs (hI.lt hk) rfl (by decide) (by decide) w_346 (hI.r hn hr) h
theorem d_X9_unlike_8 : decode cX9_unlike 8 = .ok (.getfield 129, 3) := by decide +kernel
theorem s_X9_unlike_8 {k r : Nat} (hI : am_Inv g) (hs : am_SH k = (0, 6)) (hk : k < 134) (hr : am_HRf k 2 = some r) (hn : k ≠ 39) (h : AP M_X9_unlike b 11 [x0] (.ref r :: st) hi g Φ) : AP M_X9_unlike b 8 [x0] (.ref k :: st) hi g Φ := AP.getR (j := 2) (q := (RX6, TX6, 8)) d_X9_unlike_8 hs (hI.lt hk) rfl (by decide) (by decide) w_165 (hI.r hn hr) h
theorem d_X9_unlike_11 : decode cX9_unlike 11 = .ok (.iconst (-1), 1) := by decide +kernel
theorem s_X9_unlike_11 (h : AP M_X9_unlike b 12 [x0] (.int (-1) :: st) hi g Φ) : AP M_X9_unlike b 11 [x0] (st) hi g Φ := AP.iconst (x := (-1)) d_X9_unlike_11 (by decide) h
theorem d_X9_unlike_12 : decode cX9_unlike 12 = .ok (.invokevirtual 229, 3) := by decide +kernel
theorem s_X9_unlike_12 {a0 : Nat} {a1 : Int32} {k : Nat} {P : am_HI → Prop} (hI : am_Inv g) (hs : am_SH k = (0, 4)) (hk : k < 134) (hst : (st.map Value.category).sum ≤ 8) (hc : am_Cr M_X4_read [.ref k, .ref a0, .int a1] hi g none P) (h : ∀ hi' : am_HI, P hi' → AP M_X9_unlike b 15 [x0] (st) hi' g Φ) : AP M_X9_unlike b 12 [x0] (.int a1 :: .ref a0 :: .ref k :: st) hi g Φ := AP.callVr (As := [.ref a0, .int a1]) (q := (RX4, TX4, 1)) hI hc k_X9_unlike_229 d_X9_unlike_12 rfl hs hk rfl rfl hst h
theorem d_X9_unlike_15 : decode cX9_unlike 15 = .ok (.aload_n 0, 1) := by decide +kernel
theorem s_X9_unlike_15 {n : Nat} (h : AP M_X9_unlike b 16 [.ref n] (.ref n :: st) hi g Φ) : AP M_X9_unlike b 15 [.ref n] (st) hi g Φ := AP.aload_n (x := n) (i := 0) d_X9_unlike_15 rfl rfl h
theorem d_X9_unlike_16 : decode cX9_unlike 16 = .ok (.getfield 47, 3) := by decide +kernel
theorem s_X9_unlike_16 {k r : Nat} (hI : am_Inv g) (hs : am_SH k = (0, 9)) (hk : k < 134) (hr : am_HRf k 5 = some r) (hn : k ≠ 39) (h : AP M_X9_unlike b 19 [x0] (.ref r :: st) hi g Φ) : AP M_X9_unlike b 16 [x0] (.ref k :: st) hi g Φ := AP.getR (j := 5) (q := (RX9, TX9, 7)) d_X9_unlike_16 hs (hI.lt hk) rfl (by decide) (by decide) w_350 (hI.r hn hr) h
theorem d_X9_unlike_19 : decode cX9_unlike 19 = .ok (.aload_n 0, 1) := by decide +kernel
theorem s_X9_unlike_19 {n : Nat} (h : AP M_X9_unlike b 20 [.ref n] (.ref n :: st) hi g Φ) : AP M_X9_unlike b 19 [.ref n] (st) hi g Φ := AP.aload_n (x := n) (i := 0) d_X9_unlike_19 rfl rfl h
theorem d_X9_unlike_20 : decode cX9_unlike 20 = .ok (.getfield 20, 3) := by decide +kernel
theorem s_X9_unlike_20 {k r : Nat} (hI : am_Inv g) (hs : am_SH k = (0, 9)) (hk : k < 134) (hr : am_HRf k 1 = some r) (hn : k ≠ 39) (h : AP M_X9_unlike b 23 [x0] (.ref r :: st) hi g Φ) : AP M_X9_unlike b 20 [x0] (.ref k :: st) hi g Φ := AP.getR (j := 1) (q := (RX9, TX9, 7)) d_X9_unlike_20 hs (hI.lt hk) rfl (by decide) (by decide) w_346 (hI.r hn hr) h
theorem d_X9_unlike_23 : decode cX9_unlike 23 = .ok (.getfield 129, 3) := by decide +kernel
theorem s_X9_unlike_23 {k r : Nat} (hI : am_Inv g) (hs : am_SH k = (0, 6)) (hk : k < 134) (hr : am_HRf k 2 = some r) (hn : k ≠ 39) (h : AP M_X9_unlike b 26 [x0] (.ref r :: st) hi g Φ) : AP M_X9_unlike b 23 [x0] (.ref k :: st) hi g Φ := AP.getR (j := 2) (q := (RX6, TX6, 8)) d_X9_unlike_23 hs (hI.lt hk) rfl (by decide) (by decide) w_165 (hI.r hn hr) h
theorem d_X9_unlike_26 : decode cX9_unlike 26 = .ok (.invokevirtual 240, 3) := by decide +kernel
theorem s_X9_unlike_26 {a0 : Nat} {k : Nat} {r0 : Int32} {P : am_HI → Prop} (hI : am_Inv g) (hs : am_SH k = (0, 4)) (hk : k < 134) (hst : (st.map Value.category).sum ≤ 8) (hc : am_Cr M_X4_countUnlike [.ref k, .ref a0] hi g (some (.int r0)) P) (h : ∀ hi' : am_HI, P hi' → AP M_X9_unlike b 29 [x0] (.int r0 :: st) hi' g Φ) : AP M_X9_unlike b 26 [x0] (.ref a0 :: .ref k :: st) hi g Φ := AP.callVr (As := [.ref a0]) (q := (RX4, TX4, 1)) hI hc k_X9_unlike_240 d_X9_unlike_26 rfl hs hk rfl rfl hst h
theorem d_X9_unlike_29 : decode cX9_unlike 29 = .ok (.ireturn, 1) := by decide +kernel
theorem s_X9_unlike_29 {x : Int32} (h : Φ (.ok (some (.int x))) hi g) : AP M_X9_unlike b 29 [x0] [.int x] hi g Φ := AP.iret d_X9_unlike_29 rfl h
end
section
variable {b : Nat × Nat} {st : List Value} {hi : am_HI} {g : am_G} {Φ : am_P} {x0 x1 x2 x3 x4 : Value}
theorem d_X9_worst_0 : decode cX9_worst 0 = .ok (.iconst (-1), 1) := by decide +kernel
theorem s_X9_worst_0 (h : AP M_X9_worst b 1 [x0, x1, x2, x3, x4] (.int (-1) :: st) hi g Φ) : AP M_X9_worst b 0 [x0, x1, x2, x3, x4] (st) hi g Φ := AP.iconst (x := (-1)) d_X9_worst_0 (by decide) h
theorem d_X9_worst_1 : decode cX9_worst 1 = .ok (.istore_n 1, 1) := by decide +kernel
theorem s_X9_worst_1 {n : Int32} (hc : x0.category = 1) (h : AP M_X9_worst b 2 [x0, .int n, x2, x3, x4] (st) hi g Φ) : AP M_X9_worst b 1 [x0, x1, x2, x3, x4] (.int n :: st) hi g Φ := AP.istore_n (x := n) (i := 1) d_X9_worst_1 rfl (by decide) (by simp [am_st, am_ci, am_cr, am_cl, am_cd, hc]) h
theorem d_X9_worst_2 : decode cX9_worst 2 = .ok (.iconst (-1), 1) := by decide +kernel
theorem s_X9_worst_2 (h : AP M_X9_worst b 3 [x0, x1, x2, x3, x4] (.int (-1) :: st) hi g Φ) : AP M_X9_worst b 2 [x0, x1, x2, x3, x4] (st) hi g Φ := AP.iconst (x := (-1)) d_X9_worst_2 (by decide) h
theorem d_X9_worst_3 : decode cX9_worst 3 = .ok (.istore_n 2, 1) := by decide +kernel
theorem s_X9_worst_3 {n : Int32} (hc : x1.category = 1) (h : AP M_X9_worst b 4 [x0, x1, .int n, x3, x4] (st) hi g Φ) : AP M_X9_worst b 3 [x0, x1, x2, x3, x4] (.int n :: st) hi g Φ := AP.istore_n (x := n) (i := 2) d_X9_worst_3 rfl (by decide) (by simp [am_st, am_ci, am_cr, am_cl, am_cd, hc]) h
theorem d_X9_worst_4 : decode cX9_worst 4 = .ok (.iconst 0, 1) := by decide +kernel
theorem s_X9_worst_4 (h : AP M_X9_worst b 5 [x0, x1, x2, x3, x4] (.int 0 :: st) hi g Φ) : AP M_X9_worst b 4 [x0, x1, x2, x3, x4] (st) hi g Φ := AP.iconst (x := 0) d_X9_worst_4 (by decide) h
theorem d_X9_worst_5 : decode cX9_worst 5 = .ok (.istore_n 3, 1) := by decide +kernel
theorem s_X9_worst_5 {n : Int32} (hc : x2.category = 1) (h : AP M_X9_worst b 6 [x0, x1, x2, .int n, x4] (st) hi g Φ) : AP M_X9_worst b 5 [x0, x1, x2, x3, x4] (.int n :: st) hi g Φ := AP.istore_n (x := n) (i := 3) d_X9_worst_5 rfl (by decide) (by simp [am_st, am_ci, am_cr, am_cl, am_cd, hc]) h
theorem d_X9_worst_6 : decode cX9_worst 6 = .ok (.iload_n 3, 1) := by decide +kernel
theorem s_X9_worst_6 {n : Int32} (h : AP M_X9_worst b 7 [x0, x1, x2, .int n, x4] (.int n :: st) hi g Φ) : AP M_X9_worst b 6 [x0, x1, x2, .int n, x4] (st) hi g Φ := AP.iload_n (x := n) (i := 3) d_X9_worst_6 rfl rfl h
theorem d_X9_worst_7 : decode cX9_worst 7 = .ok (.aload_n 0, 1) := by decide +kernel
theorem s_X9_worst_7 {n : Nat} (h : AP M_X9_worst b 8 [.ref n, x1, x2, x3, x4] (.ref n :: st) hi g Φ) : AP M_X9_worst b 7 [.ref n, x1, x2, x3, x4] (st) hi g Φ := AP.aload_n (x := n) (i := 0) d_X9_worst_7 rfl rfl h
theorem d_X9_worst_8 : decode cX9_worst 8 = .ok (.getfield 20, 3) := by decide +kernel
theorem s_X9_worst_8 {k r : Nat} (hI : am_Inv g) (hs : am_SH k = (0, 9)) (hk : k < 134) (hr : am_HRf k 1 = some r) (hn : k ≠ 39) (h : AP M_X9_worst b 11 [x0, x1, x2, x3, x4] (.ref r :: st) hi g Φ) : AP M_X9_worst b 8 [x0, x1, x2, x3, x4] (.ref k :: st) hi g Φ := AP.getR (j := 1) (q := (RX9, TX9, 7)) d_X9_worst_8 hs (hI.lt hk) rfl (by decide) (by decide) w_346 (hI.r hn hr) h
theorem d_X9_worst_11 : decode cX9_worst 11 = .ok (.getfield 129, 3) := by decide +kernel
theorem s_X9_worst_11 {k r : Nat} (hI : am_Inv g) (hs : am_SH k = (0, 6)) (hk : k < 134) (hr : am_HRf k 2 = some r) (hn : k ≠ 39) (h : AP M_X9_worst b 14 [x0, x1, x2, x3, x4] (.ref r :: st) hi g Φ) : AP M_X9_worst b 11 [x0, x1, x2, x3, x4] (.ref k :: st) hi g Φ := AP.getR (j := 2) (q := (RX6, TX6, 8)) d_X9_worst_11 hs (hI.lt hk) rfl (by decide) (by decide) w_165 (hI.r hn hr) h
theorem d_X9_worst_14 : decode cX9_worst 14 = .ok (.getfield 216, 3) := by decide +kernel
theorem s_X9_worst_14 {k : Nat} (hI : am_Inv g) (hs : am_SH k = (0, 2)) (hk : k < 134) (h : AP M_X9_worst b 17 [x0, x1, x2, x3, x4] (.int (hi k 5) :: st) hi g Φ) : AP M_X9_worst b 14 [x0, x1, x2, x3, x4] (.ref k :: st) hi g Φ := AP.getI (j := 5) (q := (RX2, TX2, 8)) d_X9_worst_14 hs (hI.lt hk) rfl (by decide) (by decide) w_133 h
theorem d_X9_worst_17 : decode cX9_worst 17 = .ok (.if_icmp .ge 51, 3) := by decide +kernel
theorem s_X9_worst_17 {x y : Int32} (h1 : y ≤ x → AP M_X9_worst b 68 [x0, x1, x2, x3, x4] st hi g Φ) (h2 : ¬ y ≤ x → AP M_X9_worst b 20 [x0, x1, x2, x3, x4] st hi g Φ) : AP M_X9_worst b 17 [x0, x1, x2, x3, x4] (.int y :: .int x :: st) hi g Φ := AP.icmp_ge d_X9_worst_17 (by decide) h1 h2
theorem d_X9_worst_20 : decode cX9_worst 20 = .ok (.aload_n 0, 1) := by decide +kernel
theorem s_X9_worst_20 {n : Nat} (h : AP M_X9_worst b 21 [.ref n, x1, x2, x3, x4] (.ref n :: st) hi g Φ) : AP M_X9_worst b 20 [.ref n, x1, x2, x3, x4] (st) hi g Φ := AP.aload_n (x := n) (i := 0) d_X9_worst_20 rfl rfl h
theorem d_X9_worst_21 : decode cX9_worst 21 = .ok (.getfield 47, 3) := by decide +kernel
theorem s_X9_worst_21 {k r : Nat} (hI : am_Inv g) (hs : am_SH k = (0, 9)) (hk : k < 134) (hr : am_HRf k 5 = some r) (hn : k ≠ 39) (h : AP M_X9_worst b 24 [x0, x1, x2, x3, x4] (.ref r :: st) hi g Φ) : AP M_X9_worst b 21 [x0, x1, x2, x3, x4] (.ref k :: st) hi g Φ := AP.getR (j := 5) (q := (RX9, TX9, 7)) d_X9_worst_21 hs (hI.lt hk) rfl (by decide) (by decide) w_350 (hI.r hn hr) h
theorem d_X9_worst_24 : decode cX9_worst 24 = .ok (.aload_n 0, 1) := by decide +kernel
theorem s_X9_worst_24 {n : Nat} (h : AP M_X9_worst b 25 [.ref n, x1, x2, x3, x4] (.ref n :: st) hi g Φ) : AP M_X9_worst b 24 [.ref n, x1, x2, x3, x4] (st) hi g Φ := AP.aload_n (x := n) (i := 0) d_X9_worst_24 rfl rfl h
theorem d_X9_worst_25 : decode cX9_worst 25 = .ok (.getfield 20, 3) := by decide +kernel
theorem s_X9_worst_25 {k r : Nat} (hI : am_Inv g) (hs : am_SH k = (0, 9)) (hk : k < 134) (hr : am_HRf k 1 = some r) (hn : k ≠ 39) (h : AP M_X9_worst b 28 [x0, x1, x2, x3, x4] (.ref r :: st) hi g Φ) : AP M_X9_worst b 25 [x0, x1, x2, x3, x4] (.ref k :: st) hi g Φ := AP.getR (j := 1) (q := (RX9, TX9, 7)) d_X9_worst_25 hs (hI.lt hk) rfl (by decide) (by decide) w_346 (hI.r hn hr) h
theorem d_X9_worst_28 : decode cX9_worst 28 = .ok (.getfield 129, 3) := by decide +kernel
theorem s_X9_worst_28 {k r : Nat} (hI : am_Inv g) (hs : am_SH k = (0, 6)) (hk : k < 134) (hr : am_HRf k 2 = some r) (hn : k ≠ 39) (h : AP M_X9_worst b 31 [x0, x1, x2, x3, x4] (.ref r :: st) hi g Φ) : AP M_X9_worst b 28 [x0, x1, x2, x3, x4] (.ref k :: st) hi g Φ := AP.getR (j := 2) (q := (RX6, TX6, 8)) d_X9_worst_28 hs (hI.lt hk) rfl (by decide) (by decide) w_165 (hI.r hn hr) h
theorem d_X9_worst_31 : decode cX9_worst 31 = .ok (.iload_n 3, 1) := by decide +kernel
theorem s_X9_worst_31 {n : Int32} (h : AP M_X9_worst b 32 [x0, x1, x2, .int n, x4] (.int n :: st) hi g Φ) : AP M_X9_worst b 31 [x0, x1, x2, .int n, x4] (st) hi g Φ := AP.iload_n (x := n) (i := 3) d_X9_worst_31 rfl rfl h
theorem d_X9_worst_32 : decode cX9_worst 32 = .ok (.invokevirtual 229, 3) := by decide +kernel
theorem s_X9_worst_32 {a0 : Nat} {a1 : Int32} {k : Nat} {P : am_HI → Prop} (hI : am_Inv g) (hs : am_SH k = (0, 4)) (hk : k < 134) (hst : (st.map Value.category).sum ≤ 8) (hc : am_Cr M_X4_read [.ref k, .ref a0, .int a1] hi g none P) (h : ∀ hi' : am_HI, P hi' → AP M_X9_worst b 35 [x0, x1, x2, x3, x4] (st) hi' g Φ) : AP M_X9_worst b 32 [x0, x1, x2, x3, x4] (.int a1 :: .ref a0 :: .ref k :: st) hi g Φ := AP.callVr (As := [.ref a0, .int a1]) (q := (RX4, TX4, 1)) hI hc k_X9_worst_229 d_X9_worst_32 rfl hs hk rfl rfl hst h
theorem d_X9_worst_35 : decode cX9_worst 35 = .ok (.aload_n 0, 1) := by decide +kernel
theorem s_X9_worst_35 {n : Nat} (h : AP M_X9_worst b 36 [.ref n, x1, x2, x3, x4] (.ref n :: st) hi g Φ) : AP M_X9_worst b 35 [.ref n, x1, x2, x3, x4] (st) hi g Φ := AP.aload_n (x := n) (i := 0) d_X9_worst_35 rfl rfl h
theorem d_X9_worst_36 : decode cX9_worst 36 = .ok (.getfield 47, 3) := by decide +kernel
theorem s_X9_worst_36 {k r : Nat} (hI : am_Inv g) (hs : am_SH k = (0, 9)) (hk : k < 134) (hr : am_HRf k 5 = some r) (hn : k ≠ 39) (h : AP M_X9_worst b 39 [x0, x1, x2, x3, x4] (.ref r :: st) hi g Φ) : AP M_X9_worst b 36 [x0, x1, x2, x3, x4] (.ref k :: st) hi g Φ := AP.getR (j := 5) (q := (RX9, TX9, 7)) d_X9_worst_36 hs (hI.lt hk) rfl (by decide) (by decide) w_350 (hI.r hn hr) h
theorem d_X9_worst_39 : decode cX9_worst 39 = .ok (.aload_n 0, 1) := by decide +kernel
theorem s_X9_worst_39 {n : Nat} (h : AP M_X9_worst b 40 [.ref n, x1, x2, x3, x4] (.ref n :: st) hi g Φ) : AP M_X9_worst b 39 [.ref n, x1, x2, x3, x4] (st) hi g Φ := AP.aload_n (x := n) (i := 0) d_X9_worst_39 rfl rfl h
theorem d_X9_worst_40 : decode cX9_worst 40 = .ok (.getfield 20, 3) := by decide +kernel
theorem s_X9_worst_40 {k r : Nat} (hI : am_Inv g) (hs : am_SH k = (0, 9)) (hk : k < 134) (hr : am_HRf k 1 = some r) (hn : k ≠ 39) (h : AP M_X9_worst b 43 [x0, x1, x2, x3, x4] (.ref r :: st) hi g Φ) : AP M_X9_worst b 40 [x0, x1, x2, x3, x4] (.ref k :: st) hi g Φ := AP.getR (j := 1) (q := (RX9, TX9, 7)) d_X9_worst_40 hs (hI.lt hk) rfl (by decide) (by decide) w_346 (hI.r hn hr) h
theorem d_X9_worst_43 : decode cX9_worst 43 = .ok (.getfield 129, 3) := by decide +kernel
theorem s_X9_worst_43 {k r : Nat} (hI : am_Inv g) (hs : am_SH k = (0, 6)) (hk : k < 134) (hr : am_HRf k 2 = some r) (hn : k ≠ 39) (h : AP M_X9_worst b 46 [x0, x1, x2, x3, x4] (.ref r :: st) hi g Φ) : AP M_X9_worst b 43 [x0, x1, x2, x3, x4] (.ref k :: st) hi g Φ := AP.getR (j := 2) (q := (RX6, TX6, 8)) d_X9_worst_43 hs (hI.lt hk) rfl (by decide) (by decide) w_165 (hI.r hn hr) h
theorem d_X9_worst_46 : decode cX9_worst 46 = .ok (.invokevirtual 240, 3) := by decide +kernel
theorem s_X9_worst_46 {a0 : Nat} {k : Nat} {r0 : Int32} {P : am_HI → Prop} (hI : am_Inv g) (hs : am_SH k = (0, 4)) (hk : k < 134) (hst : (st.map Value.category).sum ≤ 8) (hc : am_Cr M_X4_countUnlike [.ref k, .ref a0] hi g (some (.int r0)) P) (h : ∀ hi' : am_HI, P hi' → AP M_X9_worst b 49 [x0, x1, x2, x3, x4] (.int r0 :: st) hi' g Φ) : AP M_X9_worst b 46 [x0, x1, x2, x3, x4] (.ref a0 :: .ref k :: st) hi g Φ := AP.callVr (As := [.ref a0]) (q := (RX4, TX4, 1)) hI hc k_X9_worst_240 d_X9_worst_46 rfl hs hk rfl rfl hst h
theorem d_X9_worst_49 : decode cX9_worst 49 = .ok (.istore 4, 2) := by decide +kernel
theorem s_X9_worst_49 {n : Int32} (hc : x3.category = 1) (h : AP M_X9_worst b 51 [x0, x1, x2, x3, .int n] (st) hi g Φ) : AP M_X9_worst b 49 [x0, x1, x2, x3, x4] (.int n :: st) hi g Φ := AP.istore (x := n) (i := 4) d_X9_worst_49 (by decide) (by simp [am_st, am_ci, am_cr, am_cl, am_cd, hc]) h
theorem d_X9_worst_51 : decode cX9_worst 51 = .ok (.iload 4, 2) := by decide +kernel
theorem s_X9_worst_51 {n : Int32} (h : AP M_X9_worst b 53 [x0, x1, x2, x3, .int n] (.int n :: st) hi g Φ) : AP M_X9_worst b 51 [x0, x1, x2, x3, .int n] (st) hi g Φ := AP.iload (x := n) (i := 4) d_X9_worst_51 rfl h
theorem d_X9_worst_53 : decode cX9_worst 53 = .ok (.iload_n 2, 1) := by decide +kernel
theorem s_X9_worst_53 {n : Int32} (h : AP M_X9_worst b 54 [x0, x1, .int n, x3, x4] (.int n :: st) hi g Φ) : AP M_X9_worst b 53 [x0, x1, .int n, x3, x4] (st) hi g Φ := AP.iload_n (x := n) (i := 2) d_X9_worst_53 rfl rfl h
theorem d_X9_worst_54 : decode cX9_worst 54 = .ok (.if_icmp .le 8, 3) := by decide +kernel
theorem s_X9_worst_54 {x y : Int32} (h1 : x ≤ y → AP M_X9_worst b 62 [x0, x1, x2, x3, x4] st hi g Φ) (h2 : ¬ x ≤ y → AP M_X9_worst b 57 [x0, x1, x2, x3, x4] st hi g Φ) : AP M_X9_worst b 54 [x0, x1, x2, x3, x4] (.int y :: .int x :: st) hi g Φ := AP.icmp_le d_X9_worst_54 (by decide) h1 h2
theorem d_X9_worst_57 : decode cX9_worst 57 = .ok (.iload 4, 2) := by decide +kernel
theorem s_X9_worst_57 {n : Int32} (h : AP M_X9_worst b 59 [x0, x1, x2, x3, .int n] (.int n :: st) hi g Φ) : AP M_X9_worst b 57 [x0, x1, x2, x3, .int n] (st) hi g Φ := AP.iload (x := n) (i := 4) d_X9_worst_57 rfl h
theorem d_X9_worst_59 : decode cX9_worst 59 = .ok (.istore_n 2, 1) := by decide +kernel
theorem s_X9_worst_59 {n : Int32} (hc : x1.category = 1) (h : AP M_X9_worst b 60 [x0, x1, .int n, x3, x4] (st) hi g Φ) : AP M_X9_worst b 59 [x0, x1, x2, x3, x4] (.int n :: st) hi g Φ := AP.istore_n (x := n) (i := 2) d_X9_worst_59 rfl (by decide) (by simp [am_st, am_ci, am_cr, am_cl, am_cd, hc]) h
theorem d_X9_worst_60 : decode cX9_worst 60 = .ok (.iload_n 3, 1) := by decide +kernel
theorem s_X9_worst_60 {n : Int32} (h : AP M_X9_worst b 61 [x0, x1, x2, .int n, x4] (.int n :: st) hi g Φ) : AP M_X9_worst b 60 [x0, x1, x2, .int n, x4] (st) hi g Φ := AP.iload_n (x := n) (i := 3) d_X9_worst_60 rfl rfl h
theorem d_X9_worst_61 : decode cX9_worst 61 = .ok (.istore_n 1, 1) := by decide +kernel
theorem s_X9_worst_61 {n : Int32} (hc : x0.category = 1) (h : AP M_X9_worst b 62 [x0, .int n, x2, x3, x4] (st) hi g Φ) : AP M_X9_worst b 61 [x0, x1, x2, x3, x4] (.int n :: st) hi g Φ := AP.istore_n (x := n) (i := 1) d_X9_worst_61 rfl (by decide) (by simp [am_st, am_ci, am_cr, am_cl, am_cd, hc]) h
theorem d_X9_worst_62 : decode cX9_worst 62 = .ok (.iinc 3 1, 3) := by decide +kernel
theorem s_X9_worst_62 {n : Int32} (hc : x2.category = 1) (h : AP M_X9_worst b 65 [x0, x1, x2, .int (n + 1), x4] (st) hi g Φ) : AP M_X9_worst b 62 [x0, x1, x2, .int n, x4] (st) hi g Φ := AP.iinc (i := 3) (x := n) (y := n + 1) d_X9_worst_62 rfl rfl (by decide) (by simp [am_st, am_ci, am_cr, am_cl, am_cd, hc]) h
theorem d_X9_worst_65 : decode cX9_worst 65 = .ok (.goto (-59), 3) := by decide +kernel
theorem s_X9_worst_65 (h : AP M_X9_worst b 6 [x0, x1, x2, x3, x4] st hi g Φ) : AP M_X9_worst b 65 [x0, x1, x2, x3, x4] st hi g Φ := AP.goto d_X9_worst_65 (by decide) h
theorem d_X9_worst_68 : decode cX9_worst 68 = .ok (.iload_n 1, 1) := by decide +kernel
theorem s_X9_worst_68 {n : Int32} (h : AP M_X9_worst b 69 [x0, .int n, x2, x3, x4] (.int n :: st) hi g Φ) : AP M_X9_worst b 68 [x0, .int n, x2, x3, x4] (st) hi g Φ := AP.iload_n (x := n) (i := 1) d_X9_worst_68 rfl rfl h
theorem d_X9_worst_69 : decode cX9_worst 69 = .ok (.ireturn, 1) := by decide +kernel
theorem s_X9_worst_69 {x : Int32} (h : Φ (.ok (some (.int x))) hi g) : AP M_X9_worst b 69 [x0, x1, x2, x3, x4] [.int x] hi g Φ := AP.iret d_X9_worst_69 rfl h
end
section
variable {b : Nat × Nat} {st : List Value} {hi : am_HI} {g : am_G} {Φ : am_P} {x0 x1 x2 x3 : Value}
theorem d_X9_writeLetter_0 : decode cX9_writeLetter 0 = .ok (.aload_n 0, 1) := by decide +kernel
theorem s_X9_writeLetter_0 {n : Nat} (h : AP M_X9_writeLetter b 1 [.ref n, x1, x2, x3] (.ref n :: st) hi g Φ) : AP M_X9_writeLetter b 0 [.ref n, x1, x2, x3] (st) hi g Φ := AP.aload_n (x := n) (i := 0) d_X9_writeLetter_0 rfl rfl h
theorem d_X9_writeLetter_1 : decode cX9_writeLetter 1 = .ok (.getfield 20, 3) := by decide +kernel
theorem s_X9_writeLetter_1 {k r : Nat} (hI : am_Inv g) (hs : am_SH k = (0, 9)) (hk : k < 134) (hr : am_HRf k 1 = some r) (hn : k ≠ 39) (h : AP M_X9_writeLetter b 4 [x0, x1, x2, x3] (.ref r :: st) hi g Φ) : AP M_X9_writeLetter b 1 [x0, x1, x2, x3] (.ref k :: st) hi g Φ := AP.getR (j := 1) (q := (RX9, TX9, 7)) d_X9_writeLetter_1 hs (hI.lt hk) rfl (by decide) (by decide) w_346 (hI.r hn hr) h
theorem d_X9_writeLetter_4 : decode cX9_writeLetter 4 = .ok (.getfield 83, 3) := by decide +kernel
theorem s_X9_writeLetter_4 {k : Nat} (hI : am_Inv g) (hs : am_SH k = (0, 6)) (hk : k < 134) (h : AP M_X9_writeLetter b 7 [x0, x1, x2, x3] (.int (hi k 3) :: st) hi g Φ) : AP M_X9_writeLetter b 4 [x0, x1, x2, x3] (.ref k :: st) hi g Φ := AP.getI (j := 3) (q := (RX6, TX6, 8)) d_X9_writeLetter_4 hs (hI.lt hk) rfl (by decide) (by decide) w_168 h
theorem d_X9_writeLetter_7 : decode cX9_writeLetter 7 = .ok (.ifCond .gt 5, 3) := by decide +kernel
theorem s_X9_writeLetter_7 {x : Int32} (h1 : 0 < x → AP M_X9_writeLetter b 12 [x0, x1, x2, x3] st hi g Φ) (h2 : ¬ 0 < x → AP M_X9_writeLetter b 10 [x0, x1, x2, x3] st hi g Φ) : AP M_X9_writeLetter b 7 [x0, x1, x2, x3] (.int x :: st) hi g Φ := AP.if_gt d_X9_writeLetter_7 (by decide) h1 h2
theorem d_X9_writeLetter_10 : decode cX9_writeLetter 10 = .ok (.iconst 0, 1) := by decide +kernel
theorem s_X9_writeLetter_10 (h : AP M_X9_writeLetter b 11 [x0, x1, x2, x3] (.int 0 :: st) hi g Φ) : AP M_X9_writeLetter b 10 [x0, x1, x2, x3] (st) hi g Φ := AP.iconst (x := 0) d_X9_writeLetter_10 (by decide) h
theorem d_X9_writeLetter_11 : decode cX9_writeLetter 11 = .ok (.ireturn, 1) := by decide +kernel
theorem s_X9_writeLetter_11 {x : Int32} (hx : x = 0 ∨ x = 1) (h : Φ (.ok (some (.int x))) hi g) : AP M_X9_writeLetter b 11 [x0, x1, x2, x3] [.int x] hi g Φ := AP.zret d_X9_writeLetter_11 rfl hx h
theorem d_X9_writeLetter_12 : decode cX9_writeLetter 12 = .ok (.aload_n 0, 1) := by decide +kernel
theorem s_X9_writeLetter_12 {n : Nat} (h : AP M_X9_writeLetter b 13 [.ref n, x1, x2, x3] (.ref n :: st) hi g Φ) : AP M_X9_writeLetter b 12 [.ref n, x1, x2, x3] (st) hi g Φ := AP.aload_n (x := n) (i := 0) d_X9_writeLetter_12 rfl rfl h
theorem d_X9_writeLetter_13 : decode cX9_writeLetter 13 = .ok (.getfield 12, 3) := by decide +kernel
theorem s_X9_writeLetter_13 {k r : Nat} (hI : am_Inv g) (hs : am_SH k = (0, 9)) (hk : k < 134) (hr : am_HRf k 0 = some r) (hn : k ≠ 39) (h : AP M_X9_writeLetter b 16 [x0, x1, x2, x3] (.ref r :: st) hi g Φ) : AP M_X9_writeLetter b 13 [x0, x1, x2, x3] (.ref k :: st) hi g Φ := AP.getR (j := 0) (q := (RX9, TX9, 7)) d_X9_writeLetter_13 hs (hI.lt hk) rfl (by decide) (by decide) w_345 (hI.r hn hr) h
theorem d_X9_writeLetter_16 : decode cX9_writeLetter 16 = .ok (.invokevirtual 154, 3) := by decide +kernel
theorem s_X9_writeLetter_16  {k : Nat} {P : am_HI → Prop} (hI : am_Inv g) (hs : am_SH k = (0, 7)) (hk : k < 134) (hst : (st.map Value.category).sum ≤ 8) (hc : am_Cr M_X7_follow [.ref k] hi g none P) (h : ∀ hi' : am_HI, P hi' → AP M_X9_writeLetter b 19 [x0, x1, x2, x3] (st) hi' g Φ) : AP M_X9_writeLetter b 16 [x0, x1, x2, x3] (.ref k :: st) hi g Φ := AP.callVr (As := []) (q := (RX7, TX7, 7)) hI hc k_X9_writeLetter_154 d_X9_writeLetter_16 rfl hs hk rfl rfl hst h
theorem d_X9_writeLetter_19 : decode cX9_writeLetter 19 = .ok (.aload_n 0, 1) := by decide +kernel
theorem s_X9_writeLetter_19 {n : Nat} (h : AP M_X9_writeLetter b 20 [.ref n, x1, x2, x3] (.ref n :: st) hi g Φ) : AP M_X9_writeLetter b 19 [.ref n, x1, x2, x3] (st) hi g Φ := AP.aload_n (x := n) (i := 0) d_X9_writeLetter_19 rfl rfl h
theorem d_X9_writeLetter_20 : decode cX9_writeLetter 20 = .ok (.getfield 12, 3) := by decide +kernel
theorem s_X9_writeLetter_20 {k r : Nat} (hI : am_Inv g) (hs : am_SH k = (0, 9)) (hk : k < 134) (hr : am_HRf k 0 = some r) (hn : k ≠ 39) (h : AP M_X9_writeLetter b 23 [x0, x1, x2, x3] (.ref r :: st) hi g Φ) : AP M_X9_writeLetter b 20 [x0, x1, x2, x3] (.ref k :: st) hi g Φ := AP.getR (j := 0) (q := (RX9, TX9, 7)) d_X9_writeLetter_20 hs (hI.lt hk) rfl (by decide) (by decide) w_345 (hI.r hn hr) h
theorem d_X9_writeLetter_23 : decode cX9_writeLetter 23 = .ok (.invokevirtual 316, 3) := by decide +kernel
theorem s_X9_writeLetter_23  {k : Nat} {P : am_HI → Prop} (hI : am_Inv g) (hs : am_SH k = (0, 7)) (hk : k < 134) (hst : (st.map Value.category).sum ≤ 8) (hc : am_Cr M_X7_findParameters [.ref k] hi g none P) (h : ∀ hi' : am_HI, P hi' → AP M_X9_writeLetter b 26 [x0, x1, x2, x3] (st) hi' g Φ) : AP M_X9_writeLetter b 23 [x0, x1, x2, x3] (.ref k :: st) hi g Φ := AP.callVr (As := []) (q := (RX7, TX7, 7)) hI hc k_X9_writeLetter_316 d_X9_writeLetter_23 rfl hs hk rfl rfl hst h
theorem d_X9_writeLetter_26 : decode cX9_writeLetter 26 = .ok (.aload_n 0, 1) := by decide +kernel
theorem s_X9_writeLetter_26 {n : Nat} (h : AP M_X9_writeLetter b 27 [.ref n, x1, x2, x3] (.ref n :: st) hi g Φ) : AP M_X9_writeLetter b 26 [.ref n, x1, x2, x3] (st) hi g Φ := AP.aload_n (x := n) (i := 0) d_X9_writeLetter_26 rfl rfl h
theorem d_X9_writeLetter_27 : decode cX9_writeLetter 27 = .ok (.getfield 20, 3) := by decide +kernel
theorem s_X9_writeLetter_27 {k r : Nat} (hI : am_Inv g) (hs : am_SH k = (0, 9)) (hk : k < 134) (hr : am_HRf k 1 = some r) (hn : k ≠ 39) (h : AP M_X9_writeLetter b 30 [x0, x1, x2, x3] (.ref r :: st) hi g Φ) : AP M_X9_writeLetter b 27 [x0, x1, x2, x3] (.ref k :: st) hi g Φ := AP.getR (j := 1) (q := (RX9, TX9, 7)) d_X9_writeLetter_27 hs (hI.lt hk) rfl (by decide) (by decide) w_346 (hI.r hn hr) h
theorem d_X9_writeLetter_30 : decode cX9_writeLetter 30 = .ok (.getfield 129, 3) := by decide +kernel
theorem s_X9_writeLetter_30 {k r : Nat} (hI : am_Inv g) (hs : am_SH k = (0, 6)) (hk : k < 134) (hr : am_HRf k 2 = some r) (hn : k ≠ 39) (h : AP M_X9_writeLetter b 33 [x0, x1, x2, x3] (.ref r :: st) hi g Φ) : AP M_X9_writeLetter b 30 [x0, x1, x2, x3] (.ref k :: st) hi g Φ := AP.getR (j := 2) (q := (RX6, TX6, 8)) d_X9_writeLetter_30 hs (hI.lt hk) rfl (by decide) (by decide) w_165 (hI.r hn hr) h
theorem d_X9_writeLetter_33 : decode cX9_writeLetter 33 = .ok (.astore_n 1, 1) := by decide +kernel
theorem s_X9_writeLetter_33 {n : Nat} (hc : x0.category = 1) (h : AP M_X9_writeLetter b 34 [x0, .ref n, x2, x3] (st) hi g Φ) : AP M_X9_writeLetter b 33 [x0, x1, x2, x3] (.ref n :: st) hi g Φ := AP.astore_n (x := n) (i := 1) d_X9_writeLetter_33 rfl (by decide) (by simp [am_st, am_ci, am_cr, am_cl, am_cd, hc]) h
theorem d_X9_writeLetter_34 : decode cX9_writeLetter 34 = .ok (.aload_n 1, 1) := by decide +kernel
theorem s_X9_writeLetter_34 {n : Nat} (h : AP M_X9_writeLetter b 35 [x0, .ref n, x2, x3] (.ref n :: st) hi g Φ) : AP M_X9_writeLetter b 34 [x0, .ref n, x2, x3] (st) hi g Φ := AP.aload_n (x := n) (i := 1) d_X9_writeLetter_34 rfl rfl h
theorem d_X9_writeLetter_35 : decode cX9_writeLetter 35 = .ok (.aload_n 0, 1) := by decide +kernel
theorem s_X9_writeLetter_35 {n : Nat} (h : AP M_X9_writeLetter b 36 [.ref n, x1, x2, x3] (.ref n :: st) hi g Φ) : AP M_X9_writeLetter b 35 [.ref n, x1, x2, x3] (st) hi g Φ := AP.aload_n (x := n) (i := 0) d_X9_writeLetter_35 rfl rfl h
theorem d_X9_writeLetter_36 : decode cX9_writeLetter 36 = .ok (.getfield 20, 3) := by decide +kernel
theorem s_X9_writeLetter_36 {k r : Nat} (hI : am_Inv g) (hs : am_SH k = (0, 9)) (hk : k < 134) (hr : am_HRf k 1 = some r) (hn : k ≠ 39) (h : AP M_X9_writeLetter b 39 [x0, x1, x2, x3] (.ref r :: st) hi g Φ) : AP M_X9_writeLetter b 36 [x0, x1, x2, x3] (.ref k :: st) hi g Φ := AP.getR (j := 1) (q := (RX9, TX9, 7)) d_X9_writeLetter_36 hs (hI.lt hk) rfl (by decide) (by decide) w_346 (hI.r hn hr) h
theorem d_X9_writeLetter_39 : decode cX9_writeLetter 39 = .ok (.getfield 83, 3) := by decide +kernel
theorem s_X9_writeLetter_39 {k : Nat} (hI : am_Inv g) (hs : am_SH k = (0, 6)) (hk : k < 134) (h : AP M_X9_writeLetter b 42 [x0, x1, x2, x3] (.int (hi k 3) :: st) hi g Φ) : AP M_X9_writeLetter b 39 [x0, x1, x2, x3] (.ref k :: st) hi g Φ := AP.getI (j := 3) (q := (RX6, TX6, 8)) d_X9_writeLetter_39 hs (hI.lt hk) rfl (by decide) (by decide) w_168 h
theorem d_X9_writeLetter_42 : decode cX9_writeLetter 42 = .ok (.putfield 216, 3) := by decide +kernel
theorem s_X9_writeLetter_42 {k : Nat} {n : Int32} (hI : am_Inv g) (hs : am_SH k = (0, 2)) (hk : k < 134) (h : AP M_X9_writeLetter b 45 [x0, x1, x2, x3] (st) (am_up hi k 5 n) g Φ) : AP M_X9_writeLetter b 42 [x0, x1, x2, x3] (.int n :: .ref k :: st) hi g Φ := AP.putI (j := 5) (q := (RX2, TX2, 8)) d_X9_writeLetter_42 hs (hI.lt hk) rfl (by decide) rfl rfl w_133 h
theorem d_X9_writeLetter_45 : decode cX9_writeLetter 45 = .ok (.aload_n 1, 1) := by decide +kernel
theorem s_X9_writeLetter_45 {n : Nat} (h : AP M_X9_writeLetter b 46 [x0, .ref n, x2, x3] (.ref n :: st) hi g Φ) : AP M_X9_writeLetter b 45 [x0, .ref n, x2, x3] (st) hi g Φ := AP.aload_n (x := n) (i := 1) d_X9_writeLetter_45 rfl rfl h
theorem d_X9_writeLetter_46 : decode cX9_writeLetter 46 = .ok (.aload_n 0, 1) := by decide +kernel
theorem s_X9_writeLetter_46 {n : Nat} (h : AP M_X9_writeLetter b 47 [.ref n, x1, x2, x3] (.ref n :: st) hi g Φ) : AP M_X9_writeLetter b 46 [.ref n, x1, x2, x3] (st) hi g Φ := AP.aload_n (x := n) (i := 0) d_X9_writeLetter_46 rfl rfl h
theorem d_X9_writeLetter_47 : decode cX9_writeLetter 47 = .ok (.getfield 20, 3) := by decide +kernel
theorem s_X9_writeLetter_47 {k r : Nat} (hI : am_Inv g) (hs : am_SH k = (0, 9)) (hk : k < 134) (hr : am_HRf k 1 = some r) (hn : k ≠ 39) (h : AP M_X9_writeLetter b 50 [x0, x1, x2, x3] (.ref r :: st) hi g Φ) : AP M_X9_writeLetter b 47 [x0, x1, x2, x3] (.ref k :: st) hi g Φ := AP.getR (j := 1) (q := (RX9, TX9, 7)) d_X9_writeLetter_47 hs (hI.lt hk) rfl (by decide) (by decide) w_346 (hI.r hn hr) h
theorem d_X9_writeLetter_50 : decode cX9_writeLetter 50 = .ok (.getfield 104, 3) := by decide +kernel
theorem s_X9_writeLetter_50 {k : Nat} (hI : am_Inv g) (hs : am_SH k = (0, 6)) (hk : k < 134) (h : AP M_X9_writeLetter b 53 [x0, x1, x2, x3] (.int (hi k 4) :: st) hi g Φ) : AP M_X9_writeLetter b 50 [x0, x1, x2, x3] (.ref k :: st) hi g Φ := AP.getI (j := 4) (q := (RX6, TX6, 8)) d_X9_writeLetter_50 hs (hI.lt hk) rfl (by decide) (by decide) w_171 h
theorem d_X9_writeLetter_53 : decode cX9_writeLetter 53 = .ok (.putfield 319, 3) := by decide +kernel
theorem s_X9_writeLetter_53 {k : Nat} {n : Int32} (hI : am_Inv g) (hs : am_SH k = (0, 2)) (hk : k < 134) (h : AP M_X9_writeLetter b 56 [x0, x1, x2, x3] (st) (am_up hi k 6 n) g Φ) : AP M_X9_writeLetter b 53 [x0, x1, x2, x3] (.int n :: .ref k :: st) hi g Φ := AP.putI (j := 6) (q := (RX2, TX2, 8)) d_X9_writeLetter_53 hs (hI.lt hk) rfl (by decide) rfl rfl w_136 h
theorem d_X9_writeLetter_56 : decode cX9_writeLetter 56 = .ok (.aload_n 1, 1) := by decide +kernel
theorem s_X9_writeLetter_56 {n : Nat} (h : AP M_X9_writeLetter b 57 [x0, .ref n, x2, x3] (.ref n :: st) hi g Φ) : AP M_X9_writeLetter b 56 [x0, .ref n, x2, x3] (st) hi g Φ := AP.aload_n (x := n) (i := 1) d_X9_writeLetter_56 rfl rfl h
theorem d_X9_writeLetter_57 : decode cX9_writeLetter 57 = .ok (.aload_n 0, 1) := by decide +kernel
theorem s_X9_writeLetter_57 {n : Nat} (h : AP M_X9_writeLetter b 58 [.ref n, x1, x2, x3] (.ref n :: st) hi g Φ) : AP M_X9_writeLetter b 57 [.ref n, x1, x2, x3] (st) hi g Φ := AP.aload_n (x := n) (i := 0) d_X9_writeLetter_57 rfl rfl h
theorem d_X9_writeLetter_58 : decode cX9_writeLetter 58 = .ok (.getfield 20, 3) := by decide +kernel
theorem s_X9_writeLetter_58 {k r : Nat} (hI : am_Inv g) (hs : am_SH k = (0, 9)) (hk : k < 134) (hr : am_HRf k 1 = some r) (hn : k ≠ 39) (h : AP M_X9_writeLetter b 61 [x0, x1, x2, x3] (.ref r :: st) hi g Φ) : AP M_X9_writeLetter b 58 [x0, x1, x2, x3] (.ref k :: st) hi g Φ := AP.getR (j := 1) (q := (RX9, TX9, 7)) d_X9_writeLetter_58 hs (hI.lt hk) rfl (by decide) (by decide) w_346 (hI.r hn hr) h
theorem d_X9_writeLetter_61 : decode cX9_writeLetter 61 = .ok (.getfield 107, 3) := by decide +kernel
theorem s_X9_writeLetter_61 {k : Nat} (hI : am_Inv g) (hs : am_SH k = (0, 6)) (hk : k < 134) (h : AP M_X9_writeLetter b 64 [x0, x1, x2, x3] (.int (hi k 5) :: st) hi g Φ) : AP M_X9_writeLetter b 61 [x0, x1, x2, x3] (.ref k :: st) hi g Φ := AP.getI (j := 5) (q := (RX6, TX6, 8)) d_X9_writeLetter_61 hs (hI.lt hk) rfl (by decide) (by decide) w_174 h
theorem d_X9_writeLetter_64 : decode cX9_writeLetter 64 = .ok (.putfield 320, 3) := by decide +kernel
theorem s_X9_writeLetter_64 {k : Nat} {n : Int32} (hI : am_Inv g) (hs : am_SH k = (0, 2)) (hk : k < 134) (h : AP M_X9_writeLetter b 67 [x0, x1, x2, x3] (st) (am_up hi k 7 n) g Φ) : AP M_X9_writeLetter b 64 [x0, x1, x2, x3] (.int n :: .ref k :: st) hi g Φ := AP.putI (j := 7) (q := (RX2, TX2, 8)) d_X9_writeLetter_64 hs (hI.lt hk) rfl (by decide) rfl rfl w_139 h
theorem d_X9_writeLetter_67 : decode cX9_writeLetter 67 = .ok (.aload_n 0, 1) := by decide +kernel
theorem s_X9_writeLetter_67 {n : Nat} (h : AP M_X9_writeLetter b 68 [.ref n, x1, x2, x3] (.ref n :: st) hi g Φ) : AP M_X9_writeLetter b 67 [.ref n, x1, x2, x3] (st) hi g Φ := AP.aload_n (x := n) (i := 0) d_X9_writeLetter_67 rfl rfl h
theorem d_X9_writeLetter_68 : decode cX9_writeLetter 68 = .ok (.getfield 20, 3) := by decide +kernel
theorem s_X9_writeLetter_68 {k r : Nat} (hI : am_Inv g) (hs : am_SH k = (0, 9)) (hk : k < 134) (hr : am_HRf k 1 = some r) (hn : k ≠ 39) (h : AP M_X9_writeLetter b 71 [x0, x1, x2, x3] (.ref r :: st) hi g Φ) : AP M_X9_writeLetter b 68 [x0, x1, x2, x3] (.ref k :: st) hi g Φ := AP.getR (j := 1) (q := (RX9, TX9, 7)) d_X9_writeLetter_68 hs (hI.lt hk) rfl (by decide) (by decide) w_346 (hI.r hn hr) h
theorem d_X9_writeLetter_71 : decode cX9_writeLetter 71 = .ok (.getfield 110, 3) := by decide +kernel
theorem s_X9_writeLetter_71 {k r : Nat} (hI : am_Inv g) (hs : am_SH k = (0, 6)) (hk : k < 134) (hr : am_HRf k 1 = some r) (hn : k ≠ 39) (h : AP M_X9_writeLetter b 74 [x0, x1, x2, x3] (.ref r :: st) hi g Φ) : AP M_X9_writeLetter b 71 [x0, x1, x2, x3] (.ref k :: st) hi g Φ := AP.getR (j := 1) (q := (RX6, TX6, 8)) d_X9_writeLetter_71 hs (hI.lt hk) rfl (by decide) (by decide) w_163 (hI.r hn hr) h
theorem d_X9_writeLetter_74 : decode cX9_writeLetter 74 = .ok (.iconst 0, 1) := by decide +kernel
theorem s_X9_writeLetter_74 (h : AP M_X9_writeLetter b 75 [x0, x1, x2, x3] (.int 0 :: st) hi g Φ) : AP M_X9_writeLetter b 74 [x0, x1, x2, x3] (st) hi g Φ := AP.iconst (x := 0) d_X9_writeLetter_74 (by decide) h
theorem d_X9_writeLetter_75 : decode cX9_writeLetter 75 = .ok (.aload_n 1, 1) := by decide +kernel
theorem s_X9_writeLetter_75 {n : Nat} (h : AP M_X9_writeLetter b 76 [x0, .ref n, x2, x3] (.ref n :: st) hi g Φ) : AP M_X9_writeLetter b 75 [x0, .ref n, x2, x3] (st) hi g Φ := AP.aload_n (x := n) (i := 1) d_X9_writeLetter_75 rfl rfl h
theorem d_X9_writeLetter_76 : decode cX9_writeLetter 76 = .ok (.getfield 321, 3) := by decide +kernel
theorem s_X9_writeLetter_76 {k r : Nat} (hI : am_Inv g) (hs : am_SH k = (0, 2)) (hk : k < 134) (hr : am_HRf k 0 = some r) (hn : k ≠ 39) (h : AP M_X9_writeLetter b 79 [x0, x1, x2, x3] (.ref r :: st) hi g Φ) : AP M_X9_writeLetter b 76 [x0, x1, x2, x3] (.ref k :: st) hi g Φ := AP.getR (j := 0) (q := (RX2, TX2, 8)) d_X9_writeLetter_76 hs (hI.lt hk) rfl (by decide) (by decide) w_115 (hI.r hn hr) h
theorem d_X9_writeLetter_79 : decode cX9_writeLetter 79 = .ok (.iconst 0, 1) := by decide +kernel
theorem s_X9_writeLetter_79 (h : AP M_X9_writeLetter b 80 [x0, x1, x2, x3] (.int 0 :: st) hi g Φ) : AP M_X9_writeLetter b 79 [x0, x1, x2, x3] (st) hi g Φ := AP.iconst (x := 0) d_X9_writeLetter_79 (by decide) h
theorem d_X9_writeLetter_80 : decode cX9_writeLetter 80 = .ok (.iconst 4, 1) := by decide +kernel
theorem s_X9_writeLetter_80 (h : AP M_X9_writeLetter b 81 [x0, x1, x2, x3] (.int 4 :: st) hi g Φ) : AP M_X9_writeLetter b 80 [x0, x1, x2, x3] (st) hi g Φ := AP.iconst (x := 4) d_X9_writeLetter_80 (by decide) h
theorem d_X9_writeLetter_81 : decode cX9_writeLetter 81 = .ok (.invokestatic 322, 3) := by decide +kernel
-- s_X9_writeLetter_81: a call apart
theorem d_X9_writeLetter_84 : decode cX9_writeLetter 84 = .ok (.iconst 0, 1) := by decide +kernel
theorem s_X9_writeLetter_84 (h : AP M_X9_writeLetter b 85 [x0, x1, x2, x3] (.int 0 :: st) hi g Φ) : AP M_X9_writeLetter b 84 [x0, x1, x2, x3] (st) hi g Φ := AP.iconst (x := 0) d_X9_writeLetter_84 (by decide) h
theorem d_X9_writeLetter_85 : decode cX9_writeLetter 85 = .ok (.istore_n 2, 1) := by decide +kernel
theorem s_X9_writeLetter_85 {n : Int32} (hc : x1.category = 1) (h : AP M_X9_writeLetter b 86 [x0, x1, .int n, x3] (st) hi g Φ) : AP M_X9_writeLetter b 85 [x0, x1, x2, x3] (.int n :: st) hi g Φ := AP.istore_n (x := n) (i := 2) d_X9_writeLetter_85 rfl (by decide) (by simp [am_st, am_ci, am_cr, am_cl, am_cd, hc]) h
theorem d_X9_writeLetter_86 : decode cX9_writeLetter 86 = .ok (.iload_n 2, 1) := by decide +kernel
theorem s_X9_writeLetter_86 {n : Int32} (h : AP M_X9_writeLetter b 87 [x0, x1, .int n, x3] (.int n :: st) hi g Φ) : AP M_X9_writeLetter b 86 [x0, x1, .int n, x3] (st) hi g Φ := AP.iload_n (x := n) (i := 2) d_X9_writeLetter_86 rfl rfl h
theorem d_X9_writeLetter_87 : decode cX9_writeLetter 87 = .ok (.aload_n 0, 1) := by decide +kernel
theorem s_X9_writeLetter_87 {n : Nat} (h : AP M_X9_writeLetter b 88 [.ref n, x1, x2, x3] (.ref n :: st) hi g Φ) : AP M_X9_writeLetter b 87 [.ref n, x1, x2, x3] (st) hi g Φ := AP.aload_n (x := n) (i := 0) d_X9_writeLetter_87 rfl rfl h
theorem d_X9_writeLetter_88 : decode cX9_writeLetter 88 = .ok (.getfield 20, 3) := by decide +kernel
theorem s_X9_writeLetter_88 {k r : Nat} (hI : am_Inv g) (hs : am_SH k = (0, 9)) (hk : k < 134) (hr : am_HRf k 1 = some r) (hn : k ≠ 39) (h : AP M_X9_writeLetter b 91 [x0, x1, x2, x3] (.ref r :: st) hi g Φ) : AP M_X9_writeLetter b 88 [x0, x1, x2, x3] (.ref k :: st) hi g Φ := AP.getR (j := 1) (q := (RX9, TX9, 7)) d_X9_writeLetter_88 hs (hI.lt hk) rfl (by decide) (by decide) w_346 (hI.r hn hr) h
theorem d_X9_writeLetter_91 : decode cX9_writeLetter 91 = .ok (.getfield 83, 3) := by decide +kernel
theorem s_X9_writeLetter_91 {k : Nat} (hI : am_Inv g) (hs : am_SH k = (0, 6)) (hk : k < 134) (h : AP M_X9_writeLetter b 94 [x0, x1, x2, x3] (.int (hi k 3) :: st) hi g Φ) : AP M_X9_writeLetter b 91 [x0, x1, x2, x3] (.ref k :: st) hi g Φ := AP.getI (j := 3) (q := (RX6, TX6, 8)) d_X9_writeLetter_91 hs (hI.lt hk) rfl (by decide) (by decide) w_168 h
theorem d_X9_writeLetter_94 : decode cX9_writeLetter 94 = .ok (.invokestatic 145, 3) := by decide +kernel
theorem s_X9_writeLetter_94 {a0 : Int32} {r0 : Int32} {P : am_HI → Prop} (hI : am_Inv g) (hst : (st.map Value.category).sum ≤ 8) (hc : am_Cr M_X9_blocksOf [.int a0] hi g (some (.int r0)) P) (h : ∀ hi' : am_HI, P hi' → AP M_X9_writeLetter b 97 [x0, x1, x2, x3] (.int r0 :: st) hi' g Φ) : AP M_X9_writeLetter b 94 [x0, x1, x2, x3] (.int a0 :: st) hi g Φ := AP.callSr (As := [.int a0]) hI hc k_X9_writeLetter_145 d_X9_writeLetter_94 rfl hst h
theorem d_X9_writeLetter_97 : decode cX9_writeLetter 97 = .ok (.if_icmp .ge 42, 3) := by decide +kernel
theorem s_X9_writeLetter_97 {x y : Int32} (h1 : y ≤ x → AP M_X9_writeLetter b 139 [x0, x1, x2, x3] st hi g Φ) (h2 : ¬ y ≤ x → AP M_X9_writeLetter b 100 [x0, x1, x2, x3] st hi g Φ) : AP M_X9_writeLetter b 97 [x0, x1, x2, x3] (.int y :: .int x :: st) hi g Φ := AP.icmp_ge d_X9_writeLetter_97 (by decide) h1 h2
theorem d_X9_writeLetter_100 : decode cX9_writeLetter 100 = .ok (.aload_n 0, 1) := by decide +kernel
theorem s_X9_writeLetter_100 {n : Nat} (h : AP M_X9_writeLetter b 101 [.ref n, x1, x2, x3] (.ref n :: st) hi g Φ) : AP M_X9_writeLetter b 100 [.ref n, x1, x2, x3] (st) hi g Φ := AP.aload_n (x := n) (i := 0) d_X9_writeLetter_100 rfl rfl h
theorem d_X9_writeLetter_101 : decode cX9_writeLetter 101 = .ok (.getfield 12, 3) := by decide +kernel
theorem s_X9_writeLetter_101 {k r : Nat} (hI : am_Inv g) (hs : am_SH k = (0, 9)) (hk : k < 134) (hr : am_HRf k 0 = some r) (hn : k ≠ 39) (h : AP M_X9_writeLetter b 104 [x0, x1, x2, x3] (.ref r :: st) hi g Φ) : AP M_X9_writeLetter b 101 [x0, x1, x2, x3] (.ref k :: st) hi g Φ := AP.getR (j := 0) (q := (RX9, TX9, 7)) d_X9_writeLetter_101 hs (hI.lt hk) rfl (by decide) (by decide) w_345 (hI.r hn hr) h
theorem d_X9_writeLetter_104 : decode cX9_writeLetter 104 = .ok (.iload_n 2, 1) := by decide +kernel
theorem s_X9_writeLetter_104 {n : Int32} (h : AP M_X9_writeLetter b 105 [x0, x1, .int n, x3] (.int n :: st) hi g Φ) : AP M_X9_writeLetter b 104 [x0, x1, .int n, x3] (st) hi g Φ := AP.iload_n (x := n) (i := 2) d_X9_writeLetter_104 rfl rfl h
theorem d_X9_writeLetter_105 : decode cX9_writeLetter 105 = .ok (.invokevirtual 198, 3) := by decide +kernel
theorem s_X9_writeLetter_105 {a0 : Int32} {k : Nat} {r0 : Int32} {P : am_HI → Prop} (hI : am_Inv g) (hs : am_SH k = (0, 7)) (hk : k < 134) (hst : (st.map Value.category).sum ≤ 8) (hc : am_Cr M_X7_kindFor [.ref k, .int a0] hi g (some (.int r0)) P) (h : ∀ hi' : am_HI, P hi' → AP M_X9_writeLetter b 108 [x0, x1, x2, x3] (.int r0 :: st) hi' g Φ) : AP M_X9_writeLetter b 105 [x0, x1, x2, x3] (.int a0 :: .ref k :: st) hi g Φ := AP.callVr (As := [.int a0]) (q := (RX7, TX7, 7)) hI hc k_X9_writeLetter_198 d_X9_writeLetter_105 rfl hs hk rfl rfl hst h
theorem d_X9_writeLetter_108 : decode cX9_writeLetter 108 = .ok (.istore_n 3, 1) := by decide +kernel
theorem s_X9_writeLetter_108 {n : Int32} (hc : x2.category = 1) (h : AP M_X9_writeLetter b 109 [x0, x1, x2, .int n] (st) hi g Φ) : AP M_X9_writeLetter b 108 [x0, x1, x2, x3] (.int n :: st) hi g Φ := AP.istore_n (x := n) (i := 3) d_X9_writeLetter_108 rfl (by decide) (by simp [am_st, am_ci, am_cr, am_cl, am_cd, hc]) h
theorem d_X9_writeLetter_109 : decode cX9_writeLetter 109 = .ok (.aload_n 1, 1) := by decide +kernel
theorem s_X9_writeLetter_109 {n : Nat} (h : AP M_X9_writeLetter b 110 [x0, .ref n, x2, x3] (.ref n :: st) hi g Φ) : AP M_X9_writeLetter b 109 [x0, .ref n, x2, x3] (st) hi g Φ := AP.aload_n (x := n) (i := 1) d_X9_writeLetter_109 rfl rfl h
theorem d_X9_writeLetter_110 : decode cX9_writeLetter 110 = .ok (.getfield 217, 3) := by decide +kernel
theorem s_X9_writeLetter_110 {k r : Nat} (hI : am_Inv g) (hs : am_SH k = (0, 2)) (hk : k < 134) (hr : am_HRf k 1 = some r) (hn : k ≠ 39) (h : AP M_X9_writeLetter b 113 [x0, x1, x2, x3] (.ref r :: st) hi g Φ) : AP M_X9_writeLetter b 110 [x0, x1, x2, x3] (.ref k :: st) hi g Φ := AP.getR (j := 1) (q := (RX2, TX2, 8)) d_X9_writeLetter_110 hs (hI.lt hk) rfl (by decide) (by decide) w_119 (hI.r hn hr) h
theorem d_X9_writeLetter_113 : decode cX9_writeLetter 113 = .ok (.iload_n 2, 1) := by decide +kernel
theorem s_X9_writeLetter_113 {n : Int32} (h : AP M_X9_writeLetter b 114 [x0, x1, .int n, x3] (.int n :: st) hi g Φ) : AP M_X9_writeLetter b 113 [x0, x1, .int n, x3] (st) hi g Φ := AP.iload_n (x := n) (i := 2) d_X9_writeLetter_113 rfl rfl h
theorem d_X9_writeLetter_114 : decode cX9_writeLetter 114 = .ok (.iload_n 3, 1) := by decide +kernel
theorem s_X9_writeLetter_114 {n : Int32} (h : AP M_X9_writeLetter b 115 [x0, x1, x2, .int n] (.int n :: st) hi g Φ) : AP M_X9_writeLetter b 114 [x0, x1, x2, .int n] (st) hi g Φ := AP.iload_n (x := n) (i := 3) d_X9_writeLetter_114 rfl rfl h
theorem d_X9_writeLetter_115 : decode cX9_writeLetter 115 = .ok (.iastore, 1) := by decide +kernel
theorem s_X9_writeLetter_115 {k n j : Nat} {i x : Int32} (hI : am_Inv g) (hs : am_SH k = (1, n)) (hk : k < 134) (hn : n < 2 ^ 31) (hx : i = nI j) (hj : j < n) (h : AP M_X9_writeLetter b 116 [x0, x1, x2, x3] (st) (am_up hi k j x) g Φ) : AP M_X9_writeLetter b 115 [x0, x1, x2, x3] (.int x :: .int i :: .ref k :: st) hi g Φ := AP.iast d_X9_writeLetter_115 hs (hI.lt hk) hn hx hj h
theorem d_X9_writeLetter_116 : decode cX9_writeLetter 116 = .ok (.aload_n 1, 1) := by decide +kernel
theorem s_X9_writeLetter_116 {n : Nat} (h : AP M_X9_writeLetter b 117 [x0, .ref n, x2, x3] (.ref n :: st) hi g Φ) : AP M_X9_writeLetter b 116 [x0, .ref n, x2, x3] (st) hi g Φ := AP.aload_n (x := n) (i := 1) d_X9_writeLetter_116 rfl rfl h
theorem d_X9_writeLetter_117 : decode cX9_writeLetter 117 = .ok (.getfield 220, 3) := by decide +kernel
theorem s_X9_writeLetter_117 {k r : Nat} (hI : am_Inv g) (hs : am_SH k = (0, 2)) (hk : k < 134) (hr : am_HRf k 2 = some r) (hn : k ≠ 39) (h : AP M_X9_writeLetter b 120 [x0, x1, x2, x3] (.ref r :: st) hi g Φ) : AP M_X9_writeLetter b 117 [x0, x1, x2, x3] (.ref k :: st) hi g Φ := AP.getR (j := 2) (q := (RX2, TX2, 8)) d_X9_writeLetter_117 hs (hI.lt hk) rfl (by decide) (by decide) w_122 (hI.r hn hr) h
theorem d_X9_writeLetter_120 : decode cX9_writeLetter 120 = .ok (.iload_n 2, 1) := by decide +kernel
theorem s_X9_writeLetter_120 {n : Int32} (h : AP M_X9_writeLetter b 121 [x0, x1, .int n, x3] (.int n :: st) hi g Φ) : AP M_X9_writeLetter b 120 [x0, x1, .int n, x3] (st) hi g Φ := AP.iload_n (x := n) (i := 2) d_X9_writeLetter_120 rfl rfl h
theorem d_X9_writeLetter_121 : decode cX9_writeLetter 121 = .ok (.aload_n 0, 1) := by decide +kernel
theorem s_X9_writeLetter_121 {n : Nat} (h : AP M_X9_writeLetter b 122 [.ref n, x1, x2, x3] (.ref n :: st) hi g Φ) : AP M_X9_writeLetter b 121 [.ref n, x1, x2, x3] (st) hi g Φ := AP.aload_n (x := n) (i := 0) d_X9_writeLetter_121 rfl rfl h
theorem d_X9_writeLetter_122 : decode cX9_writeLetter 122 = .ok (.getfield 12, 3) := by decide +kernel
theorem s_X9_writeLetter_122 {k r : Nat} (hI : am_Inv g) (hs : am_SH k = (0, 9)) (hk : k < 134) (hr : am_HRf k 0 = some r) (hn : k ≠ 39) (h : AP M_X9_writeLetter b 125 [x0, x1, x2, x3] (.ref r :: st) hi g Φ) : AP M_X9_writeLetter b 122 [x0, x1, x2, x3] (.ref k :: st) hi g Φ := AP.getR (j := 0) (q := (RX9, TX9, 7)) d_X9_writeLetter_122 hs (hI.lt hk) rfl (by decide) (by decide) w_345 (hI.r hn hr) h
theorem d_X9_writeLetter_125 : decode cX9_writeLetter 125 = .ok (.getfield 195, 3) := by decide +kernel
theorem s_X9_writeLetter_125 {k r : Nat} (hI : am_Inv g) (hs : am_SH k = (0, 7)) (hk : k < 134) (hr : am_HRf k 5 = some r) (hn : k ≠ 39) (h : AP M_X9_writeLetter b 128 [x0, x1, x2, x3] (.ref r :: st) hi g Φ) : AP M_X9_writeLetter b 125 [x0, x1, x2, x3] (.ref k :: st) hi g Φ := AP.getR (j := 5) (q := (RX7, TX7, 7)) d_X9_writeLetter_125 hs (hI.lt hk) rfl (by decide) (by decide) w_235 (hI.r hn hr) h
theorem d_X9_writeLetter_128 : decode cX9_writeLetter 128 = .ok (.iload_n 3, 1) := by decide +kernel
theorem s_X9_writeLetter_128 {n : Int32} (h : AP M_X9_writeLetter b 129 [x0, x1, x2, .int n] (.int n :: st) hi g Φ) : AP M_X9_writeLetter b 128 [x0, x1, x2, .int n] (st) hi g Φ := AP.iload_n (x := n) (i := 3) d_X9_writeLetter_128 rfl rfl h
theorem d_X9_writeLetter_129 : decode cX9_writeLetter 129 = .ok (.aaload, 1) := by decide +kernel
theorem s_X9_writeLetter_129 {k n j r : Nat} {i : Int32} (hI : am_Inv g) (hs : am_SH k = (6, n)) (hk : k < 134) (hn : n < 2 ^ 31) (hx : i = nI j) (hj : j < n) (hr : g.2.1 k j = some r) (h : AP M_X9_writeLetter b 130 [x0, x1, x2, x3] (.ref r :: st) hi g Φ) : AP M_X9_writeLetter b 129 [x0, x1, x2, x3] (.int i :: .ref k :: st) hi g Φ := AP.rald d_X9_writeLetter_129 hs (hI.lt hk) hn hx hj hr h
theorem s_X9_writeLetter_129a {k n j r : Nat} {i : Int32} (hI : am_Inv g) (hs : am_SH k = (5, n)) (hk : k < 134) (hn : n < 2 ^ 31) (hx : i = nI j) (hj : j < n) (hr : g.2.1 k j = some r) (h : AP M_X9_writeLetter b 130 [x0, x1, x2, x3] (.ref r :: st) hi g Φ) : AP M_X9_writeLetter b 129 [x0, x1, x2, x3] (.int i :: .ref k :: st) hi g Φ := AP.aald d_X9_writeLetter_129 hs (hI.lt hk) hn hx hj hr h
theorem d_X9_writeLetter_130 : decode cX9_writeLetter 130 = .ok (.iload_n 2, 1) := by decide +kernel
theorem s_X9_writeLetter_130 {n : Int32} (h : AP M_X9_writeLetter b 131 [x0, x1, .int n, x3] (.int n :: st) hi g Φ) : AP M_X9_writeLetter b 130 [x0, x1, .int n, x3] (st) hi g Φ := AP.iload_n (x := n) (i := 2) d_X9_writeLetter_130 rfl rfl h
theorem d_X9_writeLetter_131 : decode cX9_writeLetter 131 = .ok (.iaload, 1) := by decide +kernel
theorem s_X9_writeLetter_131 {k n j : Nat} {i : Int32} (hI : am_Inv g) (hs : am_SH k = (1, n)) (hk : k < 134) (hn : n < 2 ^ 31) (hx : i = nI j) (hj : j < n) (h : AP M_X9_writeLetter b 132 [x0, x1, x2, x3] (.int (hi k j) :: st) hi g Φ) : AP M_X9_writeLetter b 131 [x0, x1, x2, x3] (.int i :: .ref k :: st) hi g Φ := AP.iald d_X9_writeLetter_131 hs (hI.lt hk) hn hx hj h
theorem d_X9_writeLetter_132 : decode cX9_writeLetter 132 = .ok (.iastore, 1) := by decide +kernel
theorem s_X9_writeLetter_132 {k n j : Nat} {i x : Int32} (hI : am_Inv g) (hs : am_SH k = (1, n)) (hk : k < 134) (hn : n < 2 ^ 31) (hx : i = nI j) (hj : j < n) (h : AP M_X9_writeLetter b 133 [x0, x1, x2, x3] (st) (am_up hi k j x) g Φ) : AP M_X9_writeLetter b 132 [x0, x1, x2, x3] (.int x :: .int i :: .ref k :: st) hi g Φ := AP.iast d_X9_writeLetter_132 hs (hI.lt hk) hn hx hj h
theorem d_X9_writeLetter_133 : decode cX9_writeLetter 133 = .ok (.iinc 2 1, 3) := by decide +kernel
theorem s_X9_writeLetter_133 {n : Int32} (hc : x1.category = 1) (h : AP M_X9_writeLetter b 136 [x0, x1, .int (n + 1), x3] (st) hi g Φ) : AP M_X9_writeLetter b 133 [x0, x1, .int n, x3] (st) hi g Φ := AP.iinc (i := 2) (x := n) (y := n + 1) d_X9_writeLetter_133 rfl rfl (by decide) (by simp [am_st, am_ci, am_cr, am_cl, am_cd, hc]) h
theorem d_X9_writeLetter_136 : decode cX9_writeLetter 136 = .ok (.goto (-50), 3) := by decide +kernel
theorem s_X9_writeLetter_136 (h : AP M_X9_writeLetter b 86 [x0, x1, x2, x3] st hi g Φ) : AP M_X9_writeLetter b 136 [x0, x1, x2, x3] st hi g Φ := AP.goto d_X9_writeLetter_136 (by decide) h
theorem d_X9_writeLetter_139 : decode cX9_writeLetter 139 = .ok (.iconst 0, 1) := by decide +kernel
theorem s_X9_writeLetter_139 (h : AP M_X9_writeLetter b 140 [x0, x1, x2, x3] (.int 0 :: st) hi g Φ) : AP M_X9_writeLetter b 139 [x0, x1, x2, x3] (st) hi g Φ := AP.iconst (x := 0) d_X9_writeLetter_139 (by decide) h
theorem d_X9_writeLetter_140 : decode cX9_writeLetter 140 = .ok (.istore_n 2, 1) := by decide +kernel
theorem s_X9_writeLetter_140 {n : Int32} (hc : x1.category = 1) (h : AP M_X9_writeLetter b 141 [x0, x1, .int n, x3] (st) hi g Φ) : AP M_X9_writeLetter b 140 [x0, x1, x2, x3] (.int n :: st) hi g Φ := AP.istore_n (x := n) (i := 2) d_X9_writeLetter_140 rfl (by decide) (by simp [am_st, am_ci, am_cr, am_cl, am_cd, hc]) h
theorem d_X9_writeLetter_141 : decode cX9_writeLetter 141 = .ok (.iload_n 2, 1) := by decide +kernel
theorem s_X9_writeLetter_141 {n : Int32} (h : AP M_X9_writeLetter b 142 [x0, x1, .int n, x3] (.int n :: st) hi g Φ) : AP M_X9_writeLetter b 141 [x0, x1, .int n, x3] (st) hi g Φ := AP.iload_n (x := n) (i := 2) d_X9_writeLetter_141 rfl rfl h
theorem d_X9_writeLetter_142 : decode cX9_writeLetter 142 = .ok (.aload_n 0, 1) := by decide +kernel
theorem s_X9_writeLetter_142 {n : Nat} (h : AP M_X9_writeLetter b 143 [.ref n, x1, x2, x3] (.ref n :: st) hi g Φ) : AP M_X9_writeLetter b 142 [.ref n, x1, x2, x3] (st) hi g Φ := AP.aload_n (x := n) (i := 0) d_X9_writeLetter_142 rfl rfl h
theorem d_X9_writeLetter_143 : decode cX9_writeLetter 143 = .ok (.getfield 20, 3) := by decide +kernel
theorem s_X9_writeLetter_143 {k r : Nat} (hI : am_Inv g) (hs : am_SH k = (0, 9)) (hk : k < 134) (hr : am_HRf k 1 = some r) (hn : k ≠ 39) (h : AP M_X9_writeLetter b 146 [x0, x1, x2, x3] (.ref r :: st) hi g Φ) : AP M_X9_writeLetter b 143 [x0, x1, x2, x3] (.ref k :: st) hi g Φ := AP.getR (j := 1) (q := (RX9, TX9, 7)) d_X9_writeLetter_143 hs (hI.lt hk) rfl (by decide) (by decide) w_346 (hI.r hn hr) h
theorem d_X9_writeLetter_146 : decode cX9_writeLetter 146 = .ok (.getfield 83, 3) := by decide +kernel
theorem s_X9_writeLetter_146 {k : Nat} (hI : am_Inv g) (hs : am_SH k = (0, 6)) (hk : k < 134) (h : AP M_X9_writeLetter b 149 [x0, x1, x2, x3] (.int (hi k 3) :: st) hi g Φ) : AP M_X9_writeLetter b 146 [x0, x1, x2, x3] (.ref k :: st) hi g Φ := AP.getI (j := 3) (q := (RX6, TX6, 8)) d_X9_writeLetter_146 hs (hI.lt hk) rfl (by decide) (by decide) w_168 h
theorem d_X9_writeLetter_149 : decode cX9_writeLetter 149 = .ok (.if_icmp .ge 47, 3) := by decide +kernel
theorem s_X9_writeLetter_149 {x y : Int32} (h1 : y ≤ x → AP M_X9_writeLetter b 196 [x0, x1, x2, x3] st hi g Φ) (h2 : ¬ y ≤ x → AP M_X9_writeLetter b 152 [x0, x1, x2, x3] st hi g Φ) : AP M_X9_writeLetter b 149 [x0, x1, x2, x3] (.int y :: .int x :: st) hi g Φ := AP.icmp_ge d_X9_writeLetter_149 (by decide) h1 h2
theorem d_X9_writeLetter_152 : decode cX9_writeLetter 152 = .ok (.aload_n 1, 1) := by decide +kernel
theorem s_X9_writeLetter_152 {n : Nat} (h : AP M_X9_writeLetter b 153 [x0, .ref n, x2, x3] (.ref n :: st) hi g Φ) : AP M_X9_writeLetter b 152 [x0, .ref n, x2, x3] (st) hi g Φ := AP.aload_n (x := n) (i := 1) d_X9_writeLetter_152 rfl rfl h
theorem d_X9_writeLetter_153 : decode cX9_writeLetter 153 = .ok (.getfield 328, 3) := by decide +kernel
theorem s_X9_writeLetter_153 {k r : Nat} (hI : am_Inv g) (hs : am_SH k = (0, 2)) (hk : k < 134) (hr : am_HRf k 4 = some r) (hn : k ≠ 39) (h : AP M_X9_writeLetter b 156 [x0, x1, x2, x3] (.ref r :: st) hi g Φ) : AP M_X9_writeLetter b 153 [x0, x1, x2, x3] (.ref k :: st) hi g Φ := AP.getR (j := 4) (q := (RX2, TX2, 8)) d_X9_writeLetter_153 hs (hI.lt hk) rfl (by decide) (by decide) w_129 (hI.r hn hr) h
theorem d_X9_writeLetter_156 : decode cX9_writeLetter 156 = .ok (.iload_n 2, 1) := by decide +kernel
theorem s_X9_writeLetter_156 {n : Int32} (h : AP M_X9_writeLetter b 157 [x0, x1, .int n, x3] (.int n :: st) hi g Φ) : AP M_X9_writeLetter b 156 [x0, x1, .int n, x3] (st) hi g Φ := AP.iload_n (x := n) (i := 2) d_X9_writeLetter_156 rfl rfl h
theorem d_X9_writeLetter_157 : decode cX9_writeLetter 157 = .ok (.aload_n 0, 1) := by decide +kernel
theorem s_X9_writeLetter_157 {n : Nat} (h : AP M_X9_writeLetter b 158 [.ref n, x1, x2, x3] (.ref n :: st) hi g Φ) : AP M_X9_writeLetter b 157 [.ref n, x1, x2, x3] (st) hi g Φ := AP.aload_n (x := n) (i := 0) d_X9_writeLetter_157 rfl rfl h
theorem d_X9_writeLetter_158 : decode cX9_writeLetter 158 = .ok (.getfield 20, 3) := by decide +kernel
theorem s_X9_writeLetter_158 {k r : Nat} (hI : am_Inv g) (hs : am_SH k = (0, 9)) (hk : k < 134) (hr : am_HRf k 1 = some r) (hn : k ≠ 39) (h : AP M_X9_writeLetter b 161 [x0, x1, x2, x3] (.ref r :: st) hi g Φ) : AP M_X9_writeLetter b 158 [x0, x1, x2, x3] (.ref k :: st) hi g Φ := AP.getR (j := 1) (q := (RX9, TX9, 7)) d_X9_writeLetter_158 hs (hI.lt hk) rfl (by decide) (by decide) w_346 (hI.r hn hr) h
theorem d_X9_writeLetter_161 : decode cX9_writeLetter 161 = .ok (.getfield 100, 3) := by decide +kernel
theorem s_X9_writeLetter_161 {k r : Nat} (hI : am_Inv g) (hs : am_SH k = (0, 6)) (hk : k < 134) (hr : am_HRf k 0 = some r) (hn : k ≠ 39) (h : AP M_X9_writeLetter b 164 [x0, x1, x2, x3] (.ref r :: st) hi g Φ) : AP M_X9_writeLetter b 161 [x0, x1, x2, x3] (.ref k :: st) hi g Φ := AP.getR (j := 0) (q := (RX6, TX6, 8)) d_X9_writeLetter_161 hs (hI.lt hk) rfl (by decide) (by decide) w_160 (hI.r hn hr) h
theorem d_X9_writeLetter_164 : decode cX9_writeLetter 164 = .ok (.iload_n 2, 1) := by decide +kernel
theorem s_X9_writeLetter_164 {n : Int32} (h : AP M_X9_writeLetter b 165 [x0, x1, .int n, x3] (.int n :: st) hi g Φ) : AP M_X9_writeLetter b 164 [x0, x1, .int n, x3] (st) hi g Φ := AP.iload_n (x := n) (i := 2) d_X9_writeLetter_164 rfl rfl h
theorem d_X9_writeLetter_165 : decode cX9_writeLetter 165 = .ok (.iaload, 1) := by decide +kernel
theorem s_X9_writeLetter_165 {k n j : Nat} {i : Int32} (hI : am_Inv g) (hs : am_SH k = (1, n)) (hk : k < 134) (hn : n < 2 ^ 31) (hx : i = nI j) (hj : j < n) (h : AP M_X9_writeLetter b 166 [x0, x1, x2, x3] (.int (hi k j) :: st) hi g Φ) : AP M_X9_writeLetter b 165 [x0, x1, x2, x3] (.int i :: .ref k :: st) hi g Φ := AP.iald d_X9_writeLetter_165 hs (hI.lt hk) hn hx hj h
theorem d_X9_writeLetter_166 : decode cX9_writeLetter 166 = .ok (.iastore, 1) := by decide +kernel
theorem s_X9_writeLetter_166 {k n j : Nat} {i x : Int32} (hI : am_Inv g) (hs : am_SH k = (1, n)) (hk : k < 134) (hn : n < 2 ^ 31) (hx : i = nI j) (hj : j < n) (h : AP M_X9_writeLetter b 167 [x0, x1, x2, x3] (st) (am_up hi k j x) g Φ) : AP M_X9_writeLetter b 166 [x0, x1, x2, x3] (.int x :: .int i :: .ref k :: st) hi g Φ := AP.iast d_X9_writeLetter_166 hs (hI.lt hk) hn hx hj h
theorem d_X9_writeLetter_167 : decode cX9_writeLetter 167 = .ok (.aload_n 1, 1) := by decide +kernel
theorem s_X9_writeLetter_167 {n : Nat} (h : AP M_X9_writeLetter b 168 [x0, .ref n, x2, x3] (.ref n :: st) hi g Φ) : AP M_X9_writeLetter b 167 [x0, .ref n, x2, x3] (st) hi g Φ := AP.aload_n (x := n) (i := 1) d_X9_writeLetter_167 rfl rfl h
theorem d_X9_writeLetter_168 : decode cX9_writeLetter 168 = .ok (.getfield 142, 3) := by decide +kernel
theorem s_X9_writeLetter_168 {k r : Nat} (hI : am_Inv g) (hs : am_SH k = (0, 2)) (hk : k < 134) (hr : am_HRf k 3 = some r) (hn : k ≠ 39) (h : AP M_X9_writeLetter b 171 [x0, x1, x2, x3] (.ref r :: st) hi g Φ) : AP M_X9_writeLetter b 168 [x0, x1, x2, x3] (.ref k :: st) hi g Φ := AP.getR (j := 3) (q := (RX2, TX2, 8)) d_X9_writeLetter_168 hs (hI.lt hk) rfl (by decide) (by decide) w_126 (hI.r hn hr) h
theorem d_X9_writeLetter_171 : decode cX9_writeLetter 171 = .ok (.iload_n 2, 1) := by decide +kernel
theorem s_X9_writeLetter_171 {n : Int32} (h : AP M_X9_writeLetter b 172 [x0, x1, .int n, x3] (.int n :: st) hi g Φ) : AP M_X9_writeLetter b 171 [x0, x1, .int n, x3] (st) hi g Φ := AP.iload_n (x := n) (i := 2) d_X9_writeLetter_171 rfl rfl h
theorem d_X9_writeLetter_172 : decode cX9_writeLetter 172 = .ok (.aload_n 0, 1) := by decide +kernel
theorem s_X9_writeLetter_172 {n : Nat} (h : AP M_X9_writeLetter b 173 [.ref n, x1, x2, x3] (.ref n :: st) hi g Φ) : AP M_X9_writeLetter b 172 [.ref n, x1, x2, x3] (st) hi g Φ := AP.aload_n (x := n) (i := 0) d_X9_writeLetter_172 rfl rfl h
theorem d_X9_writeLetter_173 : decode cX9_writeLetter 173 = .ok (.getfield 12, 3) := by decide +kernel
theorem s_X9_writeLetter_173 {k r : Nat} (hI : am_Inv g) (hs : am_SH k = (0, 9)) (hk : k < 134) (hr : am_HRf k 0 = some r) (hn : k ≠ 39) (h : AP M_X9_writeLetter b 176 [x0, x1, x2, x3] (.ref r :: st) hi g Φ) : AP M_X9_writeLetter b 173 [x0, x1, x2, x3] (.ref k :: st) hi g Φ := AP.getR (j := 0) (q := (RX9, TX9, 7)) d_X9_writeLetter_173 hs (hI.lt hk) rfl (by decide) (by decide) w_345 (hI.r hn hr) h
theorem d_X9_writeLetter_176 : decode cX9_writeLetter 176 = .ok (.aload_n 1, 1) := by decide +kernel
theorem s_X9_writeLetter_176 {n : Nat} (h : AP M_X9_writeLetter b 177 [x0, .ref n, x2, x3] (.ref n :: st) hi g Φ) : AP M_X9_writeLetter b 176 [x0, .ref n, x2, x3] (st) hi g Φ := AP.aload_n (x := n) (i := 1) d_X9_writeLetter_176 rfl rfl h
theorem d_X9_writeLetter_177 : decode cX9_writeLetter 177 = .ok (.getfield 217, 3) := by decide +kernel
theorem s_X9_writeLetter_177 {k r : Nat} (hI : am_Inv g) (hs : am_SH k = (0, 2)) (hk : k < 134) (hr : am_HRf k 1 = some r) (hn : k ≠ 39) (h : AP M_X9_writeLetter b 180 [x0, x1, x2, x3] (.ref r :: st) hi g Φ) : AP M_X9_writeLetter b 177 [x0, x1, x2, x3] (.ref k :: st) hi g Φ := AP.getR (j := 1) (q := (RX2, TX2, 8)) d_X9_writeLetter_177 hs (hI.lt hk) rfl (by decide) (by decide) w_119 (hI.r hn hr) h
theorem d_X9_writeLetter_180 : decode cX9_writeLetter 180 = .ok (.iload_n 2, 1) := by decide +kernel
theorem s_X9_writeLetter_180 {n : Int32} (h : AP M_X9_writeLetter b 181 [x0, x1, .int n, x3] (.int n :: st) hi g Φ) : AP M_X9_writeLetter b 180 [x0, x1, .int n, x3] (st) hi g Φ := AP.iload_n (x := n) (i := 2) d_X9_writeLetter_180 rfl rfl h
theorem d_X9_writeLetter_181 : decode cX9_writeLetter 181 = .ok (.bipush 8, 2) := by decide +kernel
theorem s_X9_writeLetter_181 (h : AP M_X9_writeLetter b 183 [x0, x1, x2, x3] (.int 8 :: st) hi g Φ) : AP M_X9_writeLetter b 181 [x0, x1, x2, x3] (st) hi g Φ := AP.bipush (x := 8) d_X9_writeLetter_181 (by decide) h
theorem d_X9_writeLetter_183 : decode cX9_writeLetter 183 = .ok (.idiv, 1) := by decide +kernel
theorem s_X9_writeLetter_183 {x y : Int32} (hy : ¬ y = 0) (h : AP M_X9_writeLetter b 184 [x0, x1, x2, x3] (.int (x / y) :: st) hi g Φ) : AP M_X9_writeLetter b 183 [x0, x1, x2, x3] (.int y :: .int x :: st) hi g Φ := AP.idiv d_X9_writeLetter_183 hy h
theorem d_X9_writeLetter_184 : decode cX9_writeLetter 184 = .ok (.iaload, 1) := by decide +kernel
theorem s_X9_writeLetter_184 {k n j : Nat} {i : Int32} (hI : am_Inv g) (hs : am_SH k = (1, n)) (hk : k < 134) (hn : n < 2 ^ 31) (hx : i = nI j) (hj : j < n) (h : AP M_X9_writeLetter b 185 [x0, x1, x2, x3] (.int (hi k j) :: st) hi g Φ) : AP M_X9_writeLetter b 184 [x0, x1, x2, x3] (.int i :: .ref k :: st) hi g Φ := AP.iald d_X9_writeLetter_184 hs (hI.lt hk) hn hx hj h
theorem d_X9_writeLetter_185 : decode cX9_writeLetter 185 = .ok (.iload_n 2, 1) := by decide +kernel
theorem s_X9_writeLetter_185 {n : Int32} (h : AP M_X9_writeLetter b 186 [x0, x1, .int n, x3] (.int n :: st) hi g Φ) : AP M_X9_writeLetter b 185 [x0, x1, .int n, x3] (st) hi g Φ := AP.iload_n (x := n) (i := 2) d_X9_writeLetter_185 rfl rfl h
theorem d_X9_writeLetter_186 : decode cX9_writeLetter 186 = .ok (.invokevirtual 167, 3) := by decide +kernel
theorem s_X9_writeLetter_186 {a0 : Int32} {a1 : Int32} {k : Nat} {r0 : Int32} {P : am_HI → Prop} (hI : am_Inv g) (hs : am_SH k = (0, 7)) (hk : k < 134) (hst : (st.map Value.category).sum ≤ 8) (hc : am_Cr M_X7_leftBy [.ref k, .int a0, .int a1] hi g (some (.int r0)) P) (h : ∀ hi' : am_HI, P hi' → AP M_X9_writeLetter b 189 [x0, x1, x2, x3] (.int r0 :: st) hi' g Φ) : AP M_X9_writeLetter b 186 [x0, x1, x2, x3] (.int a1 :: .int a0 :: .ref k :: st) hi g Φ := AP.callVr (As := [.int a0, .int a1]) (q := (RX7, TX7, 7)) hI hc k_X9_writeLetter_167 d_X9_writeLetter_186 rfl hs hk rfl rfl hst h
theorem d_X9_writeLetter_189 : decode cX9_writeLetter 189 = .ok (.iastore, 1) := by decide +kernel
theorem s_X9_writeLetter_189 {k n j : Nat} {i x : Int32} (hI : am_Inv g) (hs : am_SH k = (1, n)) (hk : k < 134) (hn : n < 2 ^ 31) (hx : i = nI j) (hj : j < n) (h : AP M_X9_writeLetter b 190 [x0, x1, x2, x3] (st) (am_up hi k j x) g Φ) : AP M_X9_writeLetter b 189 [x0, x1, x2, x3] (.int x :: .int i :: .ref k :: st) hi g Φ := AP.iast d_X9_writeLetter_189 hs (hI.lt hk) hn hx hj h
theorem d_X9_writeLetter_190 : decode cX9_writeLetter 190 = .ok (.iinc 2 1, 3) := by decide +kernel
theorem s_X9_writeLetter_190 {n : Int32} (hc : x1.category = 1) (h : AP M_X9_writeLetter b 193 [x0, x1, .int (n + 1), x3] (st) hi g Φ) : AP M_X9_writeLetter b 190 [x0, x1, .int n, x3] (st) hi g Φ := AP.iinc (i := 2) (x := n) (y := n + 1) d_X9_writeLetter_190 rfl rfl (by decide) (by simp [am_st, am_ci, am_cr, am_cl, am_cd, hc]) h
theorem d_X9_writeLetter_193 : decode cX9_writeLetter 193 = .ok (.goto (-52), 3) := by decide +kernel
theorem s_X9_writeLetter_193 (h : AP M_X9_writeLetter b 141 [x0, x1, x2, x3] st hi g Φ) : AP M_X9_writeLetter b 193 [x0, x1, x2, x3] st hi g Φ := AP.goto d_X9_writeLetter_193 (by decide) h
theorem d_X9_writeLetter_196 : decode cX9_writeLetter 196 = .ok (.aload_n 0, 1) := by decide +kernel
theorem s_X9_writeLetter_196 {n : Nat} (h : AP M_X9_writeLetter b 197 [.ref n, x1, x2, x3] (.ref n :: st) hi g Φ) : AP M_X9_writeLetter b 196 [.ref n, x1, x2, x3] (st) hi g Φ := AP.aload_n (x := n) (i := 0) d_X9_writeLetter_196 rfl rfl h
theorem d_X9_writeLetter_197 : decode cX9_writeLetter 197 = .ok (.getfield 20, 3) := by decide +kernel
theorem s_X9_writeLetter_197 {k r : Nat} (hI : am_Inv g) (hs : am_SH k = (0, 9)) (hk : k < 134) (hr : am_HRf k 1 = some r) (hn : k ≠ 39) (h : AP M_X9_writeLetter b 200 [x0, x1, x2, x3] (.ref r :: st) hi g Φ) : AP M_X9_writeLetter b 197 [x0, x1, x2, x3] (.ref k :: st) hi g Φ := AP.getR (j := 1) (q := (RX9, TX9, 7)) d_X9_writeLetter_197 hs (hI.lt hk) rfl (by decide) (by decide) w_346 (hI.r hn hr) h
theorem d_X9_writeLetter_200 : decode cX9_writeLetter 200 = .ok (.dup, 1) := by decide +kernel
theorem s_X9_writeLetter_200 {u : Value} (hu : u.category = 1) (h : AP M_X9_writeLetter b 201 [x0, x1, x2, x3] (u :: u :: st) hi g Φ) : AP M_X9_writeLetter b 200 [x0, x1, x2, x3] (u :: st) hi g Φ := AP.dup d_X9_writeLetter_200 hu h
theorem d_X9_writeLetter_201 : decode cX9_writeLetter 201 = .ok (.getfield 247, 3) := by decide +kernel
theorem s_X9_writeLetter_201 {k : Nat} (hI : am_Inv g) (hs : am_SH k = (0, 6)) (hk : k < 134) (h : AP M_X9_writeLetter b 204 [x0, x1, x2, x3] (.int (hi k 7) :: st) hi g Φ) : AP M_X9_writeLetter b 201 [x0, x1, x2, x3] (.ref k :: st) hi g Φ := AP.getI (j := 7) (q := (RX6, TX6, 8)) d_X9_writeLetter_201 hs (hI.lt hk) rfl (by decide) (by decide) w_178 h
theorem d_X9_writeLetter_204 : decode cX9_writeLetter 204 = .ok (.iconst 1, 1) := by decide +kernel
theorem s_X9_writeLetter_204 (h : AP M_X9_writeLetter b 205 [x0, x1, x2, x3] (.int 1 :: st) hi g Φ) : AP M_X9_writeLetter b 204 [x0, x1, x2, x3] (st) hi g Φ := AP.iconst (x := 1) d_X9_writeLetter_204 (by decide) h
theorem d_X9_writeLetter_205 : decode cX9_writeLetter 205 = .ok (.iadd, 1) := by decide +kernel
theorem s_X9_writeLetter_205 {x y : Int32} (h : AP M_X9_writeLetter b 206 [x0, x1, x2, x3] (.int (x + y) :: st) hi g Φ) : AP M_X9_writeLetter b 205 [x0, x1, x2, x3] (.int y :: .int x :: st) hi g Φ := AP.iadd d_X9_writeLetter_205 h
theorem d_X9_writeLetter_206 : decode cX9_writeLetter 206 = .ok (.putfield 247, 3) := by decide +kernel
theorem s_X9_writeLetter_206 {k : Nat} {n : Int32} (hI : am_Inv g) (hs : am_SH k = (0, 6)) (hk : k < 134) (h : AP M_X9_writeLetter b 209 [x0, x1, x2, x3] (st) (am_up hi k 7 n) g Φ) : AP M_X9_writeLetter b 206 [x0, x1, x2, x3] (.int n :: .ref k :: st) hi g Φ := AP.putI (j := 7) (q := (RX6, TX6, 8)) d_X9_writeLetter_206 hs (hI.lt hk) rfl (by decide) rfl rfl w_178 h
theorem d_X9_writeLetter_209 : decode cX9_writeLetter 209 = .ok (.iconst 1, 1) := by decide +kernel
theorem s_X9_writeLetter_209 (h : AP M_X9_writeLetter b 210 [x0, x1, x2, x3] (.int 1 :: st) hi g Φ) : AP M_X9_writeLetter b 209 [x0, x1, x2, x3] (st) hi g Φ := AP.iconst (x := 1) d_X9_writeLetter_209 (by decide) h
theorem d_X9_writeLetter_210 : decode cX9_writeLetter 210 = .ok (.ireturn, 1) := by decide +kernel
theorem s_X9_writeLetter_210 {x : Int32} (hx : x = 0 ∨ x = 1) (h : Φ (.ok (some (.int x))) hi g) : AP M_X9_writeLetter b 210 [x0, x1, x2, x3] [.int x] hi g Φ := AP.zret d_X9_writeLetter_210 rfl hx h
end
section
variable {b : Nat × Nat} {st : List Value} {hi : am_HI} {g : am_G} {Φ : am_P} {x0 : Value}
theorem d_X9_bestDelay_0 : decode cX9_bestDelay 0 = .ok (.aload_n 0, 1) := by decide +kernel
theorem s_X9_bestDelay_0 {n : Nat} (h : AP M_X9_bestDelay b 1 [.ref n] (.ref n :: st) hi g Φ) : AP M_X9_bestDelay b 0 [.ref n] (st) hi g Φ := AP.aload_n (x := n) (i := 0) d_X9_bestDelay_0 rfl rfl h
theorem d_X9_bestDelay_1 : decode cX9_bestDelay 1 = .ok (.getfield 12, 3) := by decide +kernel
theorem s_X9_bestDelay_1 {k r : Nat} (hI : am_Inv g) (hs : am_SH k = (0, 9)) (hk : k < 134) (hr : am_HRf k 0 = some r) (hn : k ≠ 39) (h : AP M_X9_bestDelay b 4 [x0] (.ref r :: st) hi g Φ) : AP M_X9_bestDelay b 1 [x0] (.ref k :: st) hi g Φ := AP.getR (j := 0) (q := (RX9, TX9, 7)) d_X9_bestDelay_1 hs (hI.lt hk) rfl (by decide) (by decide) w_345 (hI.r hn hr) h
theorem d_X9_bestDelay_4 : decode cX9_bestDelay 4 = .ok (.invokevirtual 177, 3) := by decide +kernel
theorem s_X9_bestDelay_4  {k : Nat} {r0 : Int32} {P : am_HI → Prop} (hI : am_Inv g) (hs : am_SH k = (0, 7)) (hk : k < 134) (hst : (st.map Value.category).sum ≤ 8) (hc : am_Cr M_X7_findDelay [.ref k] hi g (some (.int r0)) P) (h : ∀ hi' : am_HI, P hi' → AP M_X9_bestDelay b 7 [x0] (.int r0 :: st) hi' g Φ) : AP M_X9_bestDelay b 4 [x0] (.ref k :: st) hi g Φ := AP.callVr (As := []) (q := (RX7, TX7, 7)) hI hc k_X9_bestDelay_177 d_X9_bestDelay_4 rfl hs hk rfl rfl hst h
theorem d_X9_bestDelay_7 : decode cX9_bestDelay 7 = .ok (.ireturn, 1) := by decide +kernel
theorem s_X9_bestDelay_7 {x : Int32} (h : Φ (.ok (some (.int x))) hi g) : AP M_X9_bestDelay b 7 [x0] [.int x] hi g Φ := AP.iret d_X9_bestDelay_7 rfl h
end
section
variable {b : Nat × Nat} {st : List Value} {hi : am_HI} {g : am_G} {Φ : am_P} {x0 : Value}
theorem d_X9_bestSpeed_0 : decode cX9_bestSpeed 0 = .ok (.aload_n 0, 1) := by decide +kernel
theorem s_X9_bestSpeed_0 {n : Nat} (h : AP M_X9_bestSpeed b 1 [.ref n] (.ref n :: st) hi g Φ) : AP M_X9_bestSpeed b 0 [.ref n] (st) hi g Φ := AP.aload_n (x := n) (i := 0) d_X9_bestSpeed_0 rfl rfl h
theorem d_X9_bestSpeed_1 : decode cX9_bestSpeed 1 = .ok (.getfield 12, 3) := by decide +kernel
theorem s_X9_bestSpeed_1 {k r : Nat} (hI : am_Inv g) (hs : am_SH k = (0, 9)) (hk : k < 134) (hr : am_HRf k 0 = some r) (hn : k ≠ 39) (h : AP M_X9_bestSpeed b 4 [x0] (.ref r :: st) hi g Φ) : AP M_X9_bestSpeed b 1 [x0] (.ref k :: st) hi g Φ := AP.getR (j := 0) (q := (RX9, TX9, 7)) d_X9_bestSpeed_1 hs (hI.lt hk) rfl (by decide) (by decide) w_345 (hI.r hn hr) h
theorem d_X9_bestSpeed_4 : decode cX9_bestSpeed 4 = .ok (.invokevirtual 180, 3) := by decide +kernel
theorem s_X9_bestSpeed_4  {k : Nat} {r0 : Int32} {P : am_HI → Prop} (hI : am_Inv g) (hs : am_SH k = (0, 7)) (hk : k < 134) (hst : (st.map Value.category).sum ≤ 8) (hc : am_Cr M_X7_findSpeed [.ref k] hi g (some (.int r0)) P) (h : ∀ hi' : am_HI, P hi' → AP M_X9_bestSpeed b 7 [x0] (.int r0 :: st) hi' g Φ) : AP M_X9_bestSpeed b 4 [x0] (.ref k :: st) hi g Φ := AP.callVr (As := []) (q := (RX7, TX7, 7)) hI hc k_X9_bestSpeed_180 d_X9_bestSpeed_4 rfl hs hk rfl rfl hst h
theorem d_X9_bestSpeed_7 : decode cX9_bestSpeed 7 = .ok (.ireturn, 1) := by decide +kernel
theorem s_X9_bestSpeed_7 {x : Int32} (h : Φ (.ok (some (.int x))) hi g) : AP M_X9_bestSpeed b 7 [x0] [.int x] hi g Φ := AP.iret d_X9_bestSpeed_7 rfl h
end
section
variable {b : Nat × Nat} {st : List Value} {hi : am_HI} {g : am_G} {Φ : am_P} {x0 : Value}
theorem d_X9_bits_0 : decode cX9_bits 0 = .ok (.aload_n 0, 1) := by decide +kernel
theorem s_X9_bits_0 {n : Nat} (h : AP M_X9_bits b 1 [.ref n] (.ref n :: st) hi g Φ) : AP M_X9_bits b 0 [.ref n] (st) hi g Φ := AP.aload_n (x := n) (i := 0) d_X9_bits_0 rfl rfl h
theorem d_X9_bits_1 : decode cX9_bits 1 = .ok (.getfield 12, 3) := by decide +kernel
theorem s_X9_bits_1 {k r : Nat} (hI : am_Inv g) (hs : am_SH k = (0, 9)) (hk : k < 134) (hr : am_HRf k 0 = some r) (hn : k ≠ 39) (h : AP M_X9_bits b 4 [x0] (.ref r :: st) hi g Φ) : AP M_X9_bits b 1 [x0] (.ref k :: st) hi g Φ := AP.getR (j := 0) (q := (RX9, TX9, 7)) d_X9_bits_1 hs (hI.lt hk) rfl (by decide) (by decide) w_345 (hI.r hn hr) h
theorem d_X9_bits_4 : decode cX9_bits 4 = .ok (.invokevirtual 192, 3) := by decide +kernel
theorem s_X9_bits_4  {k : Nat} {P : am_HI → Prop} (hI : am_Inv g) (hs : am_SH k = (0, 7)) (hk : k < 134) (hst : (st.map Value.category).sum ≤ 8) (hc : am_Cr M_X7_weighBlocks [.ref k] hi g none P) (h : ∀ hi' : am_HI, P hi' → AP M_X9_bits b 7 [x0] (st) hi' g Φ) : AP M_X9_bits b 4 [x0] (.ref k :: st) hi g Φ := AP.callVr (As := []) (q := (RX7, TX7, 7)) hI hc k_X9_bits_192 d_X9_bits_4 rfl hs hk rfl rfl hst h
theorem d_X9_bits_7 : decode cX9_bits 7 = .ok (.aload_n 0, 1) := by decide +kernel
theorem s_X9_bits_7 {n : Nat} (h : AP M_X9_bits b 8 [.ref n] (.ref n :: st) hi g Φ) : AP M_X9_bits b 7 [.ref n] (st) hi g Φ := AP.aload_n (x := n) (i := 0) d_X9_bits_7 rfl rfl h
theorem d_X9_bits_8 : decode cX9_bits 8 = .ok (.getfield 12, 3) := by decide +kernel
theorem s_X9_bits_8 {k r : Nat} (hI : am_Inv g) (hs : am_SH k = (0, 9)) (hk : k < 134) (hr : am_HRf k 0 = some r) (hn : k ≠ 39) (h : AP M_X9_bits b 11 [x0] (.ref r :: st) hi g Φ) : AP M_X9_bits b 8 [x0] (.ref k :: st) hi g Φ := AP.getR (j := 0) (q := (RX9, TX9, 7)) d_X9_bits_8 hs (hI.lt hk) rfl (by decide) (by decide) w_345 (hI.r hn hr) h
theorem d_X9_bits_11 : decode cX9_bits 11 = .ok (.invokevirtual 204, 3) := by decide +kernel
theorem s_X9_bits_11  {k : Nat} {r0 : Int32} {P : am_HI → Prop} (hI : am_Inv g) (hs : am_SH k = (0, 7)) (hk : k < 134) (hst : (st.map Value.category).sum ≤ 8) (hc : am_Cr M_X7_sumOfBlocks [.ref k] hi g (some (.int r0)) P) (h : ∀ hi' : am_HI, P hi' → AP M_X9_bits b 14 [x0] (.int r0 :: st) hi' g Φ) : AP M_X9_bits b 11 [x0] (.ref k :: st) hi g Φ := AP.callVr (As := []) (q := (RX7, TX7, 7)) hI hc k_X9_bits_204 d_X9_bits_11 rfl hs hk rfl rfl hst h
theorem d_X9_bits_14 : decode cX9_bits 14 = .ok (.ireturn, 1) := by decide +kernel
theorem s_X9_bits_14 {x : Int32} (h : Φ (.ok (some (.int x))) hi g) : AP M_X9_bits b 14 [x0] [.int x] hi g Φ := AP.iret d_X9_bits_14 rfl h
end
section
variable {b : Nat × Nat} {st : List Value} {hi : am_HI} {g : am_G} {Φ : am_P} {x0 x1 x2 : Value}
theorem d_X9_bitsByKinds_0 : decode cX9_bitsByKinds 0 = .ok (.aload_n 0, 1) := by decide +kernel
theorem s_X9_bitsByKinds_0 {n : Nat} (h : AP M_X9_bitsByKinds b 1 [.ref n, x1, x2] (.ref n :: st) hi g Φ) : AP M_X9_bitsByKinds b 0 [.ref n, x1, x2] (st) hi g Φ := AP.aload_n (x := n) (i := 0) d_X9_bitsByKinds_0 rfl rfl h
theorem d_X9_bitsByKinds_1 : decode cX9_bitsByKinds 1 = .ok (.getfield 12, 3) := by decide +kernel
theorem s_X9_bitsByKinds_1 {k r : Nat} (hI : am_Inv g) (hs : am_SH k = (0, 9)) (hk : k < 134) (hr : am_HRf k 0 = some r) (hn : k ≠ 39) (h : AP M_X9_bitsByKinds b 4 [x0, x1, x2] (.ref r :: st) hi g Φ) : AP M_X9_bitsByKinds b 1 [x0, x1, x2] (.ref k :: st) hi g Φ := AP.getR (j := 0) (q := (RX9, TX9, 7)) d_X9_bitsByKinds_1 hs (hI.lt hk) rfl (by decide) (by decide) w_345 (hI.r hn hr) h
theorem d_X9_bitsByKinds_4 : decode cX9_bitsByKinds 4 = .ok (.invokevirtual 192, 3) := by decide +kernel
theorem s_X9_bitsByKinds_4  {k : Nat} {P : am_HI → Prop} (hI : am_Inv g) (hs : am_SH k = (0, 7)) (hk : k < 134) (hst : (st.map Value.category).sum ≤ 8) (hc : am_Cr M_X7_weighBlocks [.ref k] hi g none P) (h : ∀ hi' : am_HI, P hi' → AP M_X9_bitsByKinds b 7 [x0, x1, x2] (st) hi' g Φ) : AP M_X9_bitsByKinds b 4 [x0, x1, x2] (.ref k :: st) hi g Φ := AP.callVr (As := []) (q := (RX7, TX7, 7)) hI hc k_X9_bitsByKinds_192 d_X9_bitsByKinds_4 rfl hs hk rfl rfl hst h
theorem d_X9_bitsByKinds_7 : decode cX9_bitsByKinds 7 = .ok (.iconst 0, 1) := by decide +kernel
theorem s_X9_bitsByKinds_7 (h : AP M_X9_bitsByKinds b 8 [x0, x1, x2] (.int 0 :: st) hi g Φ) : AP M_X9_bitsByKinds b 7 [x0, x1, x2] (st) hi g Φ := AP.iconst (x := 0) d_X9_bitsByKinds_7 (by decide) h
theorem d_X9_bitsByKinds_8 : decode cX9_bitsByKinds 8 = .ok (.istore_n 1, 1) := by decide +kernel
theorem s_X9_bitsByKinds_8 {n : Int32} (hc : x0.category = 1) (h : AP M_X9_bitsByKinds b 9 [x0, .int n, x2] (st) hi g Φ) : AP M_X9_bitsByKinds b 8 [x0, x1, x2] (.int n :: st) hi g Φ := AP.istore_n (x := n) (i := 1) d_X9_bitsByKinds_8 rfl (by decide) (by simp [am_st, am_ci, am_cr, am_cl, am_cd, hc]) h
theorem d_X9_bitsByKinds_9 : decode cX9_bitsByKinds 9 = .ok (.iconst 0, 1) := by decide +kernel
theorem s_X9_bitsByKinds_9 (h : AP M_X9_bitsByKinds b 10 [x0, x1, x2] (.int 0 :: st) hi g Φ) : AP M_X9_bitsByKinds b 9 [x0, x1, x2] (st) hi g Φ := AP.iconst (x := 0) d_X9_bitsByKinds_9 (by decide) h
theorem d_X9_bitsByKinds_10 : decode cX9_bitsByKinds 10 = .ok (.istore_n 2, 1) := by decide +kernel
theorem s_X9_bitsByKinds_10 {n : Int32} (hc : x1.category = 1) (h : AP M_X9_bitsByKinds b 11 [x0, x1, .int n] (st) hi g Φ) : AP M_X9_bitsByKinds b 10 [x0, x1, x2] (.int n :: st) hi g Φ := AP.istore_n (x := n) (i := 2) d_X9_bitsByKinds_10 rfl (by decide) (by simp [am_st, am_ci, am_cr, am_cl, am_cd, hc]) h
theorem d_X9_bitsByKinds_11 : decode cX9_bitsByKinds 11 = .ok (.iload_n 2, 1) := by decide +kernel
theorem s_X9_bitsByKinds_11 {n : Int32} (h : AP M_X9_bitsByKinds b 12 [x0, x1, .int n] (.int n :: st) hi g Φ) : AP M_X9_bitsByKinds b 11 [x0, x1, .int n] (st) hi g Φ := AP.iload_n (x := n) (i := 2) d_X9_bitsByKinds_11 rfl rfl h
theorem d_X9_bitsByKinds_12 : decode cX9_bitsByKinds 12 = .ok (.iconst 5, 1) := by decide +kernel
theorem s_X9_bitsByKinds_12 (h : AP M_X9_bitsByKinds b 13 [x0, x1, x2] (.int 5 :: st) hi g Φ) : AP M_X9_bitsByKinds b 12 [x0, x1, x2] (st) hi g Φ := AP.iconst (x := 5) d_X9_bitsByKinds_12 (by decide) h
theorem d_X9_bitsByKinds_13 : decode cX9_bitsByKinds 13 = .ok (.if_icmp .ge 20, 3) := by decide +kernel
theorem s_X9_bitsByKinds_13 {x y : Int32} (h1 : y ≤ x → AP M_X9_bitsByKinds b 33 [x0, x1, x2] st hi g Φ) (h2 : ¬ y ≤ x → AP M_X9_bitsByKinds b 16 [x0, x1, x2] st hi g Φ) : AP M_X9_bitsByKinds b 13 [x0, x1, x2] (.int y :: .int x :: st) hi g Φ := AP.icmp_ge d_X9_bitsByKinds_13 (by decide) h1 h2
theorem d_X9_bitsByKinds_16 : decode cX9_bitsByKinds 16 = .ok (.iload_n 1, 1) := by decide +kernel
theorem s_X9_bitsByKinds_16 {n : Int32} (h : AP M_X9_bitsByKinds b 17 [x0, .int n, x2] (.int n :: st) hi g Φ) : AP M_X9_bitsByKinds b 16 [x0, .int n, x2] (st) hi g Φ := AP.iload_n (x := n) (i := 1) d_X9_bitsByKinds_16 rfl rfl h
theorem d_X9_bitsByKinds_17 : decode cX9_bitsByKinds 17 = .ok (.aload_n 0, 1) := by decide +kernel
theorem s_X9_bitsByKinds_17 {n : Nat} (h : AP M_X9_bitsByKinds b 18 [.ref n, x1, x2] (.ref n :: st) hi g Φ) : AP M_X9_bitsByKinds b 17 [.ref n, x1, x2] (st) hi g Φ := AP.aload_n (x := n) (i := 0) d_X9_bitsByKinds_17 rfl rfl h
theorem d_X9_bitsByKinds_18 : decode cX9_bitsByKinds 18 = .ok (.getfield 12, 3) := by decide +kernel
theorem s_X9_bitsByKinds_18 {k r : Nat} (hI : am_Inv g) (hs : am_SH k = (0, 9)) (hk : k < 134) (hr : am_HRf k 0 = some r) (hn : k ≠ 39) (h : AP M_X9_bitsByKinds b 21 [x0, x1, x2] (.ref r :: st) hi g Φ) : AP M_X9_bitsByKinds b 18 [x0, x1, x2] (.ref k :: st) hi g Φ := AP.getR (j := 0) (q := (RX9, TX9, 7)) d_X9_bitsByKinds_18 hs (hI.lt hk) rfl (by decide) (by decide) w_345 (hI.r hn hr) h
theorem d_X9_bitsByKinds_21 : decode cX9_bitsByKinds 21 = .ok (.iload_n 2, 1) := by decide +kernel
theorem s_X9_bitsByKinds_21 {n : Int32} (h : AP M_X9_bitsByKinds b 22 [x0, x1, .int n] (.int n :: st) hi g Φ) : AP M_X9_bitsByKinds b 21 [x0, x1, .int n] (st) hi g Φ := AP.iload_n (x := n) (i := 2) d_X9_bitsByKinds_21 rfl rfl h
theorem d_X9_bitsByKinds_22 : decode cX9_bitsByKinds 22 = .ok (.invokevirtual 207, 3) := by decide +kernel
theorem s_X9_bitsByKinds_22 {a0 : Int32} {k : Nat} {r0 : Int32} {P : am_HI → Prop} (hI : am_Inv g) (hs : am_SH k = (0, 7)) (hk : k < 134) (hst : (st.map Value.category).sum ≤ 8) (hc : am_Cr M_X7_sumOfBlocksWith [.ref k, .int a0] hi g (some (.int r0)) P) (h : ∀ hi' : am_HI, P hi' → AP M_X9_bitsByKinds b 25 [x0, x1, x2] (.int r0 :: st) hi' g Φ) : AP M_X9_bitsByKinds b 22 [x0, x1, x2] (.int a0 :: .ref k :: st) hi g Φ := AP.callVr (As := [.int a0]) (q := (RX7, TX7, 7)) hI hc k_X9_bitsByKinds_207 d_X9_bitsByKinds_22 rfl hs hk rfl rfl hst h
theorem d_X9_bitsByKinds_25 : decode cX9_bitsByKinds 25 = .ok (.iadd, 1) := by decide +kernel
theorem s_X9_bitsByKinds_25 {x y : Int32} (h : AP M_X9_bitsByKinds b 26 [x0, x1, x2] (.int (x + y) :: st) hi g Φ) : AP M_X9_bitsByKinds b 25 [x0, x1, x2] (.int y :: .int x :: st) hi g Φ := AP.iadd d_X9_bitsByKinds_25 h
theorem d_X9_bitsByKinds_26 : decode cX9_bitsByKinds 26 = .ok (.istore_n 1, 1) := by decide +kernel
theorem s_X9_bitsByKinds_26 {n : Int32} (hc : x0.category = 1) (h : AP M_X9_bitsByKinds b 27 [x0, .int n, x2] (st) hi g Φ) : AP M_X9_bitsByKinds b 26 [x0, x1, x2] (.int n :: st) hi g Φ := AP.istore_n (x := n) (i := 1) d_X9_bitsByKinds_26 rfl (by decide) (by simp [am_st, am_ci, am_cr, am_cl, am_cd, hc]) h
theorem d_X9_bitsByKinds_27 : decode cX9_bitsByKinds 27 = .ok (.iinc 2 1, 3) := by decide +kernel
theorem s_X9_bitsByKinds_27 {n : Int32} (hc : x1.category = 1) (h : AP M_X9_bitsByKinds b 30 [x0, x1, .int (n + 1)] (st) hi g Φ) : AP M_X9_bitsByKinds b 27 [x0, x1, .int n] (st) hi g Φ := AP.iinc (i := 2) (x := n) (y := n + 1) d_X9_bitsByKinds_27 rfl rfl (by decide) (by simp [am_st, am_ci, am_cr, am_cl, am_cd, hc]) h
theorem d_X9_bitsByKinds_30 : decode cX9_bitsByKinds 30 = .ok (.goto (-19), 3) := by decide +kernel
theorem s_X9_bitsByKinds_30 (h : AP M_X9_bitsByKinds b 11 [x0, x1, x2] st hi g Φ) : AP M_X9_bitsByKinds b 30 [x0, x1, x2] st hi g Φ := AP.goto d_X9_bitsByKinds_30 (by decide) h
theorem d_X9_bitsByKinds_33 : decode cX9_bitsByKinds 33 = .ok (.iload_n 1, 1) := by decide +kernel
theorem s_X9_bitsByKinds_33 {n : Int32} (h : AP M_X9_bitsByKinds b 34 [x0, .int n, x2] (.int n :: st) hi g Φ) : AP M_X9_bitsByKinds b 33 [x0, .int n, x2] (st) hi g Φ := AP.iload_n (x := n) (i := 1) d_X9_bitsByKinds_33 rfl rfl h
theorem d_X9_bitsByKinds_34 : decode cX9_bitsByKinds 34 = .ok (.ireturn, 1) := by decide +kernel
theorem s_X9_bitsByKinds_34 {x : Int32} (h : Φ (.ok (some (.int x))) hi g) : AP M_X9_bitsByKinds b 34 [x0, x1, x2] [.int x] hi g Φ := AP.iret d_X9_bitsByKinds_34 rfl h
end
section
variable {b : Nat × Nat} {st : List Value} {hi : am_HI} {g : am_G} {Φ : am_P} {x0 : Value}
theorem d_X9_doWork_0 : decode cX9_doWork 0 = .ok (.aload_n 0, 1) := by decide +kernel
theorem s_X9_doWork_0 {n : Nat} (h : AP M_X9_doWork b 1 [.ref n] (.ref n :: st) hi g Φ) : AP M_X9_doWork b 0 [.ref n] (st) hi g Φ := AP.aload_n (x := n) (i := 0) d_X9_doWork_0 rfl rfl h
theorem d_X9_doWork_1 : decode cX9_doWork 1 = .ok (.getfield 40, 3) := by decide +kernel
theorem s_X9_doWork_1 {k r : Nat} (hI : am_Inv g) (hs : am_SH k = (0, 9)) (hk : k < 134) (hr : am_HRf k 4 = some r) (hn : k ≠ 39) (h : AP M_X9_doWork b 4 [x0] (.ref r :: st) hi g Φ) : AP M_X9_doWork b 1 [x0] (.ref k :: st) hi g Φ := AP.getR (j := 4) (q := (RX9, TX9, 7)) d_X9_doWork_1 hs (hI.lt hk) rfl (by decide) (by decide) w_349 (hI.r hn hr) h
theorem d_X9_doWork_4 : decode cX9_doWork 4 = .ok (.getfield 329, 3) := by decide +kernel
theorem s_X9_doWork_4 {k : Nat} (hI : am_Inv g) (hs : am_SH k = (0, 8)) (hk : k < 134) (h : AP M_X9_doWork b 7 [x0] (.int (hi k 3) :: st) hi g Φ) : AP M_X9_doWork b 4 [x0] (.ref k :: st) hi g Φ := AP.getI (j := 3) (q := (RX8, TX8, 6)) d_X9_doWork_4 hs (hI.lt hk) rfl (by decide) (by decide) w_297 h
theorem d_X9_doWork_7 : decode cX9_doWork 7 = .ok (.lookupswitch 203 #[(43, 81), (45, 93), (100, 142), (107, 106), (115, 118), (116, 123), (118, 158), (119, 174), (120, 193)], 81) := by decide +kernel
-- s_X9_doWork_7: .lookupswitch 203 #[(43, 81), (45, 93), (100, 142), (107, 106), (115, 118), (116, 123), (118, 158), (119, 174), (120, 193)]
theorem d_X9_doWork_88 : decode cX9_doWork 88 = .ok (.aload_n 0, 1) := by decide +kernel
theorem s_X9_doWork_88 {n : Nat} (h : AP M_X9_doWork b 89 [.ref n] (.ref n :: st) hi g Φ) : AP M_X9_doWork b 88 [.ref n] (st) hi g Φ := AP.aload_n (x := n) (i := 0) d_X9_doWork_88 rfl rfl h
theorem d_X9_doWork_89 : decode cX9_doWork 89 = .ok (.aload_n 0, 1) := by decide +kernel
theorem s_X9_doWork_89 {n : Nat} (h : AP M_X9_doWork b 90 [.ref n] (.ref n :: st) hi g Φ) : AP M_X9_doWork b 89 [.ref n] (st) hi g Φ := AP.aload_n (x := n) (i := 0) d_X9_doWork_89 rfl rfl h
theorem d_X9_doWork_90 : decode cX9_doWork 90 = .ok (.getfield 40, 3) := by decide +kernel
theorem s_X9_doWork_90 {k r : Nat} (hI : am_Inv g) (hs : am_SH k = (0, 9)) (hk : k < 134) (hr : am_HRf k 4 = some r) (hn : k ≠ 39) (h : AP M_X9_doWork b 93 [x0] (.ref r :: st) hi g Φ) : AP M_X9_doWork b 90 [x0] (.ref k :: st) hi g Φ := AP.getR (j := 4) (q := (RX9, TX9, 7)) d_X9_doWork_90 hs (hI.lt hk) rfl (by decide) (by decide) w_349 (hI.r hn hr) h
theorem d_X9_doWork_93 : decode cX9_doWork 93 = .ok (.getfield 332, 3) := by decide +kernel
theorem s_X9_doWork_93 {k : Nat} (hI : am_Inv g) (hs : am_SH k = (0, 8)) (hk : k < 134) (h : AP M_X9_doWork b 96 [x0] (.int (hi k 5) :: st) hi g Φ) : AP M_X9_doWork b 93 [x0] (.ref k :: st) hi g Φ := AP.getI (j := 5) (q := (RX8, TX8, 6)) d_X9_doWork_93 hs (hI.lt hk) rfl (by decide) (by decide) w_301 h
theorem d_X9_doWork_96 : decode cX9_doWork 96 = .ok (.invokevirtual 335, 3) := by decide +kernel
theorem s_X9_doWork_96 {a0 : Int32} {k : Nat} {r0 : Int32} {P : am_HI → Prop} (hI : am_Inv g) (hs : am_SH k = (0, 9)) (hk : k < 134) (hst : (st.map Value.category).sum ≤ 8) (hc : am_Cr M_X9_addIfPossible [.ref k, .int a0] hi g (some (.int r0)) P) (h : ∀ hi' : am_HI, P hi' → AP M_X9_doWork b 99 [x0] (.int r0 :: st) hi' g Φ) : AP M_X9_doWork b 96 [x0] (.int a0 :: .ref k :: st) hi g Φ := AP.callVr (As := [.int a0]) (q := (RX9, TX9, 7)) hI hc k_X9_doWork_335 d_X9_doWork_96 rfl hs hk rfl rfl hst h
theorem d_X9_doWork_99 : decode cX9_doWork 99 = .ok (.ireturn, 1) := by decide +kernel
theorem s_X9_doWork_99 {x : Int32} (hx : x = 0 ∨ x = 1) (h : Φ (.ok (some (.int x))) hi g) : AP M_X9_doWork b 99 [x0] [.int x] hi g Φ := AP.zret d_X9_doWork_99 rfl hx h
theorem d_X9_doWork_100 : decode cX9_doWork 100 = .ok (.aload_n 0, 1) := by decide +kernel
theorem s_X9_doWork_100 {n : Nat} (h : AP M_X9_doWork b 101 [.ref n] (.ref n :: st) hi g Φ) : AP M_X9_doWork b 100 [.ref n] (st) hi g Φ := AP.aload_n (x := n) (i := 0) d_X9_doWork_100 rfl rfl h
theorem d_X9_doWork_101 : decode cX9_doWork 101 = .ok (.aload_n 0, 1) := by decide +kernel
theorem s_X9_doWork_101 {n : Nat} (h : AP M_X9_doWork b 102 [.ref n] (.ref n :: st) hi g Φ) : AP M_X9_doWork b 101 [.ref n] (st) hi g Φ := AP.aload_n (x := n) (i := 0) d_X9_doWork_101 rfl rfl h
theorem d_X9_doWork_102 : decode cX9_doWork 102 = .ok (.getfield 40, 3) := by decide +kernel
theorem s_X9_doWork_102 {k r : Nat} (hI : am_Inv g) (hs : am_SH k = (0, 9)) (hk : k < 134) (hr : am_HRf k 4 = some r) (hn : k ≠ 39) (h : AP M_X9_doWork b 105 [x0] (.ref r :: st) hi g Φ) : AP M_X9_doWork b 102 [x0] (.ref k :: st) hi g Φ := AP.getR (j := 4) (q := (RX9, TX9, 7)) d_X9_doWork_102 hs (hI.lt hk) rfl (by decide) (by decide) w_349 (hI.r hn hr) h
theorem d_X9_doWork_105 : decode cX9_doWork 105 = .ok (.getfield 332, 3) := by decide +kernel
theorem s_X9_doWork_105 {k : Nat} (hI : am_Inv g) (hs : am_SH k = (0, 8)) (hk : k < 134) (h : AP M_X9_doWork b 108 [x0] (.int (hi k 5) :: st) hi g Φ) : AP M_X9_doWork b 105 [x0] (.ref k :: st) hi g Φ := AP.getI (j := 5) (q := (RX8, TX8, 6)) d_X9_doWork_105 hs (hI.lt hk) rfl (by decide) (by decide) w_301 h
theorem d_X9_doWork_108 : decode cX9_doWork 108 = .ok (.ineg, 1) := by decide +kernel
theorem s_X9_doWork_108 {x : Int32} (h : AP M_X9_doWork b 109 [x0] (.int (-x) :: st) hi g Φ) : AP M_X9_doWork b 108 [x0] (.int x :: st) hi g Φ := AP.ineg d_X9_doWork_108 h
theorem d_X9_doWork_109 : decode cX9_doWork 109 = .ok (.invokevirtual 335, 3) := by decide +kernel
theorem s_X9_doWork_109 {a0 : Int32} {k : Nat} {r0 : Int32} {P : am_HI → Prop} (hI : am_Inv g) (hs : am_SH k = (0, 9)) (hk : k < 134) (hst : (st.map Value.category).sum ≤ 8) (hc : am_Cr M_X9_addIfPossible [.ref k, .int a0] hi g (some (.int r0)) P) (h : ∀ hi' : am_HI, P hi' → AP M_X9_doWork b 112 [x0] (.int r0 :: st) hi' g Φ) : AP M_X9_doWork b 109 [x0] (.int a0 :: .ref k :: st) hi g Φ := AP.callVr (As := [.int a0]) (q := (RX9, TX9, 7)) hI hc k_X9_doWork_335 d_X9_doWork_109 rfl hs hk rfl rfl hst h
theorem d_X9_doWork_112 : decode cX9_doWork 112 = .ok (.ireturn, 1) := by decide +kernel
theorem s_X9_doWork_112 {x : Int32} (hx : x = 0 ∨ x = 1) (h : Φ (.ok (some (.int x))) hi g) : AP M_X9_doWork b 112 [x0] [.int x] hi g Φ := AP.zret d_X9_doWork_112 rfl hx h
theorem d_X9_doWork_113 : decode cX9_doWork 113 = .ok (.aload_n 0, 1) := by decide +kernel
theorem s_X9_doWork_113 {n : Nat} (h : AP M_X9_doWork b 114 [.ref n] (.ref n :: st) hi g Φ) : AP M_X9_doWork b 113 [.ref n] (st) hi g Φ := AP.aload_n (x := n) (i := 0) d_X9_doWork_113 rfl rfl h
theorem d_X9_doWork_114 : decode cX9_doWork 114 = .ok (.aload_n 0, 1) := by decide +kernel
theorem s_X9_doWork_114 {n : Nat} (h : AP M_X9_doWork b 115 [.ref n] (.ref n :: st) hi g Φ) : AP M_X9_doWork b 114 [.ref n] (st) hi g Φ := AP.aload_n (x := n) (i := 0) d_X9_doWork_114 rfl rfl h
theorem d_X9_doWork_115 : decode cX9_doWork 115 = .ok (.getfield 40, 3) := by decide +kernel
theorem s_X9_doWork_115 {k r : Nat} (hI : am_Inv g) (hs : am_SH k = (0, 9)) (hk : k < 134) (hr : am_HRf k 4 = some r) (hn : k ≠ 39) (h : AP M_X9_doWork b 118 [x0] (.ref r :: st) hi g Φ) : AP M_X9_doWork b 115 [x0] (.ref k :: st) hi g Φ := AP.getR (j := 4) (q := (RX9, TX9, 7)) d_X9_doWork_115 hs (hI.lt hk) rfl (by decide) (by decide) w_349 (hI.r hn hr) h
theorem d_X9_doWork_118 : decode cX9_doWork 118 = .ok (.getfield 332, 3) := by decide +kernel
theorem s_X9_doWork_118 {k : Nat} (hI : am_Inv g) (hs : am_SH k = (0, 8)) (hk : k < 134) (h : AP M_X9_doWork b 121 [x0] (.int (hi k 5) :: st) hi g Φ) : AP M_X9_doWork b 118 [x0] (.ref k :: st) hi g Φ := AP.getI (j := 5) (q := (RX8, TX8, 6)) d_X9_doWork_118 hs (hI.lt hk) rfl (by decide) (by decide) w_301 h
theorem d_X9_doWork_121 : decode cX9_doWork 121 = .ok (.invokevirtual 338, 3) := by decide +kernel
theorem s_X9_doWork_121 {a0 : Int32} {k : Nat} {r0 : Int32} {P : am_HI → Prop} (hI : am_Inv g) (hs : am_SH k = (0, 9)) (hk : k < 134) (hst : (st.map Value.category).sum ≤ 8) (hc : am_Cr M_X9_turnIfPossible [.ref k, .int a0] hi g (some (.int r0)) P) (h : ∀ hi' : am_HI, P hi' → AP M_X9_doWork b 124 [x0] (.int r0 :: st) hi' g Φ) : AP M_X9_doWork b 121 [x0] (.int a0 :: .ref k :: st) hi g Φ := AP.callVr (As := [.int a0]) (q := (RX9, TX9, 7)) hI hc k_X9_doWork_338 d_X9_doWork_121 rfl hs hk rfl rfl hst h
theorem d_X9_doWork_124 : decode cX9_doWork 124 = .ok (.ireturn, 1) := by decide +kernel
theorem s_X9_doWork_124 {x : Int32} (hx : x = 0 ∨ x = 1) (h : Φ (.ok (some (.int x))) hi g) : AP M_X9_doWork b 124 [x0] [.int x] hi g Φ := AP.zret d_X9_doWork_124 rfl hx h
theorem d_X9_doWork_125 : decode cX9_doWork 125 = .ok (.aload_n 0, 1) := by decide +kernel
theorem s_X9_doWork_125 {n : Nat} (h : AP M_X9_doWork b 126 [.ref n] (.ref n :: st) hi g Φ) : AP M_X9_doWork b 125 [.ref n] (st) hi g Φ := AP.aload_n (x := n) (i := 0) d_X9_doWork_125 rfl rfl h
theorem d_X9_doWork_126 : decode cX9_doWork 126 = .ok (.invokevirtual 125, 3) := by decide +kernel
theorem s_X9_doWork_126  {k : Nat} {r0 : Int32} {P : am_HI → Prop} (hI : am_Inv g) (hs : am_SH k = (0, 9)) (hk : k < 134) (hst : (st.map Value.category).sum ≤ 8) (hc : am_Cr M_X9_writeLetter [.ref k] hi g (some (.int r0)) P) (h : ∀ hi' : am_HI, P hi' → AP M_X9_doWork b 129 [x0] (.int r0 :: st) hi' g Φ) : AP M_X9_doWork b 126 [x0] (.ref k :: st) hi g Φ := AP.callVr (As := []) (q := (RX9, TX9, 7)) hI hc k_X9_doWork_125 d_X9_doWork_126 rfl hs hk rfl rfl hst h
theorem d_X9_doWork_129 : decode cX9_doWork 129 = .ok (.ireturn, 1) := by decide +kernel
theorem s_X9_doWork_129 {x : Int32} (hx : x = 0 ∨ x = 1) (h : Φ (.ok (some (.int x))) hi g) : AP M_X9_doWork b 129 [x0] [.int x] hi g Φ := AP.zret d_X9_doWork_129 rfl hx h
theorem d_X9_doWork_130 : decode cX9_doWork 130 = .ok (.aload_n 0, 1) := by decide +kernel
theorem s_X9_doWork_130 {n : Nat} (h : AP M_X9_doWork b 131 [.ref n] (.ref n :: st) hi g Φ) : AP M_X9_doWork b 130 [.ref n] (st) hi g Φ := AP.aload_n (x := n) (i := 0) d_X9_doWork_130 rfl rfl h
theorem d_X9_doWork_131 : decode cX9_doWork 131 = .ok (.aload_n 0, 1) := by decide +kernel
theorem s_X9_doWork_131 {n : Nat} (h : AP M_X9_doWork b 132 [.ref n] (.ref n :: st) hi g Φ) : AP M_X9_doWork b 131 [.ref n] (st) hi g Φ := AP.aload_n (x := n) (i := 0) d_X9_doWork_131 rfl rfl h
theorem d_X9_doWork_132 : decode cX9_doWork 132 = .ok (.getfield 40, 3) := by decide +kernel
theorem s_X9_doWork_132 {k r : Nat} (hI : am_Inv g) (hs : am_SH k = (0, 9)) (hk : k < 134) (hr : am_HRf k 4 = some r) (hn : k ≠ 39) (h : AP M_X9_doWork b 135 [x0] (.ref r :: st) hi g Φ) : AP M_X9_doWork b 132 [x0] (.ref k :: st) hi g Φ := AP.getR (j := 4) (q := (RX9, TX9, 7)) d_X9_doWork_132 hs (hI.lt hk) rfl (by decide) (by decide) w_349 (hI.r hn hr) h
theorem d_X9_doWork_135 : decode cX9_doWork 135 = .ok (.getfield 341, 3) := by decide +kernel
theorem s_X9_doWork_135 {k : Nat} (hI : am_Inv g) (hs : am_SH k = (0, 8)) (hk : k < 134) (h : AP M_X9_doWork b 138 [x0] (.int (hi k 4) :: st) hi g Φ) : AP M_X9_doWork b 135 [x0] (.ref k :: st) hi g Φ := AP.getI (j := 4) (q := (RX8, TX8, 6)) d_X9_doWork_135 hs (hI.lt hk) rfl (by decide) (by decide) w_299 h
theorem d_X9_doWork_138 : decode cX9_doWork 138 = .ok (.aload_n 0, 1) := by decide +kernel
theorem s_X9_doWork_138 {n : Nat} (h : AP M_X9_doWork b 139 [.ref n] (.ref n :: st) hi g Φ) : AP M_X9_doWork b 138 [.ref n] (st) hi g Φ := AP.aload_n (x := n) (i := 0) d_X9_doWork_138 rfl rfl h
theorem d_X9_doWork_139 : decode cX9_doWork 139 = .ok (.getfield 40, 3) := by decide +kernel
theorem s_X9_doWork_139 {k r : Nat} (hI : am_Inv g) (hs : am_SH k = (0, 9)) (hk : k < 134) (hr : am_HRf k 4 = some r) (hn : k ≠ 39) (h : AP M_X9_doWork b 142 [x0] (.ref r :: st) hi g Φ) : AP M_X9_doWork b 139 [x0] (.ref k :: st) hi g Φ := AP.getR (j := 4) (q := (RX9, TX9, 7)) d_X9_doWork_139 hs (hI.lt hk) rfl (by decide) (by decide) w_349 (hI.r hn hr) h
theorem d_X9_doWork_142 : decode cX9_doWork 142 = .ok (.getfield 332, 3) := by decide +kernel
theorem s_X9_doWork_142 {k : Nat} (hI : am_Inv g) (hs : am_SH k = (0, 8)) (hk : k < 134) (h : AP M_X9_doWork b 145 [x0] (.int (hi k 5) :: st) hi g Φ) : AP M_X9_doWork b 142 [x0] (.ref k :: st) hi g Φ := AP.getI (j := 5) (q := (RX8, TX8, 6)) d_X9_doWork_142 hs (hI.lt hk) rfl (by decide) (by decide) w_301 h
theorem d_X9_doWork_145 : decode cX9_doWork 145 = .ok (.invokevirtual 344, 3) := by decide +kernel
theorem s_X9_doWork_145 {a0 : Int32} {a1 : Int32} {k : Nat} {r0 : Int32} {P : am_HI → Prop} (hI : am_Inv g) (hs : am_SH k = (0, 9)) (hk : k < 134) (hst : (st.map Value.category).sum ≤ 8) (hc : am_Cr M_X9_tamperIfPossible [.ref k, .int a0, .int a1] hi g (some (.int r0)) P) (h : ∀ hi' : am_HI, P hi' → AP M_X9_doWork b 148 [x0] (.int r0 :: st) hi' g Φ) : AP M_X9_doWork b 145 [x0] (.int a1 :: .int a0 :: .ref k :: st) hi g Φ := AP.callVr (As := [.int a0, .int a1]) (q := (RX9, TX9, 7)) hI hc k_X9_doWork_344 d_X9_doWork_145 rfl hs hk rfl rfl hst h
theorem d_X9_doWork_148 : decode cX9_doWork 148 = .ok (.ireturn, 1) := by decide +kernel
theorem s_X9_doWork_148 {x : Int32} (hx : x = 0 ∨ x = 1) (h : Φ (.ok (some (.int x))) hi g) : AP M_X9_doWork b 148 [x0] [.int x] hi g Φ := AP.zret d_X9_doWork_148 rfl hx h
theorem d_X9_doWork_149 : decode cX9_doWork 149 = .ok (.aload_n 0, 1) := by decide +kernel
theorem s_X9_doWork_149 {n : Nat} (h : AP M_X9_doWork b 150 [.ref n] (.ref n :: st) hi g Φ) : AP M_X9_doWork b 149 [.ref n] (st) hi g Φ := AP.aload_n (x := n) (i := 0) d_X9_doWork_149 rfl rfl h
theorem d_X9_doWork_150 : decode cX9_doWork 150 = .ok (.getfield 20, 3) := by decide +kernel
theorem s_X9_doWork_150 {k r : Nat} (hI : am_Inv g) (hs : am_SH k = (0, 9)) (hk : k < 134) (hr : am_HRf k 1 = some r) (hn : k ≠ 39) (h : AP M_X9_doWork b 153 [x0] (.ref r :: st) hi g Φ) : AP M_X9_doWork b 150 [x0] (.ref k :: st) hi g Φ := AP.getR (j := 1) (q := (RX9, TX9, 7)) d_X9_doWork_150 hs (hI.lt hk) rfl (by decide) (by decide) w_346 (hI.r hn hr) h
theorem d_X9_doWork_153 : decode cX9_doWork 153 = .ok (.aload_n 0, 1) := by decide +kernel
theorem s_X9_doWork_153 {n : Nat} (h : AP M_X9_doWork b 154 [.ref n] (.ref n :: st) hi g Φ) : AP M_X9_doWork b 153 [.ref n] (st) hi g Φ := AP.aload_n (x := n) (i := 0) d_X9_doWork_153 rfl rfl h
theorem d_X9_doWork_154 : decode cX9_doWork 154 = .ok (.getfield 40, 3) := by decide +kernel
theorem s_X9_doWork_154 {k r : Nat} (hI : am_Inv g) (hs : am_SH k = (0, 9)) (hk : k < 134) (hr : am_HRf k 4 = some r) (hn : k ≠ 39) (h : AP M_X9_doWork b 157 [x0] (.ref r :: st) hi g Φ) : AP M_X9_doWork b 154 [x0] (.ref k :: st) hi g Φ := AP.getR (j := 4) (q := (RX9, TX9, 7)) d_X9_doWork_154 hs (hI.lt hk) rfl (by decide) (by decide) w_349 (hI.r hn hr) h
theorem d_X9_doWork_157 : decode cX9_doWork 157 = .ok (.getfield 332, 3) := by decide +kernel
theorem s_X9_doWork_157 {k : Nat} (hI : am_Inv g) (hs : am_SH k = (0, 8)) (hk : k < 134) (h : AP M_X9_doWork b 160 [x0] (.int (hi k 5) :: st) hi g Φ) : AP M_X9_doWork b 157 [x0] (.ref k :: st) hi g Φ := AP.getI (j := 5) (q := (RX8, TX8, 6)) d_X9_doWork_157 hs (hI.lt hk) rfl (by decide) (by decide) w_301 h
theorem d_X9_doWork_160 : decode cX9_doWork 160 = .ok (.putfield 104, 3) := by decide +kernel
theorem s_X9_doWork_160 {k : Nat} {n : Int32} (hI : am_Inv g) (hs : am_SH k = (0, 6)) (hk : k < 134) (h : AP M_X9_doWork b 163 [x0] (st) (am_up hi k 4 n) g Φ) : AP M_X9_doWork b 160 [x0] (.int n :: .ref k :: st) hi g Φ := AP.putI (j := 4) (q := (RX6, TX6, 8)) d_X9_doWork_160 hs (hI.lt hk) rfl (by decide) rfl rfl w_171 h
theorem d_X9_doWork_163 : decode cX9_doWork 163 = .ok (.iconst 1, 1) := by decide +kernel
theorem s_X9_doWork_163 (h : AP M_X9_doWork b 164 [x0] (.int 1 :: st) hi g Φ) : AP M_X9_doWork b 163 [x0] (st) hi g Φ := AP.iconst (x := 1) d_X9_doWork_163 (by decide) h
theorem d_X9_doWork_164 : decode cX9_doWork 164 = .ok (.ireturn, 1) := by decide +kernel
theorem s_X9_doWork_164 {x : Int32} (hx : x = 0 ∨ x = 1) (h : Φ (.ok (some (.int x))) hi g) : AP M_X9_doWork b 164 [x0] [.int x] hi g Φ := AP.zret d_X9_doWork_164 rfl hx h
theorem d_X9_doWork_165 : decode cX9_doWork 165 = .ok (.aload_n 0, 1) := by decide +kernel
theorem s_X9_doWork_165 {n : Nat} (h : AP M_X9_doWork b 166 [.ref n] (.ref n :: st) hi g Φ) : AP M_X9_doWork b 165 [.ref n] (st) hi g Φ := AP.aload_n (x := n) (i := 0) d_X9_doWork_165 rfl rfl h
theorem d_X9_doWork_166 : decode cX9_doWork 166 = .ok (.getfield 20, 3) := by decide +kernel
theorem s_X9_doWork_166 {k r : Nat} (hI : am_Inv g) (hs : am_SH k = (0, 9)) (hk : k < 134) (hr : am_HRf k 1 = some r) (hn : k ≠ 39) (h : AP M_X9_doWork b 169 [x0] (.ref r :: st) hi g Φ) : AP M_X9_doWork b 166 [x0] (.ref k :: st) hi g Φ := AP.getR (j := 1) (q := (RX9, TX9, 7)) d_X9_doWork_166 hs (hI.lt hk) rfl (by decide) (by decide) w_346 (hI.r hn hr) h
theorem d_X9_doWork_169 : decode cX9_doWork 169 = .ok (.aload_n 0, 1) := by decide +kernel
theorem s_X9_doWork_169 {n : Nat} (h : AP M_X9_doWork b 170 [.ref n] (.ref n :: st) hi g Φ) : AP M_X9_doWork b 169 [.ref n] (st) hi g Φ := AP.aload_n (x := n) (i := 0) d_X9_doWork_169 rfl rfl h
theorem d_X9_doWork_170 : decode cX9_doWork 170 = .ok (.getfield 40, 3) := by decide +kernel
theorem s_X9_doWork_170 {k r : Nat} (hI : am_Inv g) (hs : am_SH k = (0, 9)) (hk : k < 134) (hr : am_HRf k 4 = some r) (hn : k ≠ 39) (h : AP M_X9_doWork b 173 [x0] (.ref r :: st) hi g Φ) : AP M_X9_doWork b 170 [x0] (.ref k :: st) hi g Φ := AP.getR (j := 4) (q := (RX9, TX9, 7)) d_X9_doWork_170 hs (hI.lt hk) rfl (by decide) (by decide) w_349 (hI.r hn hr) h
theorem d_X9_doWork_173 : decode cX9_doWork 173 = .ok (.getfield 332, 3) := by decide +kernel
theorem s_X9_doWork_173 {k : Nat} (hI : am_Inv g) (hs : am_SH k = (0, 8)) (hk : k < 134) (h : AP M_X9_doWork b 176 [x0] (.int (hi k 5) :: st) hi g Φ) : AP M_X9_doWork b 173 [x0] (.ref k :: st) hi g Φ := AP.getI (j := 5) (q := (RX8, TX8, 6)) d_X9_doWork_173 hs (hI.lt hk) rfl (by decide) (by decide) w_301 h
theorem d_X9_doWork_176 : decode cX9_doWork 176 = .ok (.putfield 107, 3) := by decide +kernel
theorem s_X9_doWork_176 {k : Nat} {n : Int32} (hI : am_Inv g) (hs : am_SH k = (0, 6)) (hk : k < 134) (h : AP M_X9_doWork b 179 [x0] (st) (am_up hi k 5 n) g Φ) : AP M_X9_doWork b 176 [x0] (.int n :: .ref k :: st) hi g Φ := AP.putI (j := 5) (q := (RX6, TX6, 8)) d_X9_doWork_176 hs (hI.lt hk) rfl (by decide) rfl rfl w_174 h
theorem d_X9_doWork_179 : decode cX9_doWork 179 = .ok (.iconst 1, 1) := by decide +kernel
theorem s_X9_doWork_179 (h : AP M_X9_doWork b 180 [x0] (.int 1 :: st) hi g Φ) : AP M_X9_doWork b 179 [x0] (st) hi g Φ := AP.iconst (x := 1) d_X9_doWork_179 (by decide) h
theorem d_X9_doWork_180 : decode cX9_doWork 180 = .ok (.ireturn, 1) := by decide +kernel
theorem s_X9_doWork_180 {x : Int32} (hx : x = 0 ∨ x = 1) (h : Φ (.ok (some (.int x))) hi g) : AP M_X9_doWork b 180 [x0] [.int x] hi g Φ := AP.zret d_X9_doWork_180 rfl hx h
theorem d_X9_doWork_181 : decode cX9_doWork 181 = .ok (.aload_n 0, 1) := by decide +kernel
theorem s_X9_doWork_181 {n : Nat} (h : AP M_X9_doWork b 182 [.ref n] (.ref n :: st) hi g Φ) : AP M_X9_doWork b 181 [.ref n] (st) hi g Φ := AP.aload_n (x := n) (i := 0) d_X9_doWork_181 rfl rfl h
theorem d_X9_doWork_182 : decode cX9_doWork 182 = .ok (.aload_n 0, 1) := by decide +kernel
theorem s_X9_doWork_182 {n : Nat} (h : AP M_X9_doWork b 183 [.ref n] (.ref n :: st) hi g Φ) : AP M_X9_doWork b 182 [.ref n] (st) hi g Φ := AP.aload_n (x := n) (i := 0) d_X9_doWork_182 rfl rfl h
theorem d_X9_doWork_183 : decode cX9_doWork 183 = .ok (.getfield 40, 3) := by decide +kernel
theorem s_X9_doWork_183 {k r : Nat} (hI : am_Inv g) (hs : am_SH k = (0, 9)) (hk : k < 134) (hr : am_HRf k 4 = some r) (hn : k ≠ 39) (h : AP M_X9_doWork b 186 [x0] (.ref r :: st) hi g Φ) : AP M_X9_doWork b 183 [x0] (.ref k :: st) hi g Φ := AP.getR (j := 4) (q := (RX9, TX9, 7)) d_X9_doWork_183 hs (hI.lt hk) rfl (by decide) (by decide) w_349 (hI.r hn hr) h
theorem d_X9_doWork_186 : decode cX9_doWork 186 = .ok (.getfield 341, 3) := by decide +kernel
theorem s_X9_doWork_186 {k : Nat} (hI : am_Inv g) (hs : am_SH k = (0, 8)) (hk : k < 134) (h : AP M_X9_doWork b 189 [x0] (.int (hi k 4) :: st) hi g Φ) : AP M_X9_doWork b 186 [x0] (.ref k :: st) hi g Φ := AP.getI (j := 4) (q := (RX8, TX8, 6)) d_X9_doWork_186 hs (hI.lt hk) rfl (by decide) (by decide) w_299 h
theorem d_X9_doWork_189 : decode cX9_doWork 189 = .ok (.aload_n 0, 1) := by decide +kernel
theorem s_X9_doWork_189 {n : Nat} (h : AP M_X9_doWork b 190 [.ref n] (.ref n :: st) hi g Φ) : AP M_X9_doWork b 189 [.ref n] (st) hi g Φ := AP.aload_n (x := n) (i := 0) d_X9_doWork_189 rfl rfl h
theorem d_X9_doWork_190 : decode cX9_doWork 190 = .ok (.getfield 40, 3) := by decide +kernel
theorem s_X9_doWork_190 {k r : Nat} (hI : am_Inv g) (hs : am_SH k = (0, 9)) (hk : k < 134) (hr : am_HRf k 4 = some r) (hn : k ≠ 39) (h : AP M_X9_doWork b 193 [x0] (.ref r :: st) hi g Φ) : AP M_X9_doWork b 190 [x0] (.ref k :: st) hi g Φ := AP.getR (j := 4) (q := (RX9, TX9, 7)) d_X9_doWork_190 hs (hI.lt hk) rfl (by decide) (by decide) w_349 (hI.r hn hr) h
theorem d_X9_doWork_193 : decode cX9_doWork 193 = .ok (.getfield 332, 3) := by decide +kernel
theorem s_X9_doWork_193 {k : Nat} (hI : am_Inv g) (hs : am_SH k = (0, 8)) (hk : k < 134) (h : AP M_X9_doWork b 196 [x0] (.int (hi k 5) :: st) hi g Φ) : AP M_X9_doWork b 193 [x0] (.ref k :: st) hi g Φ := AP.getI (j := 5) (q := (RX8, TX8, 6)) d_X9_doWork_193 hs (hI.lt hk) rfl (by decide) (by decide) w_301 h
theorem d_X9_doWork_196 : decode cX9_doWork 196 = .ok (.invokevirtual 348, 3) := by decide +kernel
theorem s_X9_doWork_196 {a0 : Int32} {a1 : Int32} {k : Nat} {r0 : Int32} {P : am_HI → Prop} (hI : am_Inv g) (hs : am_SH k = (0, 9)) (hk : k < 134) (hst : (st.map Value.category).sum ≤ 8) (hc : am_Cr M_X9_setFirst [.ref k, .int a0, .int a1] hi g (some (.int r0)) P) (h : ∀ hi' : am_HI, P hi' → AP M_X9_doWork b 199 [x0] (.int r0 :: st) hi' g Φ) : AP M_X9_doWork b 196 [x0] (.int a1 :: .int a0 :: .ref k :: st) hi g Φ := AP.callVr (As := [.int a0, .int a1]) (q := (RX9, TX9, 7)) hI hc k_X9_doWork_348 d_X9_doWork_196 rfl hs hk rfl rfl hst h
theorem d_X9_doWork_199 : decode cX9_doWork 199 = .ok (.ireturn, 1) := by decide +kernel
theorem s_X9_doWork_199 {x : Int32} (hx : x = 0 ∨ x = 1) (h : Φ (.ok (some (.int x))) hi g) : AP M_X9_doWork b 199 [x0] [.int x] hi g Φ := AP.zret d_X9_doWork_199 rfl hx h
theorem d_X9_doWork_200 : decode cX9_doWork 200 = .ok (.aload_n 0, 1) := by decide +kernel
theorem s_X9_doWork_200 {n : Nat} (h : AP M_X9_doWork b 201 [.ref n] (.ref n :: st) hi g Φ) : AP M_X9_doWork b 200 [.ref n] (st) hi g Φ := AP.aload_n (x := n) (i := 0) d_X9_doWork_200 rfl rfl h
theorem d_X9_doWork_201 : decode cX9_doWork 201 = .ok (.getfield 20, 3) := by decide +kernel
theorem s_X9_doWork_201 {k r : Nat} (hI : am_Inv g) (hs : am_SH k = (0, 9)) (hk : k < 134) (hr : am_HRf k 1 = some r) (hn : k ≠ 39) (h : AP M_X9_doWork b 204 [x0] (.ref r :: st) hi g Φ) : AP M_X9_doWork b 201 [x0] (.ref k :: st) hi g Φ := AP.getR (j := 1) (q := (RX9, TX9, 7)) d_X9_doWork_201 hs (hI.lt hk) rfl (by decide) (by decide) w_346 (hI.r hn hr) h
theorem d_X9_doWork_204 : decode cX9_doWork 204 = .ok (.iconst 0, 1) := by decide +kernel
theorem s_X9_doWork_204 (h : AP M_X9_doWork b 205 [x0] (.int 0 :: st) hi g Φ) : AP M_X9_doWork b 204 [x0] (st) hi g Φ := AP.iconst (x := 0) d_X9_doWork_204 (by decide) h
theorem d_X9_doWork_205 : decode cX9_doWork 205 = .ok (.putfield 83, 3) := by decide +kernel
theorem s_X9_doWork_205 {k : Nat} {n : Int32} (hI : am_Inv g) (hs : am_SH k = (0, 6)) (hk : k < 134) (h : AP M_X9_doWork b 208 [x0] (st) (am_up hi k 3 n) g Φ) : AP M_X9_doWork b 205 [x0] (.int n :: .ref k :: st) hi g Φ := AP.putI (j := 3) (q := (RX6, TX6, 8)) d_X9_doWork_205 hs (hI.lt hk) rfl (by decide) rfl rfl w_168 h
theorem d_X9_doWork_208 : decode cX9_doWork 208 = .ok (.iconst 1, 1) := by decide +kernel
theorem s_X9_doWork_208 (h : AP M_X9_doWork b 209 [x0] (.int 1 :: st) hi g Φ) : AP M_X9_doWork b 208 [x0] (st) hi g Φ := AP.iconst (x := 1) d_X9_doWork_208 (by decide) h
theorem d_X9_doWork_209 : decode cX9_doWork 209 = .ok (.ireturn, 1) := by decide +kernel
theorem s_X9_doWork_209 {x : Int32} (hx : x = 0 ∨ x = 1) (h : Φ (.ok (some (.int x))) hi g) : AP M_X9_doWork b 209 [x0] [.int x] hi g Φ := AP.zret d_X9_doWork_209 rfl hx h
theorem d_X9_doWork_210 : decode cX9_doWork 210 = .ok (.iconst 0, 1) := by decide +kernel
theorem s_X9_doWork_210 (h : AP M_X9_doWork b 211 [x0] (.int 0 :: st) hi g Φ) : AP M_X9_doWork b 210 [x0] (st) hi g Φ := AP.iconst (x := 0) d_X9_doWork_210 (by decide) h
theorem d_X9_doWork_211 : decode cX9_doWork 211 = .ok (.ireturn, 1) := by decide +kernel
theorem s_X9_doWork_211 {x : Int32} (hx : x = 0 ∨ x = 1) (h : Φ (.ok (some (.int x))) hi g) : AP M_X9_doWork b 211 [x0] [.int x] hi g Φ := AP.zret d_X9_doWork_211 rfl hx h
end
section
variable {b : Nat × Nat} {st : List Value} {hi : am_HI} {g : am_G} {Φ : am_P} {x0 x1 x2 x3 x4 x5 : Value}
theorem d_X9_hashOfAll_0 : decode cX9_hashOfAll 0 = .ok (.lload_n 1, 1) := by decide +kernel
theorem s_X9_hashOfAll_0 {n : Int64} (h : AP M_X9_hashOfAll b 1 [x0, .long n, x2, x3, x4, x5] (.long n :: st) hi g Φ) : AP M_X9_hashOfAll b 0 [x0, .long n, x2, x3, x4, x5] (st) hi g Φ := AP.lload_n (x := n) (i := 1) d_X9_hashOfAll_0 rfl rfl h
theorem d_X9_hashOfAll_1 : decode cX9_hashOfAll 1 = .ok (.aload_n 0, 1) := by decide +kernel
theorem s_X9_hashOfAll_1 {n : Nat} (h : AP M_X9_hashOfAll b 2 [.ref n, x1, x2, x3, x4, x5] (.ref n :: st) hi g Φ) : AP M_X9_hashOfAll b 1 [.ref n, x1, x2, x3, x4, x5] (st) hi g Φ := AP.aload_n (x := n) (i := 0) d_X9_hashOfAll_1 rfl rfl h
theorem d_X9_hashOfAll_2 : decode cX9_hashOfAll 2 = .ok (.getfield 20, 3) := by decide +kernel
theorem s_X9_hashOfAll_2 {k r : Nat} (hI : am_Inv g) (hs : am_SH k = (0, 9)) (hk : k < 134) (hr : am_HRf k 1 = some r) (hn : k ≠ 39) (h : AP M_X9_hashOfAll b 5 [x0, x1, x2, x3, x4, x5] (.ref r :: st) hi g Φ) : AP M_X9_hashOfAll b 2 [x0, x1, x2, x3, x4, x5] (.ref k :: st) hi g Φ := AP.getR (j := 1) (q := (RX9, TX9, 7)) d_X9_hashOfAll_2 hs (hI.lt hk) rfl (by decide) (by decide) w_346 (hI.r hn hr) h
theorem d_X9_hashOfAll_5 : decode cX9_hashOfAll 5 = .ok (.getfield 83, 3) := by decide +kernel
theorem s_X9_hashOfAll_5 {k : Nat} (hI : am_Inv g) (hs : am_SH k = (0, 6)) (hk : k < 134) (h : AP M_X9_hashOfAll b 8 [x0, x1, x2, x3, x4, x5] (.int (hi k 3) :: st) hi g Φ) : AP M_X9_hashOfAll b 5 [x0, x1, x2, x3, x4, x5] (.ref k :: st) hi g Φ := AP.getI (j := 3) (q := (RX6, TX6, 8)) d_X9_hashOfAll_5 hs (hI.lt hk) rfl (by decide) (by decide) w_168 h
theorem d_X9_hashOfAll_8 : decode cX9_hashOfAll 8 = .ok (.i2l, 1) := by decide +kernel
theorem s_X9_hashOfAll_8 {x : Int32} (h : AP M_X9_hashOfAll b 9 [x0, x1, x2, x3, x4, x5] (.long x.toInt64 :: st) hi g Φ) : AP M_X9_hashOfAll b 8 [x0, x1, x2, x3, x4, x5] (.int x :: st) hi g Φ := AP.i2l d_X9_hashOfAll_8 h
theorem d_X9_hashOfAll_9 : decode cX9_hashOfAll 9 = .ok (.invokestatic 353, 3) := by decide +kernel
theorem s_X9_hashOfAll_9 {a0 : Int64} {a1 : Int64} {r0 : Int64} {P : am_HI → Prop} (hI : am_Inv g) (hst : (st.map Value.category).sum ≤ 8) (hc : am_Cr M_X9_mix [.long a0, .long a1] hi g (some (.long r0)) P) (h : ∀ hi' : am_HI, P hi' → AP M_X9_hashOfAll b 12 [x0, x1, x2, x3, x4, x5] (.long r0 :: st) hi' g Φ) : AP M_X9_hashOfAll b 9 [x0, x1, x2, x3, x4, x5] (.long a1 :: .long a0 :: st) hi g Φ := AP.callSr (As := [.long a0, .long a1]) hI hc k_X9_hashOfAll_353 d_X9_hashOfAll_9 rfl hst h
theorem d_X9_hashOfAll_12 : decode cX9_hashOfAll 12 = .ok (.lstore_n 3, 1) := by decide +kernel
theorem s_X9_hashOfAll_12 {n : Int64} (hc : x2.category = 1) (h : AP M_X9_hashOfAll b 13 [x0, x1, x2, .long n, jk, x5] (st) hi g Φ) : AP M_X9_hashOfAll b 12 [x0, x1, x2, x3, x4, x5] (.long n :: st) hi g Φ := AP.lstore_n (x := n) (i := 3) d_X9_hashOfAll_12 rfl (by decide) (by simp [am_st, am_ci, am_cr, am_cl, am_cd, hc]) h
theorem d_X9_hashOfAll_13 : decode cX9_hashOfAll 13 = .ok (.lload_n 3, 1) := by decide +kernel
theorem s_X9_hashOfAll_13 {n : Int64} (h : AP M_X9_hashOfAll b 14 [x0, x1, x2, .long n, x4, x5] (.long n :: st) hi g Φ) : AP M_X9_hashOfAll b 13 [x0, x1, x2, .long n, x4, x5] (st) hi g Φ := AP.lload_n (x := n) (i := 3) d_X9_hashOfAll_13 rfl rfl h
theorem d_X9_hashOfAll_14 : decode cX9_hashOfAll 14 = .ok (.aload_n 0, 1) := by decide +kernel
theorem s_X9_hashOfAll_14 {n : Nat} (h : AP M_X9_hashOfAll b 15 [.ref n, x1, x2, x3, x4, x5] (.ref n :: st) hi g Φ) : AP M_X9_hashOfAll b 14 [.ref n, x1, x2, x3, x4, x5] (st) hi g Φ := AP.aload_n (x := n) (i := 0) d_X9_hashOfAll_14 rfl rfl h
theorem d_X9_hashOfAll_15 : decode cX9_hashOfAll 15 = .ok (.getfield 20, 3) := by decide +kernel
theorem s_X9_hashOfAll_15 {k r : Nat} (hI : am_Inv g) (hs : am_SH k = (0, 9)) (hk : k < 134) (hr : am_HRf k 1 = some r) (hn : k ≠ 39) (h : AP M_X9_hashOfAll b 18 [x0, x1, x2, x3, x4, x5] (.ref r :: st) hi g Φ) : AP M_X9_hashOfAll b 15 [x0, x1, x2, x3, x4, x5] (.ref k :: st) hi g Φ := AP.getR (j := 1) (q := (RX9, TX9, 7)) d_X9_hashOfAll_15 hs (hI.lt hk) rfl (by decide) (by decide) w_346 (hI.r hn hr) h
theorem d_X9_hashOfAll_18 : decode cX9_hashOfAll 18 = .ok (.getfield 104, 3) := by decide +kernel
theorem s_X9_hashOfAll_18 {k : Nat} (hI : am_Inv g) (hs : am_SH k = (0, 6)) (hk : k < 134) (h : AP M_X9_hashOfAll b 21 [x0, x1, x2, x3, x4, x5] (.int (hi k 4) :: st) hi g Φ) : AP M_X9_hashOfAll b 18 [x0, x1, x2, x3, x4, x5] (.ref k :: st) hi g Φ := AP.getI (j := 4) (q := (RX6, TX6, 8)) d_X9_hashOfAll_18 hs (hI.lt hk) rfl (by decide) (by decide) w_171 h
theorem d_X9_hashOfAll_21 : decode cX9_hashOfAll 21 = .ok (.i2l, 1) := by decide +kernel
theorem s_X9_hashOfAll_21 {x : Int32} (h : AP M_X9_hashOfAll b 22 [x0, x1, x2, x3, x4, x5] (.long x.toInt64 :: st) hi g Φ) : AP M_X9_hashOfAll b 21 [x0, x1, x2, x3, x4, x5] (.int x :: st) hi g Φ := AP.i2l d_X9_hashOfAll_21 h
theorem d_X9_hashOfAll_22 : decode cX9_hashOfAll 22 = .ok (.invokestatic 353, 3) := by decide +kernel
theorem s_X9_hashOfAll_22 {a0 : Int64} {a1 : Int64} {r0 : Int64} {P : am_HI → Prop} (hI : am_Inv g) (hst : (st.map Value.category).sum ≤ 8) (hc : am_Cr M_X9_mix [.long a0, .long a1] hi g (some (.long r0)) P) (h : ∀ hi' : am_HI, P hi' → AP M_X9_hashOfAll b 25 [x0, x1, x2, x3, x4, x5] (.long r0 :: st) hi' g Φ) : AP M_X9_hashOfAll b 22 [x0, x1, x2, x3, x4, x5] (.long a1 :: .long a0 :: st) hi g Φ := AP.callSr (As := [.long a0, .long a1]) hI hc k_X9_hashOfAll_353 d_X9_hashOfAll_22 rfl hst h
theorem d_X9_hashOfAll_25 : decode cX9_hashOfAll 25 = .ok (.lstore_n 3, 1) := by decide +kernel
theorem s_X9_hashOfAll_25 {n : Int64} (hc : x2.category = 1) (h : AP M_X9_hashOfAll b 26 [x0, x1, x2, .long n, jk, x5] (st) hi g Φ) : AP M_X9_hashOfAll b 25 [x0, x1, x2, x3, x4, x5] (.long n :: st) hi g Φ := AP.lstore_n (x := n) (i := 3) d_X9_hashOfAll_25 rfl (by decide) (by simp [am_st, am_ci, am_cr, am_cl, am_cd, hc]) h
theorem d_X9_hashOfAll_26 : decode cX9_hashOfAll 26 = .ok (.lload_n 3, 1) := by decide +kernel
theorem s_X9_hashOfAll_26 {n : Int64} (h : AP M_X9_hashOfAll b 27 [x0, x1, x2, .long n, x4, x5] (.long n :: st) hi g Φ) : AP M_X9_hashOfAll b 26 [x0, x1, x2, .long n, x4, x5] (st) hi g Φ := AP.lload_n (x := n) (i := 3) d_X9_hashOfAll_26 rfl rfl h
theorem d_X9_hashOfAll_27 : decode cX9_hashOfAll 27 = .ok (.aload_n 0, 1) := by decide +kernel
theorem s_X9_hashOfAll_27 {n : Nat} (h : AP M_X9_hashOfAll b 28 [.ref n, x1, x2, x3, x4, x5] (.ref n :: st) hi g Φ) : AP M_X9_hashOfAll b 27 [.ref n, x1, x2, x3, x4, x5] (st) hi g Φ := AP.aload_n (x := n) (i := 0) d_X9_hashOfAll_27 rfl rfl h
theorem d_X9_hashOfAll_28 : decode cX9_hashOfAll 28 = .ok (.getfield 20, 3) := by decide +kernel
theorem s_X9_hashOfAll_28 {k r : Nat} (hI : am_Inv g) (hs : am_SH k = (0, 9)) (hk : k < 134) (hr : am_HRf k 1 = some r) (hn : k ≠ 39) (h : AP M_X9_hashOfAll b 31 [x0, x1, x2, x3, x4, x5] (.ref r :: st) hi g Φ) : AP M_X9_hashOfAll b 28 [x0, x1, x2, x3, x4, x5] (.ref k :: st) hi g Φ := AP.getR (j := 1) (q := (RX9, TX9, 7)) d_X9_hashOfAll_28 hs (hI.lt hk) rfl (by decide) (by decide) w_346 (hI.r hn hr) h
theorem d_X9_hashOfAll_31 : decode cX9_hashOfAll 31 = .ok (.getfield 107, 3) := by decide +kernel
theorem s_X9_hashOfAll_31 {k : Nat} (hI : am_Inv g) (hs : am_SH k = (0, 6)) (hk : k < 134) (h : AP M_X9_hashOfAll b 34 [x0, x1, x2, x3, x4, x5] (.int (hi k 5) :: st) hi g Φ) : AP M_X9_hashOfAll b 31 [x0, x1, x2, x3, x4, x5] (.ref k :: st) hi g Φ := AP.getI (j := 5) (q := (RX6, TX6, 8)) d_X9_hashOfAll_31 hs (hI.lt hk) rfl (by decide) (by decide) w_174 h
theorem d_X9_hashOfAll_34 : decode cX9_hashOfAll 34 = .ok (.i2l, 1) := by decide +kernel
theorem s_X9_hashOfAll_34 {x : Int32} (h : AP M_X9_hashOfAll b 35 [x0, x1, x2, x3, x4, x5] (.long x.toInt64 :: st) hi g Φ) : AP M_X9_hashOfAll b 34 [x0, x1, x2, x3, x4, x5] (.int x :: st) hi g Φ := AP.i2l d_X9_hashOfAll_34 h
theorem d_X9_hashOfAll_35 : decode cX9_hashOfAll 35 = .ok (.invokestatic 353, 3) := by decide +kernel
theorem s_X9_hashOfAll_35 {a0 : Int64} {a1 : Int64} {r0 : Int64} {P : am_HI → Prop} (hI : am_Inv g) (hst : (st.map Value.category).sum ≤ 8) (hc : am_Cr M_X9_mix [.long a0, .long a1] hi g (some (.long r0)) P) (h : ∀ hi' : am_HI, P hi' → AP M_X9_hashOfAll b 38 [x0, x1, x2, x3, x4, x5] (.long r0 :: st) hi' g Φ) : AP M_X9_hashOfAll b 35 [x0, x1, x2, x3, x4, x5] (.long a1 :: .long a0 :: st) hi g Φ := AP.callSr (As := [.long a0, .long a1]) hI hc k_X9_hashOfAll_353 d_X9_hashOfAll_35 rfl hst h
theorem d_X9_hashOfAll_38 : decode cX9_hashOfAll 38 = .ok (.lstore_n 3, 1) := by decide +kernel
theorem s_X9_hashOfAll_38 {n : Int64} (hc : x2.category = 1) (h : AP M_X9_hashOfAll b 39 [x0, x1, x2, .long n, jk, x5] (st) hi g Φ) : AP M_X9_hashOfAll b 38 [x0, x1, x2, x3, x4, x5] (.long n :: st) hi g Φ := AP.lstore_n (x := n) (i := 3) d_X9_hashOfAll_38 rfl (by decide) (by simp [am_st, am_ci, am_cr, am_cl, am_cd, hc]) h
theorem d_X9_hashOfAll_39 : decode cX9_hashOfAll 39 = .ok (.lload_n 3, 1) := by decide +kernel
theorem s_X9_hashOfAll_39 {n : Int64} (h : AP M_X9_hashOfAll b 40 [x0, x1, x2, .long n, x4, x5] (.long n :: st) hi g Φ) : AP M_X9_hashOfAll b 39 [x0, x1, x2, .long n, x4, x5] (st) hi g Φ := AP.lload_n (x := n) (i := 3) d_X9_hashOfAll_39 rfl rfl h
theorem d_X9_hashOfAll_40 : decode cX9_hashOfAll 40 = .ok (.aload_n 0, 1) := by decide +kernel
theorem s_X9_hashOfAll_40 {n : Nat} (h : AP M_X9_hashOfAll b 41 [.ref n, x1, x2, x3, x4, x5] (.ref n :: st) hi g Φ) : AP M_X9_hashOfAll b 40 [.ref n, x1, x2, x3, x4, x5] (st) hi g Φ := AP.aload_n (x := n) (i := 0) d_X9_hashOfAll_40 rfl rfl h
theorem d_X9_hashOfAll_41 : decode cX9_hashOfAll 41 = .ok (.getfield 20, 3) := by decide +kernel
theorem s_X9_hashOfAll_41 {k r : Nat} (hI : am_Inv g) (hs : am_SH k = (0, 9)) (hk : k < 134) (hr : am_HRf k 1 = some r) (hn : k ≠ 39) (h : AP M_X9_hashOfAll b 44 [x0, x1, x2, x3, x4, x5] (.ref r :: st) hi g Φ) : AP M_X9_hashOfAll b 41 [x0, x1, x2, x3, x4, x5] (.ref k :: st) hi g Φ := AP.getR (j := 1) (q := (RX9, TX9, 7)) d_X9_hashOfAll_41 hs (hI.lt hk) rfl (by decide) (by decide) w_346 (hI.r hn hr) h
theorem d_X9_hashOfAll_44 : decode cX9_hashOfAll 44 = .ok (.getfield 148, 3) := by decide +kernel
theorem s_X9_hashOfAll_44 {k : Nat} (hI : am_Inv g) (hs : am_SH k = (0, 6)) (hk : k < 134) (h : AP M_X9_hashOfAll b 47 [x0, x1, x2, x3, x4, x5] (.int (hi k 6) :: st) hi g Φ) : AP M_X9_hashOfAll b 44 [x0, x1, x2, x3, x4, x5] (.ref k :: st) hi g Φ := AP.getI (j := 6) (q := (RX6, TX6, 8)) d_X9_hashOfAll_44 hs (hI.lt hk) rfl (by decide) (by decide) w_176 h
theorem d_X9_hashOfAll_47 : decode cX9_hashOfAll 47 = .ok (.i2l, 1) := by decide +kernel
theorem s_X9_hashOfAll_47 {x : Int32} (h : AP M_X9_hashOfAll b 48 [x0, x1, x2, x3, x4, x5] (.long x.toInt64 :: st) hi g Φ) : AP M_X9_hashOfAll b 47 [x0, x1, x2, x3, x4, x5] (.int x :: st) hi g Φ := AP.i2l d_X9_hashOfAll_47 h
theorem d_X9_hashOfAll_48 : decode cX9_hashOfAll 48 = .ok (.invokestatic 353, 3) := by decide +kernel
theorem s_X9_hashOfAll_48 {a0 : Int64} {a1 : Int64} {r0 : Int64} {P : am_HI → Prop} (hI : am_Inv g) (hst : (st.map Value.category).sum ≤ 8) (hc : am_Cr M_X9_mix [.long a0, .long a1] hi g (some (.long r0)) P) (h : ∀ hi' : am_HI, P hi' → AP M_X9_hashOfAll b 51 [x0, x1, x2, x3, x4, x5] (.long r0 :: st) hi' g Φ) : AP M_X9_hashOfAll b 48 [x0, x1, x2, x3, x4, x5] (.long a1 :: .long a0 :: st) hi g Φ := AP.callSr (As := [.long a0, .long a1]) hI hc k_X9_hashOfAll_353 d_X9_hashOfAll_48 rfl hst h
theorem d_X9_hashOfAll_51 : decode cX9_hashOfAll 51 = .ok (.lstore_n 3, 1) := by decide +kernel
theorem s_X9_hashOfAll_51 {n : Int64} (hc : x2.category = 1) (h : AP M_X9_hashOfAll b 52 [x0, x1, x2, .long n, jk, x5] (st) hi g Φ) : AP M_X9_hashOfAll b 51 [x0, x1, x2, x3, x4, x5] (.long n :: st) hi g Φ := AP.lstore_n (x := n) (i := 3) d_X9_hashOfAll_51 rfl (by decide) (by simp [am_st, am_ci, am_cr, am_cl, am_cd, hc]) h
theorem d_X9_hashOfAll_52 : decode cX9_hashOfAll 52 = .ok (.lload_n 3, 1) := by decide +kernel
theorem s_X9_hashOfAll_52 {n : Int64} (h : AP M_X9_hashOfAll b 53 [x0, x1, x2, .long n, x4, x5] (.long n :: st) hi g Φ) : AP M_X9_hashOfAll b 52 [x0, x1, x2, .long n, x4, x5] (st) hi g Φ := AP.lload_n (x := n) (i := 3) d_X9_hashOfAll_52 rfl rfl h
theorem d_X9_hashOfAll_53 : decode cX9_hashOfAll 53 = .ok (.aload_n 0, 1) := by decide +kernel
theorem s_X9_hashOfAll_53 {n : Nat} (h : AP M_X9_hashOfAll b 54 [.ref n, x1, x2, x3, x4, x5] (.ref n :: st) hi g Φ) : AP M_X9_hashOfAll b 53 [.ref n, x1, x2, x3, x4, x5] (st) hi g Φ := AP.aload_n (x := n) (i := 0) d_X9_hashOfAll_53 rfl rfl h
theorem d_X9_hashOfAll_54 : decode cX9_hashOfAll 54 = .ok (.getfield 12, 3) := by decide +kernel
theorem s_X9_hashOfAll_54 {k r : Nat} (hI : am_Inv g) (hs : am_SH k = (0, 9)) (hk : k < 134) (hr : am_HRf k 0 = some r) (hn : k ≠ 39) (h : AP M_X9_hashOfAll b 57 [x0, x1, x2, x3, x4, x5] (.ref r :: st) hi g Φ) : AP M_X9_hashOfAll b 54 [x0, x1, x2, x3, x4, x5] (.ref k :: st) hi g Φ := AP.getR (j := 0) (q := (RX9, TX9, 7)) d_X9_hashOfAll_54 hs (hI.lt hk) rfl (by decide) (by decide) w_345 (hI.r hn hr) h
theorem d_X9_hashOfAll_57 : decode cX9_hashOfAll 57 = .ok (.invokevirtual 204, 3) := by decide +kernel
theorem s_X9_hashOfAll_57  {k : Nat} {r0 : Int32} {P : am_HI → Prop} (hI : am_Inv g) (hs : am_SH k = (0, 7)) (hk : k < 134) (hst : (st.map Value.category).sum ≤ 8) (hc : am_Cr M_X7_sumOfBlocks [.ref k] hi g (some (.int r0)) P) (h : ∀ hi' : am_HI, P hi' → AP M_X9_hashOfAll b 60 [x0, x1, x2, x3, x4, x5] (.int r0 :: st) hi' g Φ) : AP M_X9_hashOfAll b 57 [x0, x1, x2, x3, x4, x5] (.ref k :: st) hi g Φ := AP.callVr (As := []) (q := (RX7, TX7, 7)) hI hc k_X9_hashOfAll_204 d_X9_hashOfAll_57 rfl hs hk rfl rfl hst h
theorem d_X9_hashOfAll_60 : decode cX9_hashOfAll 60 = .ok (.i2l, 1) := by decide +kernel
theorem s_X9_hashOfAll_60 {x : Int32} (h : AP M_X9_hashOfAll b 61 [x0, x1, x2, x3, x4, x5] (.long x.toInt64 :: st) hi g Φ) : AP M_X9_hashOfAll b 60 [x0, x1, x2, x3, x4, x5] (.int x :: st) hi g Φ := AP.i2l d_X9_hashOfAll_60 h
theorem d_X9_hashOfAll_61 : decode cX9_hashOfAll 61 = .ok (.invokestatic 353, 3) := by decide +kernel
theorem s_X9_hashOfAll_61 {a0 : Int64} {a1 : Int64} {r0 : Int64} {P : am_HI → Prop} (hI : am_Inv g) (hst : (st.map Value.category).sum ≤ 8) (hc : am_Cr M_X9_mix [.long a0, .long a1] hi g (some (.long r0)) P) (h : ∀ hi' : am_HI, P hi' → AP M_X9_hashOfAll b 64 [x0, x1, x2, x3, x4, x5] (.long r0 :: st) hi' g Φ) : AP M_X9_hashOfAll b 61 [x0, x1, x2, x3, x4, x5] (.long a1 :: .long a0 :: st) hi g Φ := AP.callSr (As := [.long a0, .long a1]) hI hc k_X9_hashOfAll_353 d_X9_hashOfAll_61 rfl hst h
theorem d_X9_hashOfAll_64 : decode cX9_hashOfAll 64 = .ok (.lstore_n 3, 1) := by decide +kernel
theorem s_X9_hashOfAll_64 {n : Int64} (hc : x2.category = 1) (h : AP M_X9_hashOfAll b 65 [x0, x1, x2, .long n, jk, x5] (st) hi g Φ) : AP M_X9_hashOfAll b 64 [x0, x1, x2, x3, x4, x5] (.long n :: st) hi g Φ := AP.lstore_n (x := n) (i := 3) d_X9_hashOfAll_64 rfl (by decide) (by simp [am_st, am_ci, am_cr, am_cl, am_cd, hc]) h
theorem d_X9_hashOfAll_65 : decode cX9_hashOfAll 65 = .ok (.lload_n 3, 1) := by decide +kernel
theorem s_X9_hashOfAll_65 {n : Int64} (h : AP M_X9_hashOfAll b 66 [x0, x1, x2, .long n, x4, x5] (.long n :: st) hi g Φ) : AP M_X9_hashOfAll b 65 [x0, x1, x2, .long n, x4, x5] (st) hi g Φ := AP.lload_n (x := n) (i := 3) d_X9_hashOfAll_65 rfl rfl h
theorem d_X9_hashOfAll_66 : decode cX9_hashOfAll 66 = .ok (.aload_n 0, 1) := by decide +kernel
theorem s_X9_hashOfAll_66 {n : Nat} (h : AP M_X9_hashOfAll b 67 [.ref n, x1, x2, x3, x4, x5] (.ref n :: st) hi g Φ) : AP M_X9_hashOfAll b 66 [.ref n, x1, x2, x3, x4, x5] (st) hi g Φ := AP.aload_n (x := n) (i := 0) d_X9_hashOfAll_66 rfl rfl h
theorem d_X9_hashOfAll_67 : decode cX9_hashOfAll 67 = .ok (.getfield 12, 3) := by decide +kernel
theorem s_X9_hashOfAll_67 {k r : Nat} (hI : am_Inv g) (hs : am_SH k = (0, 9)) (hk : k < 134) (hr : am_HRf k 0 = some r) (hn : k ≠ 39) (h : AP M_X9_hashOfAll b 70 [x0, x1, x2, x3, x4, x5] (.ref r :: st) hi g Φ) : AP M_X9_hashOfAll b 67 [x0, x1, x2, x3, x4, x5] (.ref k :: st) hi g Φ := AP.getR (j := 0) (q := (RX9, TX9, 7)) d_X9_hashOfAll_67 hs (hI.lt hk) rfl (by decide) (by decide) w_345 (hI.r hn hr) h
theorem d_X9_hashOfAll_70 : decode cX9_hashOfAll 70 = .ok (.invokevirtual 177, 3) := by decide +kernel
theorem s_X9_hashOfAll_70  {k : Nat} {r0 : Int32} {P : am_HI → Prop} (hI : am_Inv g) (hs : am_SH k = (0, 7)) (hk : k < 134) (hst : (st.map Value.category).sum ≤ 8) (hc : am_Cr M_X7_findDelay [.ref k] hi g (some (.int r0)) P) (h : ∀ hi' : am_HI, P hi' → AP M_X9_hashOfAll b 73 [x0, x1, x2, x3, x4, x5] (.int r0 :: st) hi' g Φ) : AP M_X9_hashOfAll b 70 [x0, x1, x2, x3, x4, x5] (.ref k :: st) hi g Φ := AP.callVr (As := []) (q := (RX7, TX7, 7)) hI hc k_X9_hashOfAll_177 d_X9_hashOfAll_70 rfl hs hk rfl rfl hst h
theorem d_X9_hashOfAll_73 : decode cX9_hashOfAll 73 = .ok (.i2l, 1) := by decide +kernel
theorem s_X9_hashOfAll_73 {x : Int32} (h : AP M_X9_hashOfAll b 74 [x0, x1, x2, x3, x4, x5] (.long x.toInt64 :: st) hi g Φ) : AP M_X9_hashOfAll b 73 [x0, x1, x2, x3, x4, x5] (.int x :: st) hi g Φ := AP.i2l d_X9_hashOfAll_73 h
theorem d_X9_hashOfAll_74 : decode cX9_hashOfAll 74 = .ok (.invokestatic 353, 3) := by decide +kernel
theorem s_X9_hashOfAll_74 {a0 : Int64} {a1 : Int64} {r0 : Int64} {P : am_HI → Prop} (hI : am_Inv g) (hst : (st.map Value.category).sum ≤ 8) (hc : am_Cr M_X9_mix [.long a0, .long a1] hi g (some (.long r0)) P) (h : ∀ hi' : am_HI, P hi' → AP M_X9_hashOfAll b 77 [x0, x1, x2, x3, x4, x5] (.long r0 :: st) hi' g Φ) : AP M_X9_hashOfAll b 74 [x0, x1, x2, x3, x4, x5] (.long a1 :: .long a0 :: st) hi g Φ := AP.callSr (As := [.long a0, .long a1]) hI hc k_X9_hashOfAll_353 d_X9_hashOfAll_74 rfl hst h
theorem d_X9_hashOfAll_77 : decode cX9_hashOfAll 77 = .ok (.lstore_n 3, 1) := by decide +kernel
theorem s_X9_hashOfAll_77 {n : Int64} (hc : x2.category = 1) (h : AP M_X9_hashOfAll b 78 [x0, x1, x2, .long n, jk, x5] (st) hi g Φ) : AP M_X9_hashOfAll b 77 [x0, x1, x2, x3, x4, x5] (.long n :: st) hi g Φ := AP.lstore_n (x := n) (i := 3) d_X9_hashOfAll_77 rfl (by decide) (by simp [am_st, am_ci, am_cr, am_cl, am_cd, hc]) h
theorem d_X9_hashOfAll_78 : decode cX9_hashOfAll 78 = .ok (.lload_n 3, 1) := by decide +kernel
theorem s_X9_hashOfAll_78 {n : Int64} (h : AP M_X9_hashOfAll b 79 [x0, x1, x2, .long n, x4, x5] (.long n :: st) hi g Φ) : AP M_X9_hashOfAll b 78 [x0, x1, x2, .long n, x4, x5] (st) hi g Φ := AP.lload_n (x := n) (i := 3) d_X9_hashOfAll_78 rfl rfl h
theorem d_X9_hashOfAll_79 : decode cX9_hashOfAll 79 = .ok (.aload_n 0, 1) := by decide +kernel
theorem s_X9_hashOfAll_79 {n : Nat} (h : AP M_X9_hashOfAll b 80 [.ref n, x1, x2, x3, x4, x5] (.ref n :: st) hi g Φ) : AP M_X9_hashOfAll b 79 [.ref n, x1, x2, x3, x4, x5] (st) hi g Φ := AP.aload_n (x := n) (i := 0) d_X9_hashOfAll_79 rfl rfl h
theorem d_X9_hashOfAll_80 : decode cX9_hashOfAll 80 = .ok (.getfield 12, 3) := by decide +kernel
theorem s_X9_hashOfAll_80 {k r : Nat} (hI : am_Inv g) (hs : am_SH k = (0, 9)) (hk : k < 134) (hr : am_HRf k 0 = some r) (hn : k ≠ 39) (h : AP M_X9_hashOfAll b 83 [x0, x1, x2, x3, x4, x5] (.ref r :: st) hi g Φ) : AP M_X9_hashOfAll b 80 [x0, x1, x2, x3, x4, x5] (.ref k :: st) hi g Φ := AP.getR (j := 0) (q := (RX9, TX9, 7)) d_X9_hashOfAll_80 hs (hI.lt hk) rfl (by decide) (by decide) w_345 (hI.r hn hr) h
theorem d_X9_hashOfAll_83 : decode cX9_hashOfAll 83 = .ok (.invokevirtual 180, 3) := by decide +kernel
theorem s_X9_hashOfAll_83  {k : Nat} {r0 : Int32} {P : am_HI → Prop} (hI : am_Inv g) (hs : am_SH k = (0, 7)) (hk : k < 134) (hst : (st.map Value.category).sum ≤ 8) (hc : am_Cr M_X7_findSpeed [.ref k] hi g (some (.int r0)) P) (h : ∀ hi' : am_HI, P hi' → AP M_X9_hashOfAll b 86 [x0, x1, x2, x3, x4, x5] (.int r0 :: st) hi' g Φ) : AP M_X9_hashOfAll b 83 [x0, x1, x2, x3, x4, x5] (.ref k :: st) hi g Φ := AP.callVr (As := []) (q := (RX7, TX7, 7)) hI hc k_X9_hashOfAll_180 d_X9_hashOfAll_83 rfl hs hk rfl rfl hst h
theorem d_X9_hashOfAll_86 : decode cX9_hashOfAll 86 = .ok (.i2l, 1) := by decide +kernel
theorem s_X9_hashOfAll_86 {x : Int32} (h : AP M_X9_hashOfAll b 87 [x0, x1, x2, x3, x4, x5] (.long x.toInt64 :: st) hi g Φ) : AP M_X9_hashOfAll b 86 [x0, x1, x2, x3, x4, x5] (.int x :: st) hi g Φ := AP.i2l d_X9_hashOfAll_86 h
theorem d_X9_hashOfAll_87 : decode cX9_hashOfAll 87 = .ok (.invokestatic 353, 3) := by decide +kernel
theorem s_X9_hashOfAll_87 {a0 : Int64} {a1 : Int64} {r0 : Int64} {P : am_HI → Prop} (hI : am_Inv g) (hst : (st.map Value.category).sum ≤ 8) (hc : am_Cr M_X9_mix [.long a0, .long a1] hi g (some (.long r0)) P) (h : ∀ hi' : am_HI, P hi' → AP M_X9_hashOfAll b 90 [x0, x1, x2, x3, x4, x5] (.long r0 :: st) hi' g Φ) : AP M_X9_hashOfAll b 87 [x0, x1, x2, x3, x4, x5] (.long a1 :: .long a0 :: st) hi g Φ := AP.callSr (As := [.long a0, .long a1]) hI hc k_X9_hashOfAll_353 d_X9_hashOfAll_87 rfl hst h
theorem d_X9_hashOfAll_90 : decode cX9_hashOfAll 90 = .ok (.lstore_n 3, 1) := by decide +kernel
theorem s_X9_hashOfAll_90 {n : Int64} (hc : x2.category = 1) (h : AP M_X9_hashOfAll b 91 [x0, x1, x2, .long n, jk, x5] (st) hi g Φ) : AP M_X9_hashOfAll b 90 [x0, x1, x2, x3, x4, x5] (.long n :: st) hi g Φ := AP.lstore_n (x := n) (i := 3) d_X9_hashOfAll_90 rfl (by decide) (by simp [am_st, am_ci, am_cr, am_cl, am_cd, hc]) h
theorem d_X9_hashOfAll_91 : decode cX9_hashOfAll 91 = .ok (.lload_n 3, 1) := by decide +kernel
theorem s_X9_hashOfAll_91 {n : Int64} (h : AP M_X9_hashOfAll b 92 [x0, x1, x2, .long n, x4, x5] (.long n :: st) hi g Φ) : AP M_X9_hashOfAll b 91 [x0, x1, x2, .long n, x4, x5] (st) hi g Φ := AP.lload_n (x := n) (i := 3) d_X9_hashOfAll_91 rfl rfl h
theorem d_X9_hashOfAll_92 : decode cX9_hashOfAll 92 = .ok (.aload_n 0, 1) := by decide +kernel
theorem s_X9_hashOfAll_92 {n : Nat} (h : AP M_X9_hashOfAll b 93 [.ref n, x1, x2, x3, x4, x5] (.ref n :: st) hi g Φ) : AP M_X9_hashOfAll b 92 [.ref n, x1, x2, x3, x4, x5] (st) hi g Φ := AP.aload_n (x := n) (i := 0) d_X9_hashOfAll_92 rfl rfl h
theorem d_X9_hashOfAll_93 : decode cX9_hashOfAll 93 = .ok (.getfield 12, 3) := by decide +kernel
theorem s_X9_hashOfAll_93 {k r : Nat} (hI : am_Inv g) (hs : am_SH k = (0, 9)) (hk : k < 134) (hr : am_HRf k 0 = some r) (hn : k ≠ 39) (h : AP M_X9_hashOfAll b 96 [x0, x1, x2, x3, x4, x5] (.ref r :: st) hi g Φ) : AP M_X9_hashOfAll b 93 [x0, x1, x2, x3, x4, x5] (.ref k :: st) hi g Φ := AP.getR (j := 0) (q := (RX9, TX9, 7)) d_X9_hashOfAll_93 hs (hI.lt hk) rfl (by decide) (by decide) w_345 (hI.r hn hr) h
theorem d_X9_hashOfAll_96 : decode cX9_hashOfAll 96 = .ok (.iconst 1, 1) := by decide +kernel
theorem s_X9_hashOfAll_96 (h : AP M_X9_hashOfAll b 97 [x0, x1, x2, x3, x4, x5] (.int 1 :: st) hi g Φ) : AP M_X9_hashOfAll b 96 [x0, x1, x2, x3, x4, x5] (st) hi g Φ := AP.iconst (x := 1) d_X9_hashOfAll_96 (by decide) h
theorem d_X9_hashOfAll_97 : decode cX9_hashOfAll 97 = .ok (.invokevirtual 183, 3) := by decide +kernel
theorem s_X9_hashOfAll_97 {a0 : Int32} {k : Nat} {r0 : Int32} {P : am_HI → Prop} (hI : am_Inv g) (hs : am_SH k = (0, 7)) (hk : k < 134) (hst : (st.map Value.category).sum ≤ 8) (hc : am_Cr M_X7_findFirst [.ref k, .int a0] hi g (some (.int r0)) P) (h : ∀ hi' : am_HI, P hi' → AP M_X9_hashOfAll b 100 [x0, x1, x2, x3, x4, x5] (.int r0 :: st) hi' g Φ) : AP M_X9_hashOfAll b 97 [x0, x1, x2, x3, x4, x5] (.int a0 :: .ref k :: st) hi g Φ := AP.callVr (As := [.int a0]) (q := (RX7, TX7, 7)) hI hc k_X9_hashOfAll_183 d_X9_hashOfAll_97 rfl hs hk rfl rfl hst h
theorem d_X9_hashOfAll_100 : decode cX9_hashOfAll 100 = .ok (.i2l, 1) := by decide +kernel
theorem s_X9_hashOfAll_100 {x : Int32} (h : AP M_X9_hashOfAll b 101 [x0, x1, x2, x3, x4, x5] (.long x.toInt64 :: st) hi g Φ) : AP M_X9_hashOfAll b 100 [x0, x1, x2, x3, x4, x5] (.int x :: st) hi g Φ := AP.i2l d_X9_hashOfAll_100 h
theorem d_X9_hashOfAll_101 : decode cX9_hashOfAll 101 = .ok (.invokestatic 353, 3) := by decide +kernel
theorem s_X9_hashOfAll_101 {a0 : Int64} {a1 : Int64} {r0 : Int64} {P : am_HI → Prop} (hI : am_Inv g) (hst : (st.map Value.category).sum ≤ 8) (hc : am_Cr M_X9_mix [.long a0, .long a1] hi g (some (.long r0)) P) (h : ∀ hi' : am_HI, P hi' → AP M_X9_hashOfAll b 104 [x0, x1, x2, x3, x4, x5] (.long r0 :: st) hi' g Φ) : AP M_X9_hashOfAll b 101 [x0, x1, x2, x3, x4, x5] (.long a1 :: .long a0 :: st) hi g Φ := AP.callSr (As := [.long a0, .long a1]) hI hc k_X9_hashOfAll_353 d_X9_hashOfAll_101 rfl hst h
theorem d_X9_hashOfAll_104 : decode cX9_hashOfAll 104 = .ok (.lstore_n 3, 1) := by decide +kernel
theorem s_X9_hashOfAll_104 {n : Int64} (hc : x2.category = 1) (h : AP M_X9_hashOfAll b 105 [x0, x1, x2, .long n, jk, x5] (st) hi g Φ) : AP M_X9_hashOfAll b 104 [x0, x1, x2, x3, x4, x5] (.long n :: st) hi g Φ := AP.lstore_n (x := n) (i := 3) d_X9_hashOfAll_104 rfl (by decide) (by simp [am_st, am_ci, am_cr, am_cl, am_cd, hc]) h
theorem d_X9_hashOfAll_105 : decode cX9_hashOfAll 105 = .ok (.lload_n 3, 1) := by decide +kernel
theorem s_X9_hashOfAll_105 {n : Int64} (h : AP M_X9_hashOfAll b 106 [x0, x1, x2, .long n, x4, x5] (.long n :: st) hi g Φ) : AP M_X9_hashOfAll b 105 [x0, x1, x2, .long n, x4, x5] (st) hi g Φ := AP.lload_n (x := n) (i := 3) d_X9_hashOfAll_105 rfl rfl h
theorem d_X9_hashOfAll_106 : decode cX9_hashOfAll 106 = .ok (.aload_n 0, 1) := by decide +kernel
theorem s_X9_hashOfAll_106 {n : Nat} (h : AP M_X9_hashOfAll b 107 [.ref n, x1, x2, x3, x4, x5] (.ref n :: st) hi g Φ) : AP M_X9_hashOfAll b 106 [.ref n, x1, x2, x3, x4, x5] (st) hi g Φ := AP.aload_n (x := n) (i := 0) d_X9_hashOfAll_106 rfl rfl h
theorem d_X9_hashOfAll_107 : decode cX9_hashOfAll 107 = .ok (.getfield 20, 3) := by decide +kernel
theorem s_X9_hashOfAll_107 {k r : Nat} (hI : am_Inv g) (hs : am_SH k = (0, 9)) (hk : k < 134) (hr : am_HRf k 1 = some r) (hn : k ≠ 39) (h : AP M_X9_hashOfAll b 110 [x0, x1, x2, x3, x4, x5] (.ref r :: st) hi g Φ) : AP M_X9_hashOfAll b 107 [x0, x1, x2, x3, x4, x5] (.ref k :: st) hi g Φ := AP.getR (j := 1) (q := (RX9, TX9, 7)) d_X9_hashOfAll_107 hs (hI.lt hk) rfl (by decide) (by decide) w_346 (hI.r hn hr) h
theorem d_X9_hashOfAll_110 : decode cX9_hashOfAll 110 = .ok (.getfield 129, 3) := by decide +kernel
theorem s_X9_hashOfAll_110 {k r : Nat} (hI : am_Inv g) (hs : am_SH k = (0, 6)) (hk : k < 134) (hr : am_HRf k 2 = some r) (hn : k ≠ 39) (h : AP M_X9_hashOfAll b 113 [x0, x1, x2, x3, x4, x5] (.ref r :: st) hi g Φ) : AP M_X9_hashOfAll b 110 [x0, x1, x2, x3, x4, x5] (.ref k :: st) hi g Φ := AP.getR (j := 2) (q := (RX6, TX6, 8)) d_X9_hashOfAll_110 hs (hI.lt hk) rfl (by decide) (by decide) w_165 (hI.r hn hr) h
theorem d_X9_hashOfAll_113 : decode cX9_hashOfAll 113 = .ok (.getfield 216, 3) := by decide +kernel
theorem s_X9_hashOfAll_113 {k : Nat} (hI : am_Inv g) (hs : am_SH k = (0, 2)) (hk : k < 134) (h : AP M_X9_hashOfAll b 116 [x0, x1, x2, x3, x4, x5] (.int (hi k 5) :: st) hi g Φ) : AP M_X9_hashOfAll b 113 [x0, x1, x2, x3, x4, x5] (.ref k :: st) hi g Φ := AP.getI (j := 5) (q := (RX2, TX2, 8)) d_X9_hashOfAll_113 hs (hI.lt hk) rfl (by decide) (by decide) w_133 h
theorem d_X9_hashOfAll_116 : decode cX9_hashOfAll 116 = .ok (.i2l, 1) := by decide +kernel
theorem s_X9_hashOfAll_116 {x : Int32} (h : AP M_X9_hashOfAll b 117 [x0, x1, x2, x3, x4, x5] (.long x.toInt64 :: st) hi g Φ) : AP M_X9_hashOfAll b 116 [x0, x1, x2, x3, x4, x5] (.int x :: st) hi g Φ := AP.i2l d_X9_hashOfAll_116 h
theorem d_X9_hashOfAll_117 : decode cX9_hashOfAll 117 = .ok (.invokestatic 353, 3) := by decide +kernel
theorem s_X9_hashOfAll_117 {a0 : Int64} {a1 : Int64} {r0 : Int64} {P : am_HI → Prop} (hI : am_Inv g) (hst : (st.map Value.category).sum ≤ 8) (hc : am_Cr M_X9_mix [.long a0, .long a1] hi g (some (.long r0)) P) (h : ∀ hi' : am_HI, P hi' → AP M_X9_hashOfAll b 120 [x0, x1, x2, x3, x4, x5] (.long r0 :: st) hi' g Φ) : AP M_X9_hashOfAll b 117 [x0, x1, x2, x3, x4, x5] (.long a1 :: .long a0 :: st) hi g Φ := AP.callSr (As := [.long a0, .long a1]) hI hc k_X9_hashOfAll_353 d_X9_hashOfAll_117 rfl hst h
theorem d_X9_hashOfAll_120 : decode cX9_hashOfAll 120 = .ok (.lstore_n 3, 1) := by decide +kernel
theorem s_X9_hashOfAll_120 {n : Int64} (hc : x2.category = 1) (h : AP M_X9_hashOfAll b 121 [x0, x1, x2, .long n, jk, x5] (st) hi g Φ) : AP M_X9_hashOfAll b 120 [x0, x1, x2, x3, x4, x5] (.long n :: st) hi g Φ := AP.lstore_n (x := n) (i := 3) d_X9_hashOfAll_120 rfl (by decide) (by simp [am_st, am_ci, am_cr, am_cl, am_cd, hc]) h
theorem d_X9_hashOfAll_121 : decode cX9_hashOfAll 121 = .ok (.lload_n 3, 1) := by decide +kernel
theorem s_X9_hashOfAll_121 {n : Int64} (h : AP M_X9_hashOfAll b 122 [x0, x1, x2, .long n, x4, x5] (.long n :: st) hi g Φ) : AP M_X9_hashOfAll b 121 [x0, x1, x2, .long n, x4, x5] (st) hi g Φ := AP.lload_n (x := n) (i := 3) d_X9_hashOfAll_121 rfl rfl h
theorem d_X9_hashOfAll_122 : decode cX9_hashOfAll 122 = .ok (.aload_n 0, 1) := by decide +kernel
theorem s_X9_hashOfAll_122 {n : Nat} (h : AP M_X9_hashOfAll b 123 [.ref n, x1, x2, x3, x4, x5] (.ref n :: st) hi g Φ) : AP M_X9_hashOfAll b 122 [.ref n, x1, x2, x3, x4, x5] (st) hi g Φ := AP.aload_n (x := n) (i := 0) d_X9_hashOfAll_122 rfl rfl h
theorem d_X9_hashOfAll_123 : decode cX9_hashOfAll 123 = .ok (.getfield 20, 3) := by decide +kernel
theorem s_X9_hashOfAll_123 {k r : Nat} (hI : am_Inv g) (hs : am_SH k = (0, 9)) (hk : k < 134) (hr : am_HRf k 1 = some r) (hn : k ≠ 39) (h : AP M_X9_hashOfAll b 126 [x0, x1, x2, x3, x4, x5] (.ref r :: st) hi g Φ) : AP M_X9_hashOfAll b 123 [x0, x1, x2, x3, x4, x5] (.ref k :: st) hi g Φ := AP.getR (j := 1) (q := (RX9, TX9, 7)) d_X9_hashOfAll_123 hs (hI.lt hk) rfl (by decide) (by decide) w_346 (hI.r hn hr) h
theorem d_X9_hashOfAll_126 : decode cX9_hashOfAll 126 = .ok (.getfield 129, 3) := by decide +kernel
theorem s_X9_hashOfAll_126 {k r : Nat} (hI : am_Inv g) (hs : am_SH k = (0, 6)) (hk : k < 134) (hr : am_HRf k 2 = some r) (hn : k ≠ 39) (h : AP M_X9_hashOfAll b 129 [x0, x1, x2, x3, x4, x5] (.ref r :: st) hi g Φ) : AP M_X9_hashOfAll b 126 [x0, x1, x2, x3, x4, x5] (.ref k :: st) hi g Φ := AP.getR (j := 2) (q := (RX6, TX6, 8)) d_X9_hashOfAll_126 hs (hI.lt hk) rfl (by decide) (by decide) w_165 (hI.r hn hr) h
theorem d_X9_hashOfAll_129 : decode cX9_hashOfAll 129 = .ok (.invokevirtual 133, 3) := by decide +kernel
theorem s_X9_hashOfAll_129  {k : Nat} {r0 : Int32} {P : am_HI → Prop} (hI : am_Inv g) (hs : am_SH k = (0, 2)) (hk : k < 134) (hst : (st.map Value.category).sum ≤ 8) (hc : am_Cr M_X2_countBits [.ref k] hi g (some (.int r0)) P) (h : ∀ hi' : am_HI, P hi' → AP M_X9_hashOfAll b 132 [x0, x1, x2, x3, x4, x5] (.int r0 :: st) hi' g Φ) : AP M_X9_hashOfAll b 129 [x0, x1, x2, x3, x4, x5] (.ref k :: st) hi g Φ := AP.callVr (As := []) (q := (RX2, TX2, 8)) hI hc k_X9_hashOfAll_133 d_X9_hashOfAll_129 rfl hs hk rfl rfl hst h
theorem d_X9_hashOfAll_132 : decode cX9_hashOfAll 132 = .ok (.i2l, 1) := by decide +kernel
theorem s_X9_hashOfAll_132 {x : Int32} (h : AP M_X9_hashOfAll b 133 [x0, x1, x2, x3, x4, x5] (.long x.toInt64 :: st) hi g Φ) : AP M_X9_hashOfAll b 132 [x0, x1, x2, x3, x4, x5] (.int x :: st) hi g Φ := AP.i2l d_X9_hashOfAll_132 h
theorem d_X9_hashOfAll_133 : decode cX9_hashOfAll 133 = .ok (.invokestatic 353, 3) := by decide +kernel
theorem s_X9_hashOfAll_133 {a0 : Int64} {a1 : Int64} {r0 : Int64} {P : am_HI → Prop} (hI : am_Inv g) (hst : (st.map Value.category).sum ≤ 8) (hc : am_Cr M_X9_mix [.long a0, .long a1] hi g (some (.long r0)) P) (h : ∀ hi' : am_HI, P hi' → AP M_X9_hashOfAll b 136 [x0, x1, x2, x3, x4, x5] (.long r0 :: st) hi' g Φ) : AP M_X9_hashOfAll b 133 [x0, x1, x2, x3, x4, x5] (.long a1 :: .long a0 :: st) hi g Φ := AP.callSr (As := [.long a0, .long a1]) hI hc k_X9_hashOfAll_353 d_X9_hashOfAll_133 rfl hst h
theorem d_X9_hashOfAll_136 : decode cX9_hashOfAll 136 = .ok (.lstore_n 3, 1) := by decide +kernel
theorem s_X9_hashOfAll_136 {n : Int64} (hc : x2.category = 1) (h : AP M_X9_hashOfAll b 137 [x0, x1, x2, .long n, jk, x5] (st) hi g Φ) : AP M_X9_hashOfAll b 136 [x0, x1, x2, x3, x4, x5] (.long n :: st) hi g Φ := AP.lstore_n (x := n) (i := 3) d_X9_hashOfAll_136 rfl (by decide) (by simp [am_st, am_ci, am_cr, am_cl, am_cd, hc]) h
theorem d_X9_hashOfAll_137 : decode cX9_hashOfAll 137 = .ok (.lload_n 3, 1) := by decide +kernel
theorem s_X9_hashOfAll_137 {n : Int64} (h : AP M_X9_hashOfAll b 138 [x0, x1, x2, .long n, x4, x5] (.long n :: st) hi g Φ) : AP M_X9_hashOfAll b 137 [x0, x1, x2, .long n, x4, x5] (st) hi g Φ := AP.lload_n (x := n) (i := 3) d_X9_hashOfAll_137 rfl rfl h
theorem d_X9_hashOfAll_138 : decode cX9_hashOfAll 138 = .ok (.aload_n 0, 1) := by decide +kernel
theorem s_X9_hashOfAll_138 {n : Nat} (h : AP M_X9_hashOfAll b 139 [.ref n, x1, x2, x3, x4, x5] (.ref n :: st) hi g Φ) : AP M_X9_hashOfAll b 138 [.ref n, x1, x2, x3, x4, x5] (st) hi g Φ := AP.aload_n (x := n) (i := 0) d_X9_hashOfAll_138 rfl rfl h
theorem d_X9_hashOfAll_139 : decode cX9_hashOfAll 139 = .ok (.invokevirtual 357, 3) := by decide +kernel
theorem s_X9_hashOfAll_139  {k : Nat} {r0 : Int32} {P : am_HI → Prop} (hI : am_Inv g) (hs : am_SH k = (0, 9)) (hk : k < 134) (hst : (st.map Value.category).sum ≤ 8) (hc : am_Cr M_X9_unlike [.ref k] hi g (some (.int r0)) P) (h : ∀ hi' : am_HI, P hi' → AP M_X9_hashOfAll b 142 [x0, x1, x2, x3, x4, x5] (.int r0 :: st) hi' g Φ) : AP M_X9_hashOfAll b 139 [x0, x1, x2, x3, x4, x5] (.ref k :: st) hi g Φ := AP.callVr (As := []) (q := (RX9, TX9, 7)) hI hc k_X9_hashOfAll_357 d_X9_hashOfAll_139 rfl hs hk rfl rfl hst h
theorem d_X9_hashOfAll_142 : decode cX9_hashOfAll 142 = .ok (.i2l, 1) := by decide +kernel
theorem s_X9_hashOfAll_142 {x : Int32} (h : AP M_X9_hashOfAll b 143 [x0, x1, x2, x3, x4, x5] (.long x.toInt64 :: st) hi g Φ) : AP M_X9_hashOfAll b 142 [x0, x1, x2, x3, x4, x5] (.int x :: st) hi g Φ := AP.i2l d_X9_hashOfAll_142 h
theorem d_X9_hashOfAll_143 : decode cX9_hashOfAll 143 = .ok (.invokestatic 353, 3) := by decide +kernel
theorem s_X9_hashOfAll_143 {a0 : Int64} {a1 : Int64} {r0 : Int64} {P : am_HI → Prop} (hI : am_Inv g) (hst : (st.map Value.category).sum ≤ 8) (hc : am_Cr M_X9_mix [.long a0, .long a1] hi g (some (.long r0)) P) (h : ∀ hi' : am_HI, P hi' → AP M_X9_hashOfAll b 146 [x0, x1, x2, x3, x4, x5] (.long r0 :: st) hi' g Φ) : AP M_X9_hashOfAll b 143 [x0, x1, x2, x3, x4, x5] (.long a1 :: .long a0 :: st) hi g Φ := AP.callSr (As := [.long a0, .long a1]) hI hc k_X9_hashOfAll_353 d_X9_hashOfAll_143 rfl hst h
theorem d_X9_hashOfAll_146 : decode cX9_hashOfAll 146 = .ok (.lstore_n 3, 1) := by decide +kernel
theorem s_X9_hashOfAll_146 {n : Int64} (hc : x2.category = 1) (h : AP M_X9_hashOfAll b 147 [x0, x1, x2, .long n, jk, x5] (st) hi g Φ) : AP M_X9_hashOfAll b 146 [x0, x1, x2, x3, x4, x5] (.long n :: st) hi g Φ := AP.lstore_n (x := n) (i := 3) d_X9_hashOfAll_146 rfl (by decide) (by simp [am_st, am_ci, am_cr, am_cl, am_cd, hc]) h
theorem d_X9_hashOfAll_147 : decode cX9_hashOfAll 147 = .ok (.lload_n 3, 1) := by decide +kernel
theorem s_X9_hashOfAll_147 {n : Int64} (h : AP M_X9_hashOfAll b 148 [x0, x1, x2, .long n, x4, x5] (.long n :: st) hi g Φ) : AP M_X9_hashOfAll b 147 [x0, x1, x2, .long n, x4, x5] (st) hi g Φ := AP.lload_n (x := n) (i := 3) d_X9_hashOfAll_147 rfl rfl h
theorem d_X9_hashOfAll_148 : decode cX9_hashOfAll 148 = .ok (.aload_n 0, 1) := by decide +kernel
theorem s_X9_hashOfAll_148 {n : Nat} (h : AP M_X9_hashOfAll b 149 [.ref n, x1, x2, x3, x4, x5] (.ref n :: st) hi g Φ) : AP M_X9_hashOfAll b 148 [.ref n, x1, x2, x3, x4, x5] (st) hi g Φ := AP.aload_n (x := n) (i := 0) d_X9_hashOfAll_148 rfl rfl h
theorem d_X9_hashOfAll_149 : decode cX9_hashOfAll 149 = .ok (.invokevirtual 360, 3) := by decide +kernel
theorem s_X9_hashOfAll_149  {k : Nat} {r0 : Int32} {P : am_HI → Prop} (hI : am_Inv g) (hs : am_SH k = (0, 9)) (hk : k < 134) (hst : (st.map Value.category).sum ≤ 8) (hc : am_Cr M_X9_firstUnlike [.ref k] hi g (some (.int r0)) P) (h : ∀ hi' : am_HI, P hi' → AP M_X9_hashOfAll b 152 [x0, x1, x2, x3, x4, x5] (.int r0 :: st) hi' g Φ) : AP M_X9_hashOfAll b 149 [x0, x1, x2, x3, x4, x5] (.ref k :: st) hi g Φ := AP.callVr (As := []) (q := (RX9, TX9, 7)) hI hc k_X9_hashOfAll_360 d_X9_hashOfAll_149 rfl hs hk rfl rfl hst h
theorem d_X9_hashOfAll_152 : decode cX9_hashOfAll 152 = .ok (.i2l, 1) := by decide +kernel
theorem s_X9_hashOfAll_152 {x : Int32} (h : AP M_X9_hashOfAll b 153 [x0, x1, x2, x3, x4, x5] (.long x.toInt64 :: st) hi g Φ) : AP M_X9_hashOfAll b 152 [x0, x1, x2, x3, x4, x5] (.int x :: st) hi g Φ := AP.i2l d_X9_hashOfAll_152 h
theorem d_X9_hashOfAll_153 : decode cX9_hashOfAll 153 = .ok (.invokestatic 353, 3) := by decide +kernel
theorem s_X9_hashOfAll_153 {a0 : Int64} {a1 : Int64} {r0 : Int64} {P : am_HI → Prop} (hI : am_Inv g) (hst : (st.map Value.category).sum ≤ 8) (hc : am_Cr M_X9_mix [.long a0, .long a1] hi g (some (.long r0)) P) (h : ∀ hi' : am_HI, P hi' → AP M_X9_hashOfAll b 156 [x0, x1, x2, x3, x4, x5] (.long r0 :: st) hi' g Φ) : AP M_X9_hashOfAll b 153 [x0, x1, x2, x3, x4, x5] (.long a1 :: .long a0 :: st) hi g Φ := AP.callSr (As := [.long a0, .long a1]) hI hc k_X9_hashOfAll_353 d_X9_hashOfAll_153 rfl hst h
theorem d_X9_hashOfAll_156 : decode cX9_hashOfAll 156 = .ok (.lstore_n 3, 1) := by decide +kernel
theorem s_X9_hashOfAll_156 {n : Int64} (hc : x2.category = 1) (h : AP M_X9_hashOfAll b 157 [x0, x1, x2, .long n, jk, x5] (st) hi g Φ) : AP M_X9_hashOfAll b 156 [x0, x1, x2, x3, x4, x5] (.long n :: st) hi g Φ := AP.lstore_n (x := n) (i := 3) d_X9_hashOfAll_156 rfl (by decide) (by simp [am_st, am_ci, am_cr, am_cl, am_cd, hc]) h
theorem d_X9_hashOfAll_157 : decode cX9_hashOfAll 157 = .ok (.lload_n 3, 1) := by decide +kernel
theorem s_X9_hashOfAll_157 {n : Int64} (h : AP M_X9_hashOfAll b 158 [x0, x1, x2, .long n, x4, x5] (.long n :: st) hi g Φ) : AP M_X9_hashOfAll b 157 [x0, x1, x2, .long n, x4, x5] (st) hi g Φ := AP.lload_n (x := n) (i := 3) d_X9_hashOfAll_157 rfl rfl h
theorem d_X9_hashOfAll_158 : decode cX9_hashOfAll 158 = .ok (.aload_n 0, 1) := by decide +kernel
theorem s_X9_hashOfAll_158 {n : Nat} (h : AP M_X9_hashOfAll b 159 [.ref n, x1, x2, x3, x4, x5] (.ref n :: st) hi g Φ) : AP M_X9_hashOfAll b 158 [.ref n, x1, x2, x3, x4, x5] (st) hi g Φ := AP.aload_n (x := n) (i := 0) d_X9_hashOfAll_158 rfl rfl h
theorem d_X9_hashOfAll_159 : decode cX9_hashOfAll 159 = .ok (.invokevirtual 363, 3) := by decide +kernel
theorem s_X9_hashOfAll_159  {k : Nat} {r0 : Int32} {P : am_HI → Prop} (hI : am_Inv g) (hs : am_SH k = (0, 9)) (hk : k < 134) (hst : (st.map Value.category).sum ≤ 8) (hc : am_Cr M_X9_worst [.ref k] hi g (some (.int r0)) P) (h : ∀ hi' : am_HI, P hi' → AP M_X9_hashOfAll b 162 [x0, x1, x2, x3, x4, x5] (.int r0 :: st) hi' g Φ) : AP M_X9_hashOfAll b 159 [x0, x1, x2, x3, x4, x5] (.ref k :: st) hi g Φ := AP.callVr (As := []) (q := (RX9, TX9, 7)) hI hc k_X9_hashOfAll_363 d_X9_hashOfAll_159 rfl hs hk rfl rfl hst h
theorem d_X9_hashOfAll_162 : decode cX9_hashOfAll 162 = .ok (.i2l, 1) := by decide +kernel
theorem s_X9_hashOfAll_162 {x : Int32} (h : AP M_X9_hashOfAll b 163 [x0, x1, x2, x3, x4, x5] (.long x.toInt64 :: st) hi g Φ) : AP M_X9_hashOfAll b 162 [x0, x1, x2, x3, x4, x5] (.int x :: st) hi g Φ := AP.i2l d_X9_hashOfAll_162 h
theorem d_X9_hashOfAll_163 : decode cX9_hashOfAll 163 = .ok (.invokestatic 353, 3) := by decide +kernel
theorem s_X9_hashOfAll_163 {a0 : Int64} {a1 : Int64} {r0 : Int64} {P : am_HI → Prop} (hI : am_Inv g) (hst : (st.map Value.category).sum ≤ 8) (hc : am_Cr M_X9_mix [.long a0, .long a1] hi g (some (.long r0)) P) (h : ∀ hi' : am_HI, P hi' → AP M_X9_hashOfAll b 166 [x0, x1, x2, x3, x4, x5] (.long r0 :: st) hi' g Φ) : AP M_X9_hashOfAll b 163 [x0, x1, x2, x3, x4, x5] (.long a1 :: .long a0 :: st) hi g Φ := AP.callSr (As := [.long a0, .long a1]) hI hc k_X9_hashOfAll_353 d_X9_hashOfAll_163 rfl hst h
theorem d_X9_hashOfAll_166 : decode cX9_hashOfAll 166 = .ok (.lstore_n 3, 1) := by decide +kernel
theorem s_X9_hashOfAll_166 {n : Int64} (hc : x2.category = 1) (h : AP M_X9_hashOfAll b 167 [x0, x1, x2, .long n, jk, x5] (st) hi g Φ) : AP M_X9_hashOfAll b 166 [x0, x1, x2, x3, x4, x5] (.long n :: st) hi g Φ := AP.lstore_n (x := n) (i := 3) d_X9_hashOfAll_166 rfl (by decide) (by simp [am_st, am_ci, am_cr, am_cl, am_cd, hc]) h
theorem d_X9_hashOfAll_167 : decode cX9_hashOfAll 167 = .ok (.lload_n 3, 1) := by decide +kernel
theorem s_X9_hashOfAll_167 {n : Int64} (h : AP M_X9_hashOfAll b 168 [x0, x1, x2, .long n, x4, x5] (.long n :: st) hi g Φ) : AP M_X9_hashOfAll b 167 [x0, x1, x2, .long n, x4, x5] (st) hi g Φ := AP.lload_n (x := n) (i := 3) d_X9_hashOfAll_167 rfl rfl h
theorem d_X9_hashOfAll_168 : decode cX9_hashOfAll 168 = .ok (.aload_n 0, 1) := by decide +kernel
theorem s_X9_hashOfAll_168 {n : Nat} (h : AP M_X9_hashOfAll b 169 [.ref n, x1, x2, x3, x4, x5] (.ref n :: st) hi g Φ) : AP M_X9_hashOfAll b 168 [.ref n, x1, x2, x3, x4, x5] (st) hi g Φ := AP.aload_n (x := n) (i := 0) d_X9_hashOfAll_168 rfl rfl h
theorem d_X9_hashOfAll_169 : decode cX9_hashOfAll 169 = .ok (.getfield 20, 3) := by decide +kernel
theorem s_X9_hashOfAll_169 {k r : Nat} (hI : am_Inv g) (hs : am_SH k = (0, 9)) (hk : k < 134) (hr : am_HRf k 1 = some r) (hn : k ≠ 39) (h : AP M_X9_hashOfAll b 172 [x0, x1, x2, x3, x4, x5] (.ref r :: st) hi g Φ) : AP M_X9_hashOfAll b 169 [x0, x1, x2, x3, x4, x5] (.ref k :: st) hi g Φ := AP.getR (j := 1) (q := (RX9, TX9, 7)) d_X9_hashOfAll_169 hs (hI.lt hk) rfl (by decide) (by decide) w_346 (hI.r hn hr) h
theorem d_X9_hashOfAll_172 : decode cX9_hashOfAll 172 = .ok (.getfield 247, 3) := by decide +kernel
theorem s_X9_hashOfAll_172 {k : Nat} (hI : am_Inv g) (hs : am_SH k = (0, 6)) (hk : k < 134) (h : AP M_X9_hashOfAll b 175 [x0, x1, x2, x3, x4, x5] (.int (hi k 7) :: st) hi g Φ) : AP M_X9_hashOfAll b 172 [x0, x1, x2, x3, x4, x5] (.ref k :: st) hi g Φ := AP.getI (j := 7) (q := (RX6, TX6, 8)) d_X9_hashOfAll_172 hs (hI.lt hk) rfl (by decide) (by decide) w_178 h
theorem d_X9_hashOfAll_175 : decode cX9_hashOfAll 175 = .ok (.i2l, 1) := by decide +kernel
theorem s_X9_hashOfAll_175 {x : Int32} (h : AP M_X9_hashOfAll b 176 [x0, x1, x2, x3, x4, x5] (.long x.toInt64 :: st) hi g Φ) : AP M_X9_hashOfAll b 175 [x0, x1, x2, x3, x4, x5] (.int x :: st) hi g Φ := AP.i2l d_X9_hashOfAll_175 h
theorem d_X9_hashOfAll_176 : decode cX9_hashOfAll 176 = .ok (.invokestatic 353, 3) := by decide +kernel
theorem s_X9_hashOfAll_176 {a0 : Int64} {a1 : Int64} {r0 : Int64} {P : am_HI → Prop} (hI : am_Inv g) (hst : (st.map Value.category).sum ≤ 8) (hc : am_Cr M_X9_mix [.long a0, .long a1] hi g (some (.long r0)) P) (h : ∀ hi' : am_HI, P hi' → AP M_X9_hashOfAll b 179 [x0, x1, x2, x3, x4, x5] (.long r0 :: st) hi' g Φ) : AP M_X9_hashOfAll b 176 [x0, x1, x2, x3, x4, x5] (.long a1 :: .long a0 :: st) hi g Φ := AP.callSr (As := [.long a0, .long a1]) hI hc k_X9_hashOfAll_353 d_X9_hashOfAll_176 rfl hst h
theorem d_X9_hashOfAll_179 : decode cX9_hashOfAll 179 = .ok (.lstore_n 3, 1) := by decide +kernel
theorem s_X9_hashOfAll_179 {n : Int64} (hc : x2.category = 1) (h : AP M_X9_hashOfAll b 180 [x0, x1, x2, .long n, jk, x5] (st) hi g Φ) : AP M_X9_hashOfAll b 179 [x0, x1, x2, x3, x4, x5] (.long n :: st) hi g Φ := AP.lstore_n (x := n) (i := 3) d_X9_hashOfAll_179 rfl (by decide) (by simp [am_st, am_ci, am_cr, am_cl, am_cd, hc]) h
theorem d_X9_hashOfAll_180 : decode cX9_hashOfAll 180 = .ok (.lload_n 3, 1) := by decide +kernel
theorem s_X9_hashOfAll_180 {n : Int64} (h : AP M_X9_hashOfAll b 181 [x0, x1, x2, .long n, x4, x5] (.long n :: st) hi g Φ) : AP M_X9_hashOfAll b 180 [x0, x1, x2, .long n, x4, x5] (st) hi g Φ := AP.lload_n (x := n) (i := 3) d_X9_hashOfAll_180 rfl rfl h
theorem d_X9_hashOfAll_181 : decode cX9_hashOfAll 181 = .ok (.aload_n 0, 1) := by decide +kernel
theorem s_X9_hashOfAll_181 {n : Nat} (h : AP M_X9_hashOfAll b 182 [.ref n, x1, x2, x3, x4, x5] (.ref n :: st) hi g Φ) : AP M_X9_hashOfAll b 181 [.ref n, x1, x2, x3, x4, x5] (st) hi g Φ := AP.aload_n (x := n) (i := 0) d_X9_hashOfAll_181 rfl rfl h
theorem d_X9_hashOfAll_182 : decode cX9_hashOfAll 182 = .ok (.invokevirtual 366, 3) := by decide +kernel
theorem s_X9_hashOfAll_182  {k : Nat} {r0 : UInt64} {P : am_HI → Prop} (hI : am_Inv g) (hs : am_SH k = (0, 9)) (hk : k < 134) (hst : (st.map Value.category).sum ≤ 8) (hc : am_Cr M_X9_loudness [.ref k] hi g (some (.double r0)) P) (h : ∀ hi' : am_HI, P hi' → AP M_X9_hashOfAll b 185 [x0, x1, x2, x3, x4, x5] (.double r0 :: st) hi' g Φ) : AP M_X9_hashOfAll b 182 [x0, x1, x2, x3, x4, x5] (.ref k :: st) hi g Φ := AP.callVr (As := []) (q := (RX9, TX9, 7)) hI hc k_X9_hashOfAll_366 d_X9_hashOfAll_182 rfl hs hk rfl rfl hst h
theorem d_X9_hashOfAll_185 : decode cX9_hashOfAll 185 = .ok (.invokestatic 370, 3) := by decide +kernel
theorem s_X9_hashOfAll_185 {a0 : UInt64} {r0 : Int64} {P : am_HI → Prop} (hI : am_Inv g) (hst : (st.map Value.category).sum ≤ 8) (hc : am_Cr M_X9_bitsOfDouble [.double a0] hi g (some (.long r0)) P) (h : ∀ hi' : am_HI, P hi' → AP M_X9_hashOfAll b 188 [x0, x1, x2, x3, x4, x5] (.long r0 :: st) hi' g Φ) : AP M_X9_hashOfAll b 185 [x0, x1, x2, x3, x4, x5] (.double a0 :: st) hi g Φ := AP.callSr (As := [.double a0]) hI hc k_X9_hashOfAll_370 d_X9_hashOfAll_185 rfl hst h
theorem d_X9_hashOfAll_188 : decode cX9_hashOfAll 188 = .ok (.invokestatic 353, 3) := by decide +kernel
theorem s_X9_hashOfAll_188 {a0 : Int64} {a1 : Int64} {r0 : Int64} {P : am_HI → Prop} (hI : am_Inv g) (hst : (st.map Value.category).sum ≤ 8) (hc : am_Cr M_X9_mix [.long a0, .long a1] hi g (some (.long r0)) P) (h : ∀ hi' : am_HI, P hi' → AP M_X9_hashOfAll b 191 [x0, x1, x2, x3, x4, x5] (.long r0 :: st) hi' g Φ) : AP M_X9_hashOfAll b 188 [x0, x1, x2, x3, x4, x5] (.long a1 :: .long a0 :: st) hi g Φ := AP.callSr (As := [.long a0, .long a1]) hI hc k_X9_hashOfAll_353 d_X9_hashOfAll_188 rfl hst h
theorem d_X9_hashOfAll_191 : decode cX9_hashOfAll 191 = .ok (.lstore_n 3, 1) := by decide +kernel
theorem s_X9_hashOfAll_191 {n : Int64} (hc : x2.category = 1) (h : AP M_X9_hashOfAll b 192 [x0, x1, x2, .long n, jk, x5] (st) hi g Φ) : AP M_X9_hashOfAll b 191 [x0, x1, x2, x3, x4, x5] (.long n :: st) hi g Φ := AP.lstore_n (x := n) (i := 3) d_X9_hashOfAll_191 rfl (by decide) (by simp [am_st, am_ci, am_cr, am_cl, am_cd, hc]) h
theorem d_X9_hashOfAll_192 : decode cX9_hashOfAll 192 = .ok (.iconst 1, 1) := by decide +kernel
theorem s_X9_hashOfAll_192 (h : AP M_X9_hashOfAll b 193 [x0, x1, x2, x3, x4, x5] (.int 1 :: st) hi g Φ) : AP M_X9_hashOfAll b 192 [x0, x1, x2, x3, x4, x5] (st) hi g Φ := AP.iconst (x := 1) d_X9_hashOfAll_192 (by decide) h
theorem d_X9_hashOfAll_193 : decode cX9_hashOfAll 193 = .ok (.istore 5, 2) := by decide +kernel
theorem s_X9_hashOfAll_193 {n : Int32} (hc : x4.category = 1) (h : AP M_X9_hashOfAll b 195 [x0, x1, x2, x3, x4, .int n] (st) hi g Φ) : AP M_X9_hashOfAll b 193 [x0, x1, x2, x3, x4, x5] (.int n :: st) hi g Φ := AP.istore (x := n) (i := 5) d_X9_hashOfAll_193 (by decide) (by simp [am_st, am_ci, am_cr, am_cl, am_cd, hc]) h
theorem d_X9_hashOfAll_195 : decode cX9_hashOfAll 195 = .ok (.iload 5, 2) := by decide +kernel
theorem s_X9_hashOfAll_195 {n : Int32} (h : AP M_X9_hashOfAll b 197 [x0, x1, x2, x3, x4, .int n] (.int n :: st) hi g Φ) : AP M_X9_hashOfAll b 195 [x0, x1, x2, x3, x4, .int n] (st) hi g Φ := AP.iload (x := n) (i := 5) d_X9_hashOfAll_195 rfl h
theorem d_X9_hashOfAll_197 : decode cX9_hashOfAll 197 = .ok (.iconst 4, 1) := by decide +kernel
theorem s_X9_hashOfAll_197 (h : AP M_X9_hashOfAll b 198 [x0, x1, x2, x3, x4, x5] (.int 4 :: st) hi g Φ) : AP M_X9_hashOfAll b 197 [x0, x1, x2, x3, x4, x5] (st) hi g Φ := AP.iconst (x := 4) d_X9_hashOfAll_197 (by decide) h
theorem d_X9_hashOfAll_198 : decode cX9_hashOfAll 198 = .ok (.if_icmp .gt 27, 3) := by decide +kernel
theorem s_X9_hashOfAll_198 {x y : Int32} (h1 : y < x → AP M_X9_hashOfAll b 225 [x0, x1, x2, x3, x4, x5] st hi g Φ) (h2 : ¬ y < x → AP M_X9_hashOfAll b 201 [x0, x1, x2, x3, x4, x5] st hi g Φ) : AP M_X9_hashOfAll b 198 [x0, x1, x2, x3, x4, x5] (.int y :: .int x :: st) hi g Φ := AP.icmp_gt d_X9_hashOfAll_198 (by decide) h1 h2
theorem d_X9_hashOfAll_201 : decode cX9_hashOfAll 201 = .ok (.lload_n 3, 1) := by decide +kernel
theorem s_X9_hashOfAll_201 {n : Int64} (h : AP M_X9_hashOfAll b 202 [x0, x1, x2, .long n, x4, x5] (.long n :: st) hi g Φ) : AP M_X9_hashOfAll b 201 [x0, x1, x2, .long n, x4, x5] (st) hi g Φ := AP.lload_n (x := n) (i := 3) d_X9_hashOfAll_201 rfl rfl h
theorem d_X9_hashOfAll_202 : decode cX9_hashOfAll 202 = .ok (.aload_n 0, 1) := by decide +kernel
theorem s_X9_hashOfAll_202 {n : Nat} (h : AP M_X9_hashOfAll b 203 [.ref n, x1, x2, x3, x4, x5] (.ref n :: st) hi g Φ) : AP M_X9_hashOfAll b 202 [.ref n, x1, x2, x3, x4, x5] (st) hi g Φ := AP.aload_n (x := n) (i := 0) d_X9_hashOfAll_202 rfl rfl h
theorem d_X9_hashOfAll_203 : decode cX9_hashOfAll 203 = .ok (.getfield 20, 3) := by decide +kernel
theorem s_X9_hashOfAll_203 {k r : Nat} (hI : am_Inv g) (hs : am_SH k = (0, 9)) (hk : k < 134) (hr : am_HRf k 1 = some r) (hn : k ≠ 39) (h : AP M_X9_hashOfAll b 206 [x0, x1, x2, x3, x4, x5] (.ref r :: st) hi g Φ) : AP M_X9_hashOfAll b 203 [x0, x1, x2, x3, x4, x5] (.ref k :: st) hi g Φ := AP.getR (j := 1) (q := (RX9, TX9, 7)) d_X9_hashOfAll_203 hs (hI.lt hk) rfl (by decide) (by decide) w_346 (hI.r hn hr) h
theorem d_X9_hashOfAll_206 : decode cX9_hashOfAll 206 = .ok (.getfield 110, 3) := by decide +kernel
theorem s_X9_hashOfAll_206 {k r : Nat} (hI : am_Inv g) (hs : am_SH k = (0, 6)) (hk : k < 134) (hr : am_HRf k 1 = some r) (hn : k ≠ 39) (h : AP M_X9_hashOfAll b 209 [x0, x1, x2, x3, x4, x5] (.ref r :: st) hi g Φ) : AP M_X9_hashOfAll b 206 [x0, x1, x2, x3, x4, x5] (.ref k :: st) hi g Φ := AP.getR (j := 1) (q := (RX6, TX6, 8)) d_X9_hashOfAll_206 hs (hI.lt hk) rfl (by decide) (by decide) w_163 (hI.r hn hr) h
theorem d_X9_hashOfAll_209 : decode cX9_hashOfAll 209 = .ok (.iload 5, 2) := by decide +kernel
theorem s_X9_hashOfAll_209 {n : Int32} (h : AP M_X9_hashOfAll b 211 [x0, x1, x2, x3, x4, .int n] (.int n :: st) hi g Φ) : AP M_X9_hashOfAll b 209 [x0, x1, x2, x3, x4, .int n] (st) hi g Φ := AP.iload (x := n) (i := 5) d_X9_hashOfAll_209 rfl h
theorem d_X9_hashOfAll_211 : decode cX9_hashOfAll 211 = .ok (.iconst 1, 1) := by decide +kernel
theorem s_X9_hashOfAll_211 (h : AP M_X9_hashOfAll b 212 [x0, x1, x2, x3, x4, x5] (.int 1 :: st) hi g Φ) : AP M_X9_hashOfAll b 211 [x0, x1, x2, x3, x4, x5] (st) hi g Φ := AP.iconst (x := 1) d_X9_hashOfAll_211 (by decide) h
theorem d_X9_hashOfAll_212 : decode cX9_hashOfAll 212 = .ok (.isub, 1) := by decide +kernel
theorem s_X9_hashOfAll_212 {x y : Int32} (h : AP M_X9_hashOfAll b 213 [x0, x1, x2, x3, x4, x5] (.int (x - y) :: st) hi g Φ) : AP M_X9_hashOfAll b 212 [x0, x1, x2, x3, x4, x5] (.int y :: .int x :: st) hi g Φ := AP.isub d_X9_hashOfAll_212 h
theorem d_X9_hashOfAll_213 : decode cX9_hashOfAll 213 = .ok (.iaload, 1) := by decide +kernel
theorem s_X9_hashOfAll_213 {k n j : Nat} {i : Int32} (hI : am_Inv g) (hs : am_SH k = (1, n)) (hk : k < 134) (hn : n < 2 ^ 31) (hx : i = nI j) (hj : j < n) (h : AP M_X9_hashOfAll b 214 [x0, x1, x2, x3, x4, x5] (.int (hi k j) :: st) hi g Φ) : AP M_X9_hashOfAll b 213 [x0, x1, x2, x3, x4, x5] (.int i :: .ref k :: st) hi g Φ := AP.iald d_X9_hashOfAll_213 hs (hI.lt hk) hn hx hj h
theorem d_X9_hashOfAll_214 : decode cX9_hashOfAll 214 = .ok (.i2l, 1) := by decide +kernel
theorem s_X9_hashOfAll_214 {x : Int32} (h : AP M_X9_hashOfAll b 215 [x0, x1, x2, x3, x4, x5] (.long x.toInt64 :: st) hi g Φ) : AP M_X9_hashOfAll b 214 [x0, x1, x2, x3, x4, x5] (.int x :: st) hi g Φ := AP.i2l d_X9_hashOfAll_214 h
theorem d_X9_hashOfAll_215 : decode cX9_hashOfAll 215 = .ok (.invokestatic 353, 3) := by decide +kernel
theorem s_X9_hashOfAll_215 {a0 : Int64} {a1 : Int64} {r0 : Int64} {P : am_HI → Prop} (hI : am_Inv g) (hst : (st.map Value.category).sum ≤ 8) (hc : am_Cr M_X9_mix [.long a0, .long a1] hi g (some (.long r0)) P) (h : ∀ hi' : am_HI, P hi' → AP M_X9_hashOfAll b 218 [x0, x1, x2, x3, x4, x5] (.long r0 :: st) hi' g Φ) : AP M_X9_hashOfAll b 215 [x0, x1, x2, x3, x4, x5] (.long a1 :: .long a0 :: st) hi g Φ := AP.callSr (As := [.long a0, .long a1]) hI hc k_X9_hashOfAll_353 d_X9_hashOfAll_215 rfl hst h
theorem d_X9_hashOfAll_218 : decode cX9_hashOfAll 218 = .ok (.lstore_n 3, 1) := by decide +kernel
theorem s_X9_hashOfAll_218 {n : Int64} (hc : x2.category = 1) (h : AP M_X9_hashOfAll b 219 [x0, x1, x2, .long n, jk, x5] (st) hi g Φ) : AP M_X9_hashOfAll b 218 [x0, x1, x2, x3, x4, x5] (.long n :: st) hi g Φ := AP.lstore_n (x := n) (i := 3) d_X9_hashOfAll_218 rfl (by decide) (by simp [am_st, am_ci, am_cr, am_cl, am_cd, hc]) h
theorem d_X9_hashOfAll_219 : decode cX9_hashOfAll 219 = .ok (.iinc 5 1, 3) := by decide +kernel
theorem s_X9_hashOfAll_219 {n : Int32} (hc : x4.category = 1) (h : AP M_X9_hashOfAll b 222 [x0, x1, x2, x3, x4, .int (n + 1)] (st) hi g Φ) : AP M_X9_hashOfAll b 219 [x0, x1, x2, x3, x4, .int n] (st) hi g Φ := AP.iinc (i := 5) (x := n) (y := n + 1) d_X9_hashOfAll_219 rfl rfl (by decide) (by simp [am_st, am_ci, am_cr, am_cl, am_cd, hc]) h
theorem d_X9_hashOfAll_222 : decode cX9_hashOfAll 222 = .ok (.goto (-27), 3) := by decide +kernel
theorem s_X9_hashOfAll_222 (h : AP M_X9_hashOfAll b 195 [x0, x1, x2, x3, x4, x5] st hi g Φ) : AP M_X9_hashOfAll b 222 [x0, x1, x2, x3, x4, x5] st hi g Φ := AP.goto d_X9_hashOfAll_222 (by decide) h
theorem d_X9_hashOfAll_225 : decode cX9_hashOfAll 225 = .ok (.lload_n 3, 1) := by decide +kernel
theorem s_X9_hashOfAll_225 {n : Int64} (h : AP M_X9_hashOfAll b 226 [x0, x1, x2, .long n, x4, x5] (.long n :: st) hi g Φ) : AP M_X9_hashOfAll b 225 [x0, x1, x2, .long n, x4, x5] (st) hi g Φ := AP.lload_n (x := n) (i := 3) d_X9_hashOfAll_225 rfl rfl h
theorem d_X9_hashOfAll_226 : decode cX9_hashOfAll 226 = .ok (.lreturn, 1) := by decide +kernel
theorem s_X9_hashOfAll_226 {x : Int64} (h : Φ (.ok (some (.long x))) hi g) : AP M_X9_hashOfAll b 226 [x0, x1, x2, x3, x4, x5] [.long x] hi g Φ := AP.lret d_X9_hashOfAll_226 rfl h
end
section
variable {b : Nat × Nat} {st : List Value} {hi : am_HI} {g : am_G} {Φ : am_P} {x0 x1 x2 x3 x4 x5 : Value}
theorem d_X9_hashOfKinds_0 : decode cX9_hashOfKinds 0 = .ok (.lload_n 1, 1) := by decide +kernel
theorem s_X9_hashOfKinds_0 {n : Int64} (h : AP M_X9_hashOfKinds b 1 [x0, .long n, x2, x3, x4, x5] (.long n :: st) hi g Φ) : AP M_X9_hashOfKinds b 0 [x0, .long n, x2, x3, x4, x5] (st) hi g Φ := AP.lload_n (x := n) (i := 1) d_X9_hashOfKinds_0 rfl rfl h
theorem d_X9_hashOfKinds_1 : decode cX9_hashOfKinds 1 = .ok (.lstore_n 3, 1) := by decide +kernel
theorem s_X9_hashOfKinds_1 {n : Int64} (hc : x2.category = 1) (h : AP M_X9_hashOfKinds b 2 [x0, x1, x2, .long n, jk, x5] (st) hi g Φ) : AP M_X9_hashOfKinds b 1 [x0, x1, x2, x3, x4, x5] (.long n :: st) hi g Φ := AP.lstore_n (x := n) (i := 3) d_X9_hashOfKinds_1 rfl (by decide) (by simp [am_st, am_ci, am_cr, am_cl, am_cd, hc]) h
theorem d_X9_hashOfKinds_2 : decode cX9_hashOfKinds 2 = .ok (.iconst 0, 1) := by decide +kernel
theorem s_X9_hashOfKinds_2 (h : AP M_X9_hashOfKinds b 3 [x0, x1, x2, x3, x4, x5] (.int 0 :: st) hi g Φ) : AP M_X9_hashOfKinds b 2 [x0, x1, x2, x3, x4, x5] (st) hi g Φ := AP.iconst (x := 0) d_X9_hashOfKinds_2 (by decide) h
theorem d_X9_hashOfKinds_3 : decode cX9_hashOfKinds 3 = .ok (.istore 5, 2) := by decide +kernel
theorem s_X9_hashOfKinds_3 {n : Int32} (hc : x4.category = 1) (h : AP M_X9_hashOfKinds b 5 [x0, x1, x2, x3, x4, .int n] (st) hi g Φ) : AP M_X9_hashOfKinds b 3 [x0, x1, x2, x3, x4, x5] (.int n :: st) hi g Φ := AP.istore (x := n) (i := 5) d_X9_hashOfKinds_3 (by decide) (by simp [am_st, am_ci, am_cr, am_cl, am_cd, hc]) h
theorem d_X9_hashOfKinds_5 : decode cX9_hashOfKinds 5 = .ok (.iload 5, 2) := by decide +kernel
theorem s_X9_hashOfKinds_5 {n : Int32} (h : AP M_X9_hashOfKinds b 7 [x0, x1, x2, x3, x4, .int n] (.int n :: st) hi g Φ) : AP M_X9_hashOfKinds b 5 [x0, x1, x2, x3, x4, .int n] (st) hi g Φ := AP.iload (x := n) (i := 5) d_X9_hashOfKinds_5 rfl h
theorem d_X9_hashOfKinds_7 : decode cX9_hashOfKinds 7 = .ok (.iconst 5, 1) := by decide +kernel
theorem s_X9_hashOfKinds_7 (h : AP M_X9_hashOfKinds b 8 [x0, x1, x2, x3, x4, x5] (.int 5 :: st) hi g Φ) : AP M_X9_hashOfKinds b 7 [x0, x1, x2, x3, x4, x5] (st) hi g Φ := AP.iconst (x := 5) d_X9_hashOfKinds_7 (by decide) h
theorem d_X9_hashOfKinds_8 : decode cX9_hashOfKinds 8 = .ok (.if_icmp .ge 78, 3) := by decide +kernel
theorem s_X9_hashOfKinds_8 {x y : Int32} (h1 : y ≤ x → AP M_X9_hashOfKinds b 86 [x0, x1, x2, x3, x4, x5] st hi g Φ) (h2 : ¬ y ≤ x → AP M_X9_hashOfKinds b 11 [x0, x1, x2, x3, x4, x5] st hi g Φ) : AP M_X9_hashOfKinds b 8 [x0, x1, x2, x3, x4, x5] (.int y :: .int x :: st) hi g Φ := AP.icmp_ge d_X9_hashOfKinds_8 (by decide) h1 h2
theorem d_X9_hashOfKinds_11 : decode cX9_hashOfKinds 11 = .ok (.lload_n 3, 1) := by decide +kernel
theorem s_X9_hashOfKinds_11 {n : Int64} (h : AP M_X9_hashOfKinds b 12 [x0, x1, x2, .long n, x4, x5] (.long n :: st) hi g Φ) : AP M_X9_hashOfKinds b 11 [x0, x1, x2, .long n, x4, x5] (st) hi g Φ := AP.lload_n (x := n) (i := 3) d_X9_hashOfKinds_11 rfl rfl h
theorem d_X9_hashOfKinds_12 : decode cX9_hashOfKinds 12 = .ok (.aload_n 0, 1) := by decide +kernel
theorem s_X9_hashOfKinds_12 {n : Nat} (h : AP M_X9_hashOfKinds b 13 [.ref n, x1, x2, x3, x4, x5] (.ref n :: st) hi g Φ) : AP M_X9_hashOfKinds b 12 [.ref n, x1, x2, x3, x4, x5] (st) hi g Φ := AP.aload_n (x := n) (i := 0) d_X9_hashOfKinds_12 rfl rfl h
theorem d_X9_hashOfKinds_13 : decode cX9_hashOfKinds 13 = .ok (.getfield 12, 3) := by decide +kernel
theorem s_X9_hashOfKinds_13 {k r : Nat} (hI : am_Inv g) (hs : am_SH k = (0, 9)) (hk : k < 134) (hr : am_HRf k 0 = some r) (hn : k ≠ 39) (h : AP M_X9_hashOfKinds b 16 [x0, x1, x2, x3, x4, x5] (.ref r :: st) hi g Φ) : AP M_X9_hashOfKinds b 13 [x0, x1, x2, x3, x4, x5] (.ref k :: st) hi g Φ := AP.getR (j := 0) (q := (RX9, TX9, 7)) d_X9_hashOfKinds_13 hs (hI.lt hk) rfl (by decide) (by decide) w_345 (hI.r hn hr) h
theorem d_X9_hashOfKinds_16 : decode cX9_hashOfKinds 16 = .ok (.iload 5, 2) := by decide +kernel
theorem s_X9_hashOfKinds_16 {n : Int32} (h : AP M_X9_hashOfKinds b 18 [x0, x1, x2, x3, x4, .int n] (.int n :: st) hi g Φ) : AP M_X9_hashOfKinds b 16 [x0, x1, x2, x3, x4, .int n] (st) hi g Φ := AP.iload (x := n) (i := 5) d_X9_hashOfKinds_16 rfl h
theorem d_X9_hashOfKinds_18 : decode cX9_hashOfKinds 18 = .ok (.invokevirtual 170, 3) := by decide +kernel
theorem s_X9_hashOfKinds_18 {a0 : Int32} {k : Nat} {r0 : Int32} {P : am_HI → Prop} (hI : am_Inv g) (hs : am_SH k = (0, 7)) (hk : k < 134) (hst : (st.map Value.category).sum ≤ 8) (hc : am_Cr M_X7_sumBy [.ref k, .int a0] hi g (some (.int r0)) P) (h : ∀ hi' : am_HI, P hi' → AP M_X9_hashOfKinds b 21 [x0, x1, x2, x3, x4, x5] (.int r0 :: st) hi' g Φ) : AP M_X9_hashOfKinds b 18 [x0, x1, x2, x3, x4, x5] (.int a0 :: .ref k :: st) hi g Φ := AP.callVr (As := [.int a0]) (q := (RX7, TX7, 7)) hI hc k_X9_hashOfKinds_170 d_X9_hashOfKinds_18 rfl hs hk rfl rfl hst h
theorem d_X9_hashOfKinds_21 : decode cX9_hashOfKinds 21 = .ok (.i2l, 1) := by decide +kernel
theorem s_X9_hashOfKinds_21 {x : Int32} (h : AP M_X9_hashOfKinds b 22 [x0, x1, x2, x3, x4, x5] (.long x.toInt64 :: st) hi g Φ) : AP M_X9_hashOfKinds b 21 [x0, x1, x2, x3, x4, x5] (.int x :: st) hi g Φ := AP.i2l d_X9_hashOfKinds_21 h
theorem d_X9_hashOfKinds_22 : decode cX9_hashOfKinds 22 = .ok (.invokestatic 353, 3) := by decide +kernel
theorem s_X9_hashOfKinds_22 {a0 : Int64} {a1 : Int64} {r0 : Int64} {P : am_HI → Prop} (hI : am_Inv g) (hst : (st.map Value.category).sum ≤ 8) (hc : am_Cr M_X9_mix [.long a0, .long a1] hi g (some (.long r0)) P) (h : ∀ hi' : am_HI, P hi' → AP M_X9_hashOfKinds b 25 [x0, x1, x2, x3, x4, x5] (.long r0 :: st) hi' g Φ) : AP M_X9_hashOfKinds b 22 [x0, x1, x2, x3, x4, x5] (.long a1 :: .long a0 :: st) hi g Φ := AP.callSr (As := [.long a0, .long a1]) hI hc k_X9_hashOfKinds_353 d_X9_hashOfKinds_22 rfl hst h
theorem d_X9_hashOfKinds_25 : decode cX9_hashOfKinds 25 = .ok (.lstore_n 3, 1) := by decide +kernel
theorem s_X9_hashOfKinds_25 {n : Int64} (hc : x2.category = 1) (h : AP M_X9_hashOfKinds b 26 [x0, x1, x2, .long n, jk, x5] (st) hi g Φ) : AP M_X9_hashOfKinds b 25 [x0, x1, x2, x3, x4, x5] (.long n :: st) hi g Φ := AP.lstore_n (x := n) (i := 3) d_X9_hashOfKinds_25 rfl (by decide) (by simp [am_st, am_ci, am_cr, am_cl, am_cd, hc]) h
theorem d_X9_hashOfKinds_26 : decode cX9_hashOfKinds 26 = .ok (.lload_n 3, 1) := by decide +kernel
theorem s_X9_hashOfKinds_26 {n : Int64} (h : AP M_X9_hashOfKinds b 27 [x0, x1, x2, .long n, x4, x5] (.long n :: st) hi g Φ) : AP M_X9_hashOfKinds b 26 [x0, x1, x2, .long n, x4, x5] (st) hi g Φ := AP.lload_n (x := n) (i := 3) d_X9_hashOfKinds_26 rfl rfl h
theorem d_X9_hashOfKinds_27 : decode cX9_hashOfKinds 27 = .ok (.aload_n 0, 1) := by decide +kernel
theorem s_X9_hashOfKinds_27 {n : Nat} (h : AP M_X9_hashOfKinds b 28 [.ref n, x1, x2, x3, x4, x5] (.ref n :: st) hi g Φ) : AP M_X9_hashOfKinds b 27 [.ref n, x1, x2, x3, x4, x5] (st) hi g Φ := AP.aload_n (x := n) (i := 0) d_X9_hashOfKinds_27 rfl rfl h
theorem d_X9_hashOfKinds_28 : decode cX9_hashOfKinds 28 = .ok (.getfield 12, 3) := by decide +kernel
theorem s_X9_hashOfKinds_28 {k r : Nat} (hI : am_Inv g) (hs : am_SH k = (0, 9)) (hk : k < 134) (hr : am_HRf k 0 = some r) (hn : k ≠ 39) (h : AP M_X9_hashOfKinds b 31 [x0, x1, x2, x3, x4, x5] (.ref r :: st) hi g Φ) : AP M_X9_hashOfKinds b 28 [x0, x1, x2, x3, x4, x5] (.ref k :: st) hi g Φ := AP.getR (j := 0) (q := (RX9, TX9, 7)) d_X9_hashOfKinds_28 hs (hI.lt hk) rfl (by decide) (by decide) w_345 (hI.r hn hr) h
theorem d_X9_hashOfKinds_31 : decode cX9_hashOfKinds 31 = .ok (.iload 5, 2) := by decide +kernel
theorem s_X9_hashOfKinds_31 {n : Int32} (h : AP M_X9_hashOfKinds b 33 [x0, x1, x2, x3, x4, .int n] (.int n :: st) hi g Φ) : AP M_X9_hashOfKinds b 31 [x0, x1, x2, x3, x4, .int n] (st) hi g Φ := AP.iload (x := n) (i := 5) d_X9_hashOfKinds_31 rfl h
theorem d_X9_hashOfKinds_33 : decode cX9_hashOfKinds 33 = .ok (.invokevirtual 210, 3) := by decide +kernel
theorem s_X9_hashOfKinds_33 {a0 : Int32} {k : Nat} {r0 : Int32} {P : am_HI → Prop} (hI : am_Inv g) (hs : am_SH k = (0, 7)) (hk : k < 134) (hst : (st.map Value.category).sum ≤ 8) (hc : am_Cr M_X7_countBlocksWith [.ref k, .int a0] hi g (some (.int r0)) P) (h : ∀ hi' : am_HI, P hi' → AP M_X9_hashOfKinds b 36 [x0, x1, x2, x3, x4, x5] (.int r0 :: st) hi' g Φ) : AP M_X9_hashOfKinds b 33 [x0, x1, x2, x3, x4, x5] (.int a0 :: .ref k :: st) hi g Φ := AP.callVr (As := [.int a0]) (q := (RX7, TX7, 7)) hI hc k_X9_hashOfKinds_210 d_X9_hashOfKinds_33 rfl hs hk rfl rfl hst h
theorem d_X9_hashOfKinds_36 : decode cX9_hashOfKinds 36 = .ok (.i2l, 1) := by decide +kernel
theorem s_X9_hashOfKinds_36 {x : Int32} (h : AP M_X9_hashOfKinds b 37 [x0, x1, x2, x3, x4, x5] (.long x.toInt64 :: st) hi g Φ) : AP M_X9_hashOfKinds b 36 [x0, x1, x2, x3, x4, x5] (.int x :: st) hi g Φ := AP.i2l d_X9_hashOfKinds_36 h
theorem d_X9_hashOfKinds_37 : decode cX9_hashOfKinds 37 = .ok (.invokestatic 353, 3) := by decide +kernel
theorem s_X9_hashOfKinds_37 {a0 : Int64} {a1 : Int64} {r0 : Int64} {P : am_HI → Prop} (hI : am_Inv g) (hst : (st.map Value.category).sum ≤ 8) (hc : am_Cr M_X9_mix [.long a0, .long a1] hi g (some (.long r0)) P) (h : ∀ hi' : am_HI, P hi' → AP M_X9_hashOfKinds b 40 [x0, x1, x2, x3, x4, x5] (.long r0 :: st) hi' g Φ) : AP M_X9_hashOfKinds b 37 [x0, x1, x2, x3, x4, x5] (.long a1 :: .long a0 :: st) hi g Φ := AP.callSr (As := [.long a0, .long a1]) hI hc k_X9_hashOfKinds_353 d_X9_hashOfKinds_37 rfl hst h
theorem d_X9_hashOfKinds_40 : decode cX9_hashOfKinds 40 = .ok (.lstore_n 3, 1) := by decide +kernel
theorem s_X9_hashOfKinds_40 {n : Int64} (hc : x2.category = 1) (h : AP M_X9_hashOfKinds b 41 [x0, x1, x2, .long n, jk, x5] (st) hi g Φ) : AP M_X9_hashOfKinds b 40 [x0, x1, x2, x3, x4, x5] (.long n :: st) hi g Φ := AP.lstore_n (x := n) (i := 3) d_X9_hashOfKinds_40 rfl (by decide) (by simp [am_st, am_ci, am_cr, am_cl, am_cd, hc]) h
theorem d_X9_hashOfKinds_41 : decode cX9_hashOfKinds 41 = .ok (.lload_n 3, 1) := by decide +kernel
theorem s_X9_hashOfKinds_41 {n : Int64} (h : AP M_X9_hashOfKinds b 42 [x0, x1, x2, .long n, x4, x5] (.long n :: st) hi g Φ) : AP M_X9_hashOfKinds b 41 [x0, x1, x2, .long n, x4, x5] (st) hi g Φ := AP.lload_n (x := n) (i := 3) d_X9_hashOfKinds_41 rfl rfl h
theorem d_X9_hashOfKinds_42 : decode cX9_hashOfKinds 42 = .ok (.aload_n 0, 1) := by decide +kernel
theorem s_X9_hashOfKinds_42 {n : Nat} (h : AP M_X9_hashOfKinds b 43 [.ref n, x1, x2, x3, x4, x5] (.ref n :: st) hi g Φ) : AP M_X9_hashOfKinds b 42 [.ref n, x1, x2, x3, x4, x5] (st) hi g Φ := AP.aload_n (x := n) (i := 0) d_X9_hashOfKinds_42 rfl rfl h
theorem d_X9_hashOfKinds_43 : decode cX9_hashOfKinds 43 = .ok (.getfield 12, 3) := by decide +kernel
theorem s_X9_hashOfKinds_43 {k r : Nat} (hI : am_Inv g) (hs : am_SH k = (0, 9)) (hk : k < 134) (hr : am_HRf k 0 = some r) (hn : k ≠ 39) (h : AP M_X9_hashOfKinds b 46 [x0, x1, x2, x3, x4, x5] (.ref r :: st) hi g Φ) : AP M_X9_hashOfKinds b 43 [x0, x1, x2, x3, x4, x5] (.ref k :: st) hi g Φ := AP.getR (j := 0) (q := (RX9, TX9, 7)) d_X9_hashOfKinds_43 hs (hI.lt hk) rfl (by decide) (by decide) w_345 (hI.r hn hr) h
theorem d_X9_hashOfKinds_46 : decode cX9_hashOfKinds 46 = .ok (.iload 5, 2) := by decide +kernel
theorem s_X9_hashOfKinds_46 {n : Int32} (h : AP M_X9_hashOfKinds b 48 [x0, x1, x2, x3, x4, .int n] (.int n :: st) hi g Φ) : AP M_X9_hashOfKinds b 46 [x0, x1, x2, x3, x4, .int n] (st) hi g Φ := AP.iload (x := n) (i := 5) d_X9_hashOfKinds_46 rfl h
theorem d_X9_hashOfKinds_48 : decode cX9_hashOfKinds 48 = .ok (.invokevirtual 213, 3) := by decide +kernel
theorem s_X9_hashOfKinds_48 {a0 : Int32} {k : Nat} {r0 : Int32} {P : am_HI → Prop} (hI : am_Inv g) (hs : am_SH k = (0, 7)) (hk : k < 134) (hst : (st.map Value.category).sum ≤ 8) (hc : am_Cr M_X7_sumIfOnly [.ref k, .int a0] hi g (some (.int r0)) P) (h : ∀ hi' : am_HI, P hi' → AP M_X9_hashOfKinds b 51 [x0, x1, x2, x3, x4, x5] (.int r0 :: st) hi' g Φ) : AP M_X9_hashOfKinds b 48 [x0, x1, x2, x3, x4, x5] (.int a0 :: .ref k :: st) hi g Φ := AP.callVr (As := [.int a0]) (q := (RX7, TX7, 7)) hI hc k_X9_hashOfKinds_213 d_X9_hashOfKinds_48 rfl hs hk rfl rfl hst h
theorem d_X9_hashOfKinds_51 : decode cX9_hashOfKinds 51 = .ok (.i2l, 1) := by decide +kernel
theorem s_X9_hashOfKinds_51 {x : Int32} (h : AP M_X9_hashOfKinds b 52 [x0, x1, x2, x3, x4, x5] (.long x.toInt64 :: st) hi g Φ) : AP M_X9_hashOfKinds b 51 [x0, x1, x2, x3, x4, x5] (.int x :: st) hi g Φ := AP.i2l d_X9_hashOfKinds_51 h
theorem d_X9_hashOfKinds_52 : decode cX9_hashOfKinds 52 = .ok (.invokestatic 353, 3) := by decide +kernel
theorem s_X9_hashOfKinds_52 {a0 : Int64} {a1 : Int64} {r0 : Int64} {P : am_HI → Prop} (hI : am_Inv g) (hst : (st.map Value.category).sum ≤ 8) (hc : am_Cr M_X9_mix [.long a0, .long a1] hi g (some (.long r0)) P) (h : ∀ hi' : am_HI, P hi' → AP M_X9_hashOfKinds b 55 [x0, x1, x2, x3, x4, x5] (.long r0 :: st) hi' g Φ) : AP M_X9_hashOfKinds b 52 [x0, x1, x2, x3, x4, x5] (.long a1 :: .long a0 :: st) hi g Φ := AP.callSr (As := [.long a0, .long a1]) hI hc k_X9_hashOfKinds_353 d_X9_hashOfKinds_52 rfl hst h
theorem d_X9_hashOfKinds_55 : decode cX9_hashOfKinds 55 = .ok (.lstore_n 3, 1) := by decide +kernel
theorem s_X9_hashOfKinds_55 {n : Int64} (hc : x2.category = 1) (h : AP M_X9_hashOfKinds b 56 [x0, x1, x2, .long n, jk, x5] (st) hi g Φ) : AP M_X9_hashOfKinds b 55 [x0, x1, x2, x3, x4, x5] (.long n :: st) hi g Φ := AP.lstore_n (x := n) (i := 3) d_X9_hashOfKinds_55 rfl (by decide) (by simp [am_st, am_ci, am_cr, am_cl, am_cd, hc]) h
theorem d_X9_hashOfKinds_56 : decode cX9_hashOfKinds 56 = .ok (.lload_n 3, 1) := by decide +kernel
theorem s_X9_hashOfKinds_56 {n : Int64} (h : AP M_X9_hashOfKinds b 57 [x0, x1, x2, .long n, x4, x5] (.long n :: st) hi g Φ) : AP M_X9_hashOfKinds b 56 [x0, x1, x2, .long n, x4, x5] (st) hi g Φ := AP.lload_n (x := n) (i := 3) d_X9_hashOfKinds_56 rfl rfl h
theorem d_X9_hashOfKinds_57 : decode cX9_hashOfKinds 57 = .ok (.aload_n 0, 1) := by decide +kernel
theorem s_X9_hashOfKinds_57 {n : Nat} (h : AP M_X9_hashOfKinds b 58 [.ref n, x1, x2, x3, x4, x5] (.ref n :: st) hi g Φ) : AP M_X9_hashOfKinds b 57 [.ref n, x1, x2, x3, x4, x5] (st) hi g Φ := AP.aload_n (x := n) (i := 0) d_X9_hashOfKinds_57 rfl rfl h
theorem d_X9_hashOfKinds_58 : decode cX9_hashOfKinds 58 = .ok (.getfield 12, 3) := by decide +kernel
theorem s_X9_hashOfKinds_58 {k r : Nat} (hI : am_Inv g) (hs : am_SH k = (0, 9)) (hk : k < 134) (hr : am_HRf k 0 = some r) (hn : k ≠ 39) (h : AP M_X9_hashOfKinds b 61 [x0, x1, x2, x3, x4, x5] (.ref r :: st) hi g Φ) : AP M_X9_hashOfKinds b 58 [x0, x1, x2, x3, x4, x5] (.ref k :: st) hi g Φ := AP.getR (j := 0) (q := (RX9, TX9, 7)) d_X9_hashOfKinds_58 hs (hI.lt hk) rfl (by decide) (by decide) w_345 (hI.r hn hr) h
theorem d_X9_hashOfKinds_61 : decode cX9_hashOfKinds 61 = .ok (.getfield 164, 3) := by decide +kernel
theorem s_X9_hashOfKinds_61 {k r : Nat} (hI : am_Inv g) (hs : am_SH k = (0, 7)) (hk : k < 134) (hr : am_HRf k 3 = some r) (hn : k ≠ 39) (h : AP M_X9_hashOfKinds b 64 [x0, x1, x2, x3, x4, x5] (.ref r :: st) hi g Φ) : AP M_X9_hashOfKinds b 61 [x0, x1, x2, x3, x4, x5] (.ref k :: st) hi g Φ := AP.getR (j := 3) (q := (RX7, TX7, 7)) d_X9_hashOfKinds_61 hs (hI.lt hk) rfl (by decide) (by decide) w_231 (hI.r hn hr) h
theorem d_X9_hashOfKinds_64 : decode cX9_hashOfKinds 64 = .ok (.iload 5, 2) := by decide +kernel
theorem s_X9_hashOfKinds_64 {n : Int32} (h : AP M_X9_hashOfKinds b 66 [x0, x1, x2, x3, x4, .int n] (.int n :: st) hi g Φ) : AP M_X9_hashOfKinds b 64 [x0, x1, x2, x3, x4, .int n] (st) hi g Φ := AP.iload (x := n) (i := 5) d_X9_hashOfKinds_64 rfl h
theorem d_X9_hashOfKinds_66 : decode cX9_hashOfKinds 66 = .ok (.aaload, 1) := by decide +kernel
theorem s_X9_hashOfKinds_66 {k n j r : Nat} {i : Int32} (hI : am_Inv g) (hs : am_SH k = (6, n)) (hk : k < 134) (hn : n < 2 ^ 31) (hx : i = nI j) (hj : j < n) (hr : g.2.1 k j = some r) (h : AP M_X9_hashOfKinds b 67 [x0, x1, x2, x3, x4, x5] (.ref r :: st) hi g Φ) : AP M_X9_hashOfKinds b 66 [x0, x1, x2, x3, x4, x5] (.int i :: .ref k :: st) hi g Φ := AP.rald d_X9_hashOfKinds_66 hs (hI.lt hk) hn hx hj hr h
theorem s_X9_hashOfKinds_66a {k n j r : Nat} {i : Int32} (hI : am_Inv g) (hs : am_SH k = (5, n)) (hk : k < 134) (hn : n < 2 ^ 31) (hx : i = nI j) (hj : j < n) (hr : g.2.1 k j = some r) (h : AP M_X9_hashOfKinds b 67 [x0, x1, x2, x3, x4, x5] (.ref r :: st) hi g Φ) : AP M_X9_hashOfKinds b 66 [x0, x1, x2, x3, x4, x5] (.int i :: .ref k :: st) hi g Φ := AP.aald d_X9_hashOfKinds_66 hs (hI.lt hk) hn hx hj hr h
theorem d_X9_hashOfKinds_67 : decode cX9_hashOfKinds 67 = .ok (.aload_n 0, 1) := by decide +kernel
theorem s_X9_hashOfKinds_67 {n : Nat} (h : AP M_X9_hashOfKinds b 68 [.ref n, x1, x2, x3, x4, x5] (.ref n :: st) hi g Φ) : AP M_X9_hashOfKinds b 67 [.ref n, x1, x2, x3, x4, x5] (st) hi g Φ := AP.aload_n (x := n) (i := 0) d_X9_hashOfKinds_67 rfl rfl h
theorem d_X9_hashOfKinds_68 : decode cX9_hashOfKinds 68 = .ok (.getfield 20, 3) := by decide +kernel
theorem s_X9_hashOfKinds_68 {k r : Nat} (hI : am_Inv g) (hs : am_SH k = (0, 9)) (hk : k < 134) (hr : am_HRf k 1 = some r) (hn : k ≠ 39) (h : AP M_X9_hashOfKinds b 71 [x0, x1, x2, x3, x4, x5] (.ref r :: st) hi g Φ) : AP M_X9_hashOfKinds b 68 [x0, x1, x2, x3, x4, x5] (.ref k :: st) hi g Φ := AP.getR (j := 1) (q := (RX9, TX9, 7)) d_X9_hashOfKinds_68 hs (hI.lt hk) rfl (by decide) (by decide) w_346 (hI.r hn hr) h
theorem d_X9_hashOfKinds_71 : decode cX9_hashOfKinds 71 = .ok (.getfield 83, 3) := by decide +kernel
theorem s_X9_hashOfKinds_71 {k : Nat} (hI : am_Inv g) (hs : am_SH k = (0, 6)) (hk : k < 134) (h : AP M_X9_hashOfKinds b 74 [x0, x1, x2, x3, x4, x5] (.int (hi k 3) :: st) hi g Φ) : AP M_X9_hashOfKinds b 71 [x0, x1, x2, x3, x4, x5] (.ref k :: st) hi g Φ := AP.getI (j := 3) (q := (RX6, TX6, 8)) d_X9_hashOfKinds_71 hs (hI.lt hk) rfl (by decide) (by decide) w_168 h
theorem d_X9_hashOfKinds_74 : decode cX9_hashOfKinds 74 = .ok (.iaload, 1) := by decide +kernel
theorem s_X9_hashOfKinds_74 {k n j : Nat} {i : Int32} (hI : am_Inv g) (hs : am_SH k = (1, n)) (hk : k < 134) (hn : n < 2 ^ 31) (hx : i = nI j) (hj : j < n) (h : AP M_X9_hashOfKinds b 75 [x0, x1, x2, x3, x4, x5] (.int (hi k j) :: st) hi g Φ) : AP M_X9_hashOfKinds b 74 [x0, x1, x2, x3, x4, x5] (.int i :: .ref k :: st) hi g Φ := AP.iald d_X9_hashOfKinds_74 hs (hI.lt hk) hn hx hj h
theorem d_X9_hashOfKinds_75 : decode cX9_hashOfKinds 75 = .ok (.i2l, 1) := by decide +kernel
theorem s_X9_hashOfKinds_75 {x : Int32} (h : AP M_X9_hashOfKinds b 76 [x0, x1, x2, x3, x4, x5] (.long x.toInt64 :: st) hi g Φ) : AP M_X9_hashOfKinds b 75 [x0, x1, x2, x3, x4, x5] (.int x :: st) hi g Φ := AP.i2l d_X9_hashOfKinds_75 h
theorem d_X9_hashOfKinds_76 : decode cX9_hashOfKinds 76 = .ok (.invokestatic 353, 3) := by decide +kernel
theorem s_X9_hashOfKinds_76 {a0 : Int64} {a1 : Int64} {r0 : Int64} {P : am_HI → Prop} (hI : am_Inv g) (hst : (st.map Value.category).sum ≤ 8) (hc : am_Cr M_X9_mix [.long a0, .long a1] hi g (some (.long r0)) P) (h : ∀ hi' : am_HI, P hi' → AP M_X9_hashOfKinds b 79 [x0, x1, x2, x3, x4, x5] (.long r0 :: st) hi' g Φ) : AP M_X9_hashOfKinds b 76 [x0, x1, x2, x3, x4, x5] (.long a1 :: .long a0 :: st) hi g Φ := AP.callSr (As := [.long a0, .long a1]) hI hc k_X9_hashOfKinds_353 d_X9_hashOfKinds_76 rfl hst h
theorem d_X9_hashOfKinds_79 : decode cX9_hashOfKinds 79 = .ok (.lstore_n 3, 1) := by decide +kernel
theorem s_X9_hashOfKinds_79 {n : Int64} (hc : x2.category = 1) (h : AP M_X9_hashOfKinds b 80 [x0, x1, x2, .long n, jk, x5] (st) hi g Φ) : AP M_X9_hashOfKinds b 79 [x0, x1, x2, x3, x4, x5] (.long n :: st) hi g Φ := AP.lstore_n (x := n) (i := 3) d_X9_hashOfKinds_79 rfl (by decide) (by simp [am_st, am_ci, am_cr, am_cl, am_cd, hc]) h
theorem d_X9_hashOfKinds_80 : decode cX9_hashOfKinds 80 = .ok (.iinc 5 1, 3) := by decide +kernel
theorem s_X9_hashOfKinds_80 {n : Int32} (hc : x4.category = 1) (h : AP M_X9_hashOfKinds b 83 [x0, x1, x2, x3, x4, .int (n + 1)] (st) hi g Φ) : AP M_X9_hashOfKinds b 80 [x0, x1, x2, x3, x4, .int n] (st) hi g Φ := AP.iinc (i := 5) (x := n) (y := n + 1) d_X9_hashOfKinds_80 rfl rfl (by decide) (by simp [am_st, am_ci, am_cr, am_cl, am_cd, hc]) h
theorem d_X9_hashOfKinds_83 : decode cX9_hashOfKinds 83 = .ok (.goto (-78), 3) := by decide +kernel
theorem s_X9_hashOfKinds_83 (h : AP M_X9_hashOfKinds b 5 [x0, x1, x2, x3, x4, x5] st hi g Φ) : AP M_X9_hashOfKinds b 83 [x0, x1, x2, x3, x4, x5] st hi g Φ := AP.goto d_X9_hashOfKinds_83 (by decide) h
theorem d_X9_hashOfKinds_86 : decode cX9_hashOfKinds 86 = .ok (.lload_n 3, 1) := by decide +kernel
theorem s_X9_hashOfKinds_86 {n : Int64} (h : AP M_X9_hashOfKinds b 87 [x0, x1, x2, .long n, x4, x5] (.long n :: st) hi g Φ) : AP M_X9_hashOfKinds b 86 [x0, x1, x2, .long n, x4, x5] (st) hi g Φ := AP.lload_n (x := n) (i := 3) d_X9_hashOfKinds_86 rfl rfl h
theorem d_X9_hashOfKinds_87 : decode cX9_hashOfKinds 87 = .ok (.lreturn, 1) := by decide +kernel
theorem s_X9_hashOfKinds_87 {x : Int64} (h : Φ (.ok (some (.long x))) hi g) : AP M_X9_hashOfKinds b 87 [x0, x1, x2, x3, x4, x5] [.long x] hi g Φ := AP.lret d_X9_hashOfKinds_87 rfl h
end
section
variable {b : Nat × Nat} {st : List Value} {hi : am_HI} {g : am_G} {Φ : am_P} {x0 x1 x2 : Value}
theorem d_X9_digest_0 : decode cX9_digest 0 = .ok (.aload_n 0, 1) := by decide +kernel
theorem s_X9_digest_0 {n : Nat} (h : AP M_X9_digest b 1 [.ref n, x1, x2] (.ref n :: st) hi g Φ) : AP M_X9_digest b 0 [.ref n, x1, x2] (st) hi g Φ := AP.aload_n (x := n) (i := 0) d_X9_digest_0 rfl rfl h
theorem d_X9_digest_1 : decode cX9_digest 1 = .ok (.getfield 12, 3) := by decide +kernel
theorem s_X9_digest_1 {k r : Nat} (hI : am_Inv g) (hs : am_SH k = (0, 9)) (hk : k < 134) (hr : am_HRf k 0 = some r) (hn : k ≠ 39) (h : AP M_X9_digest b 4 [x0, x1, x2] (.ref r :: st) hi g Φ) : AP M_X9_digest b 1 [x0, x1, x2] (.ref k :: st) hi g Φ := AP.getR (j := 0) (q := (RX9, TX9, 7)) d_X9_digest_1 hs (hI.lt hk) rfl (by decide) (by decide) w_345 (hI.r hn hr) h
theorem d_X9_digest_4 : decode cX9_digest 4 = .ok (.invokevirtual 192, 3) := by decide +kernel
theorem s_X9_digest_4  {k : Nat} {P : am_HI → Prop} (hI : am_Inv g) (hs : am_SH k = (0, 7)) (hk : k < 134) (hst : (st.map Value.category).sum ≤ 8) (hc : am_Cr M_X7_weighBlocks [.ref k] hi g none P) (h : ∀ hi' : am_HI, P hi' → AP M_X9_digest b 7 [x0, x1, x2] (st) hi' g Φ) : AP M_X9_digest b 4 [x0, x1, x2] (.ref k :: st) hi g Φ := AP.callVr (As := []) (q := (RX7, TX7, 7)) hI hc k_X9_digest_192 d_X9_digest_4 rfl hs hk rfl rfl hst h
theorem d_X9_digest_7 : decode cX9_digest 7 = .ok (.aload_n 0, 1) := by decide +kernel
theorem s_X9_digest_7 {n : Nat} (h : AP M_X9_digest b 8 [.ref n, x1, x2] (.ref n :: st) hi g Φ) : AP M_X9_digest b 7 [.ref n, x1, x2] (st) hi g Φ := AP.aload_n (x := n) (i := 0) d_X9_digest_7 rfl rfl h
theorem d_X9_digest_8 : decode cX9_digest 8 = .ok (.ldc2_w 281, 3) := by decide +kernel
theorem s_X9_digest_8 (h : AP M_X9_digest b 11 [x0, x1, x2] (.long 798 :: st) hi g Φ) : AP M_X9_digest b 8 [x0, x1, x2] (st) hi g Φ := AP.ldc2 (x := 798) d_X9_digest_8 w_639 h
theorem d_X9_digest_11 : decode cX9_digest 11 = .ok (.invokevirtual 283, 3) := by decide +kernel
theorem s_X9_digest_11 {a0 : Int64} {k : Nat} {r0 : Int64} {P : am_HI → Prop} (hI : am_Inv g) (hs : am_SH k = (0, 9)) (hk : k < 134) (hst : (st.map Value.category).sum ≤ 8) (hc : am_Cr M_X9_hashOfAll [.ref k, .long a0] hi g (some (.long r0)) P) (h : ∀ hi' : am_HI, P hi' → AP M_X9_digest b 14 [x0, x1, x2] (.long r0 :: st) hi' g Φ) : AP M_X9_digest b 11 [x0, x1, x2] (.long a0 :: .ref k :: st) hi g Φ := AP.callVr (As := [.long a0]) (q := (RX9, TX9, 7)) hI hc k_X9_digest_283 d_X9_digest_11 rfl hs hk rfl rfl hst h
theorem d_X9_digest_14 : decode cX9_digest 14 = .ok (.lstore_n 1, 1) := by decide +kernel
theorem s_X9_digest_14 {n : Int64} (hc : x0.category = 1) (h : AP M_X9_digest b 15 [x0, .long n, jk] (st) hi g Φ) : AP M_X9_digest b 14 [x0, x1, x2] (.long n :: st) hi g Φ := AP.lstore_n (x := n) (i := 1) d_X9_digest_14 rfl (by decide) (by simp [am_st, am_ci, am_cr, am_cl, am_cd, hc]) h
theorem d_X9_digest_15 : decode cX9_digest 15 = .ok (.aload_n 0, 1) := by decide +kernel
theorem s_X9_digest_15 {n : Nat} (h : AP M_X9_digest b 16 [.ref n, x1, x2] (.ref n :: st) hi g Φ) : AP M_X9_digest b 15 [.ref n, x1, x2] (st) hi g Φ := AP.aload_n (x := n) (i := 0) d_X9_digest_15 rfl rfl h
theorem d_X9_digest_16 : decode cX9_digest 16 = .ok (.lload_n 1, 1) := by decide +kernel
theorem s_X9_digest_16 {n : Int64} (h : AP M_X9_digest b 17 [x0, .long n, x2] (.long n :: st) hi g Φ) : AP M_X9_digest b 16 [x0, .long n, x2] (st) hi g Φ := AP.lload_n (x := n) (i := 1) d_X9_digest_16 rfl rfl h
theorem d_X9_digest_17 : decode cX9_digest 17 = .ok (.invokevirtual 287, 3) := by decide +kernel
theorem s_X9_digest_17 {a0 : Int64} {k : Nat} {r0 : Int64} {P : am_HI → Prop} (hI : am_Inv g) (hs : am_SH k = (0, 9)) (hk : k < 134) (hst : (st.map Value.category).sum ≤ 8) (hc : am_Cr M_X9_hashOfKinds [.ref k, .long a0] hi g (some (.long r0)) P) (h : ∀ hi' : am_HI, P hi' → AP M_X9_digest b 20 [x0, x1, x2] (.long r0 :: st) hi' g Φ) : AP M_X9_digest b 17 [x0, x1, x2] (.long a0 :: .ref k :: st) hi g Φ := AP.callVr (As := [.long a0]) (q := (RX9, TX9, 7)) hI hc k_X9_digest_287 d_X9_digest_17 rfl hs hk rfl rfl hst h
theorem d_X9_digest_20 : decode cX9_digest 20 = .ok (.lstore_n 1, 1) := by decide +kernel
theorem s_X9_digest_20 {n : Int64} (hc : x0.category = 1) (h : AP M_X9_digest b 21 [x0, .long n, jk] (st) hi g Φ) : AP M_X9_digest b 20 [x0, x1, x2] (.long n :: st) hi g Φ := AP.lstore_n (x := n) (i := 1) d_X9_digest_20 rfl (by decide) (by simp [am_st, am_ci, am_cr, am_cl, am_cd, hc]) h
theorem d_X9_digest_21 : decode cX9_digest 21 = .ok (.aload_n 0, 1) := by decide +kernel
theorem s_X9_digest_21 {n : Nat} (h : AP M_X9_digest b 22 [.ref n, x1, x2] (.ref n :: st) hi g Φ) : AP M_X9_digest b 21 [.ref n, x1, x2] (st) hi g Φ := AP.aload_n (x := n) (i := 0) d_X9_digest_21 rfl rfl h
theorem d_X9_digest_22 : decode cX9_digest 22 = .ok (.lload_n 1, 1) := by decide +kernel
theorem s_X9_digest_22 {n : Int64} (h : AP M_X9_digest b 23 [x0, .long n, x2] (.long n :: st) hi g Φ) : AP M_X9_digest b 22 [x0, .long n, x2] (st) hi g Φ := AP.lload_n (x := n) (i := 1) d_X9_digest_22 rfl rfl h
theorem d_X9_digest_23 : decode cX9_digest 23 = .ok (.invokevirtual 290, 3) := by decide +kernel
theorem s_X9_digest_23 {a0 : Int64} {k : Nat} {r0 : Int64} {P : am_HI → Prop} (hI : am_Inv g) (hs : am_SH k = (0, 9)) (hk : k < 134) (hst : (st.map Value.category).sum ≤ 8) (hc : am_Cr M_X9_hashOfSamples [.ref k, .long a0] hi g (some (.long r0)) P) (h : ∀ hi' : am_HI, P hi' → AP M_X9_digest b 26 [x0, x1, x2] (.long r0 :: st) hi' g Φ) : AP M_X9_digest b 23 [x0, x1, x2] (.long a0 :: .ref k :: st) hi g Φ := AP.callVr (As := [.long a0]) (q := (RX9, TX9, 7)) hI hc k_X9_digest_290 d_X9_digest_23 rfl hs hk rfl rfl hst h
theorem d_X9_digest_26 : decode cX9_digest 26 = .ok (.lstore_n 1, 1) := by decide +kernel
theorem s_X9_digest_26 {n : Int64} (hc : x0.category = 1) (h : AP M_X9_digest b 27 [x0, .long n, jk] (st) hi g Φ) : AP M_X9_digest b 26 [x0, x1, x2] (.long n :: st) hi g Φ := AP.lstore_n (x := n) (i := 1) d_X9_digest_26 rfl (by decide) (by simp [am_st, am_ci, am_cr, am_cl, am_cd, hc]) h
theorem d_X9_digest_27 : decode cX9_digest 27 = .ok (.aload_n 0, 1) := by decide +kernel
theorem s_X9_digest_27 {n : Nat} (h : AP M_X9_digest b 28 [.ref n, x1, x2] (.ref n :: st) hi g Φ) : AP M_X9_digest b 27 [.ref n, x1, x2] (st) hi g Φ := AP.aload_n (x := n) (i := 0) d_X9_digest_27 rfl rfl h
theorem d_X9_digest_28 : decode cX9_digest 28 = .ok (.lload_n 1, 1) := by decide +kernel
theorem s_X9_digest_28 {n : Int64} (h : AP M_X9_digest b 29 [x0, .long n, x2] (.long n :: st) hi g Φ) : AP M_X9_digest b 28 [x0, .long n, x2] (st) hi g Φ := AP.lload_n (x := n) (i := 1) d_X9_digest_28 rfl rfl h
theorem d_X9_digest_29 : decode cX9_digest 29 = .ok (.invokevirtual 293, 3) := by decide +kernel
theorem s_X9_digest_29 {a0 : Int64} {k : Nat} {r0 : Int64} {P : am_HI → Prop} (hI : am_Inv g) (hs : am_SH k = (0, 9)) (hk : k < 134) (hst : (st.map Value.category).sum ≤ 8) (hc : am_Cr M_X9_hashOfBlocks [.ref k, .long a0] hi g (some (.long r0)) P) (h : ∀ hi' : am_HI, P hi' → AP M_X9_digest b 32 [x0, x1, x2] (.long r0 :: st) hi' g Φ) : AP M_X9_digest b 29 [x0, x1, x2] (.long a0 :: .ref k :: st) hi g Φ := AP.callVr (As := [.long a0]) (q := (RX9, TX9, 7)) hI hc k_X9_digest_293 d_X9_digest_29 rfl hs hk rfl rfl hst h
theorem d_X9_digest_32 : decode cX9_digest 32 = .ok (.lstore_n 1, 1) := by decide +kernel
theorem s_X9_digest_32 {n : Int64} (hc : x0.category = 1) (h : AP M_X9_digest b 33 [x0, .long n, jk] (st) hi g Φ) : AP M_X9_digest b 32 [x0, x1, x2] (.long n :: st) hi g Φ := AP.lstore_n (x := n) (i := 1) d_X9_digest_32 rfl (by decide) (by simp [am_st, am_ci, am_cr, am_cl, am_cd, hc]) h
theorem d_X9_digest_33 : decode cX9_digest 33 = .ok (.aload_n 0, 1) := by decide +kernel
theorem s_X9_digest_33 {n : Nat} (h : AP M_X9_digest b 34 [.ref n, x1, x2] (.ref n :: st) hi g Φ) : AP M_X9_digest b 33 [.ref n, x1, x2] (st) hi g Φ := AP.aload_n (x := n) (i := 0) d_X9_digest_33 rfl rfl h
theorem d_X9_digest_34 : decode cX9_digest 34 = .ok (.lload_n 1, 1) := by decide +kernel
theorem s_X9_digest_34 {n : Int64} (h : AP M_X9_digest b 35 [x0, .long n, x2] (.long n :: st) hi g Φ) : AP M_X9_digest b 34 [x0, .long n, x2] (st) hi g Φ := AP.lload_n (x := n) (i := 1) d_X9_digest_34 rfl rfl h
theorem d_X9_digest_35 : decode cX9_digest 35 = .ok (.invokevirtual 296, 3) := by decide +kernel
theorem s_X9_digest_35 {a0 : Int64} {k : Nat} {r0 : Int64} {P : am_HI → Prop} (hI : am_Inv g) (hs : am_SH k = (0, 9)) (hk : k < 134) (hst : (st.map Value.category).sum ≤ 8) (hc : am_Cr M_X9_hashOfLetter [.ref k, .long a0] hi g (some (.long r0)) P) (h : ∀ hi' : am_HI, P hi' → AP M_X9_digest b 38 [x0, x1, x2] (.long r0 :: st) hi' g Φ) : AP M_X9_digest b 35 [x0, x1, x2] (.long a0 :: .ref k :: st) hi g Φ := AP.callVr (As := [.long a0]) (q := (RX9, TX9, 7)) hI hc k_X9_digest_296 d_X9_digest_35 rfl hs hk rfl rfl hst h
theorem d_X9_digest_38 : decode cX9_digest 38 = .ok (.lreturn, 1) := by decide +kernel
theorem s_X9_digest_38 {x : Int64} (h : Φ (.ok (some (.long x))) hi g) : AP M_X9_digest b 38 [x0, x1, x2] [.long x] hi g Φ := AP.lret d_X9_digest_38 rfl h
end
section
variable {b : Nat × Nat} {st : List Value} {hi : am_HI} {g : am_G} {Φ : am_P} {x0 : Value}
theorem d_X9_firstError_0 : decode cX9_firstError 0 = .ok (.aload_n 0, 1) := by decide +kernel
theorem s_X9_firstError_0 {n : Nat} (h : AP M_X9_firstError b 1 [.ref n] (.ref n :: st) hi g Φ) : AP M_X9_firstError b 0 [.ref n] (st) hi g Φ := AP.aload_n (x := n) (i := 0) d_X9_firstError_0 rfl rfl h
theorem d_X9_firstError_1 : decode cX9_firstError 1 = .ok (.getfield 40, 3) := by decide +kernel
theorem s_X9_firstError_1 {k r : Nat} (hI : am_Inv g) (hs : am_SH k = (0, 9)) (hk : k < 134) (hr : am_HRf k 4 = some r) (hn : k ≠ 39) (h : AP M_X9_firstError b 4 [x0] (.ref r :: st) hi g Φ) : AP M_X9_firstError b 1 [x0] (.ref k :: st) hi g Φ := AP.getR (j := 4) (q := (RX9, TX9, 7)) d_X9_firstError_1 hs (hI.lt hk) rfl (by decide) (by decide) w_349 (hI.r hn hr) h
theorem d_X9_firstError_4 : decode cX9_firstError 4 = .ok (.invokevirtual 263, 3) := by decide +kernel
theorem s_X9_firstError_4  {k : Nat} {r0 : Int32} {P : am_HI → Prop} (hI : am_Inv g) (hs : am_SH k = (0, 8)) (hk : k < 134) (hst : (st.map Value.category).sum ≤ 8) (hc : am_Cr M_X8_findFault [.ref k] hi g (some (.int r0)) P) (h : ∀ hi' : am_HI, P hi' → AP M_X9_firstError b 7 [x0] (.int r0 :: st) hi' g Φ) : AP M_X9_firstError b 4 [x0] (.ref k :: st) hi g Φ := AP.callVr (As := []) (q := (RX8, TX8, 6)) hI hc k_X9_firstError_263 d_X9_firstError_4 rfl hs hk rfl rfl hst h
theorem d_X9_firstError_7 : decode cX9_firstError 7 = .ok (.ireturn, 1) := by decide +kernel
theorem s_X9_firstError_7 {x : Int32} (h : Φ (.ok (some (.int x))) hi g) : AP M_X9_firstError b 7 [x0] [.int x] hi g Φ := AP.iret d_X9_firstError_7 rfl h
end
section
variable {b : Nat × Nat} {st : List Value} {hi : am_HI} {g : am_G} {Φ : am_P} {x0 x1 : Value}
theorem d_X9_add_0 : decode cX9_add 0 = .ok (.iload_n 1, 1) := by decide +kernel
theorem s_X9_add_0 {n : Int32} (h : AP M_X9_add b 1 [x0, .int n] (.int n :: st) hi g Φ) : AP M_X9_add b 0 [x0, .int n] (st) hi g Φ := AP.iload_n (x := n) (i := 1) d_X9_add_0 rfl rfl h
theorem d_X9_add_1 : decode cX9_add 1 = .ok (.bipush (-99), 2) := by decide +kernel
theorem s_X9_add_1 (h : AP M_X9_add b 3 [x0, x1] (.int (-99) :: st) hi g Φ) : AP M_X9_add b 1 [x0, x1] (st) hi g Φ := AP.bipush (x := (-99)) d_X9_add_1 (by decide) h
theorem d_X9_add_3 : decode cX9_add 3 = .ok (.bipush 99, 2) := by decide +kernel
theorem s_X9_add_3 (h : AP M_X9_add b 5 [x0, x1] (.int 99 :: st) hi g Φ) : AP M_X9_add b 3 [x0, x1] (st) hi g Φ := AP.bipush (x := 99) d_X9_add_3 (by decide) h
theorem d_X9_add_5 : decode cX9_add 5 = .ok (.invokestatic 58, 3) := by decide +kernel
theorem s_X9_add_5 {a0 : Int32} {a1 : Int32} {a2 : Int32} {r0 : Int32} {P : am_HI → Prop} (hI : am_Inv g) (hst : (st.map Value.category).sum ≤ 8) (hc : am_Cr M_X9_isWithin [.int a0, .int a1, .int a2] hi g (some (.int r0)) P) (h : ∀ hi' : am_HI, P hi' → AP M_X9_add b 8 [x0, x1] (.int r0 :: st) hi' g Φ) : AP M_X9_add b 5 [x0, x1] (.int a2 :: .int a1 :: .int a0 :: st) hi g Φ := AP.callSr (As := [.int a0, .int a1, .int a2]) hI hc k_X9_add_58 d_X9_add_5 rfl hst h
theorem d_X9_add_8 : decode cX9_add 8 = .ok (.invokestatic 62, 3) := by decide +kernel
theorem s_X9_add_8 {a0 : Int32} {P : am_HI → Prop} (hI : am_Inv g) (hst : (st.map Value.category).sum ≤ 8) (hc : am_Cr M_X9_needArgument [.int a0] hi g none P) (h : ∀ hi' : am_HI, P hi' → AP M_X9_add b 11 [x0, x1] (st) hi' g Φ) : AP M_X9_add b 8 [x0, x1] (.int a0 :: st) hi g Φ := AP.callSr (As := [.int a0]) hI hc k_X9_add_62 d_X9_add_8 rfl hst h
theorem d_X9_add_11 : decode cX9_add 11 = .ok (.aload_n 0, 1) := by decide +kernel
theorem s_X9_add_11 {n : Nat} (h : AP M_X9_add b 12 [.ref n, x1] (.ref n :: st) hi g Φ) : AP M_X9_add b 11 [.ref n, x1] (st) hi g Φ := AP.aload_n (x := n) (i := 0) d_X9_add_11 rfl rfl h
theorem d_X9_add_12 : decode cX9_add 12 = .ok (.getfield 20, 3) := by decide +kernel
theorem s_X9_add_12 {k r : Nat} (hI : am_Inv g) (hs : am_SH k = (0, 9)) (hk : k < 134) (hr : am_HRf k 1 = some r) (hn : k ≠ 39) (h : AP M_X9_add b 15 [x0, x1] (.ref r :: st) hi g Φ) : AP M_X9_add b 12 [x0, x1] (.ref k :: st) hi g Φ := AP.getR (j := 1) (q := (RX9, TX9, 7)) d_X9_add_12 hs (hI.lt hk) rfl (by decide) (by decide) w_346 (hI.r hn hr) h
theorem d_X9_add_15 : decode cX9_add 15 = .ok (.iconst 1, 1) := by decide +kernel
theorem s_X9_add_15 (h : AP M_X9_add b 16 [x0, x1] (.int 1 :: st) hi g Φ) : AP M_X9_add b 15 [x0, x1] (st) hi g Φ := AP.iconst (x := 1) d_X9_add_15 (by decide) h
theorem d_X9_add_16 : decode cX9_add 16 = .ok (.invokevirtual 66, 3) := by decide +kernel
theorem s_X9_add_16 {a0 : Int32} {k : Nat} {r0 : Int32} {P : am_HI → Prop} (hI : am_Inv g) (hs : am_SH k = (0, 6)) (hk : k < 134) (hst : (st.map Value.category).sum ≤ 8) (hc : am_Cr M_X6_hasRoomFor [.ref k, .int a0] hi g (some (.int r0)) P) (h : ∀ hi' : am_HI, P hi' → AP M_X9_add b 19 [x0, x1] (.int r0 :: st) hi' g Φ) : AP M_X9_add b 16 [x0, x1] (.int a0 :: .ref k :: st) hi g Φ := AP.callVr (As := [.int a0]) (q := (RX6, TX6, 8)) hI hc k_X9_add_66 d_X9_add_16 rfl hs hk rfl rfl hst h
theorem d_X9_add_19 : decode cX9_add 19 = .ok (.invokestatic 72, 3) := by decide +kernel
theorem s_X9_add_19 {a0 : Int32} {P : am_HI → Prop} (hI : am_Inv g) (hst : (st.map Value.category).sum ≤ 8) (hc : am_Cr M_X9_needPossible [.int a0] hi g none P) (h : ∀ hi' : am_HI, P hi' → AP M_X9_add b 22 [x0, x1] (st) hi' g Φ) : AP M_X9_add b 19 [x0, x1] (.int a0 :: st) hi g Φ := AP.callSr (As := [.int a0]) hI hc k_X9_add_72 d_X9_add_19 rfl hst h
theorem d_X9_add_22 : decode cX9_add 22 = .ok (.aload_n 0, 1) := by decide +kernel
theorem s_X9_add_22 {n : Nat} (h : AP M_X9_add b 23 [.ref n, x1] (.ref n :: st) hi g Φ) : AP M_X9_add b 22 [.ref n, x1] (st) hi g Φ := AP.aload_n (x := n) (i := 0) d_X9_add_22 rfl rfl h
theorem d_X9_add_23 : decode cX9_add 23 = .ok (.getfield 26, 3) := by decide +kernel
theorem s_X9_add_23 {k r : Nat} (hI : am_Inv g) (hs : am_SH k = (0, 9)) (hk : k < 134) (hr : am_HRf k 2 = some r) (hn : k ≠ 39) (h : AP M_X9_add b 26 [x0, x1] (.ref r :: st) hi g Φ) : AP M_X9_add b 23 [x0, x1] (.ref k :: st) hi g Φ := AP.getR (j := 2) (q := (RX9, TX9, 7)) d_X9_add_23 hs (hI.lt hk) rfl (by decide) (by decide) w_347 (hI.r hn hr) h
theorem d_X9_add_26 : decode cX9_add 26 = .ok (.aload_n 0, 1) := by decide +kernel
theorem s_X9_add_26 {n : Nat} (h : AP M_X9_add b 27 [.ref n, x1] (.ref n :: st) hi g Φ) : AP M_X9_add b 26 [.ref n, x1] (st) hi g Φ := AP.aload_n (x := n) (i := 0) d_X9_add_26 rfl rfl h
theorem d_X9_add_27 : decode cX9_add 27 = .ok (.getfield 20, 3) := by decide +kernel
theorem s_X9_add_27 {k r : Nat} (hI : am_Inv g) (hs : am_SH k = (0, 9)) (hk : k < 134) (hr : am_HRf k 1 = some r) (hn : k ≠ 39) (h : AP M_X9_add b 30 [x0, x1] (.ref r :: st) hi g Φ) : AP M_X9_add b 27 [x0, x1] (.ref k :: st) hi g Φ := AP.getR (j := 1) (q := (RX9, TX9, 7)) d_X9_add_27 hs (hI.lt hk) rfl (by decide) (by decide) w_346 (hI.r hn hr) h
theorem d_X9_add_30 : decode cX9_add 30 = .ok (.invokevirtual 75, 3) := by decide +kernel
theorem s_X9_add_30 {a0 : Nat} {k : Nat} {P : am_HI → Prop} (hI : am_Inv g) (hs : am_SH k = (0, 1)) (hk : k < 134) (hst : (st.map Value.category).sum ≤ 8) (hc : am_Cr M_X1_save [.ref k, .ref a0] hi g none P) (h : ∀ hi' : am_HI, P hi' → AP M_X9_add b 33 [x0, x1] (st) hi' g Φ) : AP M_X9_add b 30 [x0, x1] (.ref a0 :: .ref k :: st) hi g Φ := AP.callVr (As := [.ref a0]) (q := (RX1, TX1, 2)) hI hc k_X9_add_75 d_X9_add_30 rfl hs hk rfl rfl hst h
theorem d_X9_add_33 : decode cX9_add 33 = .ok (.aload_n 0, 1) := by decide +kernel
theorem s_X9_add_33 {n : Nat} (h : AP M_X9_add b 34 [.ref n, x1] (.ref n :: st) hi g Φ) : AP M_X9_add b 33 [.ref n, x1] (st) hi g Φ := AP.aload_n (x := n) (i := 0) d_X9_add_33 rfl rfl h
theorem d_X9_add_34 : decode cX9_add 34 = .ok (.getfield 20, 3) := by decide +kernel
theorem s_X9_add_34 {k r : Nat} (hI : am_Inv g) (hs : am_SH k = (0, 9)) (hk : k < 134) (hr : am_HRf k 1 = some r) (hn : k ≠ 39) (h : AP M_X9_add b 37 [x0, x1] (.ref r :: st) hi g Φ) : AP M_X9_add b 34 [x0, x1] (.ref k :: st) hi g Φ := AP.getR (j := 1) (q := (RX9, TX9, 7)) d_X9_add_34 hs (hI.lt hk) rfl (by decide) (by decide) w_346 (hI.r hn hr) h
theorem d_X9_add_37 : decode cX9_add 37 = .ok (.iload_n 1, 1) := by decide +kernel
theorem s_X9_add_37 {n : Int32} (h : AP M_X9_add b 38 [x0, .int n] (.int n :: st) hi g Φ) : AP M_X9_add b 37 [x0, .int n] (st) hi g Φ := AP.iload_n (x := n) (i := 1) d_X9_add_37 rfl rfl h
theorem d_X9_add_38 : decode cX9_add 38 = .ok (.invokevirtual 79, 3) := by decide +kernel
theorem s_X9_add_38 {a0 : Int32} {k : Nat} {P : am_HI → Prop} (hI : am_Inv g) (hs : am_SH k = (0, 6)) (hk : k < 134) (hst : (st.map Value.category).sum ≤ 8) (hc : am_Cr M_X6_put [.ref k, .int a0] hi g none P) (h : ∀ hi' : am_HI, P hi' → AP M_X9_add b 41 [x0, x1] (st) hi' g Φ) : AP M_X9_add b 38 [x0, x1] (.int a0 :: .ref k :: st) hi g Φ := AP.callVr (As := [.int a0]) (q := (RX6, TX6, 8)) hI hc k_X9_add_79 d_X9_add_38 rfl hs hk rfl rfl hst h
theorem d_X9_add_41 : decode cX9_add 41 = .ok (.aload_n 0, 1) := by decide +kernel
theorem s_X9_add_41 {n : Nat} (h : AP M_X9_add b 42 [.ref n, x1] (.ref n :: st) hi g Φ) : AP M_X9_add b 41 [.ref n, x1] (st) hi g Φ := AP.aload_n (x := n) (i := 0) d_X9_add_41 rfl rfl h
theorem d_X9_add_42 : decode cX9_add 42 = .ok (.getfield 20, 3) := by decide +kernel
theorem s_X9_add_42 {k r : Nat} (hI : am_Inv g) (hs : am_SH k = (0, 9)) (hk : k < 134) (hr : am_HRf k 1 = some r) (hn : k ≠ 39) (h : AP M_X9_add b 45 [x0, x1] (.ref r :: st) hi g Φ) : AP M_X9_add b 42 [x0, x1] (.ref k :: st) hi g Φ := AP.getR (j := 1) (q := (RX9, TX9, 7)) d_X9_add_42 hs (hI.lt hk) rfl (by decide) (by decide) w_346 (hI.r hn hr) h
theorem d_X9_add_45 : decode cX9_add 45 = .ok (.getfield 83, 3) := by decide +kernel
theorem s_X9_add_45 {k : Nat} (hI : am_Inv g) (hs : am_SH k = (0, 6)) (hk : k < 134) (h : AP M_X9_add b 48 [x0, x1] (.int (hi k 3) :: st) hi g Φ) : AP M_X9_add b 45 [x0, x1] (.ref k :: st) hi g Φ := AP.getI (j := 3) (q := (RX6, TX6, 8)) d_X9_add_45 hs (hI.lt hk) rfl (by decide) (by decide) w_168 h
theorem d_X9_add_48 : decode cX9_add 48 = .ok (.iconst 1, 1) := by decide +kernel
theorem s_X9_add_48 (h : AP M_X9_add b 49 [x0, x1] (.int 1 :: st) hi g Φ) : AP M_X9_add b 48 [x0, x1] (st) hi g Φ := AP.iconst (x := 1) d_X9_add_48 (by decide) h
theorem d_X9_add_49 : decode cX9_add 49 = .ok (.isub, 1) := by decide +kernel
theorem s_X9_add_49 {x y : Int32} (h : AP M_X9_add b 50 [x0, x1] (.int (x - y) :: st) hi g Φ) : AP M_X9_add b 49 [x0, x1] (.int y :: .int x :: st) hi g Φ := AP.isub d_X9_add_49 h
theorem d_X9_add_50 : decode cX9_add 50 = .ok (.ireturn, 1) := by decide +kernel
theorem s_X9_add_50 {x : Int32} (h : Φ (.ok (some (.int x))) hi g) : AP M_X9_add b 50 [x0, x1] [.int x] hi g Φ := AP.iret d_X9_add_50 rfl h
end
section
variable {b : Nat × Nat} {st : List Value} {hi : am_HI} {g : am_G} {Φ : am_P} {x0 x1 : Value}
theorem d_X9_append_0 : decode cX9_append 0 = .ok (.iload_n 1, 1) := by decide +kernel
theorem s_X9_append_0 {n : Int32} (h : AP M_X9_append b 1 [x0, .int n] (.int n :: st) hi g Φ) : AP M_X9_append b 0 [x0, .int n] (st) hi g Φ := AP.iload_n (x := n) (i := 1) d_X9_append_0 rfl rfl h
theorem d_X9_append_1 : decode cX9_append 1 = .ok (.bipush 33, 2) := by decide +kernel
theorem s_X9_append_1 (h : AP M_X9_append b 3 [x0, x1] (.int 33 :: st) hi g Φ) : AP M_X9_append b 1 [x0, x1] (st) hi g Φ := AP.bipush (x := 33) d_X9_append_1 (by decide) h
theorem d_X9_append_3 : decode cX9_append 3 = .ok (.bipush 126, 2) := by decide +kernel
theorem s_X9_append_3 (h : AP M_X9_append b 5 [x0, x1] (.int 126 :: st) hi g Φ) : AP M_X9_append b 3 [x0, x1] (st) hi g Φ := AP.bipush (x := 126) d_X9_append_3 (by decide) h
theorem d_X9_append_5 : decode cX9_append 5 = .ok (.invokestatic 58, 3) := by decide +kernel
theorem s_X9_append_5 {a0 : Int32} {a1 : Int32} {a2 : Int32} {r0 : Int32} {P : am_HI → Prop} (hI : am_Inv g) (hst : (st.map Value.category).sum ≤ 8) (hc : am_Cr M_X9_isWithin [.int a0, .int a1, .int a2] hi g (some (.int r0)) P) (h : ∀ hi' : am_HI, P hi' → AP M_X9_append b 8 [x0, x1] (.int r0 :: st) hi' g Φ) : AP M_X9_append b 5 [x0, x1] (.int a2 :: .int a1 :: .int a0 :: st) hi g Φ := AP.callSr (As := [.int a0, .int a1, .int a2]) hI hc k_X9_append_58 d_X9_append_5 rfl hst h
theorem d_X9_append_8 : decode cX9_append 8 = .ok (.invokestatic 62, 3) := by decide +kernel
theorem s_X9_append_8 {a0 : Int32} {P : am_HI → Prop} (hI : am_Inv g) (hst : (st.map Value.category).sum ≤ 8) (hc : am_Cr M_X9_needArgument [.int a0] hi g none P) (h : ∀ hi' : am_HI, P hi' → AP M_X9_append b 11 [x0, x1] (st) hi' g Φ) : AP M_X9_append b 8 [x0, x1] (.int a0 :: st) hi g Φ := AP.callSr (As := [.int a0]) hI hc k_X9_append_62 d_X9_append_8 rfl hst h
theorem d_X9_append_11 : decode cX9_append 11 = .ok (.aload_n 0, 1) := by decide +kernel
theorem s_X9_append_11 {n : Nat} (h : AP M_X9_append b 12 [.ref n, x1] (.ref n :: st) hi g Φ) : AP M_X9_append b 11 [.ref n, x1] (st) hi g Φ := AP.aload_n (x := n) (i := 0) d_X9_append_11 rfl rfl h
theorem d_X9_append_12 : decode cX9_append 12 = .ok (.getfield 40, 3) := by decide +kernel
theorem s_X9_append_12 {k r : Nat} (hI : am_Inv g) (hs : am_SH k = (0, 9)) (hk : k < 134) (hr : am_HRf k 4 = some r) (hn : k ≠ 39) (h : AP M_X9_append b 15 [x0, x1] (.ref r :: st) hi g Φ) : AP M_X9_append b 12 [x0, x1] (.ref k :: st) hi g Φ := AP.getR (j := 4) (q := (RX9, TX9, 7)) d_X9_append_12 hs (hI.lt hk) rfl (by decide) (by decide) w_349 (hI.r hn hr) h
theorem d_X9_append_15 : decode cX9_append 15 = .ok (.getfield 259, 3) := by decide +kernel
theorem s_X9_append_15 {k : Nat} (hI : am_Inv g) (hs : am_SH k = (0, 8)) (hk : k < 134) (h : AP M_X9_append b 18 [x0, x1] (.int (hi k 1) :: st) hi g Φ) : AP M_X9_append b 15 [x0, x1] (.ref k :: st) hi g Φ := AP.getI (j := 1) (q := (RX8, TX8, 6)) d_X9_append_15 hs (hI.lt hk) rfl (by decide) (by decide) w_293 h
theorem d_X9_append_18 : decode cX9_append 18 = .ok (.bipush 80, 2) := by decide +kernel
theorem s_X9_append_18 (h : AP M_X9_append b 20 [x0, x1] (.int 80 :: st) hi g Φ) : AP M_X9_append b 18 [x0, x1] (st) hi g Φ := AP.bipush (x := 80) d_X9_append_18 (by decide) h
theorem d_X9_append_20 : decode cX9_append 20 = .ok (.if_icmp .ge 7, 3) := by decide +kernel
theorem s_X9_append_20 {x y : Int32} (h1 : y ≤ x → AP M_X9_append b 27 [x0, x1] st hi g Φ) (h2 : ¬ y ≤ x → AP M_X9_append b 23 [x0, x1] st hi g Φ) : AP M_X9_append b 20 [x0, x1] (.int y :: .int x :: st) hi g Φ := AP.icmp_ge d_X9_append_20 (by decide) h1 h2
theorem d_X9_append_23 : decode cX9_append 23 = .ok (.iconst 1, 1) := by decide +kernel
theorem s_X9_append_23 (h : AP M_X9_append b 24 [x0, x1] (.int 1 :: st) hi g Φ) : AP M_X9_append b 23 [x0, x1] (st) hi g Φ := AP.iconst (x := 1) d_X9_append_23 (by decide) h
theorem d_X9_append_24 : decode cX9_append 24 = .ok (.goto 4, 3) := by decide +kernel
theorem s_X9_append_24 (h : AP M_X9_append b 28 [x0, x1] st hi g Φ) : AP M_X9_append b 24 [x0, x1] st hi g Φ := AP.goto d_X9_append_24 (by decide) h
theorem d_X9_append_27 : decode cX9_append 27 = .ok (.iconst 0, 1) := by decide +kernel
theorem s_X9_append_27 (h : AP M_X9_append b 28 [x0, x1] (.int 0 :: st) hi g Φ) : AP M_X9_append b 27 [x0, x1] (st) hi g Φ := AP.iconst (x := 0) d_X9_append_27 (by decide) h
theorem d_X9_append_28 : decode cX9_append 28 = .ok (.invokestatic 72, 3) := by decide +kernel
theorem s_X9_append_28 {a0 : Int32} {P : am_HI → Prop} (hI : am_Inv g) (hst : (st.map Value.category).sum ≤ 8) (hc : am_Cr M_X9_needPossible [.int a0] hi g none P) (h : ∀ hi' : am_HI, P hi' → AP M_X9_append b 31 [x0, x1] (st) hi' g Φ) : AP M_X9_append b 28 [x0, x1] (.int a0 :: st) hi g Φ := AP.callSr (As := [.int a0]) hI hc k_X9_append_72 d_X9_append_28 rfl hst h
theorem d_X9_append_31 : decode cX9_append 31 = .ok (.aload_n 0, 1) := by decide +kernel
theorem s_X9_append_31 {n : Nat} (h : AP M_X9_append b 32 [.ref n, x1] (.ref n :: st) hi g Φ) : AP M_X9_append b 31 [.ref n, x1] (st) hi g Φ := AP.aload_n (x := n) (i := 0) d_X9_append_31 rfl rfl h
theorem d_X9_append_32 : decode cX9_append 32 = .ok (.getfield 40, 3) := by decide +kernel
theorem s_X9_append_32 {k r : Nat} (hI : am_Inv g) (hs : am_SH k = (0, 9)) (hk : k < 134) (hr : am_HRf k 4 = some r) (hn : k ≠ 39) (h : AP M_X9_append b 35 [x0, x1] (.ref r :: st) hi g Φ) : AP M_X9_append b 32 [x0, x1] (.ref k :: st) hi g Φ := AP.getR (j := 4) (q := (RX9, TX9, 7)) d_X9_append_32 hs (hI.lt hk) rfl (by decide) (by decide) w_349 (hI.r hn hr) h
theorem d_X9_append_35 : decode cX9_append 35 = .ok (.iload_n 1, 1) := by decide +kernel
theorem s_X9_append_35 {n : Int32} (h : AP M_X9_append b 36 [x0, .int n] (.int n :: st) hi g Φ) : AP M_X9_append b 35 [x0, .int n] (st) hi g Φ := AP.iload_n (x := n) (i := 1) d_X9_append_35 rfl rfl h
theorem d_X9_append_36 : decode cX9_append 36 = .ok (.invokevirtual 262, 3) := by decide +kernel
theorem s_X9_append_36 {a0 : Int32} {k : Nat} {P : am_HI → Prop} (hI : am_Inv g) (hs : am_SH k = (0, 8)) (hk : k < 134) (hst : (st.map Value.category).sum ≤ 8) (hc : am_Cr M_X8_put [.ref k, .int a0] hi g none P) (h : ∀ hi' : am_HI, P hi' → AP M_X9_append b 39 [x0, x1] (st) hi' g Φ) : AP M_X9_append b 36 [x0, x1] (.int a0 :: .ref k :: st) hi g Φ := AP.callVr (As := [.int a0]) (q := (RX8, TX8, 6)) hI hc k_X9_append_262 d_X9_append_36 rfl hs hk rfl rfl hst h
theorem d_X9_append_39 : decode cX9_append 39 = .ok (.aload_n 0, 1) := by decide +kernel
theorem s_X9_append_39 {n : Nat} (h : AP M_X9_append b 40 [.ref n, x1] (.ref n :: st) hi g Φ) : AP M_X9_append b 39 [.ref n, x1] (st) hi g Φ := AP.aload_n (x := n) (i := 0) d_X9_append_39 rfl rfl h
theorem d_X9_append_40 : decode cX9_append 40 = .ok (.getfield 40, 3) := by decide +kernel
theorem s_X9_append_40 {k r : Nat} (hI : am_Inv g) (hs : am_SH k = (0, 9)) (hk : k < 134) (hr : am_HRf k 4 = some r) (hn : k ≠ 39) (h : AP M_X9_append b 43 [x0, x1] (.ref r :: st) hi g Φ) : AP M_X9_append b 40 [x0, x1] (.ref k :: st) hi g Φ := AP.getR (j := 4) (q := (RX9, TX9, 7)) d_X9_append_40 hs (hI.lt hk) rfl (by decide) (by decide) w_349 (hI.r hn hr) h
theorem d_X9_append_43 : decode cX9_append 43 = .ok (.getfield 259, 3) := by decide +kernel
theorem s_X9_append_43 {k : Nat} (hI : am_Inv g) (hs : am_SH k = (0, 8)) (hk : k < 134) (h : AP M_X9_append b 46 [x0, x1] (.int (hi k 1) :: st) hi g Φ) : AP M_X9_append b 43 [x0, x1] (.ref k :: st) hi g Φ := AP.getI (j := 1) (q := (RX8, TX8, 6)) d_X9_append_43 hs (hI.lt hk) rfl (by decide) (by decide) w_293 h
theorem d_X9_append_46 : decode cX9_append 46 = .ok (.ireturn, 1) := by decide +kernel
theorem s_X9_append_46 {x : Int32} (h : Φ (.ok (some (.int x))) hi g) : AP M_X9_append b 46 [x0, x1] [.int x] hi g Φ := AP.iret d_X9_append_46 rfl h
end
section
variable {b : Nat × Nat} {st : List Value} {hi : am_HI} {g : am_G} {Φ : am_P} {x0 x1 : Value}
theorem d_X9_bestFirst_0 : decode cX9_bestFirst 0 = .ok (.iload_n 1, 1) := by decide +kernel
theorem s_X9_bestFirst_0 {n : Int32} (h : AP M_X9_bestFirst b 1 [x0, .int n] (.int n :: st) hi g Φ) : AP M_X9_bestFirst b 0 [x0, .int n] (st) hi g Φ := AP.iload_n (x := n) (i := 1) d_X9_bestFirst_0 rfl rfl h
theorem d_X9_bestFirst_1 : decode cX9_bestFirst 1 = .ok (.iconst 1, 1) := by decide +kernel
theorem s_X9_bestFirst_1 (h : AP M_X9_bestFirst b 2 [x0, x1] (.int 1 :: st) hi g Φ) : AP M_X9_bestFirst b 1 [x0, x1] (st) hi g Φ := AP.iconst (x := 1) d_X9_bestFirst_1 (by decide) h
theorem d_X9_bestFirst_2 : decode cX9_bestFirst 2 = .ok (.iconst 4, 1) := by decide +kernel
theorem s_X9_bestFirst_2 (h : AP M_X9_bestFirst b 3 [x0, x1] (.int 4 :: st) hi g Φ) : AP M_X9_bestFirst b 2 [x0, x1] (st) hi g Φ := AP.iconst (x := 4) d_X9_bestFirst_2 (by decide) h
theorem d_X9_bestFirst_3 : decode cX9_bestFirst 3 = .ok (.invokestatic 58, 3) := by decide +kernel
theorem s_X9_bestFirst_3 {a0 : Int32} {a1 : Int32} {a2 : Int32} {r0 : Int32} {P : am_HI → Prop} (hI : am_Inv g) (hst : (st.map Value.category).sum ≤ 8) (hc : am_Cr M_X9_isWithin [.int a0, .int a1, .int a2] hi g (some (.int r0)) P) (h : ∀ hi' : am_HI, P hi' → AP M_X9_bestFirst b 6 [x0, x1] (.int r0 :: st) hi' g Φ) : AP M_X9_bestFirst b 3 [x0, x1] (.int a2 :: .int a1 :: .int a0 :: st) hi g Φ := AP.callSr (As := [.int a0, .int a1, .int a2]) hI hc k_X9_bestFirst_58 d_X9_bestFirst_3 rfl hst h
theorem d_X9_bestFirst_6 : decode cX9_bestFirst 6 = .ok (.invokestatic 62, 3) := by decide +kernel
theorem s_X9_bestFirst_6 {a0 : Int32} {P : am_HI → Prop} (hI : am_Inv g) (hst : (st.map Value.category).sum ≤ 8) (hc : am_Cr M_X9_needArgument [.int a0] hi g none P) (h : ∀ hi' : am_HI, P hi' → AP M_X9_bestFirst b 9 [x0, x1] (st) hi' g Φ) : AP M_X9_bestFirst b 6 [x0, x1] (.int a0 :: st) hi g Φ := AP.callSr (As := [.int a0]) hI hc k_X9_bestFirst_62 d_X9_bestFirst_6 rfl hst h
theorem d_X9_bestFirst_9 : decode cX9_bestFirst 9 = .ok (.aload_n 0, 1) := by decide +kernel
theorem s_X9_bestFirst_9 {n : Nat} (h : AP M_X9_bestFirst b 10 [.ref n, x1] (.ref n :: st) hi g Φ) : AP M_X9_bestFirst b 9 [.ref n, x1] (st) hi g Φ := AP.aload_n (x := n) (i := 0) d_X9_bestFirst_9 rfl rfl h
theorem d_X9_bestFirst_10 : decode cX9_bestFirst 10 = .ok (.getfield 12, 3) := by decide +kernel
theorem s_X9_bestFirst_10 {k r : Nat} (hI : am_Inv g) (hs : am_SH k = (0, 9)) (hk : k < 134) (hr : am_HRf k 0 = some r) (hn : k ≠ 39) (h : AP M_X9_bestFirst b 13 [x0, x1] (.ref r :: st) hi g Φ) : AP M_X9_bestFirst b 10 [x0, x1] (.ref k :: st) hi g Φ := AP.getR (j := 0) (q := (RX9, TX9, 7)) d_X9_bestFirst_10 hs (hI.lt hk) rfl (by decide) (by decide) w_345 (hI.r hn hr) h
theorem d_X9_bestFirst_13 : decode cX9_bestFirst 13 = .ok (.iload_n 1, 1) := by decide +kernel
theorem s_X9_bestFirst_13 {n : Int32} (h : AP M_X9_bestFirst b 14 [x0, .int n] (.int n :: st) hi g Φ) : AP M_X9_bestFirst b 13 [x0, .int n] (st) hi g Φ := AP.iload_n (x := n) (i := 1) d_X9_bestFirst_13 rfl rfl h
theorem d_X9_bestFirst_14 : decode cX9_bestFirst 14 = .ok (.invokevirtual 183, 3) := by decide +kernel
theorem s_X9_bestFirst_14 {a0 : Int32} {k : Nat} {r0 : Int32} {P : am_HI → Prop} (hI : am_Inv g) (hs : am_SH k = (0, 7)) (hk : k < 134) (hst : (st.map Value.category).sum ≤ 8) (hc : am_Cr M_X7_findFirst [.ref k, .int a0] hi g (some (.int r0)) P) (h : ∀ hi' : am_HI, P hi' → AP M_X9_bestFirst b 17 [x0, x1] (.int r0 :: st) hi' g Φ) : AP M_X9_bestFirst b 14 [x0, x1] (.int a0 :: .ref k :: st) hi g Φ := AP.callVr (As := [.int a0]) (q := (RX7, TX7, 7)) hI hc k_X9_bestFirst_183 d_X9_bestFirst_14 rfl hs hk rfl rfl hst h
theorem d_X9_bestFirst_17 : decode cX9_bestFirst 17 = .ok (.ireturn, 1) := by decide +kernel
theorem s_X9_bestFirst_17 {x : Int32} (h : Φ (.ok (some (.int x))) hi g) : AP M_X9_bestFirst b 17 [x0, x1] [.int x] hi g Φ := AP.iret d_X9_bestFirst_17 rfl h
end
section
variable {b : Nat × Nat} {st : List Value} {hi : am_HI} {g : am_G} {Φ : am_P} {x0 x1 : Value}
theorem d_X9_bestKind_0 : decode cX9_bestKind 0 = .ok (.aload_n 0, 1) := by decide +kernel
theorem s_X9_bestKind_0 {n : Nat} (h : AP M_X9_bestKind b 1 [.ref n, x1] (.ref n :: st) hi g Φ) : AP M_X9_bestKind b 0 [.ref n, x1] (st) hi g Φ := AP.aload_n (x := n) (i := 0) d_X9_bestKind_0 rfl rfl h
theorem d_X9_bestKind_1 : decode cX9_bestKind 1 = .ok (.iload_n 1, 1) := by decide +kernel
theorem s_X9_bestKind_1 {n : Int32} (h : AP M_X9_bestKind b 2 [x0, .int n] (.int n :: st) hi g Φ) : AP M_X9_bestKind b 1 [x0, .int n] (st) hi g Φ := AP.iload_n (x := n) (i := 1) d_X9_bestKind_1 rfl rfl h
theorem d_X9_bestKind_2 : decode cX9_bestKind 2 = .ok (.invokevirtual 186, 3) := by decide +kernel
theorem s_X9_bestKind_2 {a0 : Int32} {k : Nat} {r0 : Int32} {P : am_HI → Prop} (hI : am_Inv g) (hs : am_SH k = (0, 9)) (hk : k < 134) (hst : (st.map Value.category).sum ≤ 8) (hc : am_Cr M_X9_isBlock [.ref k, .int a0] hi g (some (.int r0)) P) (h : ∀ hi' : am_HI, P hi' → AP M_X9_bestKind b 5 [x0, x1] (.int r0 :: st) hi' g Φ) : AP M_X9_bestKind b 2 [x0, x1] (.int a0 :: .ref k :: st) hi g Φ := AP.callVr (As := [.int a0]) (q := (RX9, TX9, 7)) hI hc k_X9_bestKind_186 d_X9_bestKind_2 rfl hs hk rfl rfl hst h
theorem d_X9_bestKind_5 : decode cX9_bestKind 5 = .ok (.invokestatic 97, 3) := by decide +kernel
theorem s_X9_bestKind_5 {a0 : Int32} {P : am_HI → Prop} (hI : am_Inv g) (hst : (st.map Value.category).sum ≤ 8) (hc : am_Cr M_X9_needIndex [.int a0] hi g none P) (h : ∀ hi' : am_HI, P hi' → AP M_X9_bestKind b 8 [x0, x1] (st) hi' g Φ) : AP M_X9_bestKind b 5 [x0, x1] (.int a0 :: st) hi g Φ := AP.callSr (As := [.int a0]) hI hc k_X9_bestKind_97 d_X9_bestKind_5 rfl hst h
theorem d_X9_bestKind_8 : decode cX9_bestKind 8 = .ok (.aload_n 0, 1) := by decide +kernel
theorem s_X9_bestKind_8 {n : Nat} (h : AP M_X9_bestKind b 9 [.ref n, x1] (.ref n :: st) hi g Φ) : AP M_X9_bestKind b 8 [.ref n, x1] (st) hi g Φ := AP.aload_n (x := n) (i := 0) d_X9_bestKind_8 rfl rfl h
theorem d_X9_bestKind_9 : decode cX9_bestKind 9 = .ok (.getfield 12, 3) := by decide +kernel
theorem s_X9_bestKind_9 {k r : Nat} (hI : am_Inv g) (hs : am_SH k = (0, 9)) (hk : k < 134) (hr : am_HRf k 0 = some r) (hn : k ≠ 39) (h : AP M_X9_bestKind b 12 [x0, x1] (.ref r :: st) hi g Φ) : AP M_X9_bestKind b 9 [x0, x1] (.ref k :: st) hi g Φ := AP.getR (j := 0) (q := (RX9, TX9, 7)) d_X9_bestKind_9 hs (hI.lt hk) rfl (by decide) (by decide) w_345 (hI.r hn hr) h
theorem d_X9_bestKind_12 : decode cX9_bestKind 12 = .ok (.invokevirtual 192, 3) := by decide +kernel
theorem s_X9_bestKind_12  {k : Nat} {P : am_HI → Prop} (hI : am_Inv g) (hs : am_SH k = (0, 7)) (hk : k < 134) (hst : (st.map Value.category).sum ≤ 8) (hc : am_Cr M_X7_weighBlocks [.ref k] hi g none P) (h : ∀ hi' : am_HI, P hi' → AP M_X9_bestKind b 15 [x0, x1] (st) hi' g Φ) : AP M_X9_bestKind b 12 [x0, x1] (.ref k :: st) hi g Φ := AP.callVr (As := []) (q := (RX7, TX7, 7)) hI hc k_X9_bestKind_192 d_X9_bestKind_12 rfl hs hk rfl rfl hst h
theorem d_X9_bestKind_15 : decode cX9_bestKind 15 = .ok (.aload_n 0, 1) := by decide +kernel
theorem s_X9_bestKind_15 {n : Nat} (h : AP M_X9_bestKind b 16 [.ref n, x1] (.ref n :: st) hi g Φ) : AP M_X9_bestKind b 15 [.ref n, x1] (st) hi g Φ := AP.aload_n (x := n) (i := 0) d_X9_bestKind_15 rfl rfl h
theorem d_X9_bestKind_16 : decode cX9_bestKind 16 = .ok (.getfield 12, 3) := by decide +kernel
theorem s_X9_bestKind_16 {k r : Nat} (hI : am_Inv g) (hs : am_SH k = (0, 9)) (hk : k < 134) (hr : am_HRf k 0 = some r) (hn : k ≠ 39) (h : AP M_X9_bestKind b 19 [x0, x1] (.ref r :: st) hi g Φ) : AP M_X9_bestKind b 16 [x0, x1] (.ref k :: st) hi g Φ := AP.getR (j := 0) (q := (RX9, TX9, 7)) d_X9_bestKind_16 hs (hI.lt hk) rfl (by decide) (by decide) w_345 (hI.r hn hr) h
theorem d_X9_bestKind_19 : decode cX9_bestKind 19 = .ok (.iload_n 1, 1) := by decide +kernel
theorem s_X9_bestKind_19 {n : Int32} (h : AP M_X9_bestKind b 20 [x0, .int n] (.int n :: st) hi g Φ) : AP M_X9_bestKind b 19 [x0, .int n] (st) hi g Φ := AP.iload_n (x := n) (i := 1) d_X9_bestKind_19 rfl rfl h
theorem d_X9_bestKind_20 : decode cX9_bestKind 20 = .ok (.invokevirtual 198, 3) := by decide +kernel
theorem s_X9_bestKind_20 {a0 : Int32} {k : Nat} {r0 : Int32} {P : am_HI → Prop} (hI : am_Inv g) (hs : am_SH k = (0, 7)) (hk : k < 134) (hst : (st.map Value.category).sum ≤ 8) (hc : am_Cr M_X7_kindFor [.ref k, .int a0] hi g (some (.int r0)) P) (h : ∀ hi' : am_HI, P hi' → AP M_X9_bestKind b 23 [x0, x1] (.int r0 :: st) hi' g Φ) : AP M_X9_bestKind b 20 [x0, x1] (.int a0 :: .ref k :: st) hi g Φ := AP.callVr (As := [.int a0]) (q := (RX7, TX7, 7)) hI hc k_X9_bestKind_198 d_X9_bestKind_20 rfl hs hk rfl rfl hst h
theorem d_X9_bestKind_23 : decode cX9_bestKind 23 = .ok (.ireturn, 1) := by decide +kernel
theorem s_X9_bestKind_23 {x : Int32} (h : Φ (.ok (some (.int x))) hi g) : AP M_X9_bestKind b 23 [x0, x1] [.int x] hi g Φ := AP.iret d_X9_bestKind_23 rfl h
end
section
variable {b : Nat × Nat} {st : List Value} {hi : am_HI} {g : am_G} {Φ : am_P} {x0 x1 x2 : Value}
theorem d_X9_bestParameter_0 : decode cX9_bestParameter 0 = .ok (.aload_n 0, 1) := by decide +kernel
theorem s_X9_bestParameter_0 {n : Nat} (h : AP M_X9_bestParameter b 1 [.ref n, x1, x2] (.ref n :: st) hi g Φ) : AP M_X9_bestParameter b 0 [.ref n, x1, x2] (st) hi g Φ := AP.aload_n (x := n) (i := 0) d_X9_bestParameter_0 rfl rfl h
theorem d_X9_bestParameter_1 : decode cX9_bestParameter 1 = .ok (.iload_n 1, 1) := by decide +kernel
theorem s_X9_bestParameter_1 {n : Int32} (h : AP M_X9_bestParameter b 2 [x0, .int n, x2] (.int n :: st) hi g Φ) : AP M_X9_bestParameter b 1 [x0, .int n, x2] (st) hi g Φ := AP.iload_n (x := n) (i := 1) d_X9_bestParameter_1 rfl rfl h
theorem d_X9_bestParameter_2 : decode cX9_bestParameter 2 = .ok (.invokevirtual 186, 3) := by decide +kernel
theorem s_X9_bestParameter_2 {a0 : Int32} {k : Nat} {r0 : Int32} {P : am_HI → Prop} (hI : am_Inv g) (hs : am_SH k = (0, 9)) (hk : k < 134) (hst : (st.map Value.category).sum ≤ 8) (hc : am_Cr M_X9_isBlock [.ref k, .int a0] hi g (some (.int r0)) P) (h : ∀ hi' : am_HI, P hi' → AP M_X9_bestParameter b 5 [x0, x1, x2] (.int r0 :: st) hi' g Φ) : AP M_X9_bestParameter b 2 [x0, x1, x2] (.int a0 :: .ref k :: st) hi g Φ := AP.callVr (As := [.int a0]) (q := (RX9, TX9, 7)) hI hc k_X9_bestParameter_186 d_X9_bestParameter_2 rfl hs hk rfl rfl hst h
theorem d_X9_bestParameter_5 : decode cX9_bestParameter 5 = .ok (.invokestatic 97, 3) := by decide +kernel
theorem s_X9_bestParameter_5 {a0 : Int32} {P : am_HI → Prop} (hI : am_Inv g) (hst : (st.map Value.category).sum ≤ 8) (hc : am_Cr M_X9_needIndex [.int a0] hi g none P) (h : ∀ hi' : am_HI, P hi' → AP M_X9_bestParameter b 8 [x0, x1, x2] (st) hi' g Φ) : AP M_X9_bestParameter b 5 [x0, x1, x2] (.int a0 :: st) hi g Φ := AP.callSr (As := [.int a0]) hI hc k_X9_bestParameter_97 d_X9_bestParameter_5 rfl hst h
theorem d_X9_bestParameter_8 : decode cX9_bestParameter 8 = .ok (.iload_n 2, 1) := by decide +kernel
theorem s_X9_bestParameter_8 {n : Int32} (h : AP M_X9_bestParameter b 9 [x0, x1, .int n] (.int n :: st) hi g Φ) : AP M_X9_bestParameter b 8 [x0, x1, .int n] (st) hi g Φ := AP.iload_n (x := n) (i := 2) d_X9_bestParameter_8 rfl rfl h
theorem d_X9_bestParameter_9 : decode cX9_bestParameter 9 = .ok (.invokestatic 113, 3) := by decide +kernel
theorem s_X9_bestParameter_9 {a0 : Int32} {r0 : Int32} {P : am_HI → Prop} (hI : am_Inv g) (hst : (st.map Value.category).sum ≤ 8) (hc : am_Cr M_X9_isKind [.int a0] hi g (some (.int r0)) P) (h : ∀ hi' : am_HI, P hi' → AP M_X9_bestParameter b 12 [x0, x1, x2] (.int r0 :: st) hi' g Φ) : AP M_X9_bestParameter b 9 [x0, x1, x2] (.int a0 :: st) hi g Φ := AP.callSr (As := [.int a0]) hI hc k_X9_bestParameter_113 d_X9_bestParameter_9 rfl hst h
theorem d_X9_bestParameter_12 : decode cX9_bestParameter 12 = .ok (.invokestatic 62, 3) := by decide +kernel
theorem s_X9_bestParameter_12 {a0 : Int32} {P : am_HI → Prop} (hI : am_Inv g) (hst : (st.map Value.category).sum ≤ 8) (hc : am_Cr M_X9_needArgument [.int a0] hi g none P) (h : ∀ hi' : am_HI, P hi' → AP M_X9_bestParameter b 15 [x0, x1, x2] (st) hi' g Φ) : AP M_X9_bestParameter b 12 [x0, x1, x2] (.int a0 :: st) hi g Φ := AP.callSr (As := [.int a0]) hI hc k_X9_bestParameter_62 d_X9_bestParameter_12 rfl hst h
theorem d_X9_bestParameter_15 : decode cX9_bestParameter 15 = .ok (.aload_n 0, 1) := by decide +kernel
theorem s_X9_bestParameter_15 {n : Nat} (h : AP M_X9_bestParameter b 16 [.ref n, x1, x2] (.ref n :: st) hi g Φ) : AP M_X9_bestParameter b 15 [.ref n, x1, x2] (st) hi g Φ := AP.aload_n (x := n) (i := 0) d_X9_bestParameter_15 rfl rfl h
theorem d_X9_bestParameter_16 : decode cX9_bestParameter 16 = .ok (.getfield 12, 3) := by decide +kernel
theorem s_X9_bestParameter_16 {k r : Nat} (hI : am_Inv g) (hs : am_SH k = (0, 9)) (hk : k < 134) (hr : am_HRf k 0 = some r) (hn : k ≠ 39) (h : AP M_X9_bestParameter b 19 [x0, x1, x2] (.ref r :: st) hi g Φ) : AP M_X9_bestParameter b 16 [x0, x1, x2] (.ref k :: st) hi g Φ := AP.getR (j := 0) (q := (RX9, TX9, 7)) d_X9_bestParameter_16 hs (hI.lt hk) rfl (by decide) (by decide) w_345 (hI.r hn hr) h
theorem d_X9_bestParameter_19 : decode cX9_bestParameter 19 = .ok (.invokevirtual 192, 3) := by decide +kernel
theorem s_X9_bestParameter_19  {k : Nat} {P : am_HI → Prop} (hI : am_Inv g) (hs : am_SH k = (0, 7)) (hk : k < 134) (hst : (st.map Value.category).sum ≤ 8) (hc : am_Cr M_X7_weighBlocks [.ref k] hi g none P) (h : ∀ hi' : am_HI, P hi' → AP M_X9_bestParameter b 22 [x0, x1, x2] (st) hi' g Φ) : AP M_X9_bestParameter b 19 [x0, x1, x2] (.ref k :: st) hi g Φ := AP.callVr (As := []) (q := (RX7, TX7, 7)) hI hc k_X9_bestParameter_192 d_X9_bestParameter_19 rfl hs hk rfl rfl hst h
theorem d_X9_bestParameter_22 : decode cX9_bestParameter 22 = .ok (.aload_n 0, 1) := by decide +kernel
theorem s_X9_bestParameter_22 {n : Nat} (h : AP M_X9_bestParameter b 23 [.ref n, x1, x2] (.ref n :: st) hi g Φ) : AP M_X9_bestParameter b 22 [.ref n, x1, x2] (st) hi g Φ := AP.aload_n (x := n) (i := 0) d_X9_bestParameter_22 rfl rfl h
theorem d_X9_bestParameter_23 : decode cX9_bestParameter 23 = .ok (.getfield 12, 3) := by decide +kernel
theorem s_X9_bestParameter_23 {k r : Nat} (hI : am_Inv g) (hs : am_SH k = (0, 9)) (hk : k < 134) (hr : am_HRf k 0 = some r) (hn : k ≠ 39) (h : AP M_X9_bestParameter b 26 [x0, x1, x2] (.ref r :: st) hi g Φ) : AP M_X9_bestParameter b 23 [x0, x1, x2] (.ref k :: st) hi g Φ := AP.getR (j := 0) (q := (RX9, TX9, 7)) d_X9_bestParameter_23 hs (hI.lt hk) rfl (by decide) (by decide) w_345 (hI.r hn hr) h
theorem d_X9_bestParameter_26 : decode cX9_bestParameter 26 = .ok (.getfield 195, 3) := by decide +kernel
theorem s_X9_bestParameter_26 {k r : Nat} (hI : am_Inv g) (hs : am_SH k = (0, 7)) (hk : k < 134) (hr : am_HRf k 5 = some r) (hn : k ≠ 39) (h : AP M_X9_bestParameter b 29 [x0, x1, x2] (.ref r :: st) hi g Φ) : AP M_X9_bestParameter b 26 [x0, x1, x2] (.ref k :: st) hi g Φ := AP.getR (j := 5) (q := (RX7, TX7, 7)) d_X9_bestParameter_26 hs (hI.lt hk) rfl (by decide) (by decide) w_235 (hI.r hn hr) h
theorem d_X9_bestParameter_29 : decode cX9_bestParameter 29 = .ok (.iload_n 2, 1) := by decide +kernel
theorem s_X9_bestParameter_29 {n : Int32} (h : AP M_X9_bestParameter b 30 [x0, x1, .int n] (.int n :: st) hi g Φ) : AP M_X9_bestParameter b 29 [x0, x1, .int n] (st) hi g Φ := AP.iload_n (x := n) (i := 2) d_X9_bestParameter_29 rfl rfl h
theorem d_X9_bestParameter_30 : decode cX9_bestParameter 30 = .ok (.aaload, 1) := by decide +kernel
theorem s_X9_bestParameter_30 {k n j r : Nat} {i : Int32} (hI : am_Inv g) (hs : am_SH k = (6, n)) (hk : k < 134) (hn : n < 2 ^ 31) (hx : i = nI j) (hj : j < n) (hr : g.2.1 k j = some r) (h : AP M_X9_bestParameter b 31 [x0, x1, x2] (.ref r :: st) hi g Φ) : AP M_X9_bestParameter b 30 [x0, x1, x2] (.int i :: .ref k :: st) hi g Φ := AP.rald d_X9_bestParameter_30 hs (hI.lt hk) hn hx hj hr h
theorem s_X9_bestParameter_30a {k n j r : Nat} {i : Int32} (hI : am_Inv g) (hs : am_SH k = (5, n)) (hk : k < 134) (hn : n < 2 ^ 31) (hx : i = nI j) (hj : j < n) (hr : g.2.1 k j = some r) (h : AP M_X9_bestParameter b 31 [x0, x1, x2] (.ref r :: st) hi g Φ) : AP M_X9_bestParameter b 30 [x0, x1, x2] (.int i :: .ref k :: st) hi g Φ := AP.aald d_X9_bestParameter_30 hs (hI.lt hk) hn hx hj hr h
theorem d_X9_bestParameter_31 : decode cX9_bestParameter 31 = .ok (.iload_n 1, 1) := by decide +kernel
theorem s_X9_bestParameter_31 {n : Int32} (h : AP M_X9_bestParameter b 32 [x0, .int n, x2] (.int n :: st) hi g Φ) : AP M_X9_bestParameter b 31 [x0, .int n, x2] (st) hi g Φ := AP.iload_n (x := n) (i := 1) d_X9_bestParameter_31 rfl rfl h
theorem d_X9_bestParameter_32 : decode cX9_bestParameter 32 = .ok (.iaload, 1) := by decide +kernel
theorem s_X9_bestParameter_32 {k n j : Nat} {i : Int32} (hI : am_Inv g) (hs : am_SH k = (1, n)) (hk : k < 134) (hn : n < 2 ^ 31) (hx : i = nI j) (hj : j < n) (h : AP M_X9_bestParameter b 33 [x0, x1, x2] (.int (hi k j) :: st) hi g Φ) : AP M_X9_bestParameter b 32 [x0, x1, x2] (.int i :: .ref k :: st) hi g Φ := AP.iald d_X9_bestParameter_32 hs (hI.lt hk) hn hx hj h
theorem d_X9_bestParameter_33 : decode cX9_bestParameter 33 = .ok (.ireturn, 1) := by decide +kernel
theorem s_X9_bestParameter_33 {x : Int32} (h : Φ (.ok (some (.int x))) hi g) : AP M_X9_bestParameter b 33 [x0, x1, x2] [.int x] hi g Φ := AP.iret d_X9_bestParameter_33 rfl h
end
section
variable {b : Nat × Nat} {st : List Value} {hi : am_HI} {g : am_G} {Φ : am_P} {x0 x1 : Value}
theorem d_X9_bitsIfOnly_0 : decode cX9_bitsIfOnly 0 = .ok (.iload_n 1, 1) := by decide +kernel
theorem s_X9_bitsIfOnly_0 {n : Int32} (h : AP M_X9_bitsIfOnly b 1 [x0, .int n] (.int n :: st) hi g Φ) : AP M_X9_bitsIfOnly b 0 [x0, .int n] (st) hi g Φ := AP.iload_n (x := n) (i := 1) d_X9_bitsIfOnly_0 rfl rfl h
theorem d_X9_bitsIfOnly_1 : decode cX9_bitsIfOnly 1 = .ok (.invokestatic 113, 3) := by decide +kernel
theorem s_X9_bitsIfOnly_1 {a0 : Int32} {r0 : Int32} {P : am_HI → Prop} (hI : am_Inv g) (hst : (st.map Value.category).sum ≤ 8) (hc : am_Cr M_X9_isKind [.int a0] hi g (some (.int r0)) P) (h : ∀ hi' : am_HI, P hi' → AP M_X9_bitsIfOnly b 4 [x0, x1] (.int r0 :: st) hi' g Φ) : AP M_X9_bitsIfOnly b 1 [x0, x1] (.int a0 :: st) hi g Φ := AP.callSr (As := [.int a0]) hI hc k_X9_bitsIfOnly_113 d_X9_bitsIfOnly_1 rfl hst h
theorem d_X9_bitsIfOnly_4 : decode cX9_bitsIfOnly 4 = .ok (.invokestatic 62, 3) := by decide +kernel
theorem s_X9_bitsIfOnly_4 {a0 : Int32} {P : am_HI → Prop} (hI : am_Inv g) (hst : (st.map Value.category).sum ≤ 8) (hc : am_Cr M_X9_needArgument [.int a0] hi g none P) (h : ∀ hi' : am_HI, P hi' → AP M_X9_bitsIfOnly b 7 [x0, x1] (st) hi' g Φ) : AP M_X9_bitsIfOnly b 4 [x0, x1] (.int a0 :: st) hi g Φ := AP.callSr (As := [.int a0]) hI hc k_X9_bitsIfOnly_62 d_X9_bitsIfOnly_4 rfl hst h
theorem d_X9_bitsIfOnly_7 : decode cX9_bitsIfOnly 7 = .ok (.aload_n 0, 1) := by decide +kernel
theorem s_X9_bitsIfOnly_7 {n : Nat} (h : AP M_X9_bitsIfOnly b 8 [.ref n, x1] (.ref n :: st) hi g Φ) : AP M_X9_bitsIfOnly b 7 [.ref n, x1] (st) hi g Φ := AP.aload_n (x := n) (i := 0) d_X9_bitsIfOnly_7 rfl rfl h
theorem d_X9_bitsIfOnly_8 : decode cX9_bitsIfOnly 8 = .ok (.getfield 12, 3) := by decide +kernel
theorem s_X9_bitsIfOnly_8 {k r : Nat} (hI : am_Inv g) (hs : am_SH k = (0, 9)) (hk : k < 134) (hr : am_HRf k 0 = some r) (hn : k ≠ 39) (h : AP M_X9_bitsIfOnly b 11 [x0, x1] (.ref r :: st) hi g Φ) : AP M_X9_bitsIfOnly b 8 [x0, x1] (.ref k :: st) hi g Φ := AP.getR (j := 0) (q := (RX9, TX9, 7)) d_X9_bitsIfOnly_8 hs (hI.lt hk) rfl (by decide) (by decide) w_345 (hI.r hn hr) h
theorem d_X9_bitsIfOnly_11 : decode cX9_bitsIfOnly 11 = .ok (.invokevirtual 192, 3) := by decide +kernel
theorem s_X9_bitsIfOnly_11  {k : Nat} {P : am_HI → Prop} (hI : am_Inv g) (hs : am_SH k = (0, 7)) (hk : k < 134) (hst : (st.map Value.category).sum ≤ 8) (hc : am_Cr M_X7_weighBlocks [.ref k] hi g none P) (h : ∀ hi' : am_HI, P hi' → AP M_X9_bitsIfOnly b 14 [x0, x1] (st) hi' g Φ) : AP M_X9_bitsIfOnly b 11 [x0, x1] (.ref k :: st) hi g Φ := AP.callVr (As := []) (q := (RX7, TX7, 7)) hI hc k_X9_bitsIfOnly_192 d_X9_bitsIfOnly_11 rfl hs hk rfl rfl hst h
theorem d_X9_bitsIfOnly_14 : decode cX9_bitsIfOnly 14 = .ok (.aload_n 0, 1) := by decide +kernel
theorem s_X9_bitsIfOnly_14 {n : Nat} (h : AP M_X9_bitsIfOnly b 15 [.ref n, x1] (.ref n :: st) hi g Φ) : AP M_X9_bitsIfOnly b 14 [.ref n, x1] (st) hi g Φ := AP.aload_n (x := n) (i := 0) d_X9_bitsIfOnly_14 rfl rfl h
theorem d_X9_bitsIfOnly_15 : decode cX9_bitsIfOnly 15 = .ok (.getfield 12, 3) := by decide +kernel
theorem s_X9_bitsIfOnly_15 {k r : Nat} (hI : am_Inv g) (hs : am_SH k = (0, 9)) (hk : k < 134) (hr : am_HRf k 0 = some r) (hn : k ≠ 39) (h : AP M_X9_bitsIfOnly b 18 [x0, x1] (.ref r :: st) hi g Φ) : AP M_X9_bitsIfOnly b 15 [x0, x1] (.ref k :: st) hi g Φ := AP.getR (j := 0) (q := (RX9, TX9, 7)) d_X9_bitsIfOnly_15 hs (hI.lt hk) rfl (by decide) (by decide) w_345 (hI.r hn hr) h
theorem d_X9_bitsIfOnly_18 : decode cX9_bitsIfOnly 18 = .ok (.iload_n 1, 1) := by decide +kernel
theorem s_X9_bitsIfOnly_18 {n : Int32} (h : AP M_X9_bitsIfOnly b 19 [x0, .int n] (.int n :: st) hi g Φ) : AP M_X9_bitsIfOnly b 18 [x0, .int n] (st) hi g Φ := AP.iload_n (x := n) (i := 1) d_X9_bitsIfOnly_18 rfl rfl h
theorem d_X9_bitsIfOnly_19 : decode cX9_bitsIfOnly 19 = .ok (.invokevirtual 213, 3) := by decide +kernel
theorem s_X9_bitsIfOnly_19 {a0 : Int32} {k : Nat} {r0 : Int32} {P : am_HI → Prop} (hI : am_Inv g) (hs : am_SH k = (0, 7)) (hk : k < 134) (hst : (st.map Value.category).sum ≤ 8) (hc : am_Cr M_X7_sumIfOnly [.ref k, .int a0] hi g (some (.int r0)) P) (h : ∀ hi' : am_HI, P hi' → AP M_X9_bitsIfOnly b 22 [x0, x1] (.int r0 :: st) hi' g Φ) : AP M_X9_bitsIfOnly b 19 [x0, x1] (.int a0 :: .ref k :: st) hi g Φ := AP.callVr (As := [.int a0]) (q := (RX7, TX7, 7)) hI hc k_X9_bitsIfOnly_213 d_X9_bitsIfOnly_19 rfl hs hk rfl rfl hst h
theorem d_X9_bitsIfOnly_22 : decode cX9_bitsIfOnly 22 = .ok (.ireturn, 1) := by decide +kernel
theorem s_X9_bitsIfOnly_22 {x : Int32} (h : Φ (.ok (some (.int x))) hi g) : AP M_X9_bitsIfOnly b 22 [x0, x1] [.int x] hi g Φ := AP.iret d_X9_bitsIfOnly_22 rfl h
end
section
variable {b : Nat × Nat} {st : List Value} {hi : am_HI} {g : am_G} {Φ : am_P} {x0 x1 x2 x3 : Value}
theorem d_X9_bitsWith_0 : decode cX9_bitsWith 0 = .ok (.aload_n 0, 1) := by decide +kernel
theorem s_X9_bitsWith_0 {n : Nat} (h : AP M_X9_bitsWith b 1 [.ref n, x1, x2, x3] (.ref n :: st) hi g Φ) : AP M_X9_bitsWith b 0 [.ref n, x1, x2, x3] (st) hi g Φ := AP.aload_n (x := n) (i := 0) d_X9_bitsWith_0 rfl rfl h
theorem d_X9_bitsWith_1 : decode cX9_bitsWith 1 = .ok (.iload_n 1, 1) := by decide +kernel
theorem s_X9_bitsWith_1 {n : Int32} (h : AP M_X9_bitsWith b 2 [x0, .int n, x2, x3] (.int n :: st) hi g Φ) : AP M_X9_bitsWith b 1 [x0, .int n, x2, x3] (st) hi g Φ := AP.iload_n (x := n) (i := 1) d_X9_bitsWith_1 rfl rfl h
theorem d_X9_bitsWith_2 : decode cX9_bitsWith 2 = .ok (.invokevirtual 186, 3) := by decide +kernel
theorem s_X9_bitsWith_2 {a0 : Int32} {k : Nat} {r0 : Int32} {P : am_HI → Prop} (hI : am_Inv g) (hs : am_SH k = (0, 9)) (hk : k < 134) (hst : (st.map Value.category).sum ≤ 8) (hc : am_Cr M_X9_isBlock [.ref k, .int a0] hi g (some (.int r0)) P) (h : ∀ hi' : am_HI, P hi' → AP M_X9_bitsWith b 5 [x0, x1, x2, x3] (.int r0 :: st) hi' g Φ) : AP M_X9_bitsWith b 2 [x0, x1, x2, x3] (.int a0 :: .ref k :: st) hi g Φ := AP.callVr (As := [.int a0]) (q := (RX9, TX9, 7)) hI hc k_X9_bitsWith_186 d_X9_bitsWith_2 rfl hs hk rfl rfl hst h
theorem d_X9_bitsWith_5 : decode cX9_bitsWith 5 = .ok (.invokestatic 97, 3) := by decide +kernel
theorem s_X9_bitsWith_5 {a0 : Int32} {P : am_HI → Prop} (hI : am_Inv g) (hst : (st.map Value.category).sum ≤ 8) (hc : am_Cr M_X9_needIndex [.int a0] hi g none P) (h : ∀ hi' : am_HI, P hi' → AP M_X9_bitsWith b 8 [x0, x1, x2, x3] (st) hi' g Φ) : AP M_X9_bitsWith b 5 [x0, x1, x2, x3] (.int a0 :: st) hi g Φ := AP.callSr (As := [.int a0]) hI hc k_X9_bitsWith_97 d_X9_bitsWith_5 rfl hst h
theorem d_X9_bitsWith_8 : decode cX9_bitsWith 8 = .ok (.iload_n 2, 1) := by decide +kernel
theorem s_X9_bitsWith_8 {n : Int32} (h : AP M_X9_bitsWith b 9 [x0, x1, .int n, x3] (.int n :: st) hi g Φ) : AP M_X9_bitsWith b 8 [x0, x1, .int n, x3] (st) hi g Φ := AP.iload_n (x := n) (i := 2) d_X9_bitsWith_8 rfl rfl h
theorem d_X9_bitsWith_9 : decode cX9_bitsWith 9 = .ok (.invokestatic 113, 3) := by decide +kernel
theorem s_X9_bitsWith_9 {a0 : Int32} {r0 : Int32} {P : am_HI → Prop} (hI : am_Inv g) (hst : (st.map Value.category).sum ≤ 8) (hc : am_Cr M_X9_isKind [.int a0] hi g (some (.int r0)) P) (h : ∀ hi' : am_HI, P hi' → AP M_X9_bitsWith b 12 [x0, x1, x2, x3] (.int r0 :: st) hi' g Φ) : AP M_X9_bitsWith b 9 [x0, x1, x2, x3] (.int a0 :: st) hi g Φ := AP.callSr (As := [.int a0]) hI hc k_X9_bitsWith_113 d_X9_bitsWith_9 rfl hst h
theorem d_X9_bitsWith_12 : decode cX9_bitsWith 12 = .ok (.invokestatic 62, 3) := by decide +kernel
theorem s_X9_bitsWith_12 {a0 : Int32} {P : am_HI → Prop} (hI : am_Inv g) (hst : (st.map Value.category).sum ≤ 8) (hc : am_Cr M_X9_needArgument [.int a0] hi g none P) (h : ∀ hi' : am_HI, P hi' → AP M_X9_bitsWith b 15 [x0, x1, x2, x3] (st) hi' g Φ) : AP M_X9_bitsWith b 12 [x0, x1, x2, x3] (.int a0 :: st) hi g Φ := AP.callSr (As := [.int a0]) hI hc k_X9_bitsWith_62 d_X9_bitsWith_12 rfl hst h
theorem d_X9_bitsWith_15 : decode cX9_bitsWith 15 = .ok (.iload_n 3, 1) := by decide +kernel
theorem s_X9_bitsWith_15 {n : Int32} (h : AP M_X9_bitsWith b 16 [x0, x1, x2, .int n] (.int n :: st) hi g Φ) : AP M_X9_bitsWith b 15 [x0, x1, x2, .int n] (st) hi g Φ := AP.iload_n (x := n) (i := 3) d_X9_bitsWith_15 rfl rfl h
theorem d_X9_bitsWith_16 : decode cX9_bitsWith 16 = .ok (.iconst 0, 1) := by decide +kernel
theorem s_X9_bitsWith_16 (h : AP M_X9_bitsWith b 17 [x0, x1, x2, x3] (.int 0 :: st) hi g Φ) : AP M_X9_bitsWith b 16 [x0, x1, x2, x3] (st) hi g Φ := AP.iconst (x := 0) d_X9_bitsWith_16 (by decide) h
theorem d_X9_bitsWith_17 : decode cX9_bitsWith 17 = .ok (.bipush 7, 2) := by decide +kernel
theorem s_X9_bitsWith_17 (h : AP M_X9_bitsWith b 19 [x0, x1, x2, x3] (.int 7 :: st) hi g Φ) : AP M_X9_bitsWith b 17 [x0, x1, x2, x3] (st) hi g Φ := AP.bipush (x := 7) d_X9_bitsWith_17 (by decide) h
theorem d_X9_bitsWith_19 : decode cX9_bitsWith 19 = .ok (.invokestatic 58, 3) := by decide +kernel
theorem s_X9_bitsWith_19 {a0 : Int32} {a1 : Int32} {a2 : Int32} {r0 : Int32} {P : am_HI → Prop} (hI : am_Inv g) (hst : (st.map Value.category).sum ≤ 8) (hc : am_Cr M_X9_isWithin [.int a0, .int a1, .int a2] hi g (some (.int r0)) P) (h : ∀ hi' : am_HI, P hi' → AP M_X9_bitsWith b 22 [x0, x1, x2, x3] (.int r0 :: st) hi' g Φ) : AP M_X9_bitsWith b 19 [x0, x1, x2, x3] (.int a2 :: .int a1 :: .int a0 :: st) hi g Φ := AP.callSr (As := [.int a0, .int a1, .int a2]) hI hc k_X9_bitsWith_58 d_X9_bitsWith_19 rfl hst h
theorem d_X9_bitsWith_22 : decode cX9_bitsWith 22 = .ok (.invokestatic 62, 3) := by decide +kernel
theorem s_X9_bitsWith_22 {a0 : Int32} {P : am_HI → Prop} (hI : am_Inv g) (hst : (st.map Value.category).sum ≤ 8) (hc : am_Cr M_X9_needArgument [.int a0] hi g none P) (h : ∀ hi' : am_HI, P hi' → AP M_X9_bitsWith b 25 [x0, x1, x2, x3] (st) hi' g Φ) : AP M_X9_bitsWith b 22 [x0, x1, x2, x3] (.int a0 :: st) hi g Φ := AP.callSr (As := [.int a0]) hI hc k_X9_bitsWith_62 d_X9_bitsWith_22 rfl hst h
theorem d_X9_bitsWith_25 : decode cX9_bitsWith 25 = .ok (.aload_n 0, 1) := by decide +kernel
theorem s_X9_bitsWith_25 {n : Nat} (h : AP M_X9_bitsWith b 26 [.ref n, x1, x2, x3] (.ref n :: st) hi g Φ) : AP M_X9_bitsWith b 25 [.ref n, x1, x2, x3] (st) hi g Φ := AP.aload_n (x := n) (i := 0) d_X9_bitsWith_25 rfl rfl h
theorem d_X9_bitsWith_26 : decode cX9_bitsWith 26 = .ok (.getfield 12, 3) := by decide +kernel
theorem s_X9_bitsWith_26 {k r : Nat} (hI : am_Inv g) (hs : am_SH k = (0, 9)) (hk : k < 134) (hr : am_HRf k 0 = some r) (hn : k ≠ 39) (h : AP M_X9_bitsWith b 29 [x0, x1, x2, x3] (.ref r :: st) hi g Φ) : AP M_X9_bitsWith b 26 [x0, x1, x2, x3] (.ref k :: st) hi g Φ := AP.getR (j := 0) (q := (RX9, TX9, 7)) d_X9_bitsWith_26 hs (hI.lt hk) rfl (by decide) (by decide) w_345 (hI.r hn hr) h
theorem d_X9_bitsWith_29 : decode cX9_bitsWith 29 = .ok (.invokevirtual 154, 3) := by decide +kernel
theorem s_X9_bitsWith_29  {k : Nat} {P : am_HI → Prop} (hI : am_Inv g) (hs : am_SH k = (0, 7)) (hk : k < 134) (hst : (st.map Value.category).sum ≤ 8) (hc : am_Cr M_X7_follow [.ref k] hi g none P) (h : ∀ hi' : am_HI, P hi' → AP M_X9_bitsWith b 32 [x0, x1, x2, x3] (st) hi' g Φ) : AP M_X9_bitsWith b 29 [x0, x1, x2, x3] (.ref k :: st) hi g Φ := AP.callVr (As := []) (q := (RX7, TX7, 7)) hI hc k_X9_bitsWith_154 d_X9_bitsWith_29 rfl hs hk rfl rfl hst h
theorem d_X9_bitsWith_32 : decode cX9_bitsWith 32 = .ok (.aload_n 0, 1) := by decide +kernel
theorem s_X9_bitsWith_32 {n : Nat} (h : AP M_X9_bitsWith b 33 [.ref n, x1, x2, x3] (.ref n :: st) hi g Φ) : AP M_X9_bitsWith b 32 [.ref n, x1, x2, x3] (st) hi g Φ := AP.aload_n (x := n) (i := 0) d_X9_bitsWith_32 rfl rfl h
theorem d_X9_bitsWith_33 : decode cX9_bitsWith 33 = .ok (.getfield 12, 3) := by decide +kernel
theorem s_X9_bitsWith_33 {k r : Nat} (hI : am_Inv g) (hs : am_SH k = (0, 9)) (hk : k < 134) (hr : am_HRf k 0 = some r) (hn : k ≠ 39) (h : AP M_X9_bitsWith b 36 [x0, x1, x2, x3] (.ref r :: st) hi g Φ) : AP M_X9_bitsWith b 33 [x0, x1, x2, x3] (.ref k :: st) hi g Φ := AP.getR (j := 0) (q := (RX9, TX9, 7)) d_X9_bitsWith_33 hs (hI.lt hk) rfl (by decide) (by decide) w_345 (hI.r hn hr) h
theorem d_X9_bitsWith_36 : decode cX9_bitsWith 36 = .ok (.iload_n 1, 1) := by decide +kernel
theorem s_X9_bitsWith_36 {n : Int32} (h : AP M_X9_bitsWith b 37 [x0, .int n, x2, x3] (.int n :: st) hi g Φ) : AP M_X9_bitsWith b 36 [x0, .int n, x2, x3] (st) hi g Φ := AP.iload_n (x := n) (i := 1) d_X9_bitsWith_36 rfl rfl h
theorem d_X9_bitsWith_37 : decode cX9_bitsWith 37 = .ok (.iload_n 2, 1) := by decide +kernel
theorem s_X9_bitsWith_37 {n : Int32} (h : AP M_X9_bitsWith b 38 [x0, x1, .int n, x3] (.int n :: st) hi g Φ) : AP M_X9_bitsWith b 37 [x0, x1, .int n, x3] (st) hi g Φ := AP.iload_n (x := n) (i := 2) d_X9_bitsWith_37 rfl rfl h
theorem d_X9_bitsWith_38 : decode cX9_bitsWith 38 = .ok (.iload_n 3, 1) := by decide +kernel
theorem s_X9_bitsWith_38 {n : Int32} (h : AP M_X9_bitsWith b 39 [x0, x1, x2, .int n] (.int n :: st) hi g Φ) : AP M_X9_bitsWith b 38 [x0, x1, x2, .int n] (st) hi g Φ := AP.iload_n (x := n) (i := 3) d_X9_bitsWith_38 rfl rfl h
theorem d_X9_bitsWith_39 : decode cX9_bitsWith 39 = .ok (.invokevirtual 189, 3) := by decide +kernel
theorem s_X9_bitsWith_39 {a0 : Int32} {a1 : Int32} {a2 : Int32} {k : Nat} {r0 : Int32} {P : am_HI → Prop} (hI : am_Inv g) (hs : am_SH k = (0, 7)) (hk : k < 134) (hst : (st.map Value.category).sum ≤ 8) (hc : am_Cr M_X7_countBits [.ref k, .int a0, .int a1, .int a2] hi g (some (.int r0)) P) (h : ∀ hi' : am_HI, P hi' → AP M_X9_bitsWith b 42 [x0, x1, x2, x3] (.int r0 :: st) hi' g Φ) : AP M_X9_bitsWith b 39 [x0, x1, x2, x3] (.int a2 :: .int a1 :: .int a0 :: .ref k :: st) hi g Φ := AP.callVr (As := [.int a0, .int a1, .int a2]) (q := (RX7, TX7, 7)) hI hc k_X9_bitsWith_189 d_X9_bitsWith_39 rfl hs hk rfl rfl hst h
theorem d_X9_bitsWith_42 : decode cX9_bitsWith 42 = .ok (.ireturn, 1) := by decide +kernel
theorem s_X9_bitsWith_42 {x : Int32} (h : Φ (.ok (some (.int x))) hi g) : AP M_X9_bitsWith b 42 [x0, x1, x2, x3] [.int x] hi g Φ := AP.iret d_X9_bitsWith_42 rfl h
end
section
variable {b : Nat × Nat} {st : List Value} {hi : am_HI} {g : am_G} {Φ : am_P} {x0 x1 : Value}
theorem d_X9_blocksWith_0 : decode cX9_blocksWith 0 = .ok (.iload_n 1, 1) := by decide +kernel
theorem s_X9_blocksWith_0 {n : Int32} (h : AP M_X9_blocksWith b 1 [x0, .int n] (.int n :: st) hi g Φ) : AP M_X9_blocksWith b 0 [x0, .int n] (st) hi g Φ := AP.iload_n (x := n) (i := 1) d_X9_blocksWith_0 rfl rfl h
theorem d_X9_blocksWith_1 : decode cX9_blocksWith 1 = .ok (.invokestatic 113, 3) := by decide +kernel
theorem s_X9_blocksWith_1 {a0 : Int32} {r0 : Int32} {P : am_HI → Prop} (hI : am_Inv g) (hst : (st.map Value.category).sum ≤ 8) (hc : am_Cr M_X9_isKind [.int a0] hi g (some (.int r0)) P) (h : ∀ hi' : am_HI, P hi' → AP M_X9_blocksWith b 4 [x0, x1] (.int r0 :: st) hi' g Φ) : AP M_X9_blocksWith b 1 [x0, x1] (.int a0 :: st) hi g Φ := AP.callSr (As := [.int a0]) hI hc k_X9_blocksWith_113 d_X9_blocksWith_1 rfl hst h
theorem d_X9_blocksWith_4 : decode cX9_blocksWith 4 = .ok (.invokestatic 62, 3) := by decide +kernel
theorem s_X9_blocksWith_4 {a0 : Int32} {P : am_HI → Prop} (hI : am_Inv g) (hst : (st.map Value.category).sum ≤ 8) (hc : am_Cr M_X9_needArgument [.int a0] hi g none P) (h : ∀ hi' : am_HI, P hi' → AP M_X9_blocksWith b 7 [x0, x1] (st) hi' g Φ) : AP M_X9_blocksWith b 4 [x0, x1] (.int a0 :: st) hi g Φ := AP.callSr (As := [.int a0]) hI hc k_X9_blocksWith_62 d_X9_blocksWith_4 rfl hst h
theorem d_X9_blocksWith_7 : decode cX9_blocksWith 7 = .ok (.aload_n 0, 1) := by decide +kernel
theorem s_X9_blocksWith_7 {n : Nat} (h : AP M_X9_blocksWith b 8 [.ref n, x1] (.ref n :: st) hi g Φ) : AP M_X9_blocksWith b 7 [.ref n, x1] (st) hi g Φ := AP.aload_n (x := n) (i := 0) d_X9_blocksWith_7 rfl rfl h
theorem d_X9_blocksWith_8 : decode cX9_blocksWith 8 = .ok (.getfield 12, 3) := by decide +kernel
theorem s_X9_blocksWith_8 {k r : Nat} (hI : am_Inv g) (hs : am_SH k = (0, 9)) (hk : k < 134) (hr : am_HRf k 0 = some r) (hn : k ≠ 39) (h : AP M_X9_blocksWith b 11 [x0, x1] (.ref r :: st) hi g Φ) : AP M_X9_blocksWith b 8 [x0, x1] (.ref k :: st) hi g Φ := AP.getR (j := 0) (q := (RX9, TX9, 7)) d_X9_blocksWith_8 hs (hI.lt hk) rfl (by decide) (by decide) w_345 (hI.r hn hr) h
theorem d_X9_blocksWith_11 : decode cX9_blocksWith 11 = .ok (.invokevirtual 192, 3) := by decide +kernel
theorem s_X9_blocksWith_11  {k : Nat} {P : am_HI → Prop} (hI : am_Inv g) (hs : am_SH k = (0, 7)) (hk : k < 134) (hst : (st.map Value.category).sum ≤ 8) (hc : am_Cr M_X7_weighBlocks [.ref k] hi g none P) (h : ∀ hi' : am_HI, P hi' → AP M_X9_blocksWith b 14 [x0, x1] (st) hi' g Φ) : AP M_X9_blocksWith b 11 [x0, x1] (.ref k :: st) hi g Φ := AP.callVr (As := []) (q := (RX7, TX7, 7)) hI hc k_X9_blocksWith_192 d_X9_blocksWith_11 rfl hs hk rfl rfl hst h
theorem d_X9_blocksWith_14 : decode cX9_blocksWith 14 = .ok (.aload_n 0, 1) := by decide +kernel
theorem s_X9_blocksWith_14 {n : Nat} (h : AP M_X9_blocksWith b 15 [.ref n, x1] (.ref n :: st) hi g Φ) : AP M_X9_blocksWith b 14 [.ref n, x1] (st) hi g Φ := AP.aload_n (x := n) (i := 0) d_X9_blocksWith_14 rfl rfl h
theorem d_X9_blocksWith_15 : decode cX9_blocksWith 15 = .ok (.getfield 12, 3) := by decide +kernel
theorem s_X9_blocksWith_15 {k r : Nat} (hI : am_Inv g) (hs : am_SH k = (0, 9)) (hk : k < 134) (hr : am_HRf k 0 = some r) (hn : k ≠ 39) (h : AP M_X9_blocksWith b 18 [x0, x1] (.ref r :: st) hi g Φ) : AP M_X9_blocksWith b 15 [x0, x1] (.ref k :: st) hi g Φ := AP.getR (j := 0) (q := (RX9, TX9, 7)) d_X9_blocksWith_15 hs (hI.lt hk) rfl (by decide) (by decide) w_345 (hI.r hn hr) h
theorem d_X9_blocksWith_18 : decode cX9_blocksWith 18 = .ok (.iload_n 1, 1) := by decide +kernel
theorem s_X9_blocksWith_18 {n : Int32} (h : AP M_X9_blocksWith b 19 [x0, .int n] (.int n :: st) hi g Φ) : AP M_X9_blocksWith b 18 [x0, .int n] (st) hi g Φ := AP.iload_n (x := n) (i := 1) d_X9_blocksWith_18 rfl rfl h
theorem d_X9_blocksWith_19 : decode cX9_blocksWith 19 = .ok (.invokevirtual 210, 3) := by decide +kernel
theorem s_X9_blocksWith_19 {a0 : Int32} {k : Nat} {r0 : Int32} {P : am_HI → Prop} (hI : am_Inv g) (hs : am_SH k = (0, 7)) (hk : k < 134) (hst : (st.map Value.category).sum ≤ 8) (hc : am_Cr M_X7_countBlocksWith [.ref k, .int a0] hi g (some (.int r0)) P) (h : ∀ hi' : am_HI, P hi' → AP M_X9_blocksWith b 22 [x0, x1] (.int r0 :: st) hi' g Φ) : AP M_X9_blocksWith b 19 [x0, x1] (.int a0 :: .ref k :: st) hi g Φ := AP.callVr (As := [.int a0]) (q := (RX7, TX7, 7)) hI hc k_X9_blocksWith_210 d_X9_blocksWith_19 rfl hs hk rfl rfl hst h
theorem d_X9_blocksWith_22 : decode cX9_blocksWith 22 = .ok (.ireturn, 1) := by decide +kernel
theorem s_X9_blocksWith_22 {x : Int32} (h : Φ (.ok (some (.int x))) hi g) : AP M_X9_blocksWith b 22 [x0, x1] [.int x] hi g Φ := AP.iret d_X9_blocksWith_22 rfl h
end
section
variable {b : Nat × Nat} {st : List Value} {hi : am_HI} {g : am_G} {Φ : am_P} {x0 x1 x2 x3 : Value}
theorem d_X9_change_0 : decode cX9_change 0 = .ok (.iload_n 1, 1) := by decide +kernel
theorem s_X9_change_0 {n : Int32} (h : AP M_X9_change b 1 [x0, .int n, x2, x3] (.int n :: st) hi g Φ) : AP M_X9_change b 0 [x0, .int n, x2, x3] (st) hi g Φ := AP.iload_n (x := n) (i := 1) d_X9_change_0 rfl rfl h
theorem d_X9_change_1 : decode cX9_change 1 = .ok (.iconst 0, 1) := by decide +kernel
theorem s_X9_change_1 (h : AP M_X9_change b 2 [x0, x1, x2, x3] (.int 0 :: st) hi g Φ) : AP M_X9_change b 1 [x0, x1, x2, x3] (st) hi g Φ := AP.iconst (x := 0) d_X9_change_1 (by decide) h
theorem d_X9_change_2 : decode cX9_change 2 = .ok (.aload_n 0, 1) := by decide +kernel
theorem s_X9_change_2 {n : Nat} (h : AP M_X9_change b 3 [.ref n, x1, x2, x3] (.ref n :: st) hi g Φ) : AP M_X9_change b 2 [.ref n, x1, x2, x3] (st) hi g Φ := AP.aload_n (x := n) (i := 0) d_X9_change_2 rfl rfl h
theorem d_X9_change_3 : decode cX9_change 3 = .ok (.getfield 20, 3) := by decide +kernel
theorem s_X9_change_3 {k r : Nat} (hI : am_Inv g) (hs : am_SH k = (0, 9)) (hk : k < 134) (hr : am_HRf k 1 = some r) (hn : k ≠ 39) (h : AP M_X9_change b 6 [x0, x1, x2, x3] (.ref r :: st) hi g Φ) : AP M_X9_change b 3 [x0, x1, x2, x3] (.ref k :: st) hi g Φ := AP.getR (j := 1) (q := (RX9, TX9, 7)) d_X9_change_3 hs (hI.lt hk) rfl (by decide) (by decide) w_346 (hI.r hn hr) h
theorem d_X9_change_6 : decode cX9_change 6 = .ok (.getfield 83, 3) := by decide +kernel
theorem s_X9_change_6 {k : Nat} (hI : am_Inv g) (hs : am_SH k = (0, 6)) (hk : k < 134) (h : AP M_X9_change b 9 [x0, x1, x2, x3] (.int (hi k 3) :: st) hi g Φ) : AP M_X9_change b 6 [x0, x1, x2, x3] (.ref k :: st) hi g Φ := AP.getI (j := 3) (q := (RX6, TX6, 8)) d_X9_change_6 hs (hI.lt hk) rfl (by decide) (by decide) w_168 h
theorem d_X9_change_9 : decode cX9_change 9 = .ok (.iconst 1, 1) := by decide +kernel
theorem s_X9_change_9 (h : AP M_X9_change b 10 [x0, x1, x2, x3] (.int 1 :: st) hi g Φ) : AP M_X9_change b 9 [x0, x1, x2, x3] (st) hi g Φ := AP.iconst (x := 1) d_X9_change_9 (by decide) h
theorem d_X9_change_10 : decode cX9_change 10 = .ok (.isub, 1) := by decide +kernel
theorem s_X9_change_10 {x y : Int32} (h : AP M_X9_change b 11 [x0, x1, x2, x3] (.int (x - y) :: st) hi g Φ) : AP M_X9_change b 10 [x0, x1, x2, x3] (.int y :: .int x :: st) hi g Φ := AP.isub d_X9_change_10 h
theorem d_X9_change_11 : decode cX9_change 11 = .ok (.invokestatic 58, 3) := by decide +kernel
theorem s_X9_change_11 {a0 : Int32} {a1 : Int32} {a2 : Int32} {r0 : Int32} {P : am_HI → Prop} (hI : am_Inv g) (hst : (st.map Value.category).sum ≤ 8) (hc : am_Cr M_X9_isWithin [.int a0, .int a1, .int a2] hi g (some (.int r0)) P) (h : ∀ hi' : am_HI, P hi' → AP M_X9_change b 14 [x0, x1, x2, x3] (.int r0 :: st) hi' g Φ) : AP M_X9_change b 11 [x0, x1, x2, x3] (.int a2 :: .int a1 :: .int a0 :: st) hi g Φ := AP.callSr (As := [.int a0, .int a1, .int a2]) hI hc k_X9_change_58 d_X9_change_11 rfl hst h
theorem d_X9_change_14 : decode cX9_change 14 = .ok (.invokestatic 97, 3) := by decide +kernel
theorem s_X9_change_14 {a0 : Int32} {P : am_HI → Prop} (hI : am_Inv g) (hst : (st.map Value.category).sum ≤ 8) (hc : am_Cr M_X9_needIndex [.int a0] hi g none P) (h : ∀ hi' : am_HI, P hi' → AP M_X9_change b 17 [x0, x1, x2, x3] (st) hi' g Φ) : AP M_X9_change b 14 [x0, x1, x2, x3] (.int a0 :: st) hi g Φ := AP.callSr (As := [.int a0]) hI hc k_X9_change_97 d_X9_change_14 rfl hst h
theorem d_X9_change_17 : decode cX9_change 17 = .ok (.iload_n 2, 1) := by decide +kernel
theorem s_X9_change_17 {n : Int32} (h : AP M_X9_change b 18 [x0, x1, .int n, x3] (.int n :: st) hi g Φ) : AP M_X9_change b 17 [x0, x1, .int n, x3] (st) hi g Φ := AP.iload_n (x := n) (i := 2) d_X9_change_17 rfl rfl h
theorem d_X9_change_18 : decode cX9_change 18 = .ok (.bipush (-99), 2) := by decide +kernel
theorem s_X9_change_18 (h : AP M_X9_change b 20 [x0, x1, x2, x3] (.int (-99) :: st) hi g Φ) : AP M_X9_change b 18 [x0, x1, x2, x3] (st) hi g Φ := AP.bipush (x := (-99)) d_X9_change_18 (by decide) h
theorem d_X9_change_20 : decode cX9_change 20 = .ok (.bipush 99, 2) := by decide +kernel
theorem s_X9_change_20 (h : AP M_X9_change b 22 [x0, x1, x2, x3] (.int 99 :: st) hi g Φ) : AP M_X9_change b 20 [x0, x1, x2, x3] (st) hi g Φ := AP.bipush (x := 99) d_X9_change_20 (by decide) h
theorem d_X9_change_22 : decode cX9_change 22 = .ok (.invokestatic 58, 3) := by decide +kernel
theorem s_X9_change_22 {a0 : Int32} {a1 : Int32} {a2 : Int32} {r0 : Int32} {P : am_HI → Prop} (hI : am_Inv g) (hst : (st.map Value.category).sum ≤ 8) (hc : am_Cr M_X9_isWithin [.int a0, .int a1, .int a2] hi g (some (.int r0)) P) (h : ∀ hi' : am_HI, P hi' → AP M_X9_change b 25 [x0, x1, x2, x3] (.int r0 :: st) hi' g Φ) : AP M_X9_change b 22 [x0, x1, x2, x3] (.int a2 :: .int a1 :: .int a0 :: st) hi g Φ := AP.callSr (As := [.int a0, .int a1, .int a2]) hI hc k_X9_change_58 d_X9_change_22 rfl hst h
theorem d_X9_change_25 : decode cX9_change 25 = .ok (.invokestatic 62, 3) := by decide +kernel
theorem s_X9_change_25 {a0 : Int32} {P : am_HI → Prop} (hI : am_Inv g) (hst : (st.map Value.category).sum ≤ 8) (hc : am_Cr M_X9_needArgument [.int a0] hi g none P) (h : ∀ hi' : am_HI, P hi' → AP M_X9_change b 28 [x0, x1, x2, x3] (st) hi' g Φ) : AP M_X9_change b 25 [x0, x1, x2, x3] (.int a0 :: st) hi g Φ := AP.callSr (As := [.int a0]) hI hc k_X9_change_62 d_X9_change_25 rfl hst h
theorem d_X9_change_28 : decode cX9_change 28 = .ok (.aload_n 0, 1) := by decide +kernel
theorem s_X9_change_28 {n : Nat} (h : AP M_X9_change b 29 [.ref n, x1, x2, x3] (.ref n :: st) hi g Φ) : AP M_X9_change b 28 [.ref n, x1, x2, x3] (st) hi g Φ := AP.aload_n (x := n) (i := 0) d_X9_change_28 rfl rfl h
theorem d_X9_change_29 : decode cX9_change 29 = .ok (.getfield 26, 3) := by decide +kernel
theorem s_X9_change_29 {k r : Nat} (hI : am_Inv g) (hs : am_SH k = (0, 9)) (hk : k < 134) (hr : am_HRf k 2 = some r) (hn : k ≠ 39) (h : AP M_X9_change b 32 [x0, x1, x2, x3] (.ref r :: st) hi g Φ) : AP M_X9_change b 29 [x0, x1, x2, x3] (.ref k :: st) hi g Φ := AP.getR (j := 2) (q := (RX9, TX9, 7)) d_X9_change_29 hs (hI.lt hk) rfl (by decide) (by decide) w_347 (hI.r hn hr) h
theorem d_X9_change_32 : decode cX9_change 32 = .ok (.aload_n 0, 1) := by decide +kernel
theorem s_X9_change_32 {n : Nat} (h : AP M_X9_change b 33 [.ref n, x1, x2, x3] (.ref n :: st) hi g Φ) : AP M_X9_change b 32 [.ref n, x1, x2, x3] (st) hi g Φ := AP.aload_n (x := n) (i := 0) d_X9_change_32 rfl rfl h
theorem d_X9_change_33 : decode cX9_change 33 = .ok (.getfield 20, 3) := by decide +kernel
theorem s_X9_change_33 {k r : Nat} (hI : am_Inv g) (hs : am_SH k = (0, 9)) (hk : k < 134) (hr : am_HRf k 1 = some r) (hn : k ≠ 39) (h : AP M_X9_change b 36 [x0, x1, x2, x3] (.ref r :: st) hi g Φ) : AP M_X9_change b 33 [x0, x1, x2, x3] (.ref k :: st) hi g Φ := AP.getR (j := 1) (q := (RX9, TX9, 7)) d_X9_change_33 hs (hI.lt hk) rfl (by decide) (by decide) w_346 (hI.r hn hr) h
theorem d_X9_change_36 : decode cX9_change 36 = .ok (.invokevirtual 75, 3) := by decide +kernel
theorem s_X9_change_36 {a0 : Nat} {k : Nat} {P : am_HI → Prop} (hI : am_Inv g) (hs : am_SH k = (0, 1)) (hk : k < 134) (hst : (st.map Value.category).sum ≤ 8) (hc : am_Cr M_X1_save [.ref k, .ref a0] hi g none P) (h : ∀ hi' : am_HI, P hi' → AP M_X9_change b 39 [x0, x1, x2, x3] (st) hi' g Φ) : AP M_X9_change b 36 [x0, x1, x2, x3] (.ref a0 :: .ref k :: st) hi g Φ := AP.callVr (As := [.ref a0]) (q := (RX1, TX1, 2)) hI hc k_X9_change_75 d_X9_change_36 rfl hs hk rfl rfl hst h
theorem d_X9_change_39 : decode cX9_change 39 = .ok (.aload_n 0, 1) := by decide +kernel
theorem s_X9_change_39 {n : Nat} (h : AP M_X9_change b 40 [.ref n, x1, x2, x3] (.ref n :: st) hi g Φ) : AP M_X9_change b 39 [.ref n, x1, x2, x3] (st) hi g Φ := AP.aload_n (x := n) (i := 0) d_X9_change_39 rfl rfl h
theorem d_X9_change_40 : decode cX9_change 40 = .ok (.getfield 20, 3) := by decide +kernel
theorem s_X9_change_40 {k r : Nat} (hI : am_Inv g) (hs : am_SH k = (0, 9)) (hk : k < 134) (hr : am_HRf k 1 = some r) (hn : k ≠ 39) (h : AP M_X9_change b 43 [x0, x1, x2, x3] (.ref r :: st) hi g Φ) : AP M_X9_change b 40 [x0, x1, x2, x3] (.ref k :: st) hi g Φ := AP.getR (j := 1) (q := (RX9, TX9, 7)) d_X9_change_40 hs (hI.lt hk) rfl (by decide) (by decide) w_346 (hI.r hn hr) h
theorem d_X9_change_43 : decode cX9_change 43 = .ok (.iload_n 1, 1) := by decide +kernel
theorem s_X9_change_43 {n : Int32} (h : AP M_X9_change b 44 [x0, .int n, x2, x3] (.int n :: st) hi g Φ) : AP M_X9_change b 43 [x0, .int n, x2, x3] (st) hi g Φ := AP.iload_n (x := n) (i := 1) d_X9_change_43 rfl rfl h
theorem d_X9_change_44 : decode cX9_change 44 = .ok (.invokevirtual 87, 3) := by decide +kernel
theorem s_X9_change_44 {a0 : Int32} {k : Nat} {r0 : Int32} {P : am_HI → Prop} (hI : am_Inv g) (hs : am_SH k = (0, 6)) (hk : k < 134) (hst : (st.map Value.category).sum ≤ 8) (hc : am_Cr M_X6_soundAt [.ref k, .int a0] hi g (some (.int r0)) P) (h : ∀ hi' : am_HI, P hi' → AP M_X9_change b 47 [x0, x1, x2, x3] (.int r0 :: st) hi' g Φ) : AP M_X9_change b 44 [x0, x1, x2, x3] (.int a0 :: .ref k :: st) hi g Φ := AP.callVr (As := [.int a0]) (q := (RX6, TX6, 8)) hI hc k_X9_change_87 d_X9_change_44 rfl hs hk rfl rfl hst h
theorem d_X9_change_47 : decode cX9_change 47 = .ok (.istore_n 3, 1) := by decide +kernel
theorem s_X9_change_47 {n : Int32} (hc : x2.category = 1) (h : AP M_X9_change b 48 [x0, x1, x2, .int n] (st) hi g Φ) : AP M_X9_change b 47 [x0, x1, x2, x3] (.int n :: st) hi g Φ := AP.istore_n (x := n) (i := 3) d_X9_change_47 rfl (by decide) (by simp [am_st, am_ci, am_cr, am_cl, am_cd, hc]) h
theorem d_X9_change_48 : decode cX9_change 48 = .ok (.aload_n 0, 1) := by decide +kernel
theorem s_X9_change_48 {n : Nat} (h : AP M_X9_change b 49 [.ref n, x1, x2, x3] (.ref n :: st) hi g Φ) : AP M_X9_change b 48 [.ref n, x1, x2, x3] (st) hi g Φ := AP.aload_n (x := n) (i := 0) d_X9_change_48 rfl rfl h
theorem d_X9_change_49 : decode cX9_change 49 = .ok (.getfield 20, 3) := by decide +kernel
theorem s_X9_change_49 {k r : Nat} (hI : am_Inv g) (hs : am_SH k = (0, 9)) (hk : k < 134) (hr : am_HRf k 1 = some r) (hn : k ≠ 39) (h : AP M_X9_change b 52 [x0, x1, x2, x3] (.ref r :: st) hi g Φ) : AP M_X9_change b 49 [x0, x1, x2, x3] (.ref k :: st) hi g Φ := AP.getR (j := 1) (q := (RX9, TX9, 7)) d_X9_change_49 hs (hI.lt hk) rfl (by decide) (by decide) w_346 (hI.r hn hr) h
theorem d_X9_change_52 : decode cX9_change 52 = .ok (.getfield 100, 3) := by decide +kernel
theorem s_X9_change_52 {k r : Nat} (hI : am_Inv g) (hs : am_SH k = (0, 6)) (hk : k < 134) (hr : am_HRf k 0 = some r) (hn : k ≠ 39) (h : AP M_X9_change b 55 [x0, x1, x2, x3] (.ref r :: st) hi g Φ) : AP M_X9_change b 52 [x0, x1, x2, x3] (.ref k :: st) hi g Φ := AP.getR (j := 0) (q := (RX6, TX6, 8)) d_X9_change_52 hs (hI.lt hk) rfl (by decide) (by decide) w_160 (hI.r hn hr) h
theorem d_X9_change_55 : decode cX9_change 55 = .ok (.iload_n 1, 1) := by decide +kernel
theorem s_X9_change_55 {n : Int32} (h : AP M_X9_change b 56 [x0, .int n, x2, x3] (.int n :: st) hi g Φ) : AP M_X9_change b 55 [x0, .int n, x2, x3] (st) hi g Φ := AP.iload_n (x := n) (i := 1) d_X9_change_55 rfl rfl h
theorem d_X9_change_56 : decode cX9_change 56 = .ok (.iload_n 2, 1) := by decide +kernel
theorem s_X9_change_56 {n : Int32} (h : AP M_X9_change b 57 [x0, x1, .int n, x3] (.int n :: st) hi g Φ) : AP M_X9_change b 56 [x0, x1, .int n, x3] (st) hi g Φ := AP.iload_n (x := n) (i := 2) d_X9_change_56 rfl rfl h
theorem d_X9_change_57 : decode cX9_change 57 = .ok (.iastore, 1) := by decide +kernel
theorem s_X9_change_57 {k n j : Nat} {i x : Int32} (hI : am_Inv g) (hs : am_SH k = (1, n)) (hk : k < 134) (hn : n < 2 ^ 31) (hx : i = nI j) (hj : j < n) (h : AP M_X9_change b 58 [x0, x1, x2, x3] (st) (am_up hi k j x) g Φ) : AP M_X9_change b 57 [x0, x1, x2, x3] (.int x :: .int i :: .ref k :: st) hi g Φ := AP.iast d_X9_change_57 hs (hI.lt hk) hn hx hj h
theorem d_X9_change_58 : decode cX9_change 58 = .ok (.iload_n 3, 1) := by decide +kernel
theorem s_X9_change_58 {n : Int32} (h : AP M_X9_change b 59 [x0, x1, x2, .int n] (.int n :: st) hi g Φ) : AP M_X9_change b 58 [x0, x1, x2, .int n] (st) hi g Φ := AP.iload_n (x := n) (i := 3) d_X9_change_58 rfl rfl h
theorem d_X9_change_59 : decode cX9_change 59 = .ok (.ireturn, 1) := by decide +kernel
theorem s_X9_change_59 {x : Int32} (h : Φ (.ok (some (.int x))) hi g) : AP M_X9_change b 59 [x0, x1, x2, x3] [.int x] hi g Φ := AP.iret d_X9_change_59 rfl h
end
section
variable {b : Nat × Nat} {st : List Value} {hi : am_HI} {g : am_G} {Φ : am_P} {x0 x1 : Value}
theorem d_X9_doWorks_0 : decode cX9_doWorks 0 = .ok (.aload_n 0, 1) := by decide +kernel
theorem s_X9_doWorks_0 {n : Nat} (h : AP M_X9_doWorks b 1 [.ref n, x1] (.ref n :: st) hi g Φ) : AP M_X9_doWorks b 0 [.ref n, x1] (st) hi g Φ := AP.aload_n (x := n) (i := 0) d_X9_doWorks_0 rfl rfl h
theorem d_X9_doWorks_1 : decode cX9_doWorks 1 = .ok (.getfield 40, 3) := by decide +kernel
theorem s_X9_doWorks_1 {k r : Nat} (hI : am_Inv g) (hs : am_SH k = (0, 9)) (hk : k < 134) (hr : am_HRf k 4 = some r) (hn : k ≠ 39) (h : AP M_X9_doWorks b 4 [x0, x1] (.ref r :: st) hi g Φ) : AP M_X9_doWorks b 1 [x0, x1] (.ref k :: st) hi g Φ := AP.getR (j := 4) (q := (RX9, TX9, 7)) d_X9_doWorks_1 hs (hI.lt hk) rfl (by decide) (by decide) w_349 (hI.r hn hr) h
theorem d_X9_doWorks_4 : decode cX9_doWorks 4 = .ok (.invokevirtual 263, 3) := by decide +kernel
theorem s_X9_doWorks_4  {k : Nat} {r0 : Int32} {P : am_HI → Prop} (hI : am_Inv g) (hs : am_SH k = (0, 8)) (hk : k < 134) (hst : (st.map Value.category).sum ≤ 8) (hc : am_Cr M_X8_findFault [.ref k] hi g (some (.int r0)) P) (h : ∀ hi' : am_HI, P hi' → AP M_X9_doWorks b 7 [x0, x1] (.int r0 :: st) hi' g Φ) : AP M_X9_doWorks b 4 [x0, x1] (.ref k :: st) hi g Φ := AP.callVr (As := []) (q := (RX8, TX8, 6)) hI hc k_X9_doWorks_263 d_X9_doWorks_4 rfl hs hk rfl rfl hst h
theorem d_X9_doWorks_7 : decode cX9_doWorks 7 = .ok (.iconst (-1), 1) := by decide +kernel
theorem s_X9_doWorks_7 (h : AP M_X9_doWorks b 8 [x0, x1] (.int (-1) :: st) hi g Φ) : AP M_X9_doWorks b 7 [x0, x1] (st) hi g Φ := AP.iconst (x := (-1)) d_X9_doWorks_7 (by decide) h
theorem d_X9_doWorks_8 : decode cX9_doWorks 8 = .ok (.if_icmp .ne 7, 3) := by decide +kernel
theorem s_X9_doWorks_8 {x y : Int32} (h1 : ¬ x = y → AP M_X9_doWorks b 15 [x0, x1] st hi g Φ) (h2 : x = y → AP M_X9_doWorks b 11 [x0, x1] st hi g Φ) : AP M_X9_doWorks b 8 [x0, x1] (.int y :: .int x :: st) hi g Φ := AP.icmp_ne d_X9_doWorks_8 (by decide) h1 h2
theorem d_X9_doWorks_11 : decode cX9_doWorks 11 = .ok (.iconst 1, 1) := by decide +kernel
theorem s_X9_doWorks_11 (h : AP M_X9_doWorks b 12 [x0, x1] (.int 1 :: st) hi g Φ) : AP M_X9_doWorks b 11 [x0, x1] (st) hi g Φ := AP.iconst (x := 1) d_X9_doWorks_11 (by decide) h
theorem d_X9_doWorks_12 : decode cX9_doWorks 12 = .ok (.goto 4, 3) := by decide +kernel
theorem s_X9_doWorks_12 (h : AP M_X9_doWorks b 16 [x0, x1] st hi g Φ) : AP M_X9_doWorks b 12 [x0, x1] st hi g Φ := AP.goto d_X9_doWorks_12 (by decide) h
theorem d_X9_doWorks_15 : decode cX9_doWorks 15 = .ok (.iconst 0, 1) := by decide +kernel
theorem s_X9_doWorks_15 (h : AP M_X9_doWorks b 16 [x0, x1] (.int 0 :: st) hi g Φ) : AP M_X9_doWorks b 15 [x0, x1] (st) hi g Φ := AP.iconst (x := 0) d_X9_doWorks_15 (by decide) h
theorem d_X9_doWorks_16 : decode cX9_doWorks 16 = .ok (.invokestatic 72, 3) := by decide +kernel
theorem s_X9_doWorks_16 {a0 : Int32} {P : am_HI → Prop} (hI : am_Inv g) (hst : (st.map Value.category).sum ≤ 8) (hc : am_Cr M_X9_needPossible [.int a0] hi g none P) (h : ∀ hi' : am_HI, P hi' → AP M_X9_doWorks b 19 [x0, x1] (st) hi' g Φ) : AP M_X9_doWorks b 16 [x0, x1] (.int a0 :: st) hi g Φ := AP.callSr (As := [.int a0]) hI hc k_X9_doWorks_72 d_X9_doWorks_16 rfl hst h
theorem d_X9_doWorks_19 : decode cX9_doWorks 19 = .ok (.aload_n 0, 1) := by decide +kernel
theorem s_X9_doWorks_19 {n : Nat} (h : AP M_X9_doWorks b 20 [.ref n, x1] (.ref n :: st) hi g Φ) : AP M_X9_doWorks b 19 [.ref n, x1] (st) hi g Φ := AP.aload_n (x := n) (i := 0) d_X9_doWorks_19 rfl rfl h
theorem d_X9_doWorks_20 : decode cX9_doWorks 20 = .ok (.getfield 26, 3) := by decide +kernel
theorem s_X9_doWorks_20 {k r : Nat} (hI : am_Inv g) (hs : am_SH k = (0, 9)) (hk : k < 134) (hr : am_HRf k 2 = some r) (hn : k ≠ 39) (h : AP M_X9_doWorks b 23 [x0, x1] (.ref r :: st) hi g Φ) : AP M_X9_doWorks b 20 [x0, x1] (.ref k :: st) hi g Φ := AP.getR (j := 2) (q := (RX9, TX9, 7)) d_X9_doWorks_20 hs (hI.lt hk) rfl (by decide) (by decide) w_347 (hI.r hn hr) h
theorem d_X9_doWorks_23 : decode cX9_doWorks 23 = .ok (.aload_n 0, 1) := by decide +kernel
theorem s_X9_doWorks_23 {n : Nat} (h : AP M_X9_doWorks b 24 [.ref n, x1] (.ref n :: st) hi g Φ) : AP M_X9_doWorks b 23 [.ref n, x1] (st) hi g Φ := AP.aload_n (x := n) (i := 0) d_X9_doWorks_23 rfl rfl h
theorem d_X9_doWorks_24 : decode cX9_doWorks 24 = .ok (.getfield 20, 3) := by decide +kernel
theorem s_X9_doWorks_24 {k r : Nat} (hI : am_Inv g) (hs : am_SH k = (0, 9)) (hk : k < 134) (hr : am_HRf k 1 = some r) (hn : k ≠ 39) (h : AP M_X9_doWorks b 27 [x0, x1] (.ref r :: st) hi g Φ) : AP M_X9_doWorks b 24 [x0, x1] (.ref k :: st) hi g Φ := AP.getR (j := 1) (q := (RX9, TX9, 7)) d_X9_doWorks_24 hs (hI.lt hk) rfl (by decide) (by decide) w_346 (hI.r hn hr) h
theorem d_X9_doWorks_27 : decode cX9_doWorks 27 = .ok (.invokevirtual 75, 3) := by decide +kernel
theorem s_X9_doWorks_27 {a0 : Nat} {k : Nat} {P : am_HI → Prop} (hI : am_Inv g) (hs : am_SH k = (0, 1)) (hk : k < 134) (hst : (st.map Value.category).sum ≤ 8) (hc : am_Cr M_X1_save [.ref k, .ref a0] hi g none P) (h : ∀ hi' : am_HI, P hi' → AP M_X9_doWorks b 30 [x0, x1] (st) hi' g Φ) : AP M_X9_doWorks b 27 [x0, x1] (.ref a0 :: .ref k :: st) hi g Φ := AP.callVr (As := [.ref a0]) (q := (RX1, TX1, 2)) hI hc k_X9_doWorks_75 d_X9_doWorks_27 rfl hs hk rfl rfl hst h
theorem d_X9_doWorks_30 : decode cX9_doWorks 30 = .ok (.aload_n 0, 1) := by decide +kernel
theorem s_X9_doWorks_30 {n : Nat} (h : AP M_X9_doWorks b 31 [.ref n, x1] (.ref n :: st) hi g Φ) : AP M_X9_doWorks b 30 [.ref n, x1] (st) hi g Φ := AP.aload_n (x := n) (i := 0) d_X9_doWorks_30 rfl rfl h
theorem d_X9_doWorks_31 : decode cX9_doWorks 31 = .ok (.getfield 40, 3) := by decide +kernel
theorem s_X9_doWorks_31 {k r : Nat} (hI : am_Inv g) (hs : am_SH k = (0, 9)) (hk : k < 134) (hr : am_HRf k 4 = some r) (hn : k ≠ 39) (h : AP M_X9_doWorks b 34 [x0, x1] (.ref r :: st) hi g Φ) : AP M_X9_doWorks b 31 [x0, x1] (.ref k :: st) hi g Φ := AP.getR (j := 4) (q := (RX9, TX9, 7)) d_X9_doWorks_31 hs (hI.lt hk) rfl (by decide) (by decide) w_349 (hI.r hn hr) h
theorem d_X9_doWorks_34 : decode cX9_doWorks 34 = .ok (.iconst 0, 1) := by decide +kernel
theorem s_X9_doWorks_34 (h : AP M_X9_doWorks b 35 [x0, x1] (.int 0 :: st) hi g Φ) : AP M_X9_doWorks b 34 [x0, x1] (st) hi g Φ := AP.iconst (x := 0) d_X9_doWorks_34 (by decide) h
theorem d_X9_doWorks_35 : decode cX9_doWorks 35 = .ok (.putfield 266, 3) := by decide +kernel
theorem s_X9_doWorks_35 {k : Nat} {n : Int32} (hI : am_Inv g) (hs : am_SH k = (0, 8)) (hk : k < 134) (h : AP M_X9_doWorks b 38 [x0, x1] (st) (am_up hi k 2 n) g Φ) : AP M_X9_doWorks b 35 [x0, x1] (.int n :: .ref k :: st) hi g Φ := AP.putI (j := 2) (q := (RX8, TX8, 6)) d_X9_doWorks_35 hs (hI.lt hk) rfl (by decide) rfl rfl w_295 h
theorem d_X9_doWorks_38 : decode cX9_doWorks 38 = .ok (.iconst 0, 1) := by decide +kernel
theorem s_X9_doWorks_38 (h : AP M_X9_doWorks b 39 [x0, x1] (.int 0 :: st) hi g Φ) : AP M_X9_doWorks b 38 [x0, x1] (st) hi g Φ := AP.iconst (x := 0) d_X9_doWorks_38 (by decide) h
theorem d_X9_doWorks_39 : decode cX9_doWorks 39 = .ok (.istore_n 1, 1) := by decide +kernel
theorem s_X9_doWorks_39 {n : Int32} (hc : x0.category = 1) (h : AP M_X9_doWorks b 40 [x0, .int n] (st) hi g Φ) : AP M_X9_doWorks b 39 [x0, x1] (.int n :: st) hi g Φ := AP.istore_n (x := n) (i := 1) d_X9_doWorks_39 rfl (by decide) (by simp [am_st, am_ci, am_cr, am_cl, am_cd, hc]) h
theorem d_X9_doWorks_40 : decode cX9_doWorks 40 = .ok (.iload_n 1, 1) := by decide +kernel
theorem s_X9_doWorks_40 {n : Int32} (h : AP M_X9_doWorks b 41 [x0, .int n] (.int n :: st) hi g Φ) : AP M_X9_doWorks b 40 [x0, .int n] (st) hi g Φ := AP.iload_n (x := n) (i := 1) d_X9_doWorks_40 rfl rfl h
theorem d_X9_doWorks_41 : decode cX9_doWorks 41 = .ok (.bipush 80, 2) := by decide +kernel
theorem s_X9_doWorks_41 (h : AP M_X9_doWorks b 43 [x0, x1] (.int 80 :: st) hi g Φ) : AP M_X9_doWorks b 41 [x0, x1] (st) hi g Φ := AP.bipush (x := 80) d_X9_doWorks_41 (by decide) h
theorem d_X9_doWorks_43 : decode cX9_doWorks 43 = .ok (.if_icmp .ge 36, 3) := by decide +kernel
theorem s_X9_doWorks_43 {x y : Int32} (h1 : y ≤ x → AP M_X9_doWorks b 79 [x0, x1] st hi g Φ) (h2 : ¬ y ≤ x → AP M_X9_doWorks b 46 [x0, x1] st hi g Φ) : AP M_X9_doWorks b 43 [x0, x1] (.int y :: .int x :: st) hi g Φ := AP.icmp_ge d_X9_doWorks_43 (by decide) h1 h2
theorem d_X9_doWorks_46 : decode cX9_doWorks 46 = .ok (.aload_n 0, 1) := by decide +kernel
theorem s_X9_doWorks_46 {n : Nat} (h : AP M_X9_doWorks b 47 [.ref n, x1] (.ref n :: st) hi g Φ) : AP M_X9_doWorks b 46 [.ref n, x1] (st) hi g Φ := AP.aload_n (x := n) (i := 0) d_X9_doWorks_46 rfl rfl h
theorem d_X9_doWorks_47 : decode cX9_doWorks 47 = .ok (.getfield 40, 3) := by decide +kernel
theorem s_X9_doWorks_47 {k r : Nat} (hI : am_Inv g) (hs : am_SH k = (0, 9)) (hk : k < 134) (hr : am_HRf k 4 = some r) (hn : k ≠ 39) (h : AP M_X9_doWorks b 50 [x0, x1] (.ref r :: st) hi g Φ) : AP M_X9_doWorks b 47 [x0, x1] (.ref k :: st) hi g Φ := AP.getR (j := 4) (q := (RX9, TX9, 7)) d_X9_doWorks_47 hs (hI.lt hk) rfl (by decide) (by decide) w_349 (hI.r hn hr) h
theorem d_X9_doWorks_50 : decode cX9_doWorks 50 = .ok (.invokevirtual 269, 3) := by decide +kernel
theorem s_X9_doWorks_50  {k : Nat} {r0 : Int32} {P : am_HI → Prop} (hI : am_Inv g) (hs : am_SH k = (0, 8)) (hk : k < 134) (hst : (st.map Value.category).sum ≤ 8) (hc : am_Cr M_X8_readWork [.ref k] hi g (some (.int r0)) P) (h : ∀ hi' : am_HI, P hi' → AP M_X9_doWorks b 53 [x0, x1] (.int r0 :: st) hi' g Φ) : AP M_X9_doWorks b 50 [x0, x1] (.ref k :: st) hi g Φ := AP.callVr (As := []) (q := (RX8, TX8, 6)) hI hc k_X9_doWorks_269 d_X9_doWorks_50 rfl hs hk rfl rfl hst h
theorem d_X9_doWorks_53 : decode cX9_doWorks 53 = .ok (.ifCond .eq 26, 3) := by decide +kernel
theorem s_X9_doWorks_53 {x : Int32} (h1 : x = 0 → AP M_X9_doWorks b 79 [x0, x1] st hi g Φ) (h2 : ¬ x = 0 → AP M_X9_doWorks b 56 [x0, x1] st hi g Φ) : AP M_X9_doWorks b 53 [x0, x1] (.int x :: st) hi g Φ := AP.if_eq d_X9_doWorks_53 (by decide) h1 h2
theorem d_X9_doWorks_56 : decode cX9_doWorks 56 = .ok (.aload_n 0, 1) := by decide +kernel
theorem s_X9_doWorks_56 {n : Nat} (h : AP M_X9_doWorks b 57 [.ref n, x1] (.ref n :: st) hi g Φ) : AP M_X9_doWorks b 56 [.ref n, x1] (st) hi g Φ := AP.aload_n (x := n) (i := 0) d_X9_doWorks_56 rfl rfl h
theorem d_X9_doWorks_57 : decode cX9_doWorks 57 = .ok (.invokevirtual 272, 3) := by decide +kernel
theorem s_X9_doWorks_57  {k : Nat} {r0 : Int32} {P : am_HI → Prop} (hI : am_Inv g) (hs : am_SH k = (0, 9)) (hk : k < 134) (hst : (st.map Value.category).sum ≤ 8) (hc : am_Cr M_X9_doWork [.ref k] hi g (some (.int r0)) P) (h : ∀ hi' : am_HI, P hi' → AP M_X9_doWorks b 60 [x0, x1] (.int r0 :: st) hi' g Φ) : AP M_X9_doWorks b 57 [x0, x1] (.ref k :: st) hi g Φ := AP.callVr (As := []) (q := (RX9, TX9, 7)) hI hc k_X9_doWorks_272 d_X9_doWorks_57 rfl hs hk rfl rfl hst h
theorem d_X9_doWorks_60 : decode cX9_doWorks 60 = .ok (.ifCond .eq 19, 3) := by decide +kernel
theorem s_X9_doWorks_60 {x : Int32} (h1 : x = 0 → AP M_X9_doWorks b 79 [x0, x1] st hi g Φ) (h2 : ¬ x = 0 → AP M_X9_doWorks b 63 [x0, x1] st hi g Φ) : AP M_X9_doWorks b 60 [x0, x1] (.int x :: st) hi g Φ := AP.if_eq d_X9_doWorks_60 (by decide) h1 h2
theorem d_X9_doWorks_63 : decode cX9_doWorks 63 = .ok (.iinc 1 1, 3) := by decide +kernel
theorem s_X9_doWorks_63 {n : Int32} (hc : x0.category = 1) (h : AP M_X9_doWorks b 66 [x0, .int (n + 1)] (st) hi g Φ) : AP M_X9_doWorks b 63 [x0, .int n] (st) hi g Φ := AP.iinc (i := 1) (x := n) (y := n + 1) d_X9_doWorks_63 rfl rfl (by decide) (by simp [am_st, am_ci, am_cr, am_cl, am_cd, hc]) h
theorem d_X9_doWorks_66 : decode cX9_doWorks 66 = .ok (.aload_n 0, 1) := by decide +kernel
theorem s_X9_doWorks_66 {n : Nat} (h : AP M_X9_doWorks b 67 [.ref n, x1] (.ref n :: st) hi g Φ) : AP M_X9_doWorks b 66 [.ref n, x1] (st) hi g Φ := AP.aload_n (x := n) (i := 0) d_X9_doWorks_66 rfl rfl h
theorem d_X9_doWorks_67 : decode cX9_doWorks 67 = .ok (.getfield 40, 3) := by decide +kernel
theorem s_X9_doWorks_67 {k r : Nat} (hI : am_Inv g) (hs : am_SH k = (0, 9)) (hk : k < 134) (hr : am_HRf k 4 = some r) (hn : k ≠ 39) (h : AP M_X9_doWorks b 70 [x0, x1] (.ref r :: st) hi g Φ) : AP M_X9_doWorks b 67 [x0, x1] (.ref k :: st) hi g Φ := AP.getR (j := 4) (q := (RX9, TX9, 7)) d_X9_doWorks_67 hs (hI.lt hk) rfl (by decide) (by decide) w_349 (hI.r hn hr) h
theorem d_X9_doWorks_70 : decode cX9_doWorks 70 = .ok (.bipush 59, 2) := by decide +kernel
theorem s_X9_doWorks_70 (h : AP M_X9_doWorks b 72 [x0, x1] (.int 59 :: st) hi g Φ) : AP M_X9_doWorks b 70 [x0, x1] (st) hi g Φ := AP.bipush (x := 59) d_X9_doWorks_70 (by decide) h
theorem d_X9_doWorks_72 : decode cX9_doWorks 72 = .ok (.invokevirtual 275, 3) := by decide +kernel
theorem s_X9_doWorks_72 {a0 : Int32} {k : Nat} {r0 : Int32} {P : am_HI → Prop} (hI : am_Inv g) (hs : am_SH k = (0, 8)) (hk : k < 134) (hst : (st.map Value.category).sum ≤ 8) (hc : am_Cr M_X8_take [.ref k, .int a0] hi g (some (.int r0)) P) (h : ∀ hi' : am_HI, P hi' → AP M_X9_doWorks b 75 [x0, x1] (.int r0 :: st) hi' g Φ) : AP M_X9_doWorks b 72 [x0, x1] (.int a0 :: .ref k :: st) hi g Φ := AP.callVr (As := [.int a0]) (q := (RX8, TX8, 6)) hI hc k_X9_doWorks_275 d_X9_doWorks_72 rfl hs hk rfl rfl hst h
theorem d_X9_doWorks_75 : decode cX9_doWorks 75 = .ok (.pop, 1) := by decide +kernel
theorem s_X9_doWorks_75 {u : Value} (hu : u.category = 1) (h : AP M_X9_doWorks b 76 [x0, x1] (st) hi g Φ) : AP M_X9_doWorks b 75 [x0, x1] (u :: st) hi g Φ := AP.pop d_X9_doWorks_75 hu h
theorem d_X9_doWorks_76 : decode cX9_doWorks 76 = .ok (.goto (-36), 3) := by decide +kernel
theorem s_X9_doWorks_76 (h : AP M_X9_doWorks b 40 [x0, x1] st hi g Φ) : AP M_X9_doWorks b 76 [x0, x1] st hi g Φ := AP.goto d_X9_doWorks_76 (by decide) h
theorem d_X9_doWorks_79 : decode cX9_doWorks 79 = .ok (.aload_n 0, 1) := by decide +kernel
theorem s_X9_doWorks_79 {n : Nat} (h : AP M_X9_doWorks b 80 [.ref n, x1] (.ref n :: st) hi g Φ) : AP M_X9_doWorks b 79 [.ref n, x1] (st) hi g Φ := AP.aload_n (x := n) (i := 0) d_X9_doWorks_79 rfl rfl h
theorem d_X9_doWorks_80 : decode cX9_doWorks 80 = .ok (.getfield 40, 3) := by decide +kernel
theorem s_X9_doWorks_80 {k r : Nat} (hI : am_Inv g) (hs : am_SH k = (0, 9)) (hk : k < 134) (hr : am_HRf k 4 = some r) (hn : k ≠ 39) (h : AP M_X9_doWorks b 83 [x0, x1] (.ref r :: st) hi g Φ) : AP M_X9_doWorks b 80 [x0, x1] (.ref k :: st) hi g Φ := AP.getR (j := 4) (q := (RX9, TX9, 7)) d_X9_doWorks_80 hs (hI.lt hk) rfl (by decide) (by decide) w_349 (hI.r hn hr) h
theorem d_X9_doWorks_83 : decode cX9_doWorks 83 = .ok (.iconst 0, 1) := by decide +kernel
theorem s_X9_doWorks_83 (h : AP M_X9_doWorks b 84 [x0, x1] (.int 0 :: st) hi g Φ) : AP M_X9_doWorks b 83 [x0, x1] (st) hi g Φ := AP.iconst (x := 0) d_X9_doWorks_83 (by decide) h
theorem d_X9_doWorks_84 : decode cX9_doWorks 84 = .ok (.putfield 259, 3) := by decide +kernel
theorem s_X9_doWorks_84 {k : Nat} {n : Int32} (hI : am_Inv g) (hs : am_SH k = (0, 8)) (hk : k < 134) (h : AP M_X9_doWorks b 87 [x0, x1] (st) (am_up hi k 1 n) g Φ) : AP M_X9_doWorks b 84 [x0, x1] (.int n :: .ref k :: st) hi g Φ := AP.putI (j := 1) (q := (RX8, TX8, 6)) d_X9_doWorks_84 hs (hI.lt hk) rfl (by decide) rfl rfl w_293 h
theorem d_X9_doWorks_87 : decode cX9_doWorks 87 = .ok (.iload_n 1, 1) := by decide +kernel
theorem s_X9_doWorks_87 {n : Int32} (h : AP M_X9_doWorks b 88 [x0, .int n] (.int n :: st) hi g Φ) : AP M_X9_doWorks b 87 [x0, .int n] (st) hi g Φ := AP.iload_n (x := n) (i := 1) d_X9_doWorks_87 rfl rfl h
theorem d_X9_doWorks_88 : decode cX9_doWorks 88 = .ok (.ireturn, 1) := by decide +kernel
theorem s_X9_doWorks_88 {x : Int32} (h : Φ (.ok (some (.int x))) hi g) : AP M_X9_doWorks b 88 [x0, x1] [.int x] hi g Φ := AP.iret d_X9_doWorks_88 rfl h
end
section
variable {b : Nat × Nat} {st : List Value} {hi : am_HI} {g : am_G} {Φ : am_P} {x0 : Value}
theorem d_X9_drop_0 : decode cX9_drop 0 = .ok (.aload_n 0, 1) := by decide +kernel
theorem s_X9_drop_0 {n : Nat} (h : AP M_X9_drop b 1 [.ref n] (.ref n :: st) hi g Φ) : AP M_X9_drop b 0 [.ref n] (st) hi g Φ := AP.aload_n (x := n) (i := 0) d_X9_drop_0 rfl rfl h
theorem d_X9_drop_1 : decode cX9_drop 1 = .ok (.getfield 20, 3) := by decide +kernel
theorem s_X9_drop_1 {k r : Nat} (hI : am_Inv g) (hs : am_SH k = (0, 9)) (hk : k < 134) (hr : am_HRf k 1 = some r) (hn : k ≠ 39) (h : AP M_X9_drop b 4 [x0] (.ref r :: st) hi g Φ) : AP M_X9_drop b 1 [x0] (.ref k :: st) hi g Φ := AP.getR (j := 1) (q := (RX9, TX9, 7)) d_X9_drop_1 hs (hI.lt hk) rfl (by decide) (by decide) w_346 (hI.r hn hr) h
theorem d_X9_drop_4 : decode cX9_drop 4 = .ok (.getfield 83, 3) := by decide +kernel
theorem s_X9_drop_4 {k : Nat} (hI : am_Inv g) (hs : am_SH k = (0, 6)) (hk : k < 134) (h : AP M_X9_drop b 7 [x0] (.int (hi k 3) :: st) hi g Φ) : AP M_X9_drop b 4 [x0] (.ref k :: st) hi g Φ := AP.getI (j := 3) (q := (RX6, TX6, 8)) d_X9_drop_4 hs (hI.lt hk) rfl (by decide) (by decide) w_168 h
theorem d_X9_drop_7 : decode cX9_drop 7 = .ok (.ifCond .le 7, 3) := by decide +kernel
theorem s_X9_drop_7 {x : Int32} (h1 : x ≤ 0 → AP M_X9_drop b 14 [x0] st hi g Φ) (h2 : ¬ x ≤ 0 → AP M_X9_drop b 10 [x0] st hi g Φ) : AP M_X9_drop b 7 [x0] (.int x :: st) hi g Φ := AP.if_le d_X9_drop_7 (by decide) h1 h2
theorem d_X9_drop_10 : decode cX9_drop 10 = .ok (.iconst 1, 1) := by decide +kernel
theorem s_X9_drop_10 (h : AP M_X9_drop b 11 [x0] (.int 1 :: st) hi g Φ) : AP M_X9_drop b 10 [x0] (st) hi g Φ := AP.iconst (x := 1) d_X9_drop_10 (by decide) h
theorem d_X9_drop_11 : decode cX9_drop 11 = .ok (.goto 4, 3) := by decide +kernel
theorem s_X9_drop_11 (h : AP M_X9_drop b 15 [x0] st hi g Φ) : AP M_X9_drop b 11 [x0] st hi g Φ := AP.goto d_X9_drop_11 (by decide) h
theorem d_X9_drop_14 : decode cX9_drop 14 = .ok (.iconst 0, 1) := by decide +kernel
theorem s_X9_drop_14 (h : AP M_X9_drop b 15 [x0] (.int 0 :: st) hi g Φ) : AP M_X9_drop b 14 [x0] (st) hi g Φ := AP.iconst (x := 0) d_X9_drop_14 (by decide) h
theorem d_X9_drop_15 : decode cX9_drop 15 = .ok (.invokestatic 72, 3) := by decide +kernel
theorem s_X9_drop_15 {a0 : Int32} {P : am_HI → Prop} (hI : am_Inv g) (hst : (st.map Value.category).sum ≤ 8) (hc : am_Cr M_X9_needPossible [.int a0] hi g none P) (h : ∀ hi' : am_HI, P hi' → AP M_X9_drop b 18 [x0] (st) hi' g Φ) : AP M_X9_drop b 15 [x0] (.int a0 :: st) hi g Φ := AP.callSr (As := [.int a0]) hI hc k_X9_drop_72 d_X9_drop_15 rfl hst h
theorem d_X9_drop_18 : decode cX9_drop 18 = .ok (.aload_n 0, 1) := by decide +kernel
theorem s_X9_drop_18 {n : Nat} (h : AP M_X9_drop b 19 [.ref n] (.ref n :: st) hi g Φ) : AP M_X9_drop b 18 [.ref n] (st) hi g Φ := AP.aload_n (x := n) (i := 0) d_X9_drop_18 rfl rfl h
theorem d_X9_drop_19 : decode cX9_drop 19 = .ok (.getfield 26, 3) := by decide +kernel
theorem s_X9_drop_19 {k r : Nat} (hI : am_Inv g) (hs : am_SH k = (0, 9)) (hk : k < 134) (hr : am_HRf k 2 = some r) (hn : k ≠ 39) (h : AP M_X9_drop b 22 [x0] (.ref r :: st) hi g Φ) : AP M_X9_drop b 19 [x0] (.ref k :: st) hi g Φ := AP.getR (j := 2) (q := (RX9, TX9, 7)) d_X9_drop_19 hs (hI.lt hk) rfl (by decide) (by decide) w_347 (hI.r hn hr) h
theorem d_X9_drop_22 : decode cX9_drop 22 = .ok (.aload_n 0, 1) := by decide +kernel
theorem s_X9_drop_22 {n : Nat} (h : AP M_X9_drop b 23 [.ref n] (.ref n :: st) hi g Φ) : AP M_X9_drop b 22 [.ref n] (st) hi g Φ := AP.aload_n (x := n) (i := 0) d_X9_drop_22 rfl rfl h
theorem d_X9_drop_23 : decode cX9_drop 23 = .ok (.getfield 20, 3) := by decide +kernel
theorem s_X9_drop_23 {k r : Nat} (hI : am_Inv g) (hs : am_SH k = (0, 9)) (hk : k < 134) (hr : am_HRf k 1 = some r) (hn : k ≠ 39) (h : AP M_X9_drop b 26 [x0] (.ref r :: st) hi g Φ) : AP M_X9_drop b 23 [x0] (.ref k :: st) hi g Φ := AP.getR (j := 1) (q := (RX9, TX9, 7)) d_X9_drop_23 hs (hI.lt hk) rfl (by decide) (by decide) w_346 (hI.r hn hr) h
theorem d_X9_drop_26 : decode cX9_drop 26 = .ok (.invokevirtual 75, 3) := by decide +kernel
theorem s_X9_drop_26 {a0 : Nat} {k : Nat} {P : am_HI → Prop} (hI : am_Inv g) (hs : am_SH k = (0, 1)) (hk : k < 134) (hst : (st.map Value.category).sum ≤ 8) (hc : am_Cr M_X1_save [.ref k, .ref a0] hi g none P) (h : ∀ hi' : am_HI, P hi' → AP M_X9_drop b 29 [x0] (st) hi' g Φ) : AP M_X9_drop b 26 [x0] (.ref a0 :: .ref k :: st) hi g Φ := AP.callVr (As := [.ref a0]) (q := (RX1, TX1, 2)) hI hc k_X9_drop_75 d_X9_drop_26 rfl hs hk rfl rfl hst h
theorem d_X9_drop_29 : decode cX9_drop 29 = .ok (.aload_n 0, 1) := by decide +kernel
theorem s_X9_drop_29 {n : Nat} (h : AP M_X9_drop b 30 [.ref n] (.ref n :: st) hi g Φ) : AP M_X9_drop b 29 [.ref n] (st) hi g Φ := AP.aload_n (x := n) (i := 0) d_X9_drop_29 rfl rfl h
theorem d_X9_drop_30 : decode cX9_drop 30 = .ok (.getfield 20, 3) := by decide +kernel
theorem s_X9_drop_30 {k r : Nat} (hI : am_Inv g) (hs : am_SH k = (0, 9)) (hk : k < 134) (hr : am_HRf k 1 = some r) (hn : k ≠ 39) (h : AP M_X9_drop b 33 [x0] (.ref r :: st) hi g Φ) : AP M_X9_drop b 30 [x0] (.ref k :: st) hi g Φ := AP.getR (j := 1) (q := (RX9, TX9, 7)) d_X9_drop_30 hs (hI.lt hk) rfl (by decide) (by decide) w_346 (hI.r hn hr) h
theorem d_X9_drop_33 : decode cX9_drop 33 = .ok (.dup, 1) := by decide +kernel
theorem s_X9_drop_33 {u : Value} (hu : u.category = 1) (h : AP M_X9_drop b 34 [x0] (u :: u :: st) hi g Φ) : AP M_X9_drop b 33 [x0] (u :: st) hi g Φ := AP.dup d_X9_drop_33 hu h
theorem d_X9_drop_34 : decode cX9_drop 34 = .ok (.getfield 83, 3) := by decide +kernel
theorem s_X9_drop_34 {k : Nat} (hI : am_Inv g) (hs : am_SH k = (0, 6)) (hk : k < 134) (h : AP M_X9_drop b 37 [x0] (.int (hi k 3) :: st) hi g Φ) : AP M_X9_drop b 34 [x0] (.ref k :: st) hi g Φ := AP.getI (j := 3) (q := (RX6, TX6, 8)) d_X9_drop_34 hs (hI.lt hk) rfl (by decide) (by decide) w_168 h
theorem d_X9_drop_37 : decode cX9_drop 37 = .ok (.iconst 1, 1) := by decide +kernel
theorem s_X9_drop_37 (h : AP M_X9_drop b 38 [x0] (.int 1 :: st) hi g Φ) : AP M_X9_drop b 37 [x0] (st) hi g Φ := AP.iconst (x := 1) d_X9_drop_37 (by decide) h
theorem d_X9_drop_38 : decode cX9_drop 38 = .ok (.isub, 1) := by decide +kernel
theorem s_X9_drop_38 {x y : Int32} (h : AP M_X9_drop b 39 [x0] (.int (x - y) :: st) hi g Φ) : AP M_X9_drop b 38 [x0] (.int y :: .int x :: st) hi g Φ := AP.isub d_X9_drop_38 h
theorem d_X9_drop_39 : decode cX9_drop 39 = .ok (.putfield 83, 3) := by decide +kernel
theorem s_X9_drop_39 {k : Nat} {n : Int32} (hI : am_Inv g) (hs : am_SH k = (0, 6)) (hk : k < 134) (h : AP M_X9_drop b 42 [x0] (st) (am_up hi k 3 n) g Φ) : AP M_X9_drop b 39 [x0] (.int n :: .ref k :: st) hi g Φ := AP.putI (j := 3) (q := (RX6, TX6, 8)) d_X9_drop_39 hs (hI.lt hk) rfl (by decide) rfl rfl w_168 h
theorem d_X9_drop_42 : decode cX9_drop 42 = .ok (.aload_n 0, 1) := by decide +kernel
theorem s_X9_drop_42 {n : Nat} (h : AP M_X9_drop b 43 [.ref n] (.ref n :: st) hi g Φ) : AP M_X9_drop b 42 [.ref n] (st) hi g Φ := AP.aload_n (x := n) (i := 0) d_X9_drop_42 rfl rfl h
theorem d_X9_drop_43 : decode cX9_drop 43 = .ok (.getfield 20, 3) := by decide +kernel
theorem s_X9_drop_43 {k r : Nat} (hI : am_Inv g) (hs : am_SH k = (0, 9)) (hk : k < 134) (hr : am_HRf k 1 = some r) (hn : k ≠ 39) (h : AP M_X9_drop b 46 [x0] (.ref r :: st) hi g Φ) : AP M_X9_drop b 43 [x0] (.ref k :: st) hi g Φ := AP.getR (j := 1) (q := (RX9, TX9, 7)) d_X9_drop_43 hs (hI.lt hk) rfl (by decide) (by decide) w_346 (hI.r hn hr) h
theorem d_X9_drop_46 : decode cX9_drop 46 = .ok (.getfield 100, 3) := by decide +kernel
theorem s_X9_drop_46 {k r : Nat} (hI : am_Inv g) (hs : am_SH k = (0, 6)) (hk : k < 134) (hr : am_HRf k 0 = some r) (hn : k ≠ 39) (h : AP M_X9_drop b 49 [x0] (.ref r :: st) hi g Φ) : AP M_X9_drop b 46 [x0] (.ref k :: st) hi g Φ := AP.getR (j := 0) (q := (RX6, TX6, 8)) d_X9_drop_46 hs (hI.lt hk) rfl (by decide) (by decide) w_160 (hI.r hn hr) h
theorem d_X9_drop_49 : decode cX9_drop 49 = .ok (.aload_n 0, 1) := by decide +kernel
theorem s_X9_drop_49 {n : Nat} (h : AP M_X9_drop b 50 [.ref n] (.ref n :: st) hi g Φ) : AP M_X9_drop b 49 [.ref n] (st) hi g Φ := AP.aload_n (x := n) (i := 0) d_X9_drop_49 rfl rfl h
theorem d_X9_drop_50 : decode cX9_drop 50 = .ok (.getfield 20, 3) := by decide +kernel
theorem s_X9_drop_50 {k r : Nat} (hI : am_Inv g) (hs : am_SH k = (0, 9)) (hk : k < 134) (hr : am_HRf k 1 = some r) (hn : k ≠ 39) (h : AP M_X9_drop b 53 [x0] (.ref r :: st) hi g Φ) : AP M_X9_drop b 50 [x0] (.ref k :: st) hi g Φ := AP.getR (j := 1) (q := (RX9, TX9, 7)) d_X9_drop_50 hs (hI.lt hk) rfl (by decide) (by decide) w_346 (hI.r hn hr) h
theorem d_X9_drop_53 : decode cX9_drop 53 = .ok (.getfield 83, 3) := by decide +kernel
theorem s_X9_drop_53 {k : Nat} (hI : am_Inv g) (hs : am_SH k = (0, 6)) (hk : k < 134) (h : AP M_X9_drop b 56 [x0] (.int (hi k 3) :: st) hi g Φ) : AP M_X9_drop b 53 [x0] (.ref k :: st) hi g Φ := AP.getI (j := 3) (q := (RX6, TX6, 8)) d_X9_drop_53 hs (hI.lt hk) rfl (by decide) (by decide) w_168 h
theorem d_X9_drop_56 : decode cX9_drop 56 = .ok (.iaload, 1) := by decide +kernel
theorem s_X9_drop_56 {k n j : Nat} {i : Int32} (hI : am_Inv g) (hs : am_SH k = (1, n)) (hk : k < 134) (hn : n < 2 ^ 31) (hx : i = nI j) (hj : j < n) (h : AP M_X9_drop b 57 [x0] (.int (hi k j) :: st) hi g Φ) : AP M_X9_drop b 56 [x0] (.int i :: .ref k :: st) hi g Φ := AP.iald d_X9_drop_56 hs (hI.lt hk) hn hx hj h
theorem d_X9_drop_57 : decode cX9_drop 57 = .ok (.ireturn, 1) := by decide +kernel
theorem s_X9_drop_57 {x : Int32} (h : Φ (.ok (some (.int x))) hi g) : AP M_X9_drop b 57 [x0] [.int x] hi g Φ := AP.iret d_X9_drop_57 rfl h
end
section
variable {b : Nat × Nat} {st : List Value} {hi : am_HI} {g : am_G} {Φ : am_P} {x0 x1 x2 x3 x4 : Value}
theorem d_X9_echo_0 : decode cX9_echo 0 = .ok (.iload_n 1, 1) := by decide +kernel
theorem s_X9_echo_0 {n : Int32} (h : AP M_X9_echo b 1 [x0, .int n, x2, x3, x4] (.int n :: st) hi g Φ) : AP M_X9_echo b 0 [x0, .int n, x2, x3, x4] (st) hi g Φ := AP.iload_n (x := n) (i := 1) d_X9_echo_0 rfl rfl h
theorem d_X9_echo_1 : decode cX9_echo 1 = .ok (.iconst 1, 1) := by decide +kernel
theorem s_X9_echo_1 (h : AP M_X9_echo b 2 [x0, x1, x2, x3, x4] (.int 1 :: st) hi g Φ) : AP M_X9_echo b 1 [x0, x1, x2, x3, x4] (st) hi g Φ := AP.iconst (x := 1) d_X9_echo_1 (by decide) h
theorem d_X9_echo_2 : decode cX9_echo 2 = .ok (.bipush 16, 2) := by decide +kernel
theorem s_X9_echo_2 (h : AP M_X9_echo b 4 [x0, x1, x2, x3, x4] (.int 16 :: st) hi g Φ) : AP M_X9_echo b 2 [x0, x1, x2, x3, x4] (st) hi g Φ := AP.bipush (x := 16) d_X9_echo_2 (by decide) h
theorem d_X9_echo_4 : decode cX9_echo 4 = .ok (.invokestatic 58, 3) := by decide +kernel
theorem s_X9_echo_4 {a0 : Int32} {a1 : Int32} {a2 : Int32} {r0 : Int32} {P : am_HI → Prop} (hI : am_Inv g) (hst : (st.map Value.category).sum ≤ 8) (hc : am_Cr M_X9_isWithin [.int a0, .int a1, .int a2] hi g (some (.int r0)) P) (h : ∀ hi' : am_HI, P hi' → AP M_X9_echo b 7 [x0, x1, x2, x3, x4] (.int r0 :: st) hi' g Φ) : AP M_X9_echo b 4 [x0, x1, x2, x3, x4] (.int a2 :: .int a1 :: .int a0 :: st) hi g Φ := AP.callSr (As := [.int a0, .int a1, .int a2]) hI hc k_X9_echo_58 d_X9_echo_4 rfl hst h
theorem d_X9_echo_7 : decode cX9_echo 7 = .ok (.invokestatic 62, 3) := by decide +kernel
theorem s_X9_echo_7 {a0 : Int32} {P : am_HI → Prop} (hI : am_Inv g) (hst : (st.map Value.category).sum ≤ 8) (hc : am_Cr M_X9_needArgument [.int a0] hi g none P) (h : ∀ hi' : am_HI, P hi' → AP M_X9_echo b 10 [x0, x1, x2, x3, x4] (st) hi' g Φ) : AP M_X9_echo b 7 [x0, x1, x2, x3, x4] (.int a0 :: st) hi g Φ := AP.callSr (As := [.int a0]) hI hc k_X9_echo_62 d_X9_echo_7 rfl hst h
theorem d_X9_echo_10 : decode cX9_echo 10 = .ok (.iload_n 2, 1) := by decide +kernel
theorem s_X9_echo_10 {n : Int32} (h : AP M_X9_echo b 11 [x0, x1, .int n, x3, x4] (.int n :: st) hi g Φ) : AP M_X9_echo b 10 [x0, x1, .int n, x3, x4] (st) hi g Φ := AP.iload_n (x := n) (i := 2) d_X9_echo_10 rfl rfl h
theorem d_X9_echo_11 : decode cX9_echo 11 = .ok (.iconst 1, 1) := by decide +kernel
theorem s_X9_echo_11 (h : AP M_X9_echo b 12 [x0, x1, x2, x3, x4] (.int 1 :: st) hi g Φ) : AP M_X9_echo b 11 [x0, x1, x2, x3, x4] (st) hi g Φ := AP.iconst (x := 1) d_X9_echo_11 (by decide) h
theorem d_X9_echo_12 : decode cX9_echo 12 = .ok (.bipush 12, 2) := by decide +kernel
theorem s_X9_echo_12 (h : AP M_X9_echo b 14 [x0, x1, x2, x3, x4] (.int 12 :: st) hi g Φ) : AP M_X9_echo b 12 [x0, x1, x2, x3, x4] (st) hi g Φ := AP.bipush (x := 12) d_X9_echo_12 (by decide) h
theorem d_X9_echo_14 : decode cX9_echo 14 = .ok (.invokestatic 58, 3) := by decide +kernel
theorem s_X9_echo_14 {a0 : Int32} {a1 : Int32} {a2 : Int32} {r0 : Int32} {P : am_HI → Prop} (hI : am_Inv g) (hst : (st.map Value.category).sum ≤ 8) (hc : am_Cr M_X9_isWithin [.int a0, .int a1, .int a2] hi g (some (.int r0)) P) (h : ∀ hi' : am_HI, P hi' → AP M_X9_echo b 17 [x0, x1, x2, x3, x4] (.int r0 :: st) hi' g Φ) : AP M_X9_echo b 14 [x0, x1, x2, x3, x4] (.int a2 :: .int a1 :: .int a0 :: st) hi g Φ := AP.callSr (As := [.int a0, .int a1, .int a2]) hI hc k_X9_echo_58 d_X9_echo_14 rfl hst h
theorem d_X9_echo_17 : decode cX9_echo 17 = .ok (.invokestatic 62, 3) := by decide +kernel
theorem s_X9_echo_17 {a0 : Int32} {P : am_HI → Prop} (hI : am_Inv g) (hst : (st.map Value.category).sum ≤ 8) (hc : am_Cr M_X9_needArgument [.int a0] hi g none P) (h : ∀ hi' : am_HI, P hi' → AP M_X9_echo b 20 [x0, x1, x2, x3, x4] (st) hi' g Φ) : AP M_X9_echo b 17 [x0, x1, x2, x3, x4] (.int a0 :: st) hi g Φ := AP.callSr (As := [.int a0]) hI hc k_X9_echo_62 d_X9_echo_17 rfl hst h
theorem d_X9_echo_20 : decode cX9_echo 20 = .ok (.iload_n 3, 1) := by decide +kernel
theorem s_X9_echo_20 {n : Int32} (h : AP M_X9_echo b 21 [x0, x1, x2, .int n, x4] (.int n :: st) hi g Φ) : AP M_X9_echo b 20 [x0, x1, x2, .int n, x4] (st) hi g Φ := AP.iload_n (x := n) (i := 3) d_X9_echo_20 rfl rfl h
theorem d_X9_echo_21 : decode cX9_echo 21 = .ok (.iconst 1, 1) := by decide +kernel
theorem s_X9_echo_21 (h : AP M_X9_echo b 22 [x0, x1, x2, x3, x4] (.int 1 :: st) hi g Φ) : AP M_X9_echo b 21 [x0, x1, x2, x3, x4] (st) hi g Φ := AP.iconst (x := 1) d_X9_echo_21 (by decide) h
theorem d_X9_echo_22 : decode cX9_echo 22 = .ok (.bipush 9, 2) := by decide +kernel
theorem s_X9_echo_22 (h : AP M_X9_echo b 24 [x0, x1, x2, x3, x4] (.int 9 :: st) hi g Φ) : AP M_X9_echo b 22 [x0, x1, x2, x3, x4] (st) hi g Φ := AP.bipush (x := 9) d_X9_echo_22 (by decide) h
theorem d_X9_echo_24 : decode cX9_echo 24 = .ok (.invokestatic 58, 3) := by decide +kernel
theorem s_X9_echo_24 {a0 : Int32} {a1 : Int32} {a2 : Int32} {r0 : Int32} {P : am_HI → Prop} (hI : am_Inv g) (hst : (st.map Value.category).sum ≤ 8) (hc : am_Cr M_X9_isWithin [.int a0, .int a1, .int a2] hi g (some (.int r0)) P) (h : ∀ hi' : am_HI, P hi' → AP M_X9_echo b 27 [x0, x1, x2, x3, x4] (.int r0 :: st) hi' g Φ) : AP M_X9_echo b 24 [x0, x1, x2, x3, x4] (.int a2 :: .int a1 :: .int a0 :: st) hi g Φ := AP.callSr (As := [.int a0, .int a1, .int a2]) hI hc k_X9_echo_58 d_X9_echo_24 rfl hst h
theorem d_X9_echo_27 : decode cX9_echo 27 = .ok (.invokestatic 62, 3) := by decide +kernel
theorem s_X9_echo_27 {a0 : Int32} {P : am_HI → Prop} (hI : am_Inv g) (hst : (st.map Value.category).sum ≤ 8) (hc : am_Cr M_X9_needArgument [.int a0] hi g none P) (h : ∀ hi' : am_HI, P hi' → AP M_X9_echo b 30 [x0, x1, x2, x3, x4] (st) hi' g Φ) : AP M_X9_echo b 27 [x0, x1, x2, x3, x4] (.int a0 :: st) hi g Φ := AP.callSr (As := [.int a0]) hI hc k_X9_echo_62 d_X9_echo_27 rfl hst h
theorem d_X9_echo_30 : decode cX9_echo 30 = .ok (.aload_n 0, 1) := by decide +kernel
theorem s_X9_echo_30 {n : Nat} (h : AP M_X9_echo b 31 [.ref n, x1, x2, x3, x4] (.ref n :: st) hi g Φ) : AP M_X9_echo b 30 [.ref n, x1, x2, x3, x4] (st) hi g Φ := AP.aload_n (x := n) (i := 0) d_X9_echo_30 rfl rfl h
theorem d_X9_echo_31 : decode cX9_echo 31 = .ok (.getfield 20, 3) := by decide +kernel
theorem s_X9_echo_31 {k r : Nat} (hI : am_Inv g) (hs : am_SH k = (0, 9)) (hk : k < 134) (hr : am_HRf k 1 = some r) (hn : k ≠ 39) (h : AP M_X9_echo b 34 [x0, x1, x2, x3, x4] (.ref r :: st) hi g Φ) : AP M_X9_echo b 31 [x0, x1, x2, x3, x4] (.ref k :: st) hi g Φ := AP.getR (j := 1) (q := (RX9, TX9, 7)) d_X9_echo_31 hs (hI.lt hk) rfl (by decide) (by decide) w_346 (hI.r hn hr) h
theorem d_X9_echo_34 : decode cX9_echo 34 = .ok (.iload_n 1, 1) := by decide +kernel
theorem s_X9_echo_34 {n : Int32} (h : AP M_X9_echo b 35 [x0, .int n, x2, x3, x4] (.int n :: st) hi g Φ) : AP M_X9_echo b 34 [x0, .int n, x2, x3, x4] (st) hi g Φ := AP.iload_n (x := n) (i := 1) d_X9_echo_34 rfl rfl h
theorem d_X9_echo_35 : decode cX9_echo 35 = .ok (.invokevirtual 66, 3) := by decide +kernel
theorem s_X9_echo_35 {a0 : Int32} {k : Nat} {r0 : Int32} {P : am_HI → Prop} (hI : am_Inv g) (hs : am_SH k = (0, 6)) (hk : k < 134) (hst : (st.map Value.category).sum ≤ 8) (hc : am_Cr M_X6_hasRoomFor [.ref k, .int a0] hi g (some (.int r0)) P) (h : ∀ hi' : am_HI, P hi' → AP M_X9_echo b 38 [x0, x1, x2, x3, x4] (.int r0 :: st) hi' g Φ) : AP M_X9_echo b 35 [x0, x1, x2, x3, x4] (.int a0 :: .ref k :: st) hi g Φ := AP.callVr (As := [.int a0]) (q := (RX6, TX6, 8)) hI hc k_X9_echo_66 d_X9_echo_35 rfl hs hk rfl rfl hst h
theorem d_X9_echo_38 : decode cX9_echo 38 = .ok (.invokestatic 72, 3) := by decide +kernel
theorem s_X9_echo_38 {a0 : Int32} {P : am_HI → Prop} (hI : am_Inv g) (hst : (st.map Value.category).sum ≤ 8) (hc : am_Cr M_X9_needPossible [.int a0] hi g none P) (h : ∀ hi' : am_HI, P hi' → AP M_X9_echo b 41 [x0, x1, x2, x3, x4] (st) hi' g Φ) : AP M_X9_echo b 38 [x0, x1, x2, x3, x4] (.int a0 :: st) hi g Φ := AP.callSr (As := [.int a0]) hI hc k_X9_echo_72 d_X9_echo_38 rfl hst h
theorem d_X9_echo_41 : decode cX9_echo 41 = .ok (.aload_n 0, 1) := by decide +kernel
theorem s_X9_echo_41 {n : Nat} (h : AP M_X9_echo b 42 [.ref n, x1, x2, x3, x4] (.ref n :: st) hi g Φ) : AP M_X9_echo b 41 [.ref n, x1, x2, x3, x4] (st) hi g Φ := AP.aload_n (x := n) (i := 0) d_X9_echo_41 rfl rfl h
theorem d_X9_echo_42 : decode cX9_echo 42 = .ok (.getfield 26, 3) := by decide +kernel
theorem s_X9_echo_42 {k r : Nat} (hI : am_Inv g) (hs : am_SH k = (0, 9)) (hk : k < 134) (hr : am_HRf k 2 = some r) (hn : k ≠ 39) (h : AP M_X9_echo b 45 [x0, x1, x2, x3, x4] (.ref r :: st) hi g Φ) : AP M_X9_echo b 42 [x0, x1, x2, x3, x4] (.ref k :: st) hi g Φ := AP.getR (j := 2) (q := (RX9, TX9, 7)) d_X9_echo_42 hs (hI.lt hk) rfl (by decide) (by decide) w_347 (hI.r hn hr) h
theorem d_X9_echo_45 : decode cX9_echo 45 = .ok (.aload_n 0, 1) := by decide +kernel
theorem s_X9_echo_45 {n : Nat} (h : AP M_X9_echo b 46 [.ref n, x1, x2, x3, x4] (.ref n :: st) hi g Φ) : AP M_X9_echo b 45 [.ref n, x1, x2, x3, x4] (st) hi g Φ := AP.aload_n (x := n) (i := 0) d_X9_echo_45 rfl rfl h
theorem d_X9_echo_46 : decode cX9_echo 46 = .ok (.getfield 20, 3) := by decide +kernel
theorem s_X9_echo_46 {k r : Nat} (hI : am_Inv g) (hs : am_SH k = (0, 9)) (hk : k < 134) (hr : am_HRf k 1 = some r) (hn : k ≠ 39) (h : AP M_X9_echo b 49 [x0, x1, x2, x3, x4] (.ref r :: st) hi g Φ) : AP M_X9_echo b 46 [x0, x1, x2, x3, x4] (.ref k :: st) hi g Φ := AP.getR (j := 1) (q := (RX9, TX9, 7)) d_X9_echo_46 hs (hI.lt hk) rfl (by decide) (by decide) w_346 (hI.r hn hr) h
theorem d_X9_echo_49 : decode cX9_echo 49 = .ok (.invokevirtual 75, 3) := by decide +kernel
theorem s_X9_echo_49 {a0 : Nat} {k : Nat} {P : am_HI → Prop} (hI : am_Inv g) (hs : am_SH k = (0, 1)) (hk : k < 134) (hst : (st.map Value.category).sum ≤ 8) (hc : am_Cr M_X1_save [.ref k, .ref a0] hi g none P) (h : ∀ hi' : am_HI, P hi' → AP M_X9_echo b 52 [x0, x1, x2, x3, x4] (st) hi' g Φ) : AP M_X9_echo b 49 [x0, x1, x2, x3, x4] (.ref a0 :: .ref k :: st) hi g Φ := AP.callVr (As := [.ref a0]) (q := (RX1, TX1, 2)) hI hc k_X9_echo_75 d_X9_echo_49 rfl hs hk rfl rfl hst h
theorem d_X9_echo_52 : decode cX9_echo 52 = .ok (.iconst 0, 1) := by decide +kernel
theorem s_X9_echo_52 (h : AP M_X9_echo b 53 [x0, x1, x2, x3, x4] (.int 0 :: st) hi g Φ) : AP M_X9_echo b 52 [x0, x1, x2, x3, x4] (st) hi g Φ := AP.iconst (x := 0) d_X9_echo_52 (by decide) h
theorem d_X9_echo_53 : decode cX9_echo 53 = .ok (.istore 4, 2) := by decide +kernel
theorem s_X9_echo_53 {n : Int32} (hc : x3.category = 1) (h : AP M_X9_echo b 55 [x0, x1, x2, x3, .int n] (st) hi g Φ) : AP M_X9_echo b 53 [x0, x1, x2, x3, x4] (.int n :: st) hi g Φ := AP.istore (x := n) (i := 4) d_X9_echo_53 (by decide) (by simp [am_st, am_ci, am_cr, am_cl, am_cd, hc]) h
theorem d_X9_echo_55 : decode cX9_echo 55 = .ok (.iload 4, 2) := by decide +kernel
theorem s_X9_echo_55 {n : Int32} (h : AP M_X9_echo b 57 [x0, x1, x2, x3, .int n] (.int n :: st) hi g Φ) : AP M_X9_echo b 55 [x0, x1, x2, x3, .int n] (st) hi g Φ := AP.iload (x := n) (i := 4) d_X9_echo_55 rfl h
theorem d_X9_echo_57 : decode cX9_echo 57 = .ok (.iload_n 1, 1) := by decide +kernel
theorem s_X9_echo_57 {n : Int32} (h : AP M_X9_echo b 58 [x0, .int n, x2, x3, x4] (.int n :: st) hi g Φ) : AP M_X9_echo b 57 [x0, .int n, x2, x3, x4] (st) hi g Φ := AP.iload_n (x := n) (i := 1) d_X9_echo_57 rfl rfl h
theorem d_X9_echo_58 : decode cX9_echo 58 = .ok (.if_icmp .ge 39, 3) := by decide +kernel
theorem s_X9_echo_58 {x y : Int32} (h1 : y ≤ x → AP M_X9_echo b 97 [x0, x1, x2, x3, x4] st hi g Φ) (h2 : ¬ y ≤ x → AP M_X9_echo b 61 [x0, x1, x2, x3, x4] st hi g Φ) : AP M_X9_echo b 58 [x0, x1, x2, x3, x4] (.int y :: .int x :: st) hi g Φ := AP.icmp_ge d_X9_echo_58 (by decide) h1 h2
theorem d_X9_echo_61 : decode cX9_echo 61 = .ok (.aload_n 0, 1) := by decide +kernel
theorem s_X9_echo_61 {n : Nat} (h : AP M_X9_echo b 62 [.ref n, x1, x2, x3, x4] (.ref n :: st) hi g Φ) : AP M_X9_echo b 61 [.ref n, x1, x2, x3, x4] (st) hi g Φ := AP.aload_n (x := n) (i := 0) d_X9_echo_61 rfl rfl h
theorem d_X9_echo_62 : decode cX9_echo 62 = .ok (.getfield 20, 3) := by decide +kernel
theorem s_X9_echo_62 {k r : Nat} (hI : am_Inv g) (hs : am_SH k = (0, 9)) (hk : k < 134) (hr : am_HRf k 1 = some r) (hn : k ≠ 39) (h : AP M_X9_echo b 65 [x0, x1, x2, x3, x4] (.ref r :: st) hi g Φ) : AP M_X9_echo b 62 [x0, x1, x2, x3, x4] (.ref k :: st) hi g Φ := AP.getR (j := 1) (q := (RX9, TX9, 7)) d_X9_echo_62 hs (hI.lt hk) rfl (by decide) (by decide) w_346 (hI.r hn hr) h
theorem d_X9_echo_65 : decode cX9_echo 65 = .ok (.aload_n 0, 1) := by decide +kernel
theorem s_X9_echo_65 {n : Nat} (h : AP M_X9_echo b 66 [.ref n, x1, x2, x3, x4] (.ref n :: st) hi g Φ) : AP M_X9_echo b 65 [.ref n, x1, x2, x3, x4] (st) hi g Φ := AP.aload_n (x := n) (i := 0) d_X9_echo_65 rfl rfl h
theorem d_X9_echo_66 : decode cX9_echo 66 = .ok (.getfield 20, 3) := by decide +kernel
theorem s_X9_echo_66 {k r : Nat} (hI : am_Inv g) (hs : am_SH k = (0, 9)) (hk : k < 134) (hr : am_HRf k 1 = some r) (hn : k ≠ 39) (h : AP M_X9_echo b 69 [x0, x1, x2, x3, x4] (.ref r :: st) hi g Φ) : AP M_X9_echo b 66 [x0, x1, x2, x3, x4] (.ref k :: st) hi g Φ := AP.getR (j := 1) (q := (RX9, TX9, 7)) d_X9_echo_66 hs (hI.lt hk) rfl (by decide) (by decide) w_346 (hI.r hn hr) h
theorem d_X9_echo_69 : decode cX9_echo 69 = .ok (.aload_n 0, 1) := by decide +kernel
theorem s_X9_echo_69 {n : Nat} (h : AP M_X9_echo b 70 [.ref n, x1, x2, x3, x4] (.ref n :: st) hi g Φ) : AP M_X9_echo b 69 [.ref n, x1, x2, x3, x4] (st) hi g Φ := AP.aload_n (x := n) (i := 0) d_X9_echo_69 rfl rfl h
theorem d_X9_echo_70 : decode cX9_echo 70 = .ok (.getfield 20, 3) := by decide +kernel
theorem s_X9_echo_70 {k r : Nat} (hI : am_Inv g) (hs : am_SH k = (0, 9)) (hk : k < 134) (hr : am_HRf k 1 = some r) (hn : k ≠ 39) (h : AP M_X9_echo b 73 [x0, x1, x2, x3, x4] (.ref r :: st) hi g Φ) : AP M_X9_echo b 70 [x0, x1, x2, x3, x4] (.ref k :: st) hi g Φ := AP.getR (j := 1) (q := (RX9, TX9, 7)) d_X9_echo_70 hs (hI.lt hk) rfl (by decide) (by decide) w_346 (hI.r hn hr) h
theorem d_X9_echo_73 : decode cX9_echo 73 = .ok (.getfield 83, 3) := by decide +kernel
theorem s_X9_echo_73 {k : Nat} (hI : am_Inv g) (hs : am_SH k = (0, 6)) (hk : k < 134) (h : AP M_X9_echo b 76 [x0, x1, x2, x3, x4] (.int (hi k 3) :: st) hi g Φ) : AP M_X9_echo b 73 [x0, x1, x2, x3, x4] (.ref k :: st) hi g Φ := AP.getI (j := 3) (q := (RX6, TX6, 8)) d_X9_echo_73 hs (hI.lt hk) rfl (by decide) (by decide) w_168 h
theorem d_X9_echo_76 : decode cX9_echo 76 = .ok (.iload_n 2, 1) := by decide +kernel
theorem s_X9_echo_76 {n : Int32} (h : AP M_X9_echo b 77 [x0, x1, .int n, x3, x4] (.int n :: st) hi g Φ) : AP M_X9_echo b 76 [x0, x1, .int n, x3, x4] (st) hi g Φ := AP.iload_n (x := n) (i := 2) d_X9_echo_76 rfl rfl h
theorem d_X9_echo_77 : decode cX9_echo 77 = .ok (.isub, 1) := by decide +kernel
theorem s_X9_echo_77 {x y : Int32} (h : AP M_X9_echo b 78 [x0, x1, x2, x3, x4] (.int (x - y) :: st) hi g Φ) : AP M_X9_echo b 77 [x0, x1, x2, x3, x4] (.int y :: .int x :: st) hi g Φ := AP.isub d_X9_echo_77 h
theorem d_X9_echo_78 : decode cX9_echo 78 = .ok (.invokevirtual 87, 3) := by decide +kernel
theorem s_X9_echo_78 {a0 : Int32} {k : Nat} {r0 : Int32} {P : am_HI → Prop} (hI : am_Inv g) (hs : am_SH k = (0, 6)) (hk : k < 134) (hst : (st.map Value.category).sum ≤ 8) (hc : am_Cr M_X6_soundAt [.ref k, .int a0] hi g (some (.int r0)) P) (h : ∀ hi' : am_HI, P hi' → AP M_X9_echo b 81 [x0, x1, x2, x3, x4] (.int r0 :: st) hi' g Φ) : AP M_X9_echo b 78 [x0, x1, x2, x3, x4] (.int a0 :: .ref k :: st) hi g Φ := AP.callVr (As := [.int a0]) (q := (RX6, TX6, 8)) hI hc k_X9_echo_87 d_X9_echo_78 rfl hs hk rfl rfl hst h
theorem d_X9_echo_81 : decode cX9_echo 81 = .ok (.iload_n 3, 1) := by decide +kernel
theorem s_X9_echo_81 {n : Int32} (h : AP M_X9_echo b 82 [x0, x1, x2, .int n, x4] (.int n :: st) hi g Φ) : AP M_X9_echo b 81 [x0, x1, x2, .int n, x4] (st) hi g Φ := AP.iload_n (x := n) (i := 3) d_X9_echo_81 rfl rfl h
theorem d_X9_echo_82 : decode cX9_echo 82 = .ok (.imul, 1) := by decide +kernel
theorem s_X9_echo_82 {x y : Int32} (h : AP M_X9_echo b 83 [x0, x1, x2, x3, x4] (.int (x * y) :: st) hi g Φ) : AP M_X9_echo b 82 [x0, x1, x2, x3, x4] (.int y :: .int x :: st) hi g Φ := AP.imul d_X9_echo_82 h
theorem d_X9_echo_83 : decode cX9_echo 83 = .ok (.bipush 10, 2) := by decide +kernel
theorem s_X9_echo_83 (h : AP M_X9_echo b 85 [x0, x1, x2, x3, x4] (.int 10 :: st) hi g Φ) : AP M_X9_echo b 83 [x0, x1, x2, x3, x4] (st) hi g Φ := AP.bipush (x := 10) d_X9_echo_83 (by decide) h
theorem d_X9_echo_85 : decode cX9_echo 85 = .ok (.invokestatic 91, 3) := by decide +kernel
theorem s_X9_echo_85 {a0 : Int32} {a1 : Int32} {r0 : Int32} {P : am_HI → Prop} (hI : am_Inv g) (hst : (st.map Value.category).sum ≤ 8) (hc : am_Cr M_J9_floorDiv_7cf53 [.int a0, .int a1] hi g (some (.int r0)) P) (h : ∀ hi' : am_HI, P hi' → AP M_X9_echo b 88 [x0, x1, x2, x3, x4] (.int r0 :: st) hi' g Φ) : AP M_X9_echo b 85 [x0, x1, x2, x3, x4] (.int a1 :: .int a0 :: st) hi g Φ := AP.callSr (As := [.int a0, .int a1]) hI hc k_X9_echo_91 d_X9_echo_85 rfl hst h
theorem d_X9_echo_88 : decode cX9_echo 88 = .ok (.invokevirtual 79, 3) := by decide +kernel
theorem s_X9_echo_88 {a0 : Int32} {k : Nat} {P : am_HI → Prop} (hI : am_Inv g) (hs : am_SH k = (0, 6)) (hk : k < 134) (hst : (st.map Value.category).sum ≤ 8) (hc : am_Cr M_X6_put [.ref k, .int a0] hi g none P) (h : ∀ hi' : am_HI, P hi' → AP M_X9_echo b 91 [x0, x1, x2, x3, x4] (st) hi' g Φ) : AP M_X9_echo b 88 [x0, x1, x2, x3, x4] (.int a0 :: .ref k :: st) hi g Φ := AP.callVr (As := [.int a0]) (q := (RX6, TX6, 8)) hI hc k_X9_echo_79 d_X9_echo_88 rfl hs hk rfl rfl hst h
theorem d_X9_echo_91 : decode cX9_echo 91 = .ok (.iinc 4 1, 3) := by decide +kernel
theorem s_X9_echo_91 {n : Int32} (hc : x3.category = 1) (h : AP M_X9_echo b 94 [x0, x1, x2, x3, .int (n + 1)] (st) hi g Φ) : AP M_X9_echo b 91 [x0, x1, x2, x3, .int n] (st) hi g Φ := AP.iinc (i := 4) (x := n) (y := n + 1) d_X9_echo_91 rfl rfl (by decide) (by simp [am_st, am_ci, am_cr, am_cl, am_cd, hc]) h
theorem d_X9_echo_94 : decode cX9_echo 94 = .ok (.goto (-39), 3) := by decide +kernel
theorem s_X9_echo_94 (h : AP M_X9_echo b 55 [x0, x1, x2, x3, x4] st hi g Φ) : AP M_X9_echo b 94 [x0, x1, x2, x3, x4] st hi g Φ := AP.goto d_X9_echo_94 (by decide) h
theorem d_X9_echo_97 : decode cX9_echo 97 = .ok (.aload_n 0, 1) := by decide +kernel
theorem s_X9_echo_97 {n : Nat} (h : AP M_X9_echo b 98 [.ref n, x1, x2, x3, x4] (.ref n :: st) hi g Φ) : AP M_X9_echo b 97 [.ref n, x1, x2, x3, x4] (st) hi g Φ := AP.aload_n (x := n) (i := 0) d_X9_echo_97 rfl rfl h
theorem d_X9_echo_98 : decode cX9_echo 98 = .ok (.getfield 20, 3) := by decide +kernel
theorem s_X9_echo_98 {k r : Nat} (hI : am_Inv g) (hs : am_SH k = (0, 9)) (hk : k < 134) (hr : am_HRf k 1 = some r) (hn : k ≠ 39) (h : AP M_X9_echo b 101 [x0, x1, x2, x3, x4] (.ref r :: st) hi g Φ) : AP M_X9_echo b 98 [x0, x1, x2, x3, x4] (.ref k :: st) hi g Φ := AP.getR (j := 1) (q := (RX9, TX9, 7)) d_X9_echo_98 hs (hI.lt hk) rfl (by decide) (by decide) w_346 (hI.r hn hr) h
theorem d_X9_echo_101 : decode cX9_echo 101 = .ok (.getfield 83, 3) := by decide +kernel
theorem s_X9_echo_101 {k : Nat} (hI : am_Inv g) (hs : am_SH k = (0, 6)) (hk : k < 134) (h : AP M_X9_echo b 104 [x0, x1, x2, x3, x4] (.int (hi k 3) :: st) hi g Φ) : AP M_X9_echo b 101 [x0, x1, x2, x3, x4] (.ref k :: st) hi g Φ := AP.getI (j := 3) (q := (RX6, TX6, 8)) d_X9_echo_101 hs (hI.lt hk) rfl (by decide) (by decide) w_168 h
theorem d_X9_echo_104 : decode cX9_echo 104 = .ok (.ireturn, 1) := by decide +kernel
theorem s_X9_echo_104 {x : Int32} (h : Φ (.ok (some (.int x))) hi g) : AP M_X9_echo b 104 [x0, x1, x2, x3, x4] [.int x] hi g Φ := AP.iret d_X9_echo_104 rfl h
end
section
variable {b : Nat × Nat} {st : List Value} {hi : am_HI} {g : am_G} {Φ : am_P} {x0 x1 : Value}
theorem d_X9_firstWeight_0 : decode cX9_firstWeight 0 = .ok (.iload_n 1, 1) := by decide +kernel
theorem s_X9_firstWeight_0 {n : Int32} (h : AP M_X9_firstWeight b 1 [x0, .int n] (.int n :: st) hi g Φ) : AP M_X9_firstWeight b 0 [x0, .int n] (st) hi g Φ := AP.iload_n (x := n) (i := 1) d_X9_firstWeight_0 rfl rfl h
theorem d_X9_firstWeight_1 : decode cX9_firstWeight 1 = .ok (.iconst 1, 1) := by decide +kernel
theorem s_X9_firstWeight_1 (h : AP M_X9_firstWeight b 2 [x0, x1] (.int 1 :: st) hi g Φ) : AP M_X9_firstWeight b 1 [x0, x1] (st) hi g Φ := AP.iconst (x := 1) d_X9_firstWeight_1 (by decide) h
theorem d_X9_firstWeight_2 : decode cX9_firstWeight 2 = .ok (.iconst 4, 1) := by decide +kernel
theorem s_X9_firstWeight_2 (h : AP M_X9_firstWeight b 3 [x0, x1] (.int 4 :: st) hi g Φ) : AP M_X9_firstWeight b 2 [x0, x1] (st) hi g Φ := AP.iconst (x := 4) d_X9_firstWeight_2 (by decide) h
theorem d_X9_firstWeight_3 : decode cX9_firstWeight 3 = .ok (.invokestatic 58, 3) := by decide +kernel
theorem s_X9_firstWeight_3 {a0 : Int32} {a1 : Int32} {a2 : Int32} {r0 : Int32} {P : am_HI → Prop} (hI : am_Inv g) (hst : (st.map Value.category).sum ≤ 8) (hc : am_Cr M_X9_isWithin [.int a0, .int a1, .int a2] hi g (some (.int r0)) P) (h : ∀ hi' : am_HI, P hi' → AP M_X9_firstWeight b 6 [x0, x1] (.int r0 :: st) hi' g Φ) : AP M_X9_firstWeight b 3 [x0, x1] (.int a2 :: .int a1 :: .int a0 :: st) hi g Φ := AP.callSr (As := [.int a0, .int a1, .int a2]) hI hc k_X9_firstWeight_58 d_X9_firstWeight_3 rfl hst h
theorem d_X9_firstWeight_6 : decode cX9_firstWeight 6 = .ok (.invokestatic 62, 3) := by decide +kernel
theorem s_X9_firstWeight_6 {a0 : Int32} {P : am_HI → Prop} (hI : am_Inv g) (hst : (st.map Value.category).sum ≤ 8) (hc : am_Cr M_X9_needArgument [.int a0] hi g none P) (h : ∀ hi' : am_HI, P hi' → AP M_X9_firstWeight b 9 [x0, x1] (st) hi' g Φ) : AP M_X9_firstWeight b 6 [x0, x1] (.int a0 :: st) hi g Φ := AP.callSr (As := [.int a0]) hI hc k_X9_firstWeight_62 d_X9_firstWeight_6 rfl hst h
theorem d_X9_firstWeight_9 : decode cX9_firstWeight 9 = .ok (.aload_n 0, 1) := by decide +kernel
theorem s_X9_firstWeight_9 {n : Nat} (h : AP M_X9_firstWeight b 10 [.ref n, x1] (.ref n :: st) hi g Φ) : AP M_X9_firstWeight b 9 [.ref n, x1] (st) hi g Φ := AP.aload_n (x := n) (i := 0) d_X9_firstWeight_9 rfl rfl h
theorem d_X9_firstWeight_10 : decode cX9_firstWeight 10 = .ok (.getfield 20, 3) := by decide +kernel
theorem s_X9_firstWeight_10 {k r : Nat} (hI : am_Inv g) (hs : am_SH k = (0, 9)) (hk : k < 134) (hr : am_HRf k 1 = some r) (hn : k ≠ 39) (h : AP M_X9_firstWeight b 13 [x0, x1] (.ref r :: st) hi g Φ) : AP M_X9_firstWeight b 10 [x0, x1] (.ref k :: st) hi g Φ := AP.getR (j := 1) (q := (RX9, TX9, 7)) d_X9_firstWeight_10 hs (hI.lt hk) rfl (by decide) (by decide) w_346 (hI.r hn hr) h
theorem d_X9_firstWeight_13 : decode cX9_firstWeight 13 = .ok (.getfield 110, 3) := by decide +kernel
theorem s_X9_firstWeight_13 {k r : Nat} (hI : am_Inv g) (hs : am_SH k = (0, 6)) (hk : k < 134) (hr : am_HRf k 1 = some r) (hn : k ≠ 39) (h : AP M_X9_firstWeight b 16 [x0, x1] (.ref r :: st) hi g Φ) : AP M_X9_firstWeight b 13 [x0, x1] (.ref k :: st) hi g Φ := AP.getR (j := 1) (q := (RX6, TX6, 8)) d_X9_firstWeight_13 hs (hI.lt hk) rfl (by decide) (by decide) w_163 (hI.r hn hr) h
theorem d_X9_firstWeight_16 : decode cX9_firstWeight 16 = .ok (.iload_n 1, 1) := by decide +kernel
theorem s_X9_firstWeight_16 {n : Int32} (h : AP M_X9_firstWeight b 17 [x0, .int n] (.int n :: st) hi g Φ) : AP M_X9_firstWeight b 16 [x0, .int n] (st) hi g Φ := AP.iload_n (x := n) (i := 1) d_X9_firstWeight_16 rfl rfl h
theorem d_X9_firstWeight_17 : decode cX9_firstWeight 17 = .ok (.iconst 1, 1) := by decide +kernel
theorem s_X9_firstWeight_17 (h : AP M_X9_firstWeight b 18 [x0, x1] (.int 1 :: st) hi g Φ) : AP M_X9_firstWeight b 17 [x0, x1] (st) hi g Φ := AP.iconst (x := 1) d_X9_firstWeight_17 (by decide) h
theorem d_X9_firstWeight_18 : decode cX9_firstWeight 18 = .ok (.isub, 1) := by decide +kernel
theorem s_X9_firstWeight_18 {x y : Int32} (h : AP M_X9_firstWeight b 19 [x0, x1] (.int (x - y) :: st) hi g Φ) : AP M_X9_firstWeight b 18 [x0, x1] (.int y :: .int x :: st) hi g Φ := AP.isub d_X9_firstWeight_18 h
theorem d_X9_firstWeight_19 : decode cX9_firstWeight 19 = .ok (.iaload, 1) := by decide +kernel
theorem s_X9_firstWeight_19 {k n j : Nat} {i : Int32} (hI : am_Inv g) (hs : am_SH k = (1, n)) (hk : k < 134) (hn : n < 2 ^ 31) (hx : i = nI j) (hj : j < n) (h : AP M_X9_firstWeight b 20 [x0, x1] (.int (hi k j) :: st) hi g Φ) : AP M_X9_firstWeight b 19 [x0, x1] (.int i :: .ref k :: st) hi g Φ := AP.iald d_X9_firstWeight_19 hs (hI.lt hk) hn hx hj h
theorem d_X9_firstWeight_20 : decode cX9_firstWeight 20 = .ok (.ireturn, 1) := by decide +kernel
theorem s_X9_firstWeight_20 {x : Int32} (h : Φ (.ok (some (.int x))) hi g) : AP M_X9_firstWeight b 20 [x0, x1] [.int x] hi g Φ := AP.iret d_X9_firstWeight_20 rfl h
end
section
variable {b : Nat × Nat} {st : List Value} {hi : am_HI} {g : am_G} {Φ : am_P} {x0 x1 x2 : Value}
theorem d_X9_foretold_0 : decode cX9_foretold 0 = .ok (.iload_n 2, 1) := by decide +kernel
theorem s_X9_foretold_0 {n : Int32} (h : AP M_X9_foretold b 1 [x0, x1, .int n] (.int n :: st) hi g Φ) : AP M_X9_foretold b 0 [x0, x1, .int n] (st) hi g Φ := AP.iload_n (x := n) (i := 2) d_X9_foretold_0 rfl rfl h
theorem d_X9_foretold_1 : decode cX9_foretold 1 = .ok (.iconst 0, 1) := by decide +kernel
theorem s_X9_foretold_1 (h : AP M_X9_foretold b 2 [x0, x1, x2] (.int 0 :: st) hi g Φ) : AP M_X9_foretold b 1 [x0, x1, x2] (st) hi g Φ := AP.iconst (x := 0) d_X9_foretold_1 (by decide) h
theorem d_X9_foretold_2 : decode cX9_foretold 2 = .ok (.aload_n 0, 1) := by decide +kernel
theorem s_X9_foretold_2 {n : Nat} (h : AP M_X9_foretold b 3 [.ref n, x1, x2] (.ref n :: st) hi g Φ) : AP M_X9_foretold b 2 [.ref n, x1, x2] (st) hi g Φ := AP.aload_n (x := n) (i := 0) d_X9_foretold_2 rfl rfl h
theorem d_X9_foretold_3 : decode cX9_foretold 3 = .ok (.getfield 20, 3) := by decide +kernel
theorem s_X9_foretold_3 {k r : Nat} (hI : am_Inv g) (hs : am_SH k = (0, 9)) (hk : k < 134) (hr : am_HRf k 1 = some r) (hn : k ≠ 39) (h : AP M_X9_foretold b 6 [x0, x1, x2] (.ref r :: st) hi g Φ) : AP M_X9_foretold b 3 [x0, x1, x2] (.ref k :: st) hi g Φ := AP.getR (j := 1) (q := (RX9, TX9, 7)) d_X9_foretold_3 hs (hI.lt hk) rfl (by decide) (by decide) w_346 (hI.r hn hr) h
theorem d_X9_foretold_6 : decode cX9_foretold 6 = .ok (.getfield 83, 3) := by decide +kernel
theorem s_X9_foretold_6 {k : Nat} (hI : am_Inv g) (hs : am_SH k = (0, 6)) (hk : k < 134) (h : AP M_X9_foretold b 9 [x0, x1, x2] (.int (hi k 3) :: st) hi g Φ) : AP M_X9_foretold b 6 [x0, x1, x2] (.ref k :: st) hi g Φ := AP.getI (j := 3) (q := (RX6, TX6, 8)) d_X9_foretold_6 hs (hI.lt hk) rfl (by decide) (by decide) w_168 h
theorem d_X9_foretold_9 : decode cX9_foretold 9 = .ok (.invokestatic 58, 3) := by decide +kernel
theorem s_X9_foretold_9 {a0 : Int32} {a1 : Int32} {a2 : Int32} {r0 : Int32} {P : am_HI → Prop} (hI : am_Inv g) (hst : (st.map Value.category).sum ≤ 8) (hc : am_Cr M_X9_isWithin [.int a0, .int a1, .int a2] hi g (some (.int r0)) P) (h : ∀ hi' : am_HI, P hi' → AP M_X9_foretold b 12 [x0, x1, x2] (.int r0 :: st) hi' g Φ) : AP M_X9_foretold b 9 [x0, x1, x2] (.int a2 :: .int a1 :: .int a0 :: st) hi g Φ := AP.callSr (As := [.int a0, .int a1, .int a2]) hI hc k_X9_foretold_58 d_X9_foretold_9 rfl hst h
theorem d_X9_foretold_12 : decode cX9_foretold 12 = .ok (.invokestatic 97, 3) := by decide +kernel
theorem s_X9_foretold_12 {a0 : Int32} {P : am_HI → Prop} (hI : am_Inv g) (hst : (st.map Value.category).sum ≤ 8) (hc : am_Cr M_X9_needIndex [.int a0] hi g none P) (h : ∀ hi' : am_HI, P hi' → AP M_X9_foretold b 15 [x0, x1, x2] (st) hi' g Φ) : AP M_X9_foretold b 12 [x0, x1, x2] (.int a0 :: st) hi g Φ := AP.callSr (As := [.int a0]) hI hc k_X9_foretold_97 d_X9_foretold_12 rfl hst h
theorem d_X9_foretold_15 : decode cX9_foretold 15 = .ok (.iload_n 1, 1) := by decide +kernel
theorem s_X9_foretold_15 {n : Int32} (h : AP M_X9_foretold b 16 [x0, .int n, x2] (.int n :: st) hi g Φ) : AP M_X9_foretold b 15 [x0, .int n, x2] (st) hi g Φ := AP.iload_n (x := n) (i := 1) d_X9_foretold_15 rfl rfl h
theorem d_X9_foretold_16 : decode cX9_foretold 16 = .ok (.invokestatic 113, 3) := by decide +kernel
theorem s_X9_foretold_16 {a0 : Int32} {r0 : Int32} {P : am_HI → Prop} (hI : am_Inv g) (hst : (st.map Value.category).sum ≤ 8) (hc : am_Cr M_X9_isKind [.int a0] hi g (some (.int r0)) P) (h : ∀ hi' : am_HI, P hi' → AP M_X9_foretold b 19 [x0, x1, x2] (.int r0 :: st) hi' g Φ) : AP M_X9_foretold b 16 [x0, x1, x2] (.int a0 :: st) hi g Φ := AP.callSr (As := [.int a0]) hI hc k_X9_foretold_113 d_X9_foretold_16 rfl hst h
theorem d_X9_foretold_19 : decode cX9_foretold 19 = .ok (.invokestatic 62, 3) := by decide +kernel
theorem s_X9_foretold_19 {a0 : Int32} {P : am_HI → Prop} (hI : am_Inv g) (hst : (st.map Value.category).sum ≤ 8) (hc : am_Cr M_X9_needArgument [.int a0] hi g none P) (h : ∀ hi' : am_HI, P hi' → AP M_X9_foretold b 22 [x0, x1, x2] (st) hi' g Φ) : AP M_X9_foretold b 19 [x0, x1, x2] (.int a0 :: st) hi g Φ := AP.callSr (As := [.int a0]) hI hc k_X9_foretold_62 d_X9_foretold_19 rfl hst h
theorem d_X9_foretold_22 : decode cX9_foretold 22 = .ok (.aload_n 0, 1) := by decide +kernel
theorem s_X9_foretold_22 {n : Nat} (h : AP M_X9_foretold b 23 [.ref n, x1, x2] (.ref n :: st) hi g Φ) : AP M_X9_foretold b 22 [.ref n, x1, x2] (st) hi g Φ := AP.aload_n (x := n) (i := 0) d_X9_foretold_22 rfl rfl h
theorem d_X9_foretold_23 : decode cX9_foretold 23 = .ok (.getfield 12, 3) := by decide +kernel
theorem s_X9_foretold_23 {k r : Nat} (hI : am_Inv g) (hs : am_SH k = (0, 9)) (hk : k < 134) (hr : am_HRf k 0 = some r) (hn : k ≠ 39) (h : AP M_X9_foretold b 26 [x0, x1, x2] (.ref r :: st) hi g Φ) : AP M_X9_foretold b 23 [x0, x1, x2] (.ref k :: st) hi g Φ := AP.getR (j := 0) (q := (RX9, TX9, 7)) d_X9_foretold_23 hs (hI.lt hk) rfl (by decide) (by decide) w_345 (hI.r hn hr) h
theorem d_X9_foretold_26 : decode cX9_foretold 26 = .ok (.invokevirtual 154, 3) := by decide +kernel
theorem s_X9_foretold_26  {k : Nat} {P : am_HI → Prop} (hI : am_Inv g) (hs : am_SH k = (0, 7)) (hk : k < 134) (hst : (st.map Value.category).sum ≤ 8) (hc : am_Cr M_X7_follow [.ref k] hi g none P) (h : ∀ hi' : am_HI, P hi' → AP M_X9_foretold b 29 [x0, x1, x2] (st) hi' g Φ) : AP M_X9_foretold b 26 [x0, x1, x2] (.ref k :: st) hi g Φ := AP.callVr (As := []) (q := (RX7, TX7, 7)) hI hc k_X9_foretold_154 d_X9_foretold_26 rfl hs hk rfl rfl hst h
theorem d_X9_foretold_29 : decode cX9_foretold 29 = .ok (.aload_n 0, 1) := by decide +kernel
theorem s_X9_foretold_29 {n : Nat} (h : AP M_X9_foretold b 30 [.ref n, x1, x2] (.ref n :: st) hi g Φ) : AP M_X9_foretold b 29 [.ref n, x1, x2] (st) hi g Φ := AP.aload_n (x := n) (i := 0) d_X9_foretold_29 rfl rfl h
theorem d_X9_foretold_30 : decode cX9_foretold 30 = .ok (.getfield 12, 3) := by decide +kernel
theorem s_X9_foretold_30 {k r : Nat} (hI : am_Inv g) (hs : am_SH k = (0, 9)) (hk : k < 134) (hr : am_HRf k 0 = some r) (hn : k ≠ 39) (h : AP M_X9_foretold b 33 [x0, x1, x2] (.ref r :: st) hi g Φ) : AP M_X9_foretold b 30 [x0, x1, x2] (.ref k :: st) hi g Φ := AP.getR (j := 0) (q := (RX9, TX9, 7)) d_X9_foretold_30 hs (hI.lt hk) rfl (by decide) (by decide) w_345 (hI.r hn hr) h
theorem d_X9_foretold_33 : decode cX9_foretold 33 = .ok (.getfield 164, 3) := by decide +kernel
theorem s_X9_foretold_33 {k r : Nat} (hI : am_Inv g) (hs : am_SH k = (0, 7)) (hk : k < 134) (hr : am_HRf k 3 = some r) (hn : k ≠ 39) (h : AP M_X9_foretold b 36 [x0, x1, x2] (.ref r :: st) hi g Φ) : AP M_X9_foretold b 33 [x0, x1, x2] (.ref k :: st) hi g Φ := AP.getR (j := 3) (q := (RX7, TX7, 7)) d_X9_foretold_33 hs (hI.lt hk) rfl (by decide) (by decide) w_231 (hI.r hn hr) h
theorem d_X9_foretold_36 : decode cX9_foretold 36 = .ok (.iload_n 1, 1) := by decide +kernel
theorem s_X9_foretold_36 {n : Int32} (h : AP M_X9_foretold b 37 [x0, .int n, x2] (.int n :: st) hi g Φ) : AP M_X9_foretold b 36 [x0, .int n, x2] (st) hi g Φ := AP.iload_n (x := n) (i := 1) d_X9_foretold_36 rfl rfl h
theorem d_X9_foretold_37 : decode cX9_foretold 37 = .ok (.aaload, 1) := by decide +kernel
theorem s_X9_foretold_37 {k n j r : Nat} {i : Int32} (hI : am_Inv g) (hs : am_SH k = (6, n)) (hk : k < 134) (hn : n < 2 ^ 31) (hx : i = nI j) (hj : j < n) (hr : g.2.1 k j = some r) (h : AP M_X9_foretold b 38 [x0, x1, x2] (.ref r :: st) hi g Φ) : AP M_X9_foretold b 37 [x0, x1, x2] (.int i :: .ref k :: st) hi g Φ := AP.rald d_X9_foretold_37 hs (hI.lt hk) hn hx hj hr h
theorem s_X9_foretold_37a {k n j r : Nat} {i : Int32} (hI : am_Inv g) (hs : am_SH k = (5, n)) (hk : k < 134) (hn : n < 2 ^ 31) (hx : i = nI j) (hj : j < n) (hr : g.2.1 k j = some r) (h : AP M_X9_foretold b 38 [x0, x1, x2] (.ref r :: st) hi g Φ) : AP M_X9_foretold b 37 [x0, x1, x2] (.int i :: .ref k :: st) hi g Φ := AP.aald d_X9_foretold_37 hs (hI.lt hk) hn hx hj hr h
theorem d_X9_foretold_38 : decode cX9_foretold 38 = .ok (.iload_n 2, 1) := by decide +kernel
theorem s_X9_foretold_38 {n : Int32} (h : AP M_X9_foretold b 39 [x0, x1, .int n] (.int n :: st) hi g Φ) : AP M_X9_foretold b 38 [x0, x1, .int n] (st) hi g Φ := AP.iload_n (x := n) (i := 2) d_X9_foretold_38 rfl rfl h
theorem d_X9_foretold_39 : decode cX9_foretold 39 = .ok (.iaload, 1) := by decide +kernel
theorem s_X9_foretold_39 {k n j : Nat} {i : Int32} (hI : am_Inv g) (hs : am_SH k = (1, n)) (hk : k < 134) (hn : n < 2 ^ 31) (hx : i = nI j) (hj : j < n) (h : AP M_X9_foretold b 40 [x0, x1, x2] (.int (hi k j) :: st) hi g Φ) : AP M_X9_foretold b 39 [x0, x1, x2] (.int i :: .ref k :: st) hi g Φ := AP.iald d_X9_foretold_39 hs (hI.lt hk) hn hx hj h
theorem d_X9_foretold_40 : decode cX9_foretold 40 = .ok (.ireturn, 1) := by decide +kernel
theorem s_X9_foretold_40 {x : Int32} (h : Φ (.ok (some (.int x))) hi g) : AP M_X9_foretold b 40 [x0, x1, x2] [.int x] hi g Φ := AP.iret d_X9_foretold_40 rfl h
end
section
variable {b : Nat × Nat} {st : List Value} {hi : am_HI} {g : am_G} {Φ : am_P} {x0 x1 : Value}
theorem d_X9_goBack_0 : decode cX9_goBack 0 = .ok (.iload_n 1, 1) := by decide +kernel
theorem s_X9_goBack_0 {n : Int32} (h : AP M_X9_goBack b 1 [x0, .int n] (.int n :: st) hi g Φ) : AP M_X9_goBack b 0 [x0, .int n] (st) hi g Φ := AP.iload_n (x := n) (i := 1) d_X9_goBack_0 rfl rfl h
theorem d_X9_goBack_1 : decode cX9_goBack 1 = .ok (.iconst 0, 1) := by decide +kernel
theorem s_X9_goBack_1 (h : AP M_X9_goBack b 2 [x0, x1] (.int 0 :: st) hi g Φ) : AP M_X9_goBack b 1 [x0, x1] (st) hi g Φ := AP.iconst (x := 0) d_X9_goBack_1 (by decide) h
theorem d_X9_goBack_2 : decode cX9_goBack 2 = .ok (.iconst 1, 1) := by decide +kernel
theorem s_X9_goBack_2 (h : AP M_X9_goBack b 3 [x0, x1] (.int 1 :: st) hi g Φ) : AP M_X9_goBack b 2 [x0, x1] (st) hi g Φ := AP.iconst (x := 1) d_X9_goBack_2 (by decide) h
theorem d_X9_goBack_3 : decode cX9_goBack 3 = .ok (.invokestatic 58, 3) := by decide +kernel
theorem s_X9_goBack_3 {a0 : Int32} {a1 : Int32} {a2 : Int32} {r0 : Int32} {P : am_HI → Prop} (hI : am_Inv g) (hst : (st.map Value.category).sum ≤ 8) (hc : am_Cr M_X9_isWithin [.int a0, .int a1, .int a2] hi g (some (.int r0)) P) (h : ∀ hi' : am_HI, P hi' → AP M_X9_goBack b 6 [x0, x1] (.int r0 :: st) hi' g Φ) : AP M_X9_goBack b 3 [x0, x1] (.int a2 :: .int a1 :: .int a0 :: st) hi g Φ := AP.callSr (As := [.int a0, .int a1, .int a2]) hI hc k_X9_goBack_58 d_X9_goBack_3 rfl hst h
theorem d_X9_goBack_6 : decode cX9_goBack 6 = .ok (.invokestatic 97, 3) := by decide +kernel
theorem s_X9_goBack_6 {a0 : Int32} {P : am_HI → Prop} (hI : am_Inv g) (hst : (st.map Value.category).sum ≤ 8) (hc : am_Cr M_X9_needIndex [.int a0] hi g none P) (h : ∀ hi' : am_HI, P hi' → AP M_X9_goBack b 9 [x0, x1] (st) hi' g Φ) : AP M_X9_goBack b 6 [x0, x1] (.int a0 :: st) hi g Φ := AP.callSr (As := [.int a0]) hI hc k_X9_goBack_97 d_X9_goBack_6 rfl hst h
theorem d_X9_goBack_9 : decode cX9_goBack 9 = .ok (.aload_n 0, 1) := by decide +kernel
theorem s_X9_goBack_9 {n : Nat} (h : AP M_X9_goBack b 10 [.ref n, x1] (.ref n :: st) hi g Φ) : AP M_X9_goBack b 9 [.ref n, x1] (st) hi g Φ := AP.aload_n (x := n) (i := 0) d_X9_goBack_9 rfl rfl h
theorem d_X9_goBack_10 : decode cX9_goBack 10 = .ok (.getfield 33, 3) := by decide +kernel
theorem s_X9_goBack_10 {k r : Nat} (hI : am_Inv g) (hs : am_SH k = (0, 9)) (hk : k < 134) (hr : am_HRf k 3 = some r) (hn : k ≠ 39) (h : AP M_X9_goBack b 13 [x0, x1] (.ref r :: st) hi g Φ) : AP M_X9_goBack b 10 [x0, x1] (.ref k :: st) hi g Φ := AP.getR (j := 3) (q := (RX9, TX9, 7)) d_X9_goBack_10 hs (hI.lt hk) rfl (by decide) (by decide) w_348 (hI.r hn hr) h
theorem d_X9_goBack_13 : decode cX9_goBack 13 = .ok (.iload_n 1, 1) := by decide +kernel
theorem s_X9_goBack_13 {n : Int32} (h : AP M_X9_goBack b 14 [x0, .int n] (.int n :: st) hi g Φ) : AP M_X9_goBack b 13 [x0, .int n] (st) hi g Φ := AP.iload_n (x := n) (i := 1) d_X9_goBack_13 rfl rfl h
theorem d_X9_goBack_14 : decode cX9_goBack 14 = .ok (.invokevirtual 253, 3) := by decide +kernel
theorem s_X9_goBack_14 {a0 : Int32} {k : Nat} {r0 : Int32} {P : am_HI → Prop} (hI : am_Inv g) (hs : am_SH k = (0, 5)) (hk : k < 134) (hst : (st.map Value.category).sum ≤ 8) (hc : am_Cr M_X5_has [.ref k, .int a0] hi g (some (.int r0)) P) (h : ∀ hi' : am_HI, P hi' → AP M_X9_goBack b 17 [x0, x1] (.int r0 :: st) hi' g Φ) : AP M_X9_goBack b 14 [x0, x1] (.int a0 :: .ref k :: st) hi g Φ := AP.callVr (As := [.int a0]) (q := (RX5, TX5, 2)) hI hc k_X9_goBack_253 d_X9_goBack_14 rfl hs hk rfl rfl hst h
theorem d_X9_goBack_17 : decode cX9_goBack 17 = .ok (.invokestatic 72, 3) := by decide +kernel
theorem s_X9_goBack_17 {a0 : Int32} {P : am_HI → Prop} (hI : am_Inv g) (hst : (st.map Value.category).sum ≤ 8) (hc : am_Cr M_X9_needPossible [.int a0] hi g none P) (h : ∀ hi' : am_HI, P hi' → AP M_X9_goBack b 20 [x0, x1] (st) hi' g Φ) : AP M_X9_goBack b 17 [x0, x1] (.int a0 :: st) hi g Φ := AP.callSr (As := [.int a0]) hI hc k_X9_goBack_72 d_X9_goBack_17 rfl hst h
theorem d_X9_goBack_20 : decode cX9_goBack 20 = .ok (.aload_n 0, 1) := by decide +kernel
theorem s_X9_goBack_20 {n : Nat} (h : AP M_X9_goBack b 21 [.ref n, x1] (.ref n :: st) hi g Φ) : AP M_X9_goBack b 20 [.ref n, x1] (st) hi g Φ := AP.aload_n (x := n) (i := 0) d_X9_goBack_20 rfl rfl h
theorem d_X9_goBack_21 : decode cX9_goBack 21 = .ok (.getfield 26, 3) := by decide +kernel
theorem s_X9_goBack_21 {k r : Nat} (hI : am_Inv g) (hs : am_SH k = (0, 9)) (hk : k < 134) (hr : am_HRf k 2 = some r) (hn : k ≠ 39) (h : AP M_X9_goBack b 24 [x0, x1] (.ref r :: st) hi g Φ) : AP M_X9_goBack b 21 [x0, x1] (.ref k :: st) hi g Φ := AP.getR (j := 2) (q := (RX9, TX9, 7)) d_X9_goBack_21 hs (hI.lt hk) rfl (by decide) (by decide) w_347 (hI.r hn hr) h
theorem d_X9_goBack_24 : decode cX9_goBack 24 = .ok (.aload_n 0, 1) := by decide +kernel
theorem s_X9_goBack_24 {n : Nat} (h : AP M_X9_goBack b 25 [.ref n, x1] (.ref n :: st) hi g Φ) : AP M_X9_goBack b 24 [.ref n, x1] (st) hi g Φ := AP.aload_n (x := n) (i := 0) d_X9_goBack_24 rfl rfl h
theorem d_X9_goBack_25 : decode cX9_goBack 25 = .ok (.getfield 20, 3) := by decide +kernel
theorem s_X9_goBack_25 {k r : Nat} (hI : am_Inv g) (hs : am_SH k = (0, 9)) (hk : k < 134) (hr : am_HRf k 1 = some r) (hn : k ≠ 39) (h : AP M_X9_goBack b 28 [x0, x1] (.ref r :: st) hi g Φ) : AP M_X9_goBack b 25 [x0, x1] (.ref k :: st) hi g Φ := AP.getR (j := 1) (q := (RX9, TX9, 7)) d_X9_goBack_25 hs (hI.lt hk) rfl (by decide) (by decide) w_346 (hI.r hn hr) h
theorem d_X9_goBack_28 : decode cX9_goBack 28 = .ok (.invokevirtual 75, 3) := by decide +kernel
theorem s_X9_goBack_28 {a0 : Nat} {k : Nat} {P : am_HI → Prop} (hI : am_Inv g) (hs : am_SH k = (0, 1)) (hk : k < 134) (hst : (st.map Value.category).sum ≤ 8) (hc : am_Cr M_X1_save [.ref k, .ref a0] hi g none P) (h : ∀ hi' : am_HI, P hi' → AP M_X9_goBack b 31 [x0, x1] (st) hi' g Φ) : AP M_X9_goBack b 28 [x0, x1] (.ref a0 :: .ref k :: st) hi g Φ := AP.callVr (As := [.ref a0]) (q := (RX1, TX1, 2)) hI hc k_X9_goBack_75 d_X9_goBack_28 rfl hs hk rfl rfl hst h
theorem d_X9_goBack_31 : decode cX9_goBack 31 = .ok (.aload_n 0, 1) := by decide +kernel
theorem s_X9_goBack_31 {n : Nat} (h : AP M_X9_goBack b 32 [.ref n, x1] (.ref n :: st) hi g Φ) : AP M_X9_goBack b 31 [.ref n, x1] (st) hi g Φ := AP.aload_n (x := n) (i := 0) d_X9_goBack_31 rfl rfl h
theorem d_X9_goBack_32 : decode cX9_goBack 32 = .ok (.getfield 33, 3) := by decide +kernel
theorem s_X9_goBack_32 {k r : Nat} (hI : am_Inv g) (hs : am_SH k = (0, 9)) (hk : k < 134) (hr : am_HRf k 3 = some r) (hn : k ≠ 39) (h : AP M_X9_goBack b 35 [x0, x1] (.ref r :: st) hi g Φ) : AP M_X9_goBack b 32 [x0, x1] (.ref k :: st) hi g Φ := AP.getR (j := 3) (q := (RX9, TX9, 7)) d_X9_goBack_32 hs (hI.lt hk) rfl (by decide) (by decide) w_348 (hI.r hn hr) h
theorem d_X9_goBack_35 : decode cX9_goBack 35 = .ok (.iload_n 1, 1) := by decide +kernel
theorem s_X9_goBack_35 {n : Int32} (h : AP M_X9_goBack b 36 [x0, .int n] (.int n :: st) hi g Φ) : AP M_X9_goBack b 35 [x0, .int n] (st) hi g Φ := AP.iload_n (x := n) (i := 1) d_X9_goBack_35 rfl rfl h
theorem d_X9_goBack_36 : decode cX9_goBack 36 = .ok (.aload_n 0, 1) := by decide +kernel
theorem s_X9_goBack_36 {n : Nat} (h : AP M_X9_goBack b 37 [.ref n, x1] (.ref n :: st) hi g Φ) : AP M_X9_goBack b 36 [.ref n, x1] (st) hi g Φ := AP.aload_n (x := n) (i := 0) d_X9_goBack_36 rfl rfl h
theorem d_X9_goBack_37 : decode cX9_goBack 37 = .ok (.getfield 20, 3) := by decide +kernel
theorem s_X9_goBack_37 {k r : Nat} (hI : am_Inv g) (hs : am_SH k = (0, 9)) (hk : k < 134) (hr : am_HRf k 1 = some r) (hn : k ≠ 39) (h : AP M_X9_goBack b 40 [x0, x1] (.ref r :: st) hi g Φ) : AP M_X9_goBack b 37 [x0, x1] (.ref k :: st) hi g Φ := AP.getR (j := 1) (q := (RX9, TX9, 7)) d_X9_goBack_37 hs (hI.lt hk) rfl (by decide) (by decide) w_346 (hI.r hn hr) h
theorem d_X9_goBack_40 : decode cX9_goBack 40 = .ok (.invokevirtual 256, 3) := by decide +kernel
theorem s_X9_goBack_40 {a0 : Int32} {a1 : Nat} {k : Nat} {P : am_HI → Prop} (hI : am_Inv g) (hs : am_SH k = (0, 5)) (hk : k < 134) (hst : (st.map Value.category).sum ≤ 8) (hc : am_Cr M_X5_restore [.ref k, .int a0, .ref a1] hi g none P) (h : ∀ hi' : am_HI, P hi' → AP M_X9_goBack b 43 [x0, x1] (st) hi' g Φ) : AP M_X9_goBack b 40 [x0, x1] (.ref a1 :: .int a0 :: .ref k :: st) hi g Φ := AP.callVr (As := [.int a0, .ref a1]) (q := (RX5, TX5, 2)) hI hc k_X9_goBack_256 d_X9_goBack_40 rfl hs hk rfl rfl hst h
theorem d_X9_goBack_43 : decode cX9_goBack 43 = .ok (.aload_n 0, 1) := by decide +kernel
theorem s_X9_goBack_43 {n : Nat} (h : AP M_X9_goBack b 44 [.ref n, x1] (.ref n :: st) hi g Φ) : AP M_X9_goBack b 43 [.ref n, x1] (st) hi g Φ := AP.aload_n (x := n) (i := 0) d_X9_goBack_43 rfl rfl h
theorem d_X9_goBack_44 : decode cX9_goBack 44 = .ok (.getfield 20, 3) := by decide +kernel
theorem s_X9_goBack_44 {k r : Nat} (hI : am_Inv g) (hs : am_SH k = (0, 9)) (hk : k < 134) (hr : am_HRf k 1 = some r) (hn : k ≠ 39) (h : AP M_X9_goBack b 47 [x0, x1] (.ref r :: st) hi g Φ) : AP M_X9_goBack b 44 [x0, x1] (.ref k :: st) hi g Φ := AP.getR (j := 1) (q := (RX9, TX9, 7)) d_X9_goBack_44 hs (hI.lt hk) rfl (by decide) (by decide) w_346 (hI.r hn hr) h
theorem d_X9_goBack_47 : decode cX9_goBack 47 = .ok (.getfield 83, 3) := by decide +kernel
theorem s_X9_goBack_47 {k : Nat} (hI : am_Inv g) (hs : am_SH k = (0, 6)) (hk : k < 134) (h : AP M_X9_goBack b 50 [x0, x1] (.int (hi k 3) :: st) hi g Φ) : AP M_X9_goBack b 47 [x0, x1] (.ref k :: st) hi g Φ := AP.getI (j := 3) (q := (RX6, TX6, 8)) d_X9_goBack_47 hs (hI.lt hk) rfl (by decide) (by decide) w_168 h
theorem d_X9_goBack_50 : decode cX9_goBack 50 = .ok (.ireturn, 1) := by decide +kernel
theorem s_X9_goBack_50 {x : Int32} (h : Φ (.ok (some (.int x))) hi g) : AP M_X9_goBack b 50 [x0, x1] [.int x] hi g Φ := AP.iret d_X9_goBack_50 rfl h
end
section
variable {b : Nat × Nat} {st : List Value} {hi : am_HI} {g : am_G} {Φ : am_P} {x0 x1 : Value}
theorem d_X9_harm_0 : decode cX9_harm 0 = .ok (.aload_n 0, 1) := by decide +kernel
theorem s_X9_harm_0 {n : Nat} (h : AP M_X9_harm b 1 [.ref n, x1] (.ref n :: st) hi g Φ) : AP M_X9_harm b 0 [.ref n, x1] (st) hi g Φ := AP.aload_n (x := n) (i := 0) d_X9_harm_0 rfl rfl h
theorem d_X9_harm_1 : decode cX9_harm 1 = .ok (.iload_n 1, 1) := by decide +kernel
theorem s_X9_harm_1 {n : Int32} (h : AP M_X9_harm b 2 [x0, .int n] (.int n :: st) hi g Φ) : AP M_X9_harm b 1 [x0, .int n] (st) hi g Φ := AP.iload_n (x := n) (i := 1) d_X9_harm_1 rfl rfl h
theorem d_X9_harm_2 : decode cX9_harm 2 = .ok (.invokevirtual 139, 3) := by decide +kernel
theorem s_X9_harm_2 {a0 : Int32} {k : Nat} {r0 : Int32} {P : am_HI → Prop} (hI : am_Inv g) (hs : am_SH k = (0, 9)) (hk : k < 134) (hst : (st.map Value.category).sum ≤ 8) (hc : am_Cr M_X9_isTold [.ref k, .int a0] hi g (some (.int r0)) P) (h : ∀ hi' : am_HI, P hi' → AP M_X9_harm b 5 [x0, x1] (.int r0 :: st) hi' g Φ) : AP M_X9_harm b 2 [x0, x1] (.int a0 :: .ref k :: st) hi g Φ := AP.callVr (As := [.int a0]) (q := (RX9, TX9, 7)) hI hc k_X9_harm_139 d_X9_harm_2 rfl hs hk rfl rfl hst h
theorem d_X9_harm_5 : decode cX9_harm 5 = .ok (.invokestatic 97, 3) := by decide +kernel
theorem s_X9_harm_5 {a0 : Int32} {P : am_HI → Prop} (hI : am_Inv g) (hst : (st.map Value.category).sum ≤ 8) (hc : am_Cr M_X9_needIndex [.int a0] hi g none P) (h : ∀ hi' : am_HI, P hi' → AP M_X9_harm b 8 [x0, x1] (st) hi' g Φ) : AP M_X9_harm b 5 [x0, x1] (.int a0 :: st) hi g Φ := AP.callSr (As := [.int a0]) hI hc k_X9_harm_97 d_X9_harm_5 rfl hst h
theorem d_X9_harm_8 : decode cX9_harm 8 = .ok (.aload_n 0, 1) := by decide +kernel
theorem s_X9_harm_8 {n : Nat} (h : AP M_X9_harm b 9 [.ref n, x1] (.ref n :: st) hi g Φ) : AP M_X9_harm b 8 [.ref n, x1] (st) hi g Φ := AP.aload_n (x := n) (i := 0) d_X9_harm_8 rfl rfl h
theorem d_X9_harm_9 : decode cX9_harm 9 = .ok (.getfield 47, 3) := by decide +kernel
theorem s_X9_harm_9 {k r : Nat} (hI : am_Inv g) (hs : am_SH k = (0, 9)) (hk : k < 134) (hr : am_HRf k 5 = some r) (hn : k ≠ 39) (h : AP M_X9_harm b 12 [x0, x1] (.ref r :: st) hi g Φ) : AP M_X9_harm b 9 [x0, x1] (.ref k :: st) hi g Φ := AP.getR (j := 5) (q := (RX9, TX9, 7)) d_X9_harm_9 hs (hI.lt hk) rfl (by decide) (by decide) w_350 (hI.r hn hr) h
theorem d_X9_harm_12 : decode cX9_harm 12 = .ok (.aload_n 0, 1) := by decide +kernel
theorem s_X9_harm_12 {n : Nat} (h : AP M_X9_harm b 13 [.ref n, x1] (.ref n :: st) hi g Φ) : AP M_X9_harm b 12 [.ref n, x1] (st) hi g Φ := AP.aload_n (x := n) (i := 0) d_X9_harm_12 rfl rfl h
theorem d_X9_harm_13 : decode cX9_harm 13 = .ok (.getfield 20, 3) := by decide +kernel
theorem s_X9_harm_13 {k r : Nat} (hI : am_Inv g) (hs : am_SH k = (0, 9)) (hk : k < 134) (hr : am_HRf k 1 = some r) (hn : k ≠ 39) (h : AP M_X9_harm b 16 [x0, x1] (.ref r :: st) hi g Φ) : AP M_X9_harm b 13 [x0, x1] (.ref k :: st) hi g Φ := AP.getR (j := 1) (q := (RX9, TX9, 7)) d_X9_harm_13 hs (hI.lt hk) rfl (by decide) (by decide) w_346 (hI.r hn hr) h
theorem d_X9_harm_16 : decode cX9_harm 16 = .ok (.getfield 129, 3) := by decide +kernel
theorem s_X9_harm_16 {k r : Nat} (hI : am_Inv g) (hs : am_SH k = (0, 6)) (hk : k < 134) (hr : am_HRf k 2 = some r) (hn : k ≠ 39) (h : AP M_X9_harm b 19 [x0, x1] (.ref r :: st) hi g Φ) : AP M_X9_harm b 16 [x0, x1] (.ref k :: st) hi g Φ := AP.getR (j := 2) (q := (RX6, TX6, 8)) d_X9_harm_16 hs (hI.lt hk) rfl (by decide) (by decide) w_165 (hI.r hn hr) h
theorem d_X9_harm_19 : decode cX9_harm 19 = .ok (.iload_n 1, 1) := by decide +kernel
theorem s_X9_harm_19 {n : Int32} (h : AP M_X9_harm b 20 [x0, .int n] (.int n :: st) hi g Φ) : AP M_X9_harm b 19 [x0, .int n] (st) hi g Φ := AP.iload_n (x := n) (i := 1) d_X9_harm_19 rfl rfl h
theorem d_X9_harm_20 : decode cX9_harm 20 = .ok (.invokevirtual 229, 3) := by decide +kernel
theorem s_X9_harm_20 {a0 : Nat} {a1 : Int32} {k : Nat} {P : am_HI → Prop} (hI : am_Inv g) (hs : am_SH k = (0, 4)) (hk : k < 134) (hst : (st.map Value.category).sum ≤ 8) (hc : am_Cr M_X4_read [.ref k, .ref a0, .int a1] hi g none P) (h : ∀ hi' : am_HI, P hi' → AP M_X9_harm b 23 [x0, x1] (st) hi' g Φ) : AP M_X9_harm b 20 [x0, x1] (.int a1 :: .ref a0 :: .ref k :: st) hi g Φ := AP.callVr (As := [.ref a0, .int a1]) (q := (RX4, TX4, 1)) hI hc k_X9_harm_229 d_X9_harm_20 rfl hs hk rfl rfl hst h
theorem d_X9_harm_23 : decode cX9_harm 23 = .ok (.aload_n 0, 1) := by decide +kernel
theorem s_X9_harm_23 {n : Nat} (h : AP M_X9_harm b 24 [.ref n, x1] (.ref n :: st) hi g Φ) : AP M_X9_harm b 23 [.ref n, x1] (st) hi g Φ := AP.aload_n (x := n) (i := 0) d_X9_harm_23 rfl rfl h
theorem d_X9_harm_24 : decode cX9_harm 24 = .ok (.getfield 47, 3) := by decide +kernel
theorem s_X9_harm_24 {k r : Nat} (hI : am_Inv g) (hs : am_SH k = (0, 9)) (hk : k < 134) (hr : am_HRf k 5 = some r) (hn : k ≠ 39) (h : AP M_X9_harm b 27 [x0, x1] (.ref r :: st) hi g Φ) : AP M_X9_harm b 24 [x0, x1] (.ref k :: st) hi g Φ := AP.getR (j := 5) (q := (RX9, TX9, 7)) d_X9_harm_24 hs (hI.lt hk) rfl (by decide) (by decide) w_350 (hI.r hn hr) h
theorem d_X9_harm_27 : decode cX9_harm 27 = .ok (.aload_n 0, 1) := by decide +kernel
theorem s_X9_harm_27 {n : Nat} (h : AP M_X9_harm b 28 [.ref n, x1] (.ref n :: st) hi g Φ) : AP M_X9_harm b 27 [.ref n, x1] (st) hi g Φ := AP.aload_n (x := n) (i := 0) d_X9_harm_27 rfl rfl h
theorem d_X9_harm_28 : decode cX9_harm 28 = .ok (.getfield 20, 3) := by decide +kernel
theorem s_X9_harm_28 {k r : Nat} (hI : am_Inv g) (hs : am_SH k = (0, 9)) (hk : k < 134) (hr : am_HRf k 1 = some r) (hn : k ≠ 39) (h : AP M_X9_harm b 31 [x0, x1] (.ref r :: st) hi g Φ) : AP M_X9_harm b 28 [x0, x1] (.ref k :: st) hi g Φ := AP.getR (j := 1) (q := (RX9, TX9, 7)) d_X9_harm_28 hs (hI.lt hk) rfl (by decide) (by decide) w_346 (hI.r hn hr) h
theorem d_X9_harm_31 : decode cX9_harm 31 = .ok (.getfield 129, 3) := by decide +kernel
theorem s_X9_harm_31 {k r : Nat} (hI : am_Inv g) (hs : am_SH k = (0, 6)) (hk : k < 134) (hr : am_HRf k 2 = some r) (hn : k ≠ 39) (h : AP M_X9_harm b 34 [x0, x1] (.ref r :: st) hi g Φ) : AP M_X9_harm b 31 [x0, x1] (.ref k :: st) hi g Φ := AP.getR (j := 2) (q := (RX6, TX6, 8)) d_X9_harm_31 hs (hI.lt hk) rfl (by decide) (by decide) w_165 (hI.r hn hr) h
theorem d_X9_harm_34 : decode cX9_harm 34 = .ok (.invokevirtual 240, 3) := by decide +kernel
theorem s_X9_harm_34 {a0 : Nat} {k : Nat} {r0 : Int32} {P : am_HI → Prop} (hI : am_Inv g) (hs : am_SH k = (0, 4)) (hk : k < 134) (hst : (st.map Value.category).sum ≤ 8) (hc : am_Cr M_X4_countUnlike [.ref k, .ref a0] hi g (some (.int r0)) P) (h : ∀ hi' : am_HI, P hi' → AP M_X9_harm b 37 [x0, x1] (.int r0 :: st) hi' g Φ) : AP M_X9_harm b 34 [x0, x1] (.ref a0 :: .ref k :: st) hi g Φ := AP.callVr (As := [.ref a0]) (q := (RX4, TX4, 1)) hI hc k_X9_harm_240 d_X9_harm_34 rfl hs hk rfl rfl hst h
theorem d_X9_harm_37 : decode cX9_harm 37 = .ok (.ireturn, 1) := by decide +kernel
theorem s_X9_harm_37 {x : Int32} (h : Φ (.ok (some (.int x))) hi g) : AP M_X9_harm b 37 [x0, x1] [.int x] hi g Φ := AP.iret d_X9_harm_37 rfl h
end
section
variable {b : Nat × Nat} {st : List Value} {hi : am_HI} {g : am_G} {Φ : am_P} {x0 x1 : Value}
theorem d_X9_heard_0 : decode cX9_heard 0 = .ok (.aload_n 0, 1) := by decide +kernel
theorem s_X9_heard_0 {n : Nat} (h : AP M_X9_heard b 1 [.ref n, x1] (.ref n :: st) hi g Φ) : AP M_X9_heard b 0 [.ref n, x1] (st) hi g Φ := AP.aload_n (x := n) (i := 0) d_X9_heard_0 rfl rfl h
theorem d_X9_heard_1 : decode cX9_heard 1 = .ok (.iload_n 1, 1) := by decide +kernel
theorem s_X9_heard_1 {n : Int32} (h : AP M_X9_heard b 2 [x0, .int n] (.int n :: st) hi g Φ) : AP M_X9_heard b 1 [x0, .int n] (st) hi g Φ := AP.iload_n (x := n) (i := 1) d_X9_heard_1 rfl rfl h
theorem d_X9_heard_2 : decode cX9_heard 2 = .ok (.invokevirtual 139, 3) := by decide +kernel
theorem s_X9_heard_2 {a0 : Int32} {k : Nat} {r0 : Int32} {P : am_HI → Prop} (hI : am_Inv g) (hs : am_SH k = (0, 9)) (hk : k < 134) (hst : (st.map Value.category).sum ≤ 8) (hc : am_Cr M_X9_isTold [.ref k, .int a0] hi g (some (.int r0)) P) (h : ∀ hi' : am_HI, P hi' → AP M_X9_heard b 5 [x0, x1] (.int r0 :: st) hi' g Φ) : AP M_X9_heard b 2 [x0, x1] (.int a0 :: .ref k :: st) hi g Φ := AP.callVr (As := [.int a0]) (q := (RX9, TX9, 7)) hI hc k_X9_heard_139 d_X9_heard_2 rfl hs hk rfl rfl hst h
theorem d_X9_heard_5 : decode cX9_heard 5 = .ok (.invokestatic 97, 3) := by decide +kernel
theorem s_X9_heard_5 {a0 : Int32} {P : am_HI → Prop} (hI : am_Inv g) (hst : (st.map Value.category).sum ≤ 8) (hc : am_Cr M_X9_needIndex [.int a0] hi g none P) (h : ∀ hi' : am_HI, P hi' → AP M_X9_heard b 8 [x0, x1] (st) hi' g Φ) : AP M_X9_heard b 5 [x0, x1] (.int a0 :: st) hi g Φ := AP.callSr (As := [.int a0]) hI hc k_X9_heard_97 d_X9_heard_5 rfl hst h
theorem d_X9_heard_8 : decode cX9_heard 8 = .ok (.aload_n 0, 1) := by decide +kernel
theorem s_X9_heard_8 {n : Nat} (h : AP M_X9_heard b 9 [.ref n, x1] (.ref n :: st) hi g Φ) : AP M_X9_heard b 8 [.ref n, x1] (st) hi g Φ := AP.aload_n (x := n) (i := 0) d_X9_heard_8 rfl rfl h
theorem d_X9_heard_9 : decode cX9_heard 9 = .ok (.getfield 47, 3) := by decide +kernel
theorem s_X9_heard_9 {k r : Nat} (hI : am_Inv g) (hs : am_SH k = (0, 9)) (hk : k < 134) (hr : am_HRf k 5 = some r) (hn : k ≠ 39) (h : AP M_X9_heard b 12 [x0, x1] (.ref r :: st) hi g Φ) : AP M_X9_heard b 9 [x0, x1] (.ref k :: st) hi g Φ := AP.getR (j := 5) (q := (RX9, TX9, 7)) d_X9_heard_9 hs (hI.lt hk) rfl (by decide) (by decide) w_350 (hI.r hn hr) h
theorem d_X9_heard_12 : decode cX9_heard 12 = .ok (.aload_n 0, 1) := by decide +kernel
theorem s_X9_heard_12 {n : Nat} (h : AP M_X9_heard b 13 [.ref n, x1] (.ref n :: st) hi g Φ) : AP M_X9_heard b 12 [.ref n, x1] (st) hi g Φ := AP.aload_n (x := n) (i := 0) d_X9_heard_12 rfl rfl h
theorem d_X9_heard_13 : decode cX9_heard 13 = .ok (.getfield 20, 3) := by decide +kernel
theorem s_X9_heard_13 {k r : Nat} (hI : am_Inv g) (hs : am_SH k = (0, 9)) (hk : k < 134) (hr : am_HRf k 1 = some r) (hn : k ≠ 39) (h : AP M_X9_heard b 16 [x0, x1] (.ref r :: st) hi g Φ) : AP M_X9_heard b 13 [x0, x1] (.ref k :: st) hi g Φ := AP.getR (j := 1) (q := (RX9, TX9, 7)) d_X9_heard_13 hs (hI.lt hk) rfl (by decide) (by decide) w_346 (hI.r hn hr) h
theorem d_X9_heard_16 : decode cX9_heard 16 = .ok (.getfield 129, 3) := by decide +kernel
theorem s_X9_heard_16 {k r : Nat} (hI : am_Inv g) (hs : am_SH k = (0, 6)) (hk : k < 134) (hr : am_HRf k 2 = some r) (hn : k ≠ 39) (h : AP M_X9_heard b 19 [x0, x1] (.ref r :: st) hi g Φ) : AP M_X9_heard b 16 [x0, x1] (.ref k :: st) hi g Φ := AP.getR (j := 2) (q := (RX6, TX6, 8)) d_X9_heard_16 hs (hI.lt hk) rfl (by decide) (by decide) w_165 (hI.r hn hr) h
theorem d_X9_heard_19 : decode cX9_heard 19 = .ok (.iconst (-1), 1) := by decide +kernel
theorem s_X9_heard_19 (h : AP M_X9_heard b 20 [x0, x1] (.int (-1) :: st) hi g Φ) : AP M_X9_heard b 19 [x0, x1] (st) hi g Φ := AP.iconst (x := (-1)) d_X9_heard_19 (by decide) h
theorem d_X9_heard_20 : decode cX9_heard 20 = .ok (.invokevirtual 229, 3) := by decide +kernel
theorem s_X9_heard_20 {a0 : Nat} {a1 : Int32} {k : Nat} {P : am_HI → Prop} (hI : am_Inv g) (hs : am_SH k = (0, 4)) (hk : k < 134) (hst : (st.map Value.category).sum ≤ 8) (hc : am_Cr M_X4_read [.ref k, .ref a0, .int a1] hi g none P) (h : ∀ hi' : am_HI, P hi' → AP M_X9_heard b 23 [x0, x1] (st) hi' g Φ) : AP M_X9_heard b 20 [x0, x1] (.int a1 :: .ref a0 :: .ref k :: st) hi g Φ := AP.callVr (As := [.ref a0, .int a1]) (q := (RX4, TX4, 1)) hI hc k_X9_heard_229 d_X9_heard_20 rfl hs hk rfl rfl hst h
theorem d_X9_heard_23 : decode cX9_heard 23 = .ok (.aload_n 0, 1) := by decide +kernel
theorem s_X9_heard_23 {n : Nat} (h : AP M_X9_heard b 24 [.ref n, x1] (.ref n :: st) hi g Φ) : AP M_X9_heard b 23 [.ref n, x1] (st) hi g Φ := AP.aload_n (x := n) (i := 0) d_X9_heard_23 rfl rfl h
theorem d_X9_heard_24 : decode cX9_heard 24 = .ok (.getfield 47, 3) := by decide +kernel
theorem s_X9_heard_24 {k r : Nat} (hI : am_Inv g) (hs : am_SH k = (0, 9)) (hk : k < 134) (hr : am_HRf k 5 = some r) (hn : k ≠ 39) (h : AP M_X9_heard b 27 [x0, x1] (.ref r :: st) hi g Φ) : AP M_X9_heard b 24 [x0, x1] (.ref k :: st) hi g Φ := AP.getR (j := 5) (q := (RX9, TX9, 7)) d_X9_heard_24 hs (hI.lt hk) rfl (by decide) (by decide) w_350 (hI.r hn hr) h
theorem d_X9_heard_27 : decode cX9_heard 27 = .ok (.iload_n 1, 1) := by decide +kernel
theorem s_X9_heard_27 {n : Int32} (h : AP M_X9_heard b 28 [x0, .int n] (.int n :: st) hi g Φ) : AP M_X9_heard b 27 [x0, .int n] (st) hi g Φ := AP.iload_n (x := n) (i := 1) d_X9_heard_27 rfl rfl h
theorem d_X9_heard_28 : decode cX9_heard 28 = .ok (.invokevirtual 233, 3) := by decide +kernel
theorem s_X9_heard_28 {a0 : Int32} {k : Nat} {r0 : Int32} {P : am_HI → Prop} (hI : am_Inv g) (hs : am_SH k = (0, 4)) (hk : k < 134) (hst : (st.map Value.category).sum ≤ 8) (hc : am_Cr M_X4_heardAt [.ref k, .int a0] hi g (some (.int r0)) P) (h : ∀ hi' : am_HI, P hi' → AP M_X9_heard b 31 [x0, x1] (.int r0 :: st) hi' g Φ) : AP M_X9_heard b 28 [x0, x1] (.int a0 :: .ref k :: st) hi g Φ := AP.callVr (As := [.int a0]) (q := (RX4, TX4, 1)) hI hc k_X9_heard_233 d_X9_heard_28 rfl hs hk rfl rfl hst h
theorem d_X9_heard_31 : decode cX9_heard 31 = .ok (.ireturn, 1) := by decide +kernel
theorem s_X9_heard_31 {x : Int32} (h : Φ (.ok (some (.int x))) hi g) : AP M_X9_heard b 31 [x0, x1] [.int x] hi g Φ := AP.iret d_X9_heard_31 rfl h
end
section
variable {b : Nat × Nat} {st : List Value} {hi : am_HI} {g : am_G} {Φ : am_P} {x0 x1 : Value}
theorem d_X9_heardByBits_0 : decode cX9_heardByBits 0 = .ok (.aload_n 0, 1) := by decide +kernel
theorem s_X9_heardByBits_0 {n : Nat} (h : AP M_X9_heardByBits b 1 [.ref n, x1] (.ref n :: st) hi g Φ) : AP M_X9_heardByBits b 0 [.ref n, x1] (st) hi g Φ := AP.aload_n (x := n) (i := 0) d_X9_heardByBits_0 rfl rfl h
theorem d_X9_heardByBits_1 : decode cX9_heardByBits 1 = .ok (.iload_n 1, 1) := by decide +kernel
theorem s_X9_heardByBits_1 {n : Int32} (h : AP M_X9_heardByBits b 2 [x0, .int n] (.int n :: st) hi g Φ) : AP M_X9_heardByBits b 1 [x0, .int n] (st) hi g Φ := AP.iload_n (x := n) (i := 1) d_X9_heardByBits_1 rfl rfl h
theorem d_X9_heardByBits_2 : decode cX9_heardByBits 2 = .ok (.invokevirtual 139, 3) := by decide +kernel
theorem s_X9_heardByBits_2 {a0 : Int32} {k : Nat} {r0 : Int32} {P : am_HI → Prop} (hI : am_Inv g) (hs : am_SH k = (0, 9)) (hk : k < 134) (hst : (st.map Value.category).sum ≤ 8) (hc : am_Cr M_X9_isTold [.ref k, .int a0] hi g (some (.int r0)) P) (h : ∀ hi' : am_HI, P hi' → AP M_X9_heardByBits b 5 [x0, x1] (.int r0 :: st) hi' g Φ) : AP M_X9_heardByBits b 2 [x0, x1] (.int a0 :: .ref k :: st) hi g Φ := AP.callVr (As := [.int a0]) (q := (RX9, TX9, 7)) hI hc k_X9_heardByBits_139 d_X9_heardByBits_2 rfl hs hk rfl rfl hst h
theorem d_X9_heardByBits_5 : decode cX9_heardByBits 5 = .ok (.invokestatic 97, 3) := by decide +kernel
theorem s_X9_heardByBits_5 {a0 : Int32} {P : am_HI → Prop} (hI : am_Inv g) (hst : (st.map Value.category).sum ≤ 8) (hc : am_Cr M_X9_needIndex [.int a0] hi g none P) (h : ∀ hi' : am_HI, P hi' → AP M_X9_heardByBits b 8 [x0, x1] (st) hi' g Φ) : AP M_X9_heardByBits b 5 [x0, x1] (.int a0 :: st) hi g Φ := AP.callSr (As := [.int a0]) hI hc k_X9_heardByBits_97 d_X9_heardByBits_5 rfl hst h
theorem d_X9_heardByBits_8 : decode cX9_heardByBits 8 = .ok (.aload_n 0, 1) := by decide +kernel
theorem s_X9_heardByBits_8 {n : Nat} (h : AP M_X9_heardByBits b 9 [.ref n, x1] (.ref n :: st) hi g Φ) : AP M_X9_heardByBits b 8 [.ref n, x1] (st) hi g Φ := AP.aload_n (x := n) (i := 0) d_X9_heardByBits_8 rfl rfl h
theorem d_X9_heardByBits_9 : decode cX9_heardByBits 9 = .ok (.getfield 54, 3) := by decide +kernel
theorem s_X9_heardByBits_9 {k r : Nat} (hI : am_Inv g) (hs : am_SH k = (0, 9)) (hk : k < 134) (hr : am_HRf k 6 = some r) (hn : k ≠ 39) (h : AP M_X9_heardByBits b 12 [x0, x1] (.ref r :: st) hi g Φ) : AP M_X9_heardByBits b 9 [x0, x1] (.ref k :: st) hi g Φ := AP.getR (j := 6) (q := (RX9, TX9, 7)) d_X9_heardByBits_9 hs (hI.lt hk) rfl (by decide) (by decide) w_351 (hI.r hn hr) h
theorem d_X9_heardByBits_12 : decode cX9_heardByBits 12 = .ok (.aload_n 0, 1) := by decide +kernel
theorem s_X9_heardByBits_12 {n : Nat} (h : AP M_X9_heardByBits b 13 [.ref n, x1] (.ref n :: st) hi g Φ) : AP M_X9_heardByBits b 12 [.ref n, x1] (st) hi g Φ := AP.aload_n (x := n) (i := 0) d_X9_heardByBits_12 rfl rfl h
theorem d_X9_heardByBits_13 : decode cX9_heardByBits 13 = .ok (.getfield 20, 3) := by decide +kernel
theorem s_X9_heardByBits_13 {k r : Nat} (hI : am_Inv g) (hs : am_SH k = (0, 9)) (hk : k < 134) (hr : am_HRf k 1 = some r) (hn : k ≠ 39) (h : AP M_X9_heardByBits b 16 [x0, x1] (.ref r :: st) hi g Φ) : AP M_X9_heardByBits b 13 [x0, x1] (.ref k :: st) hi g Φ := AP.getR (j := 1) (q := (RX9, TX9, 7)) d_X9_heardByBits_13 hs (hI.lt hk) rfl (by decide) (by decide) w_346 (hI.r hn hr) h
theorem d_X9_heardByBits_16 : decode cX9_heardByBits 16 = .ok (.getfield 129, 3) := by decide +kernel
theorem s_X9_heardByBits_16 {k r : Nat} (hI : am_Inv g) (hs : am_SH k = (0, 6)) (hk : k < 134) (hr : am_HRf k 2 = some r) (hn : k ≠ 39) (h : AP M_X9_heardByBits b 19 [x0, x1] (.ref r :: st) hi g Φ) : AP M_X9_heardByBits b 16 [x0, x1] (.ref k :: st) hi g Φ := AP.getR (j := 2) (q := (RX6, TX6, 8)) d_X9_heardByBits_16 hs (hI.lt hk) rfl (by decide) (by decide) w_165 (hI.r hn hr) h
theorem d_X9_heardByBits_19 : decode cX9_heardByBits 19 = .ok (.invokevirtual 222, 3) := by decide +kernel
theorem s_X9_heardByBits_19 {a0 : Nat} {k : Nat} {P : am_HI → Prop} (hI : am_Inv g) (hs : am_SH k = (0, 3)) (hk : k < 134) (hst : (st.map Value.category).sum ≤ 8) (hc : am_Cr M_X3_write [.ref k, .ref a0] hi g none P) (h : ∀ hi' : am_HI, P hi' → AP M_X9_heardByBits b 22 [x0, x1] (st) hi' g Φ) : AP M_X9_heardByBits b 19 [x0, x1] (.ref a0 :: .ref k :: st) hi g Φ := AP.callVr (As := [.ref a0]) (q := (RX3, TX3, 3)) hI hc k_X9_heardByBits_222 d_X9_heardByBits_19 rfl hs hk rfl rfl hst h
theorem d_X9_heardByBits_22 : decode cX9_heardByBits 22 = .ok (.aload_n 0, 1) := by decide +kernel
theorem s_X9_heardByBits_22 {n : Nat} (h : AP M_X9_heardByBits b 23 [.ref n, x1] (.ref n :: st) hi g Φ) : AP M_X9_heardByBits b 22 [.ref n, x1] (st) hi g Φ := AP.aload_n (x := n) (i := 0) d_X9_heardByBits_22 rfl rfl h
theorem d_X9_heardByBits_23 : decode cX9_heardByBits 23 = .ok (.getfield 47, 3) := by decide +kernel
theorem s_X9_heardByBits_23 {k r : Nat} (hI : am_Inv g) (hs : am_SH k = (0, 9)) (hk : k < 134) (hr : am_HRf k 5 = some r) (hn : k ≠ 39) (h : AP M_X9_heardByBits b 26 [x0, x1] (.ref r :: st) hi g Φ) : AP M_X9_heardByBits b 23 [x0, x1] (.ref k :: st) hi g Φ := AP.getR (j := 5) (q := (RX9, TX9, 7)) d_X9_heardByBits_23 hs (hI.lt hk) rfl (by decide) (by decide) w_350 (hI.r hn hr) h
theorem d_X9_heardByBits_26 : decode cX9_heardByBits 26 = .ok (.aload_n 0, 1) := by decide +kernel
theorem s_X9_heardByBits_26 {n : Nat} (h : AP M_X9_heardByBits b 27 [.ref n, x1] (.ref n :: st) hi g Φ) : AP M_X9_heardByBits b 26 [.ref n, x1] (st) hi g Φ := AP.aload_n (x := n) (i := 0) d_X9_heardByBits_26 rfl rfl h
theorem d_X9_heardByBits_27 : decode cX9_heardByBits 27 = .ok (.getfield 20, 3) := by decide +kernel
theorem s_X9_heardByBits_27 {k r : Nat} (hI : am_Inv g) (hs : am_SH k = (0, 9)) (hk : k < 134) (hr : am_HRf k 1 = some r) (hn : k ≠ 39) (h : AP M_X9_heardByBits b 30 [x0, x1] (.ref r :: st) hi g Φ) : AP M_X9_heardByBits b 27 [x0, x1] (.ref k :: st) hi g Φ := AP.getR (j := 1) (q := (RX9, TX9, 7)) d_X9_heardByBits_27 hs (hI.lt hk) rfl (by decide) (by decide) w_346 (hI.r hn hr) h
theorem d_X9_heardByBits_30 : decode cX9_heardByBits 30 = .ok (.getfield 129, 3) := by decide +kernel
theorem s_X9_heardByBits_30 {k r : Nat} (hI : am_Inv g) (hs : am_SH k = (0, 6)) (hk : k < 134) (hr : am_HRf k 2 = some r) (hn : k ≠ 39) (h : AP M_X9_heardByBits b 33 [x0, x1] (.ref r :: st) hi g Φ) : AP M_X9_heardByBits b 30 [x0, x1] (.ref k :: st) hi g Φ := AP.getR (j := 2) (q := (RX6, TX6, 8)) d_X9_heardByBits_30 hs (hI.lt hk) rfl (by decide) (by decide) w_165 (hI.r hn hr) h
theorem d_X9_heardByBits_33 : decode cX9_heardByBits 33 = .ok (.aload_n 0, 1) := by decide +kernel
theorem s_X9_heardByBits_33 {n : Nat} (h : AP M_X9_heardByBits b 34 [.ref n, x1] (.ref n :: st) hi g Φ) : AP M_X9_heardByBits b 33 [.ref n, x1] (st) hi g Φ := AP.aload_n (x := n) (i := 0) d_X9_heardByBits_33 rfl rfl h
theorem d_X9_heardByBits_34 : decode cX9_heardByBits 34 = .ok (.getfield 54, 3) := by decide +kernel
theorem s_X9_heardByBits_34 {k r : Nat} (hI : am_Inv g) (hs : am_SH k = (0, 9)) (hk : k < 134) (hr : am_HRf k 6 = some r) (hn : k ≠ 39) (h : AP M_X9_heardByBits b 37 [x0, x1] (.ref r :: st) hi g Φ) : AP M_X9_heardByBits b 34 [x0, x1] (.ref k :: st) hi g Φ := AP.getR (j := 6) (q := (RX9, TX9, 7)) d_X9_heardByBits_34 hs (hI.lt hk) rfl (by decide) (by decide) w_351 (hI.r hn hr) h
theorem d_X9_heardByBits_37 : decode cX9_heardByBits 37 = .ok (.invokevirtual 236, 3) := by decide +kernel
theorem s_X9_heardByBits_37 {a0 : Nat} {a1 : Nat} {k : Nat} {P : am_HI → Prop} (hI : am_Inv g) (hs : am_SH k = (0, 4)) (hk : k < 134) (hst : (st.map Value.category).sum ≤ 8) (hc : am_Cr M_X4_readBits [.ref k, .ref a0, .ref a1] hi g none P) (h : ∀ hi' : am_HI, P hi' → AP M_X9_heardByBits b 40 [x0, x1] (st) hi' g Φ) : AP M_X9_heardByBits b 37 [x0, x1] (.ref a1 :: .ref a0 :: .ref k :: st) hi g Φ := AP.callVr (As := [.ref a0, .ref a1]) (q := (RX4, TX4, 1)) hI hc k_X9_heardByBits_236 d_X9_heardByBits_37 rfl hs hk rfl rfl hst h
theorem d_X9_heardByBits_40 : decode cX9_heardByBits 40 = .ok (.aload_n 0, 1) := by decide +kernel
theorem s_X9_heardByBits_40 {n : Nat} (h : AP M_X9_heardByBits b 41 [.ref n, x1] (.ref n :: st) hi g Φ) : AP M_X9_heardByBits b 40 [.ref n, x1] (st) hi g Φ := AP.aload_n (x := n) (i := 0) d_X9_heardByBits_40 rfl rfl h
theorem d_X9_heardByBits_41 : decode cX9_heardByBits 41 = .ok (.getfield 47, 3) := by decide +kernel
theorem s_X9_heardByBits_41 {k r : Nat} (hI : am_Inv g) (hs : am_SH k = (0, 9)) (hk : k < 134) (hr : am_HRf k 5 = some r) (hn : k ≠ 39) (h : AP M_X9_heardByBits b 44 [x0, x1] (.ref r :: st) hi g Φ) : AP M_X9_heardByBits b 41 [x0, x1] (.ref k :: st) hi g Φ := AP.getR (j := 5) (q := (RX9, TX9, 7)) d_X9_heardByBits_41 hs (hI.lt hk) rfl (by decide) (by decide) w_350 (hI.r hn hr) h
theorem d_X9_heardByBits_44 : decode cX9_heardByBits 44 = .ok (.iload_n 1, 1) := by decide +kernel
theorem s_X9_heardByBits_44 {n : Int32} (h : AP M_X9_heardByBits b 45 [x0, .int n] (.int n :: st) hi g Φ) : AP M_X9_heardByBits b 44 [x0, .int n] (st) hi g Φ := AP.iload_n (x := n) (i := 1) d_X9_heardByBits_44 rfl rfl h
theorem d_X9_heardByBits_45 : decode cX9_heardByBits 45 = .ok (.invokevirtual 233, 3) := by decide +kernel
theorem s_X9_heardByBits_45 {a0 : Int32} {k : Nat} {r0 : Int32} {P : am_HI → Prop} (hI : am_Inv g) (hs : am_SH k = (0, 4)) (hk : k < 134) (hst : (st.map Value.category).sum ≤ 8) (hc : am_Cr M_X4_heardAt [.ref k, .int a0] hi g (some (.int r0)) P) (h : ∀ hi' : am_HI, P hi' → AP M_X9_heardByBits b 48 [x0, x1] (.int r0 :: st) hi' g Φ) : AP M_X9_heardByBits b 45 [x0, x1] (.int a0 :: .ref k :: st) hi g Φ := AP.callVr (As := [.int a0]) (q := (RX4, TX4, 1)) hI hc k_X9_heardByBits_233 d_X9_heardByBits_45 rfl hs hk rfl rfl hst h
theorem d_X9_heardByBits_48 : decode cX9_heardByBits 48 = .ok (.ireturn, 1) := by decide +kernel
theorem s_X9_heardByBits_48 {x : Int32} (h : Φ (.ok (some (.int x))) hi g) : AP M_X9_heardByBits b 48 [x0, x1] [.int x] hi g Φ := AP.iret d_X9_heardByBits_48 rfl h
end
section
variable {b : Nat × Nat} {st : List Value} {hi : am_HI} {g : am_G} {Φ : am_P} {x0 x1 : Value}
theorem d_X9_keep_0 : decode cX9_keep 0 = .ok (.iload_n 1, 1) := by decide +kernel
theorem s_X9_keep_0 {n : Int32} (h : AP M_X9_keep b 1 [x0, .int n] (.int n :: st) hi g Φ) : AP M_X9_keep b 0 [x0, .int n] (st) hi g Φ := AP.iload_n (x := n) (i := 1) d_X9_keep_0 rfl rfl h
theorem d_X9_keep_1 : decode cX9_keep 1 = .ok (.iconst 0, 1) := by decide +kernel
theorem s_X9_keep_1 (h : AP M_X9_keep b 2 [x0, x1] (.int 0 :: st) hi g Φ) : AP M_X9_keep b 1 [x0, x1] (st) hi g Φ := AP.iconst (x := 0) d_X9_keep_1 (by decide) h
theorem d_X9_keep_2 : decode cX9_keep 2 = .ok (.iconst 1, 1) := by decide +kernel
theorem s_X9_keep_2 (h : AP M_X9_keep b 3 [x0, x1] (.int 1 :: st) hi g Φ) : AP M_X9_keep b 2 [x0, x1] (st) hi g Φ := AP.iconst (x := 1) d_X9_keep_2 (by decide) h
theorem d_X9_keep_3 : decode cX9_keep 3 = .ok (.invokestatic 58, 3) := by decide +kernel
theorem s_X9_keep_3 {a0 : Int32} {a1 : Int32} {a2 : Int32} {r0 : Int32} {P : am_HI → Prop} (hI : am_Inv g) (hst : (st.map Value.category).sum ≤ 8) (hc : am_Cr M_X9_isWithin [.int a0, .int a1, .int a2] hi g (some (.int r0)) P) (h : ∀ hi' : am_HI, P hi' → AP M_X9_keep b 6 [x0, x1] (.int r0 :: st) hi' g Φ) : AP M_X9_keep b 3 [x0, x1] (.int a2 :: .int a1 :: .int a0 :: st) hi g Φ := AP.callSr (As := [.int a0, .int a1, .int a2]) hI hc k_X9_keep_58 d_X9_keep_3 rfl hst h
theorem d_X9_keep_6 : decode cX9_keep 6 = .ok (.invokestatic 97, 3) := by decide +kernel
theorem s_X9_keep_6 {a0 : Int32} {P : am_HI → Prop} (hI : am_Inv g) (hst : (st.map Value.category).sum ≤ 8) (hc : am_Cr M_X9_needIndex [.int a0] hi g none P) (h : ∀ hi' : am_HI, P hi' → AP M_X9_keep b 9 [x0, x1] (st) hi' g Φ) : AP M_X9_keep b 6 [x0, x1] (.int a0 :: st) hi g Φ := AP.callSr (As := [.int a0]) hI hc k_X9_keep_97 d_X9_keep_6 rfl hst h
theorem d_X9_keep_9 : decode cX9_keep 9 = .ok (.aload_n 0, 1) := by decide +kernel
theorem s_X9_keep_9 {n : Nat} (h : AP M_X9_keep b 10 [.ref n, x1] (.ref n :: st) hi g Φ) : AP M_X9_keep b 9 [.ref n, x1] (st) hi g Φ := AP.aload_n (x := n) (i := 0) d_X9_keep_9 rfl rfl h
theorem d_X9_keep_10 : decode cX9_keep 10 = .ok (.getfield 33, 3) := by decide +kernel
theorem s_X9_keep_10 {k r : Nat} (hI : am_Inv g) (hs : am_SH k = (0, 9)) (hk : k < 134) (hr : am_HRf k 3 = some r) (hn : k ≠ 39) (h : AP M_X9_keep b 13 [x0, x1] (.ref r :: st) hi g Φ) : AP M_X9_keep b 10 [x0, x1] (.ref k :: st) hi g Φ := AP.getR (j := 3) (q := (RX9, TX9, 7)) d_X9_keep_10 hs (hI.lt hk) rfl (by decide) (by decide) w_348 (hI.r hn hr) h
theorem d_X9_keep_13 : decode cX9_keep 13 = .ok (.iload_n 1, 1) := by decide +kernel
theorem s_X9_keep_13 {n : Int32} (h : AP M_X9_keep b 14 [x0, .int n] (.int n :: st) hi g Φ) : AP M_X9_keep b 13 [x0, .int n] (st) hi g Φ := AP.iload_n (x := n) (i := 1) d_X9_keep_13 rfl rfl h
theorem d_X9_keep_14 : decode cX9_keep 14 = .ok (.aload_n 0, 1) := by decide +kernel
theorem s_X9_keep_14 {n : Nat} (h : AP M_X9_keep b 15 [.ref n, x1] (.ref n :: st) hi g Φ) : AP M_X9_keep b 14 [.ref n, x1] (st) hi g Φ := AP.aload_n (x := n) (i := 0) d_X9_keep_14 rfl rfl h
theorem d_X9_keep_15 : decode cX9_keep 15 = .ok (.getfield 20, 3) := by decide +kernel
theorem s_X9_keep_15 {k r : Nat} (hI : am_Inv g) (hs : am_SH k = (0, 9)) (hk : k < 134) (hr : am_HRf k 1 = some r) (hn : k ≠ 39) (h : AP M_X9_keep b 18 [x0, x1] (.ref r :: st) hi g Φ) : AP M_X9_keep b 15 [x0, x1] (.ref k :: st) hi g Φ := AP.getR (j := 1) (q := (RX9, TX9, 7)) d_X9_keep_15 hs (hI.lt hk) rfl (by decide) (by decide) w_346 (hI.r hn hr) h
theorem d_X9_keep_18 : decode cX9_keep 18 = .ok (.invokevirtual 250, 3) := by decide +kernel
theorem s_X9_keep_18 {a0 : Int32} {a1 : Nat} {k : Nat} {P : am_HI → Prop} (hI : am_Inv g) (hs : am_SH k = (0, 5)) (hk : k < 134) (hst : (st.map Value.category).sum ≤ 8) (hc : am_Cr M_X5_put [.ref k, .int a0, .ref a1] hi g none P) (h : ∀ hi' : am_HI, P hi' → AP M_X9_keep b 21 [x0, x1] (st) hi' g Φ) : AP M_X9_keep b 18 [x0, x1] (.ref a1 :: .int a0 :: .ref k :: st) hi g Φ := AP.callVr (As := [.int a0, .ref a1]) (q := (RX5, TX5, 2)) hI hc k_X9_keep_250 d_X9_keep_18 rfl hs hk rfl rfl hst h
theorem d_X9_keep_21 : decode cX9_keep 21 = .ok (.aload_n 0, 1) := by decide +kernel
theorem s_X9_keep_21 {n : Nat} (h : AP M_X9_keep b 22 [.ref n, x1] (.ref n :: st) hi g Φ) : AP M_X9_keep b 21 [.ref n, x1] (st) hi g Φ := AP.aload_n (x := n) (i := 0) d_X9_keep_21 rfl rfl h
theorem d_X9_keep_22 : decode cX9_keep 22 = .ok (.getfield 20, 3) := by decide +kernel
theorem s_X9_keep_22 {k r : Nat} (hI : am_Inv g) (hs : am_SH k = (0, 9)) (hk : k < 134) (hr : am_HRf k 1 = some r) (hn : k ≠ 39) (h : AP M_X9_keep b 25 [x0, x1] (.ref r :: st) hi g Φ) : AP M_X9_keep b 22 [x0, x1] (.ref k :: st) hi g Φ := AP.getR (j := 1) (q := (RX9, TX9, 7)) d_X9_keep_22 hs (hI.lt hk) rfl (by decide) (by decide) w_346 (hI.r hn hr) h
theorem d_X9_keep_25 : decode cX9_keep 25 = .ok (.getfield 83, 3) := by decide +kernel
theorem s_X9_keep_25 {k : Nat} (hI : am_Inv g) (hs : am_SH k = (0, 6)) (hk : k < 134) (h : AP M_X9_keep b 28 [x0, x1] (.int (hi k 3) :: st) hi g Φ) : AP M_X9_keep b 25 [x0, x1] (.ref k :: st) hi g Φ := AP.getI (j := 3) (q := (RX6, TX6, 8)) d_X9_keep_25 hs (hI.lt hk) rfl (by decide) (by decide) w_168 h
theorem d_X9_keep_28 : decode cX9_keep 28 = .ok (.ireturn, 1) := by decide +kernel
theorem s_X9_keep_28 {x : Int32} (h : Φ (.ok (some (.int x))) hi g) : AP M_X9_keep b 28 [x0, x1] [.int x] hi g Φ := AP.iret d_X9_keep_28 rfl h
end
section
variable {b : Nat × Nat} {st : List Value} {hi : am_HI} {g : am_G} {Φ : am_P} {x0 x1 x2 : Value}
theorem d_X9_leftOver_0 : decode cX9_leftOver 0 = .ok (.iload_n 2, 1) := by decide +kernel
theorem s_X9_leftOver_0 {n : Int32} (h : AP M_X9_leftOver b 1 [x0, x1, .int n] (.int n :: st) hi g Φ) : AP M_X9_leftOver b 0 [x0, x1, .int n] (st) hi g Φ := AP.iload_n (x := n) (i := 2) d_X9_leftOver_0 rfl rfl h
theorem d_X9_leftOver_1 : decode cX9_leftOver 1 = .ok (.iconst 0, 1) := by decide +kernel
theorem s_X9_leftOver_1 (h : AP M_X9_leftOver b 2 [x0, x1, x2] (.int 0 :: st) hi g Φ) : AP M_X9_leftOver b 1 [x0, x1, x2] (st) hi g Φ := AP.iconst (x := 0) d_X9_leftOver_1 (by decide) h
theorem d_X9_leftOver_2 : decode cX9_leftOver 2 = .ok (.aload_n 0, 1) := by decide +kernel
theorem s_X9_leftOver_2 {n : Nat} (h : AP M_X9_leftOver b 3 [.ref n, x1, x2] (.ref n :: st) hi g Φ) : AP M_X9_leftOver b 2 [.ref n, x1, x2] (st) hi g Φ := AP.aload_n (x := n) (i := 0) d_X9_leftOver_2 rfl rfl h
theorem d_X9_leftOver_3 : decode cX9_leftOver 3 = .ok (.getfield 20, 3) := by decide +kernel
theorem s_X9_leftOver_3 {k r : Nat} (hI : am_Inv g) (hs : am_SH k = (0, 9)) (hk : k < 134) (hr : am_HRf k 1 = some r) (hn : k ≠ 39) (h : AP M_X9_leftOver b 6 [x0, x1, x2] (.ref r :: st) hi g Φ) : AP M_X9_leftOver b 3 [x0, x1, x2] (.ref k :: st) hi g Φ := AP.getR (j := 1) (q := (RX9, TX9, 7)) d_X9_leftOver_3 hs (hI.lt hk) rfl (by decide) (by decide) w_346 (hI.r hn hr) h
theorem d_X9_leftOver_6 : decode cX9_leftOver 6 = .ok (.getfield 83, 3) := by decide +kernel
theorem s_X9_leftOver_6 {k : Nat} (hI : am_Inv g) (hs : am_SH k = (0, 6)) (hk : k < 134) (h : AP M_X9_leftOver b 9 [x0, x1, x2] (.int (hi k 3) :: st) hi g Φ) : AP M_X9_leftOver b 6 [x0, x1, x2] (.ref k :: st) hi g Φ := AP.getI (j := 3) (q := (RX6, TX6, 8)) d_X9_leftOver_6 hs (hI.lt hk) rfl (by decide) (by decide) w_168 h
theorem d_X9_leftOver_9 : decode cX9_leftOver 9 = .ok (.iconst 1, 1) := by decide +kernel
theorem s_X9_leftOver_9 (h : AP M_X9_leftOver b 10 [x0, x1, x2] (.int 1 :: st) hi g Φ) : AP M_X9_leftOver b 9 [x0, x1, x2] (st) hi g Φ := AP.iconst (x := 1) d_X9_leftOver_9 (by decide) h
theorem d_X9_leftOver_10 : decode cX9_leftOver 10 = .ok (.isub, 1) := by decide +kernel
theorem s_X9_leftOver_10 {x y : Int32} (h : AP M_X9_leftOver b 11 [x0, x1, x2] (.int (x - y) :: st) hi g Φ) : AP M_X9_leftOver b 10 [x0, x1, x2] (.int y :: .int x :: st) hi g Φ := AP.isub d_X9_leftOver_10 h
theorem d_X9_leftOver_11 : decode cX9_leftOver 11 = .ok (.invokestatic 58, 3) := by decide +kernel
theorem s_X9_leftOver_11 {a0 : Int32} {a1 : Int32} {a2 : Int32} {r0 : Int32} {P : am_HI → Prop} (hI : am_Inv g) (hst : (st.map Value.category).sum ≤ 8) (hc : am_Cr M_X9_isWithin [.int a0, .int a1, .int a2] hi g (some (.int r0)) P) (h : ∀ hi' : am_HI, P hi' → AP M_X9_leftOver b 14 [x0, x1, x2] (.int r0 :: st) hi' g Φ) : AP M_X9_leftOver b 11 [x0, x1, x2] (.int a2 :: .int a1 :: .int a0 :: st) hi g Φ := AP.callSr (As := [.int a0, .int a1, .int a2]) hI hc k_X9_leftOver_58 d_X9_leftOver_11 rfl hst h
theorem d_X9_leftOver_14 : decode cX9_leftOver 14 = .ok (.invokestatic 97, 3) := by decide +kernel
theorem s_X9_leftOver_14 {a0 : Int32} {P : am_HI → Prop} (hI : am_Inv g) (hst : (st.map Value.category).sum ≤ 8) (hc : am_Cr M_X9_needIndex [.int a0] hi g none P) (h : ∀ hi' : am_HI, P hi' → AP M_X9_leftOver b 17 [x0, x1, x2] (st) hi' g Φ) : AP M_X9_leftOver b 14 [x0, x1, x2] (.int a0 :: st) hi g Φ := AP.callSr (As := [.int a0]) hI hc k_X9_leftOver_97 d_X9_leftOver_14 rfl hst h
theorem d_X9_leftOver_17 : decode cX9_leftOver 17 = .ok (.iload_n 1, 1) := by decide +kernel
theorem s_X9_leftOver_17 {n : Int32} (h : AP M_X9_leftOver b 18 [x0, .int n, x2] (.int n :: st) hi g Φ) : AP M_X9_leftOver b 17 [x0, .int n, x2] (st) hi g Φ := AP.iload_n (x := n) (i := 1) d_X9_leftOver_17 rfl rfl h
theorem d_X9_leftOver_18 : decode cX9_leftOver 18 = .ok (.invokestatic 113, 3) := by decide +kernel
theorem s_X9_leftOver_18 {a0 : Int32} {r0 : Int32} {P : am_HI → Prop} (hI : am_Inv g) (hst : (st.map Value.category).sum ≤ 8) (hc : am_Cr M_X9_isKind [.int a0] hi g (some (.int r0)) P) (h : ∀ hi' : am_HI, P hi' → AP M_X9_leftOver b 21 [x0, x1, x2] (.int r0 :: st) hi' g Φ) : AP M_X9_leftOver b 18 [x0, x1, x2] (.int a0 :: st) hi g Φ := AP.callSr (As := [.int a0]) hI hc k_X9_leftOver_113 d_X9_leftOver_18 rfl hst h
theorem d_X9_leftOver_21 : decode cX9_leftOver 21 = .ok (.invokestatic 62, 3) := by decide +kernel
theorem s_X9_leftOver_21 {a0 : Int32} {P : am_HI → Prop} (hI : am_Inv g) (hst : (st.map Value.category).sum ≤ 8) (hc : am_Cr M_X9_needArgument [.int a0] hi g none P) (h : ∀ hi' : am_HI, P hi' → AP M_X9_leftOver b 24 [x0, x1, x2] (st) hi' g Φ) : AP M_X9_leftOver b 21 [x0, x1, x2] (.int a0 :: st) hi g Φ := AP.callSr (As := [.int a0]) hI hc k_X9_leftOver_62 d_X9_leftOver_21 rfl hst h
theorem d_X9_leftOver_24 : decode cX9_leftOver 24 = .ok (.aload_n 0, 1) := by decide +kernel
theorem s_X9_leftOver_24 {n : Nat} (h : AP M_X9_leftOver b 25 [.ref n, x1, x2] (.ref n :: st) hi g Φ) : AP M_X9_leftOver b 24 [.ref n, x1, x2] (st) hi g Φ := AP.aload_n (x := n) (i := 0) d_X9_leftOver_24 rfl rfl h
theorem d_X9_leftOver_25 : decode cX9_leftOver 25 = .ok (.getfield 12, 3) := by decide +kernel
theorem s_X9_leftOver_25 {k r : Nat} (hI : am_Inv g) (hs : am_SH k = (0, 9)) (hk : k < 134) (hr : am_HRf k 0 = some r) (hn : k ≠ 39) (h : AP M_X9_leftOver b 28 [x0, x1, x2] (.ref r :: st) hi g Φ) : AP M_X9_leftOver b 25 [x0, x1, x2] (.ref k :: st) hi g Φ := AP.getR (j := 0) (q := (RX9, TX9, 7)) d_X9_leftOver_25 hs (hI.lt hk) rfl (by decide) (by decide) w_345 (hI.r hn hr) h
theorem d_X9_leftOver_28 : decode cX9_leftOver 28 = .ok (.invokevirtual 154, 3) := by decide +kernel
theorem s_X9_leftOver_28  {k : Nat} {P : am_HI → Prop} (hI : am_Inv g) (hs : am_SH k = (0, 7)) (hk : k < 134) (hst : (st.map Value.category).sum ≤ 8) (hc : am_Cr M_X7_follow [.ref k] hi g none P) (h : ∀ hi' : am_HI, P hi' → AP M_X9_leftOver b 31 [x0, x1, x2] (st) hi' g Φ) : AP M_X9_leftOver b 28 [x0, x1, x2] (.ref k :: st) hi g Φ := AP.callVr (As := []) (q := (RX7, TX7, 7)) hI hc k_X9_leftOver_154 d_X9_leftOver_28 rfl hs hk rfl rfl hst h
theorem d_X9_leftOver_31 : decode cX9_leftOver 31 = .ok (.aload_n 0, 1) := by decide +kernel
theorem s_X9_leftOver_31 {n : Nat} (h : AP M_X9_leftOver b 32 [.ref n, x1, x2] (.ref n :: st) hi g Φ) : AP M_X9_leftOver b 31 [.ref n, x1, x2] (st) hi g Φ := AP.aload_n (x := n) (i := 0) d_X9_leftOver_31 rfl rfl h
theorem d_X9_leftOver_32 : decode cX9_leftOver 32 = .ok (.getfield 12, 3) := by decide +kernel
theorem s_X9_leftOver_32 {k r : Nat} (hI : am_Inv g) (hs : am_SH k = (0, 9)) (hk : k < 134) (hr : am_HRf k 0 = some r) (hn : k ≠ 39) (h : AP M_X9_leftOver b 35 [x0, x1, x2] (.ref r :: st) hi g Φ) : AP M_X9_leftOver b 32 [x0, x1, x2] (.ref k :: st) hi g Φ := AP.getR (j := 0) (q := (RX9, TX9, 7)) d_X9_leftOver_32 hs (hI.lt hk) rfl (by decide) (by decide) w_345 (hI.r hn hr) h
theorem d_X9_leftOver_35 : decode cX9_leftOver 35 = .ok (.iload_n 1, 1) := by decide +kernel
theorem s_X9_leftOver_35 {n : Int32} (h : AP M_X9_leftOver b 36 [x0, .int n, x2] (.int n :: st) hi g Φ) : AP M_X9_leftOver b 35 [x0, .int n, x2] (st) hi g Φ := AP.iload_n (x := n) (i := 1) d_X9_leftOver_35 rfl rfl h
theorem d_X9_leftOver_36 : decode cX9_leftOver 36 = .ok (.iload_n 2, 1) := by decide +kernel
theorem s_X9_leftOver_36 {n : Int32} (h : AP M_X9_leftOver b 37 [x0, x1, .int n] (.int n :: st) hi g Φ) : AP M_X9_leftOver b 36 [x0, x1, .int n] (st) hi g Φ := AP.iload_n (x := n) (i := 2) d_X9_leftOver_36 rfl rfl h
theorem d_X9_leftOver_37 : decode cX9_leftOver 37 = .ok (.invokevirtual 167, 3) := by decide +kernel
theorem s_X9_leftOver_37 {a0 : Int32} {a1 : Int32} {k : Nat} {r0 : Int32} {P : am_HI → Prop} (hI : am_Inv g) (hs : am_SH k = (0, 7)) (hk : k < 134) (hst : (st.map Value.category).sum ≤ 8) (hc : am_Cr M_X7_leftBy [.ref k, .int a0, .int a1] hi g (some (.int r0)) P) (h : ∀ hi' : am_HI, P hi' → AP M_X9_leftOver b 40 [x0, x1, x2] (.int r0 :: st) hi' g Φ) : AP M_X9_leftOver b 37 [x0, x1, x2] (.int a1 :: .int a0 :: .ref k :: st) hi g Φ := AP.callVr (As := [.int a0, .int a1]) (q := (RX7, TX7, 7)) hI hc k_X9_leftOver_167 d_X9_leftOver_37 rfl hs hk rfl rfl hst h
theorem d_X9_leftOver_40 : decode cX9_leftOver 40 = .ok (.ireturn, 1) := by decide +kernel
theorem s_X9_leftOver_40 {x : Int32} (h : Φ (.ok (some (.int x))) hi g) : AP M_X9_leftOver b 40 [x0, x1, x2] [.int x] hi g Φ := AP.iret d_X9_leftOver_40 rfl h
end
section
variable {b : Nat × Nat} {st : List Value} {hi : am_HI} {g : am_G} {Φ : am_P} {x0 x1 : Value}
theorem d_X9_letterBit_0 : decode cX9_letterBit 0 = .ok (.iload_n 1, 1) := by decide +kernel
theorem s_X9_letterBit_0 {n : Int32} (h : AP M_X9_letterBit b 1 [x0, .int n] (.int n :: st) hi g Φ) : AP M_X9_letterBit b 0 [x0, .int n] (st) hi g Φ := AP.iload_n (x := n) (i := 1) d_X9_letterBit_0 rfl rfl h
theorem d_X9_letterBit_1 : decode cX9_letterBit 1 = .ok (.iconst 0, 1) := by decide +kernel
theorem s_X9_letterBit_1 (h : AP M_X9_letterBit b 2 [x0, x1] (.int 0 :: st) hi g Φ) : AP M_X9_letterBit b 1 [x0, x1] (st) hi g Φ := AP.iconst (x := 0) d_X9_letterBit_1 (by decide) h
theorem d_X9_letterBit_2 : decode cX9_letterBit 2 = .ok (.aload_n 0, 1) := by decide +kernel
theorem s_X9_letterBit_2 {n : Nat} (h : AP M_X9_letterBit b 3 [.ref n, x1] (.ref n :: st) hi g Φ) : AP M_X9_letterBit b 2 [.ref n, x1] (st) hi g Φ := AP.aload_n (x := n) (i := 0) d_X9_letterBit_2 rfl rfl h
theorem d_X9_letterBit_3 : decode cX9_letterBit 3 = .ok (.getfield 20, 3) := by decide +kernel
theorem s_X9_letterBit_3 {k r : Nat} (hI : am_Inv g) (hs : am_SH k = (0, 9)) (hk : k < 134) (hr : am_HRf k 1 = some r) (hn : k ≠ 39) (h : AP M_X9_letterBit b 6 [x0, x1] (.ref r :: st) hi g Φ) : AP M_X9_letterBit b 3 [x0, x1] (.ref k :: st) hi g Φ := AP.getR (j := 1) (q := (RX9, TX9, 7)) d_X9_letterBit_3 hs (hI.lt hk) rfl (by decide) (by decide) w_346 (hI.r hn hr) h
theorem d_X9_letterBit_6 : decode cX9_letterBit 6 = .ok (.getfield 129, 3) := by decide +kernel
theorem s_X9_letterBit_6 {k r : Nat} (hI : am_Inv g) (hs : am_SH k = (0, 6)) (hk : k < 134) (hr : am_HRf k 2 = some r) (hn : k ≠ 39) (h : AP M_X9_letterBit b 9 [x0, x1] (.ref r :: st) hi g Φ) : AP M_X9_letterBit b 6 [x0, x1] (.ref k :: st) hi g Φ := AP.getR (j := 2) (q := (RX6, TX6, 8)) d_X9_letterBit_6 hs (hI.lt hk) rfl (by decide) (by decide) w_165 (hI.r hn hr) h
theorem d_X9_letterBit_9 : decode cX9_letterBit 9 = .ok (.invokevirtual 133, 3) := by decide +kernel
theorem s_X9_letterBit_9  {k : Nat} {r0 : Int32} {P : am_HI → Prop} (hI : am_Inv g) (hs : am_SH k = (0, 2)) (hk : k < 134) (hst : (st.map Value.category).sum ≤ 8) (hc : am_Cr M_X2_countBits [.ref k] hi g (some (.int r0)) P) (h : ∀ hi' : am_HI, P hi' → AP M_X9_letterBit b 12 [x0, x1] (.int r0 :: st) hi' g Φ) : AP M_X9_letterBit b 9 [x0, x1] (.ref k :: st) hi g Φ := AP.callVr (As := []) (q := (RX2, TX2, 8)) hI hc k_X9_letterBit_133 d_X9_letterBit_9 rfl hs hk rfl rfl hst h
theorem d_X9_letterBit_12 : decode cX9_letterBit 12 = .ok (.iconst 1, 1) := by decide +kernel
theorem s_X9_letterBit_12 (h : AP M_X9_letterBit b 13 [x0, x1] (.int 1 :: st) hi g Φ) : AP M_X9_letterBit b 12 [x0, x1] (st) hi g Φ := AP.iconst (x := 1) d_X9_letterBit_12 (by decide) h
theorem d_X9_letterBit_13 : decode cX9_letterBit 13 = .ok (.isub, 1) := by decide +kernel
theorem s_X9_letterBit_13 {x y : Int32} (h : AP M_X9_letterBit b 14 [x0, x1] (.int (x - y) :: st) hi g Φ) : AP M_X9_letterBit b 13 [x0, x1] (.int y :: .int x :: st) hi g Φ := AP.isub d_X9_letterBit_13 h
theorem d_X9_letterBit_14 : decode cX9_letterBit 14 = .ok (.invokestatic 58, 3) := by decide +kernel
theorem s_X9_letterBit_14 {a0 : Int32} {a1 : Int32} {a2 : Int32} {r0 : Int32} {P : am_HI → Prop} (hI : am_Inv g) (hst : (st.map Value.category).sum ≤ 8) (hc : am_Cr M_X9_isWithin [.int a0, .int a1, .int a2] hi g (some (.int r0)) P) (h : ∀ hi' : am_HI, P hi' → AP M_X9_letterBit b 17 [x0, x1] (.int r0 :: st) hi' g Φ) : AP M_X9_letterBit b 14 [x0, x1] (.int a2 :: .int a1 :: .int a0 :: st) hi g Φ := AP.callSr (As := [.int a0, .int a1, .int a2]) hI hc k_X9_letterBit_58 d_X9_letterBit_14 rfl hst h
theorem d_X9_letterBit_17 : decode cX9_letterBit 17 = .ok (.invokestatic 97, 3) := by decide +kernel
theorem s_X9_letterBit_17 {a0 : Int32} {P : am_HI → Prop} (hI : am_Inv g) (hst : (st.map Value.category).sum ≤ 8) (hc : am_Cr M_X9_needIndex [.int a0] hi g none P) (h : ∀ hi' : am_HI, P hi' → AP M_X9_letterBit b 20 [x0, x1] (st) hi' g Φ) : AP M_X9_letterBit b 17 [x0, x1] (.int a0 :: st) hi g Φ := AP.callSr (As := [.int a0]) hI hc k_X9_letterBit_97 d_X9_letterBit_17 rfl hst h
theorem d_X9_letterBit_20 : decode cX9_letterBit 20 = .ok (.aload_n 0, 1) := by decide +kernel
theorem s_X9_letterBit_20 {n : Nat} (h : AP M_X9_letterBit b 21 [.ref n, x1] (.ref n :: st) hi g Φ) : AP M_X9_letterBit b 20 [.ref n, x1] (st) hi g Φ := AP.aload_n (x := n) (i := 0) d_X9_letterBit_20 rfl rfl h
theorem d_X9_letterBit_21 : decode cX9_letterBit 21 = .ok (.getfield 54, 3) := by decide +kernel
theorem s_X9_letterBit_21 {k r : Nat} (hI : am_Inv g) (hs : am_SH k = (0, 9)) (hk : k < 134) (hr : am_HRf k 6 = some r) (hn : k ≠ 39) (h : AP M_X9_letterBit b 24 [x0, x1] (.ref r :: st) hi g Φ) : AP M_X9_letterBit b 21 [x0, x1] (.ref k :: st) hi g Φ := AP.getR (j := 6) (q := (RX9, TX9, 7)) d_X9_letterBit_21 hs (hI.lt hk) rfl (by decide) (by decide) w_351 (hI.r hn hr) h
theorem d_X9_letterBit_24 : decode cX9_letterBit 24 = .ok (.aload_n 0, 1) := by decide +kernel
theorem s_X9_letterBit_24 {n : Nat} (h : AP M_X9_letterBit b 25 [.ref n, x1] (.ref n :: st) hi g Φ) : AP M_X9_letterBit b 24 [.ref n, x1] (st) hi g Φ := AP.aload_n (x := n) (i := 0) d_X9_letterBit_24 rfl rfl h
theorem d_X9_letterBit_25 : decode cX9_letterBit 25 = .ok (.getfield 20, 3) := by decide +kernel
theorem s_X9_letterBit_25 {k r : Nat} (hI : am_Inv g) (hs : am_SH k = (0, 9)) (hk : k < 134) (hr : am_HRf k 1 = some r) (hn : k ≠ 39) (h : AP M_X9_letterBit b 28 [x0, x1] (.ref r :: st) hi g Φ) : AP M_X9_letterBit b 25 [x0, x1] (.ref k :: st) hi g Φ := AP.getR (j := 1) (q := (RX9, TX9, 7)) d_X9_letterBit_25 hs (hI.lt hk) rfl (by decide) (by decide) w_346 (hI.r hn hr) h
theorem d_X9_letterBit_28 : decode cX9_letterBit 28 = .ok (.getfield 129, 3) := by decide +kernel
theorem s_X9_letterBit_28 {k r : Nat} (hI : am_Inv g) (hs : am_SH k = (0, 6)) (hk : k < 134) (hr : am_HRf k 2 = some r) (hn : k ≠ 39) (h : AP M_X9_letterBit b 31 [x0, x1] (.ref r :: st) hi g Φ) : AP M_X9_letterBit b 28 [x0, x1] (.ref k :: st) hi g Φ := AP.getR (j := 2) (q := (RX6, TX6, 8)) d_X9_letterBit_28 hs (hI.lt hk) rfl (by decide) (by decide) w_165 (hI.r hn hr) h
theorem d_X9_letterBit_31 : decode cX9_letterBit 31 = .ok (.invokevirtual 222, 3) := by decide +kernel
theorem s_X9_letterBit_31 {a0 : Nat} {k : Nat} {P : am_HI → Prop} (hI : am_Inv g) (hs : am_SH k = (0, 3)) (hk : k < 134) (hst : (st.map Value.category).sum ≤ 8) (hc : am_Cr M_X3_write [.ref k, .ref a0] hi g none P) (h : ∀ hi' : am_HI, P hi' → AP M_X9_letterBit b 34 [x0, x1] (st) hi' g Φ) : AP M_X9_letterBit b 31 [x0, x1] (.ref a0 :: .ref k :: st) hi g Φ := AP.callVr (As := [.ref a0]) (q := (RX3, TX3, 3)) hI hc k_X9_letterBit_222 d_X9_letterBit_31 rfl hs hk rfl rfl hst h
theorem d_X9_letterBit_34 : decode cX9_letterBit 34 = .ok (.aload_n 0, 1) := by decide +kernel
theorem s_X9_letterBit_34 {n : Nat} (h : AP M_X9_letterBit b 35 [.ref n, x1] (.ref n :: st) hi g Φ) : AP M_X9_letterBit b 34 [.ref n, x1] (st) hi g Φ := AP.aload_n (x := n) (i := 0) d_X9_letterBit_34 rfl rfl h
theorem d_X9_letterBit_35 : decode cX9_letterBit 35 = .ok (.getfield 54, 3) := by decide +kernel
theorem s_X9_letterBit_35 {k r : Nat} (hI : am_Inv g) (hs : am_SH k = (0, 9)) (hk : k < 134) (hr : am_HRf k 6 = some r) (hn : k ≠ 39) (h : AP M_X9_letterBit b 38 [x0, x1] (.ref r :: st) hi g Φ) : AP M_X9_letterBit b 35 [x0, x1] (.ref k :: st) hi g Φ := AP.getR (j := 6) (q := (RX9, TX9, 7)) d_X9_letterBit_35 hs (hI.lt hk) rfl (by decide) (by decide) w_351 (hI.r hn hr) h
theorem d_X9_letterBit_38 : decode cX9_letterBit 38 = .ok (.iload_n 1, 1) := by decide +kernel
theorem s_X9_letterBit_38 {n : Int32} (h : AP M_X9_letterBit b 39 [x0, .int n] (.int n :: st) hi g Φ) : AP M_X9_letterBit b 38 [x0, .int n] (st) hi g Φ := AP.iload_n (x := n) (i := 1) d_X9_letterBit_38 rfl rfl h
theorem d_X9_letterBit_39 : decode cX9_letterBit 39 = .ok (.invokevirtual 226, 3) := by decide +kernel
theorem s_X9_letterBit_39 {a0 : Int32} {k : Nat} {r0 : Int32} {P : am_HI → Prop} (hI : am_Inv g) (hs : am_SH k = (0, 3)) (hk : k < 134) (hst : (st.map Value.category).sum ≤ 8) (hc : am_Cr M_X3_isOne [.ref k, .int a0] hi g (some (.int r0)) P) (h : ∀ hi' : am_HI, P hi' → AP M_X9_letterBit b 42 [x0, x1] (.int r0 :: st) hi' g Φ) : AP M_X9_letterBit b 39 [x0, x1] (.int a0 :: .ref k :: st) hi g Φ := AP.callVr (As := [.int a0]) (q := (RX3, TX3, 3)) hI hc k_X9_letterBit_226 d_X9_letterBit_39 rfl hs hk rfl rfl hst h
theorem d_X9_letterBit_42 : decode cX9_letterBit 42 = .ok (.ireturn, 1) := by decide +kernel
theorem s_X9_letterBit_42 {x : Int32} (hx : x = 0 ∨ x = 1) (h : Φ (.ok (some (.int x))) hi g) : AP M_X9_letterBit b 42 [x0, x1] [.int x] hi g Φ := AP.zret d_X9_letterBit_42 rfl hx h
end
section
variable {b : Nat × Nat} {st : List Value} {hi : am_HI} {g : am_G} {Φ : am_P} {x0 x1 : Value}
theorem d_X9_letterKind_0 : decode cX9_letterKind 0 = .ok (.iload_n 1, 1) := by decide +kernel
theorem s_X9_letterKind_0 {n : Int32} (h : AP M_X9_letterKind b 1 [x0, .int n] (.int n :: st) hi g Φ) : AP M_X9_letterKind b 0 [x0, .int n] (st) hi g Φ := AP.iload_n (x := n) (i := 1) d_X9_letterKind_0 rfl rfl h
theorem d_X9_letterKind_1 : decode cX9_letterKind 1 = .ok (.iconst 0, 1) := by decide +kernel
theorem s_X9_letterKind_1 (h : AP M_X9_letterKind b 2 [x0, x1] (.int 0 :: st) hi g Φ) : AP M_X9_letterKind b 1 [x0, x1] (st) hi g Φ := AP.iconst (x := 0) d_X9_letterKind_1 (by decide) h
theorem d_X9_letterKind_2 : decode cX9_letterKind 2 = .ok (.aload_n 0, 1) := by decide +kernel
theorem s_X9_letterKind_2 {n : Nat} (h : AP M_X9_letterKind b 3 [.ref n, x1] (.ref n :: st) hi g Φ) : AP M_X9_letterKind b 2 [.ref n, x1] (st) hi g Φ := AP.aload_n (x := n) (i := 0) d_X9_letterKind_2 rfl rfl h
theorem d_X9_letterKind_3 : decode cX9_letterKind 3 = .ok (.getfield 20, 3) := by decide +kernel
theorem s_X9_letterKind_3 {k r : Nat} (hI : am_Inv g) (hs : am_SH k = (0, 9)) (hk : k < 134) (hr : am_HRf k 1 = some r) (hn : k ≠ 39) (h : AP M_X9_letterKind b 6 [x0, x1] (.ref r :: st) hi g Φ) : AP M_X9_letterKind b 3 [x0, x1] (.ref k :: st) hi g Φ := AP.getR (j := 1) (q := (RX9, TX9, 7)) d_X9_letterKind_3 hs (hI.lt hk) rfl (by decide) (by decide) w_346 (hI.r hn hr) h
theorem d_X9_letterKind_6 : decode cX9_letterKind 6 = .ok (.getfield 129, 3) := by decide +kernel
theorem s_X9_letterKind_6 {k r : Nat} (hI : am_Inv g) (hs : am_SH k = (0, 6)) (hk : k < 134) (hr : am_HRf k 2 = some r) (hn : k ≠ 39) (h : AP M_X9_letterKind b 9 [x0, x1] (.ref r :: st) hi g Φ) : AP M_X9_letterKind b 6 [x0, x1] (.ref k :: st) hi g Φ := AP.getR (j := 2) (q := (RX6, TX6, 8)) d_X9_letterKind_6 hs (hI.lt hk) rfl (by decide) (by decide) w_165 (hI.r hn hr) h
theorem d_X9_letterKind_9 : decode cX9_letterKind 9 = .ok (.getfield 216, 3) := by decide +kernel
theorem s_X9_letterKind_9 {k : Nat} (hI : am_Inv g) (hs : am_SH k = (0, 2)) (hk : k < 134) (h : AP M_X9_letterKind b 12 [x0, x1] (.int (hi k 5) :: st) hi g Φ) : AP M_X9_letterKind b 9 [x0, x1] (.ref k :: st) hi g Φ := AP.getI (j := 5) (q := (RX2, TX2, 8)) d_X9_letterKind_9 hs (hI.lt hk) rfl (by decide) (by decide) w_133 h
theorem d_X9_letterKind_12 : decode cX9_letterKind 12 = .ok (.invokestatic 145, 3) := by decide +kernel
theorem s_X9_letterKind_12 {a0 : Int32} {r0 : Int32} {P : am_HI → Prop} (hI : am_Inv g) (hst : (st.map Value.category).sum ≤ 8) (hc : am_Cr M_X9_blocksOf [.int a0] hi g (some (.int r0)) P) (h : ∀ hi' : am_HI, P hi' → AP M_X9_letterKind b 15 [x0, x1] (.int r0 :: st) hi' g Φ) : AP M_X9_letterKind b 12 [x0, x1] (.int a0 :: st) hi g Φ := AP.callSr (As := [.int a0]) hI hc k_X9_letterKind_145 d_X9_letterKind_12 rfl hst h
theorem d_X9_letterKind_15 : decode cX9_letterKind 15 = .ok (.iconst 1, 1) := by decide +kernel
theorem s_X9_letterKind_15 (h : AP M_X9_letterKind b 16 [x0, x1] (.int 1 :: st) hi g Φ) : AP M_X9_letterKind b 15 [x0, x1] (st) hi g Φ := AP.iconst (x := 1) d_X9_letterKind_15 (by decide) h
theorem d_X9_letterKind_16 : decode cX9_letterKind 16 = .ok (.isub, 1) := by decide +kernel
theorem s_X9_letterKind_16 {x y : Int32} (h : AP M_X9_letterKind b 17 [x0, x1] (.int (x - y) :: st) hi g Φ) : AP M_X9_letterKind b 16 [x0, x1] (.int y :: .int x :: st) hi g Φ := AP.isub d_X9_letterKind_16 h
theorem d_X9_letterKind_17 : decode cX9_letterKind 17 = .ok (.invokestatic 58, 3) := by decide +kernel
theorem s_X9_letterKind_17 {a0 : Int32} {a1 : Int32} {a2 : Int32} {r0 : Int32} {P : am_HI → Prop} (hI : am_Inv g) (hst : (st.map Value.category).sum ≤ 8) (hc : am_Cr M_X9_isWithin [.int a0, .int a1, .int a2] hi g (some (.int r0)) P) (h : ∀ hi' : am_HI, P hi' → AP M_X9_letterKind b 20 [x0, x1] (.int r0 :: st) hi' g Φ) : AP M_X9_letterKind b 17 [x0, x1] (.int a2 :: .int a1 :: .int a0 :: st) hi g Φ := AP.callSr (As := [.int a0, .int a1, .int a2]) hI hc k_X9_letterKind_58 d_X9_letterKind_17 rfl hst h
theorem d_X9_letterKind_20 : decode cX9_letterKind 20 = .ok (.invokestatic 97, 3) := by decide +kernel
theorem s_X9_letterKind_20 {a0 : Int32} {P : am_HI → Prop} (hI : am_Inv g) (hst : (st.map Value.category).sum ≤ 8) (hc : am_Cr M_X9_needIndex [.int a0] hi g none P) (h : ∀ hi' : am_HI, P hi' → AP M_X9_letterKind b 23 [x0, x1] (st) hi' g Φ) : AP M_X9_letterKind b 20 [x0, x1] (.int a0 :: st) hi g Φ := AP.callSr (As := [.int a0]) hI hc k_X9_letterKind_97 d_X9_letterKind_20 rfl hst h
theorem d_X9_letterKind_23 : decode cX9_letterKind 23 = .ok (.aload_n 0, 1) := by decide +kernel
theorem s_X9_letterKind_23 {n : Nat} (h : AP M_X9_letterKind b 24 [.ref n, x1] (.ref n :: st) hi g Φ) : AP M_X9_letterKind b 23 [.ref n, x1] (st) hi g Φ := AP.aload_n (x := n) (i := 0) d_X9_letterKind_23 rfl rfl h
theorem d_X9_letterKind_24 : decode cX9_letterKind 24 = .ok (.getfield 20, 3) := by decide +kernel
theorem s_X9_letterKind_24 {k r : Nat} (hI : am_Inv g) (hs : am_SH k = (0, 9)) (hk : k < 134) (hr : am_HRf k 1 = some r) (hn : k ≠ 39) (h : AP M_X9_letterKind b 27 [x0, x1] (.ref r :: st) hi g Φ) : AP M_X9_letterKind b 24 [x0, x1] (.ref k :: st) hi g Φ := AP.getR (j := 1) (q := (RX9, TX9, 7)) d_X9_letterKind_24 hs (hI.lt hk) rfl (by decide) (by decide) w_346 (hI.r hn hr) h
theorem d_X9_letterKind_27 : decode cX9_letterKind 27 = .ok (.getfield 129, 3) := by decide +kernel
theorem s_X9_letterKind_27 {k r : Nat} (hI : am_Inv g) (hs : am_SH k = (0, 6)) (hk : k < 134) (hr : am_HRf k 2 = some r) (hn : k ≠ 39) (h : AP M_X9_letterKind b 30 [x0, x1] (.ref r :: st) hi g Φ) : AP M_X9_letterKind b 27 [x0, x1] (.ref k :: st) hi g Φ := AP.getR (j := 2) (q := (RX6, TX6, 8)) d_X9_letterKind_27 hs (hI.lt hk) rfl (by decide) (by decide) w_165 (hI.r hn hr) h
theorem d_X9_letterKind_30 : decode cX9_letterKind 30 = .ok (.getfield 217, 3) := by decide +kernel
theorem s_X9_letterKind_30 {k r : Nat} (hI : am_Inv g) (hs : am_SH k = (0, 2)) (hk : k < 134) (hr : am_HRf k 1 = some r) (hn : k ≠ 39) (h : AP M_X9_letterKind b 33 [x0, x1] (.ref r :: st) hi g Φ) : AP M_X9_letterKind b 30 [x0, x1] (.ref k :: st) hi g Φ := AP.getR (j := 1) (q := (RX2, TX2, 8)) d_X9_letterKind_30 hs (hI.lt hk) rfl (by decide) (by decide) w_119 (hI.r hn hr) h
theorem d_X9_letterKind_33 : decode cX9_letterKind 33 = .ok (.iload_n 1, 1) := by decide +kernel
theorem s_X9_letterKind_33 {n : Int32} (h : AP M_X9_letterKind b 34 [x0, .int n] (.int n :: st) hi g Φ) : AP M_X9_letterKind b 33 [x0, .int n] (st) hi g Φ := AP.iload_n (x := n) (i := 1) d_X9_letterKind_33 rfl rfl h
theorem d_X9_letterKind_34 : decode cX9_letterKind 34 = .ok (.iaload, 1) := by decide +kernel
theorem s_X9_letterKind_34 {k n j : Nat} {i : Int32} (hI : am_Inv g) (hs : am_SH k = (1, n)) (hk : k < 134) (hn : n < 2 ^ 31) (hx : i = nI j) (hj : j < n) (h : AP M_X9_letterKind b 35 [x0, x1] (.int (hi k j) :: st) hi g Φ) : AP M_X9_letterKind b 34 [x0, x1] (.int i :: .ref k :: st) hi g Φ := AP.iald d_X9_letterKind_34 hs (hI.lt hk) hn hx hj h
theorem d_X9_letterKind_35 : decode cX9_letterKind 35 = .ok (.ireturn, 1) := by decide +kernel
theorem s_X9_letterKind_35 {x : Int32} (h : Φ (.ok (some (.int x))) hi g) : AP M_X9_letterKind b 35 [x0, x1] [.int x] hi g Φ := AP.iret d_X9_letterKind_35 rfl h
end
section
variable {b : Nat × Nat} {st : List Value} {hi : am_HI} {g : am_G} {Φ : am_P} {x0 x1 : Value}
theorem d_X9_letterLeft_0 : decode cX9_letterLeft 0 = .ok (.aload_n 0, 1) := by decide +kernel
theorem s_X9_letterLeft_0 {n : Nat} (h : AP M_X9_letterLeft b 1 [.ref n, x1] (.ref n :: st) hi g Φ) : AP M_X9_letterLeft b 0 [.ref n, x1] (st) hi g Φ := AP.aload_n (x := n) (i := 0) d_X9_letterLeft_0 rfl rfl h
theorem d_X9_letterLeft_1 : decode cX9_letterLeft 1 = .ok (.iload_n 1, 1) := by decide +kernel
theorem s_X9_letterLeft_1 {n : Int32} (h : AP M_X9_letterLeft b 2 [x0, .int n] (.int n :: st) hi g Φ) : AP M_X9_letterLeft b 1 [x0, .int n] (st) hi g Φ := AP.iload_n (x := n) (i := 1) d_X9_letterLeft_1 rfl rfl h
theorem d_X9_letterLeft_2 : decode cX9_letterLeft 2 = .ok (.invokevirtual 139, 3) := by decide +kernel
theorem s_X9_letterLeft_2 {a0 : Int32} {k : Nat} {r0 : Int32} {P : am_HI → Prop} (hI : am_Inv g) (hs : am_SH k = (0, 9)) (hk : k < 134) (hst : (st.map Value.category).sum ≤ 8) (hc : am_Cr M_X9_isTold [.ref k, .int a0] hi g (some (.int r0)) P) (h : ∀ hi' : am_HI, P hi' → AP M_X9_letterLeft b 5 [x0, x1] (.int r0 :: st) hi' g Φ) : AP M_X9_letterLeft b 2 [x0, x1] (.int a0 :: .ref k :: st) hi g Φ := AP.callVr (As := [.int a0]) (q := (RX9, TX9, 7)) hI hc k_X9_letterLeft_139 d_X9_letterLeft_2 rfl hs hk rfl rfl hst h
theorem d_X9_letterLeft_5 : decode cX9_letterLeft 5 = .ok (.invokestatic 97, 3) := by decide +kernel
theorem s_X9_letterLeft_5 {a0 : Int32} {P : am_HI → Prop} (hI : am_Inv g) (hst : (st.map Value.category).sum ≤ 8) (hc : am_Cr M_X9_needIndex [.int a0] hi g none P) (h : ∀ hi' : am_HI, P hi' → AP M_X9_letterLeft b 8 [x0, x1] (st) hi' g Φ) : AP M_X9_letterLeft b 5 [x0, x1] (.int a0 :: st) hi g Φ := AP.callSr (As := [.int a0]) hI hc k_X9_letterLeft_97 d_X9_letterLeft_5 rfl hst h
theorem d_X9_letterLeft_8 : decode cX9_letterLeft 8 = .ok (.aload_n 0, 1) := by decide +kernel
theorem s_X9_letterLeft_8 {n : Nat} (h : AP M_X9_letterLeft b 9 [.ref n, x1] (.ref n :: st) hi g Φ) : AP M_X9_letterLeft b 8 [.ref n, x1] (st) hi g Φ := AP.aload_n (x := n) (i := 0) d_X9_letterLeft_8 rfl rfl h
theorem d_X9_letterLeft_9 : decode cX9_letterLeft 9 = .ok (.getfield 20, 3) := by decide +kernel
theorem s_X9_letterLeft_9 {k r : Nat} (hI : am_Inv g) (hs : am_SH k = (0, 9)) (hk : k < 134) (hr : am_HRf k 1 = some r) (hn : k ≠ 39) (h : AP M_X9_letterLeft b 12 [x0, x1] (.ref r :: st) hi g Φ) : AP M_X9_letterLeft b 9 [x0, x1] (.ref k :: st) hi g Φ := AP.getR (j := 1) (q := (RX9, TX9, 7)) d_X9_letterLeft_9 hs (hI.lt hk) rfl (by decide) (by decide) w_346 (hI.r hn hr) h
theorem d_X9_letterLeft_12 : decode cX9_letterLeft 12 = .ok (.getfield 129, 3) := by decide +kernel
theorem s_X9_letterLeft_12 {k r : Nat} (hI : am_Inv g) (hs : am_SH k = (0, 6)) (hk : k < 134) (hr : am_HRf k 2 = some r) (hn : k ≠ 39) (h : AP M_X9_letterLeft b 15 [x0, x1] (.ref r :: st) hi g Φ) : AP M_X9_letterLeft b 12 [x0, x1] (.ref k :: st) hi g Φ := AP.getR (j := 2) (q := (RX6, TX6, 8)) d_X9_letterLeft_12 hs (hI.lt hk) rfl (by decide) (by decide) w_165 (hI.r hn hr) h
theorem d_X9_letterLeft_15 : decode cX9_letterLeft 15 = .ok (.getfield 142, 3) := by decide +kernel
theorem s_X9_letterLeft_15 {k r : Nat} (hI : am_Inv g) (hs : am_SH k = (0, 2)) (hk : k < 134) (hr : am_HRf k 3 = some r) (hn : k ≠ 39) (h : AP M_X9_letterLeft b 18 [x0, x1] (.ref r :: st) hi g Φ) : AP M_X9_letterLeft b 15 [x0, x1] (.ref k :: st) hi g Φ := AP.getR (j := 3) (q := (RX2, TX2, 8)) d_X9_letterLeft_15 hs (hI.lt hk) rfl (by decide) (by decide) w_126 (hI.r hn hr) h
theorem d_X9_letterLeft_18 : decode cX9_letterLeft 18 = .ok (.iload_n 1, 1) := by decide +kernel
theorem s_X9_letterLeft_18 {n : Int32} (h : AP M_X9_letterLeft b 19 [x0, .int n] (.int n :: st) hi g Φ) : AP M_X9_letterLeft b 18 [x0, .int n] (st) hi g Φ := AP.iload_n (x := n) (i := 1) d_X9_letterLeft_18 rfl rfl h
theorem d_X9_letterLeft_19 : decode cX9_letterLeft 19 = .ok (.iaload, 1) := by decide +kernel
theorem s_X9_letterLeft_19 {k n j : Nat} {i : Int32} (hI : am_Inv g) (hs : am_SH k = (1, n)) (hk : k < 134) (hn : n < 2 ^ 31) (hx : i = nI j) (hj : j < n) (h : AP M_X9_letterLeft b 20 [x0, x1] (.int (hi k j) :: st) hi g Φ) : AP M_X9_letterLeft b 19 [x0, x1] (.int i :: .ref k :: st) hi g Φ := AP.iald d_X9_letterLeft_19 hs (hI.lt hk) hn hx hj h
theorem d_X9_letterLeft_20 : decode cX9_letterLeft 20 = .ok (.ireturn, 1) := by decide +kernel
theorem s_X9_letterLeft_20 {x : Int32} (h : Φ (.ok (some (.int x))) hi g) : AP M_X9_letterLeft b 20 [x0, x1] [.int x] hi g Φ := AP.iret d_X9_letterLeft_20 rfl h
end
section
variable {b : Nat × Nat} {st : List Value} {hi : am_HI} {g : am_G} {Φ : am_P} {x0 x1 : Value}
theorem d_X9_letterParameter_0 : decode cX9_letterParameter 0 = .ok (.iload_n 1, 1) := by decide +kernel
theorem s_X9_letterParameter_0 {n : Int32} (h : AP M_X9_letterParameter b 1 [x0, .int n] (.int n :: st) hi g Φ) : AP M_X9_letterParameter b 0 [x0, .int n] (st) hi g Φ := AP.iload_n (x := n) (i := 1) d_X9_letterParameter_0 rfl rfl h
theorem d_X9_letterParameter_1 : decode cX9_letterParameter 1 = .ok (.iconst 0, 1) := by decide +kernel
theorem s_X9_letterParameter_1 (h : AP M_X9_letterParameter b 2 [x0, x1] (.int 0 :: st) hi g Φ) : AP M_X9_letterParameter b 1 [x0, x1] (st) hi g Φ := AP.iconst (x := 0) d_X9_letterParameter_1 (by decide) h
theorem d_X9_letterParameter_2 : decode cX9_letterParameter 2 = .ok (.aload_n 0, 1) := by decide +kernel
theorem s_X9_letterParameter_2 {n : Nat} (h : AP M_X9_letterParameter b 3 [.ref n, x1] (.ref n :: st) hi g Φ) : AP M_X9_letterParameter b 2 [.ref n, x1] (st) hi g Φ := AP.aload_n (x := n) (i := 0) d_X9_letterParameter_2 rfl rfl h
theorem d_X9_letterParameter_3 : decode cX9_letterParameter 3 = .ok (.getfield 20, 3) := by decide +kernel
theorem s_X9_letterParameter_3 {k r : Nat} (hI : am_Inv g) (hs : am_SH k = (0, 9)) (hk : k < 134) (hr : am_HRf k 1 = some r) (hn : k ≠ 39) (h : AP M_X9_letterParameter b 6 [x0, x1] (.ref r :: st) hi g Φ) : AP M_X9_letterParameter b 3 [x0, x1] (.ref k :: st) hi g Φ := AP.getR (j := 1) (q := (RX9, TX9, 7)) d_X9_letterParameter_3 hs (hI.lt hk) rfl (by decide) (by decide) w_346 (hI.r hn hr) h
theorem d_X9_letterParameter_6 : decode cX9_letterParameter 6 = .ok (.getfield 129, 3) := by decide +kernel
theorem s_X9_letterParameter_6 {k r : Nat} (hI : am_Inv g) (hs : am_SH k = (0, 6)) (hk : k < 134) (hr : am_HRf k 2 = some r) (hn : k ≠ 39) (h : AP M_X9_letterParameter b 9 [x0, x1] (.ref r :: st) hi g Φ) : AP M_X9_letterParameter b 6 [x0, x1] (.ref k :: st) hi g Φ := AP.getR (j := 2) (q := (RX6, TX6, 8)) d_X9_letterParameter_6 hs (hI.lt hk) rfl (by decide) (by decide) w_165 (hI.r hn hr) h
theorem d_X9_letterParameter_9 : decode cX9_letterParameter 9 = .ok (.getfield 216, 3) := by decide +kernel
theorem s_X9_letterParameter_9 {k : Nat} (hI : am_Inv g) (hs : am_SH k = (0, 2)) (hk : k < 134) (h : AP M_X9_letterParameter b 12 [x0, x1] (.int (hi k 5) :: st) hi g Φ) : AP M_X9_letterParameter b 9 [x0, x1] (.ref k :: st) hi g Φ := AP.getI (j := 5) (q := (RX2, TX2, 8)) d_X9_letterParameter_9 hs (hI.lt hk) rfl (by decide) (by decide) w_133 h
theorem d_X9_letterParameter_12 : decode cX9_letterParameter 12 = .ok (.invokestatic 145, 3) := by decide +kernel
theorem s_X9_letterParameter_12 {a0 : Int32} {r0 : Int32} {P : am_HI → Prop} (hI : am_Inv g) (hst : (st.map Value.category).sum ≤ 8) (hc : am_Cr M_X9_blocksOf [.int a0] hi g (some (.int r0)) P) (h : ∀ hi' : am_HI, P hi' → AP M_X9_letterParameter b 15 [x0, x1] (.int r0 :: st) hi' g Φ) : AP M_X9_letterParameter b 12 [x0, x1] (.int a0 :: st) hi g Φ := AP.callSr (As := [.int a0]) hI hc k_X9_letterParameter_145 d_X9_letterParameter_12 rfl hst h
theorem d_X9_letterParameter_15 : decode cX9_letterParameter 15 = .ok (.iconst 1, 1) := by decide +kernel
theorem s_X9_letterParameter_15 (h : AP M_X9_letterParameter b 16 [x0, x1] (.int 1 :: st) hi g Φ) : AP M_X9_letterParameter b 15 [x0, x1] (st) hi g Φ := AP.iconst (x := 1) d_X9_letterParameter_15 (by decide) h
theorem d_X9_letterParameter_16 : decode cX9_letterParameter 16 = .ok (.isub, 1) := by decide +kernel
theorem s_X9_letterParameter_16 {x y : Int32} (h : AP M_X9_letterParameter b 17 [x0, x1] (.int (x - y) :: st) hi g Φ) : AP M_X9_letterParameter b 16 [x0, x1] (.int y :: .int x :: st) hi g Φ := AP.isub d_X9_letterParameter_16 h
theorem d_X9_letterParameter_17 : decode cX9_letterParameter 17 = .ok (.invokestatic 58, 3) := by decide +kernel
theorem s_X9_letterParameter_17 {a0 : Int32} {a1 : Int32} {a2 : Int32} {r0 : Int32} {P : am_HI → Prop} (hI : am_Inv g) (hst : (st.map Value.category).sum ≤ 8) (hc : am_Cr M_X9_isWithin [.int a0, .int a1, .int a2] hi g (some (.int r0)) P) (h : ∀ hi' : am_HI, P hi' → AP M_X9_letterParameter b 20 [x0, x1] (.int r0 :: st) hi' g Φ) : AP M_X9_letterParameter b 17 [x0, x1] (.int a2 :: .int a1 :: .int a0 :: st) hi g Φ := AP.callSr (As := [.int a0, .int a1, .int a2]) hI hc k_X9_letterParameter_58 d_X9_letterParameter_17 rfl hst h
theorem d_X9_letterParameter_20 : decode cX9_letterParameter 20 = .ok (.invokestatic 97, 3) := by decide +kernel
theorem s_X9_letterParameter_20 {a0 : Int32} {P : am_HI → Prop} (hI : am_Inv g) (hst : (st.map Value.category).sum ≤ 8) (hc : am_Cr M_X9_needIndex [.int a0] hi g none P) (h : ∀ hi' : am_HI, P hi' → AP M_X9_letterParameter b 23 [x0, x1] (st) hi' g Φ) : AP M_X9_letterParameter b 20 [x0, x1] (.int a0 :: st) hi g Φ := AP.callSr (As := [.int a0]) hI hc k_X9_letterParameter_97 d_X9_letterParameter_20 rfl hst h
theorem d_X9_letterParameter_23 : decode cX9_letterParameter 23 = .ok (.aload_n 0, 1) := by decide +kernel
theorem s_X9_letterParameter_23 {n : Nat} (h : AP M_X9_letterParameter b 24 [.ref n, x1] (.ref n :: st) hi g Φ) : AP M_X9_letterParameter b 23 [.ref n, x1] (st) hi g Φ := AP.aload_n (x := n) (i := 0) d_X9_letterParameter_23 rfl rfl h
theorem d_X9_letterParameter_24 : decode cX9_letterParameter 24 = .ok (.getfield 20, 3) := by decide +kernel
theorem s_X9_letterParameter_24 {k r : Nat} (hI : am_Inv g) (hs : am_SH k = (0, 9)) (hk : k < 134) (hr : am_HRf k 1 = some r) (hn : k ≠ 39) (h : AP M_X9_letterParameter b 27 [x0, x1] (.ref r :: st) hi g Φ) : AP M_X9_letterParameter b 24 [x0, x1] (.ref k :: st) hi g Φ := AP.getR (j := 1) (q := (RX9, TX9, 7)) d_X9_letterParameter_24 hs (hI.lt hk) rfl (by decide) (by decide) w_346 (hI.r hn hr) h
theorem d_X9_letterParameter_27 : decode cX9_letterParameter 27 = .ok (.getfield 129, 3) := by decide +kernel
theorem s_X9_letterParameter_27 {k r : Nat} (hI : am_Inv g) (hs : am_SH k = (0, 6)) (hk : k < 134) (hr : am_HRf k 2 = some r) (hn : k ≠ 39) (h : AP M_X9_letterParameter b 30 [x0, x1] (.ref r :: st) hi g Φ) : AP M_X9_letterParameter b 27 [x0, x1] (.ref k :: st) hi g Φ := AP.getR (j := 2) (q := (RX6, TX6, 8)) d_X9_letterParameter_27 hs (hI.lt hk) rfl (by decide) (by decide) w_165 (hI.r hn hr) h
theorem d_X9_letterParameter_30 : decode cX9_letterParameter 30 = .ok (.getfield 220, 3) := by decide +kernel
theorem s_X9_letterParameter_30 {k r : Nat} (hI : am_Inv g) (hs : am_SH k = (0, 2)) (hk : k < 134) (hr : am_HRf k 2 = some r) (hn : k ≠ 39) (h : AP M_X9_letterParameter b 33 [x0, x1] (.ref r :: st) hi g Φ) : AP M_X9_letterParameter b 30 [x0, x1] (.ref k :: st) hi g Φ := AP.getR (j := 2) (q := (RX2, TX2, 8)) d_X9_letterParameter_30 hs (hI.lt hk) rfl (by decide) (by decide) w_122 (hI.r hn hr) h
theorem d_X9_letterParameter_33 : decode cX9_letterParameter 33 = .ok (.iload_n 1, 1) := by decide +kernel
theorem s_X9_letterParameter_33 {n : Int32} (h : AP M_X9_letterParameter b 34 [x0, .int n] (.int n :: st) hi g Φ) : AP M_X9_letterParameter b 33 [x0, .int n] (st) hi g Φ := AP.iload_n (x := n) (i := 1) d_X9_letterParameter_33 rfl rfl h
theorem d_X9_letterParameter_34 : decode cX9_letterParameter 34 = .ok (.iaload, 1) := by decide +kernel
theorem s_X9_letterParameter_34 {k n j : Nat} {i : Int32} (hI : am_Inv g) (hs : am_SH k = (1, n)) (hk : k < 134) (hn : n < 2 ^ 31) (hx : i = nI j) (hj : j < n) (h : AP M_X9_letterParameter b 35 [x0, x1] (.int (hi k j) :: st) hi g Φ) : AP M_X9_letterParameter b 34 [x0, x1] (.int i :: .ref k :: st) hi g Φ := AP.iald d_X9_letterParameter_34 hs (hI.lt hk) hn hx hj h
theorem d_X9_letterParameter_35 : decode cX9_letterParameter 35 = .ok (.ireturn, 1) := by decide +kernel
theorem s_X9_letterParameter_35 {x : Int32} (h : Φ (.ok (some (.int x))) hi g) : AP M_X9_letterParameter b 35 [x0, x1] [.int x] hi g Φ := AP.iret d_X9_letterParameter_35 rfl h
end
section
variable {b : Nat × Nat} {st : List Value} {hi : am_HI} {g : am_G} {Φ : am_P} {x0 x1 : Value}
theorem d_X9_sampleAt_0 : decode cX9_sampleAt 0 = .ok (.iload_n 1, 1) := by decide +kernel
theorem s_X9_sampleAt_0 {n : Int32} (h : AP M_X9_sampleAt b 1 [x0, .int n] (.int n :: st) hi g Φ) : AP M_X9_sampleAt b 0 [x0, .int n] (st) hi g Φ := AP.iload_n (x := n) (i := 1) d_X9_sampleAt_0 rfl rfl h
theorem d_X9_sampleAt_1 : decode cX9_sampleAt 1 = .ok (.iconst 0, 1) := by decide +kernel
theorem s_X9_sampleAt_1 (h : AP M_X9_sampleAt b 2 [x0, x1] (.int 0 :: st) hi g Φ) : AP M_X9_sampleAt b 1 [x0, x1] (st) hi g Φ := AP.iconst (x := 0) d_X9_sampleAt_1 (by decide) h
theorem d_X9_sampleAt_2 : decode cX9_sampleAt 2 = .ok (.aload_n 0, 1) := by decide +kernel
theorem s_X9_sampleAt_2 {n : Nat} (h : AP M_X9_sampleAt b 3 [.ref n, x1] (.ref n :: st) hi g Φ) : AP M_X9_sampleAt b 2 [.ref n, x1] (st) hi g Φ := AP.aload_n (x := n) (i := 0) d_X9_sampleAt_2 rfl rfl h
theorem d_X9_sampleAt_3 : decode cX9_sampleAt 3 = .ok (.getfield 20, 3) := by decide +kernel
theorem s_X9_sampleAt_3 {k r : Nat} (hI : am_Inv g) (hs : am_SH k = (0, 9)) (hk : k < 134) (hr : am_HRf k 1 = some r) (hn : k ≠ 39) (h : AP M_X9_sampleAt b 6 [x0, x1] (.ref r :: st) hi g Φ) : AP M_X9_sampleAt b 3 [x0, x1] (.ref k :: st) hi g Φ := AP.getR (j := 1) (q := (RX9, TX9, 7)) d_X9_sampleAt_3 hs (hI.lt hk) rfl (by decide) (by decide) w_346 (hI.r hn hr) h
theorem d_X9_sampleAt_6 : decode cX9_sampleAt 6 = .ok (.getfield 83, 3) := by decide +kernel
theorem s_X9_sampleAt_6 {k : Nat} (hI : am_Inv g) (hs : am_SH k = (0, 6)) (hk : k < 134) (h : AP M_X9_sampleAt b 9 [x0, x1] (.int (hi k 3) :: st) hi g Φ) : AP M_X9_sampleAt b 6 [x0, x1] (.ref k :: st) hi g Φ := AP.getI (j := 3) (q := (RX6, TX6, 8)) d_X9_sampleAt_6 hs (hI.lt hk) rfl (by decide) (by decide) w_168 h
theorem d_X9_sampleAt_9 : decode cX9_sampleAt 9 = .ok (.iconst 1, 1) := by decide +kernel
theorem s_X9_sampleAt_9 (h : AP M_X9_sampleAt b 10 [x0, x1] (.int 1 :: st) hi g Φ) : AP M_X9_sampleAt b 9 [x0, x1] (st) hi g Φ := AP.iconst (x := 1) d_X9_sampleAt_9 (by decide) h
theorem d_X9_sampleAt_10 : decode cX9_sampleAt 10 = .ok (.isub, 1) := by decide +kernel
theorem s_X9_sampleAt_10 {x y : Int32} (h : AP M_X9_sampleAt b 11 [x0, x1] (.int (x - y) :: st) hi g Φ) : AP M_X9_sampleAt b 10 [x0, x1] (.int y :: .int x :: st) hi g Φ := AP.isub d_X9_sampleAt_10 h
theorem d_X9_sampleAt_11 : decode cX9_sampleAt 11 = .ok (.invokestatic 58, 3) := by decide +kernel
theorem s_X9_sampleAt_11 {a0 : Int32} {a1 : Int32} {a2 : Int32} {r0 : Int32} {P : am_HI → Prop} (hI : am_Inv g) (hst : (st.map Value.category).sum ≤ 8) (hc : am_Cr M_X9_isWithin [.int a0, .int a1, .int a2] hi g (some (.int r0)) P) (h : ∀ hi' : am_HI, P hi' → AP M_X9_sampleAt b 14 [x0, x1] (.int r0 :: st) hi' g Φ) : AP M_X9_sampleAt b 11 [x0, x1] (.int a2 :: .int a1 :: .int a0 :: st) hi g Φ := AP.callSr (As := [.int a0, .int a1, .int a2]) hI hc k_X9_sampleAt_58 d_X9_sampleAt_11 rfl hst h
theorem d_X9_sampleAt_14 : decode cX9_sampleAt 14 = .ok (.invokestatic 97, 3) := by decide +kernel
theorem s_X9_sampleAt_14 {a0 : Int32} {P : am_HI → Prop} (hI : am_Inv g) (hst : (st.map Value.category).sum ≤ 8) (hc : am_Cr M_X9_needIndex [.int a0] hi g none P) (h : ∀ hi' : am_HI, P hi' → AP M_X9_sampleAt b 17 [x0, x1] (st) hi' g Φ) : AP M_X9_sampleAt b 14 [x0, x1] (.int a0 :: st) hi g Φ := AP.callSr (As := [.int a0]) hI hc k_X9_sampleAt_97 d_X9_sampleAt_14 rfl hst h
theorem d_X9_sampleAt_17 : decode cX9_sampleAt 17 = .ok (.aload_n 0, 1) := by decide +kernel
theorem s_X9_sampleAt_17 {n : Nat} (h : AP M_X9_sampleAt b 18 [.ref n, x1] (.ref n :: st) hi g Φ) : AP M_X9_sampleAt b 17 [.ref n, x1] (st) hi g Φ := AP.aload_n (x := n) (i := 0) d_X9_sampleAt_17 rfl rfl h
theorem d_X9_sampleAt_18 : decode cX9_sampleAt 18 = .ok (.getfield 20, 3) := by decide +kernel
theorem s_X9_sampleAt_18 {k r : Nat} (hI : am_Inv g) (hs : am_SH k = (0, 9)) (hk : k < 134) (hr : am_HRf k 1 = some r) (hn : k ≠ 39) (h : AP M_X9_sampleAt b 21 [x0, x1] (.ref r :: st) hi g Φ) : AP M_X9_sampleAt b 18 [x0, x1] (.ref k :: st) hi g Φ := AP.getR (j := 1) (q := (RX9, TX9, 7)) d_X9_sampleAt_18 hs (hI.lt hk) rfl (by decide) (by decide) w_346 (hI.r hn hr) h
theorem d_X9_sampleAt_21 : decode cX9_sampleAt 21 = .ok (.iload_n 1, 1) := by decide +kernel
theorem s_X9_sampleAt_21 {n : Int32} (h : AP M_X9_sampleAt b 22 [x0, .int n] (.int n :: st) hi g Φ) : AP M_X9_sampleAt b 21 [x0, .int n] (st) hi g Φ := AP.iload_n (x := n) (i := 1) d_X9_sampleAt_21 rfl rfl h
theorem d_X9_sampleAt_22 : decode cX9_sampleAt 22 = .ok (.invokevirtual 87, 3) := by decide +kernel
theorem s_X9_sampleAt_22 {a0 : Int32} {k : Nat} {r0 : Int32} {P : am_HI → Prop} (hI : am_Inv g) (hs : am_SH k = (0, 6)) (hk : k < 134) (hst : (st.map Value.category).sum ≤ 8) (hc : am_Cr M_X6_soundAt [.ref k, .int a0] hi g (some (.int r0)) P) (h : ∀ hi' : am_HI, P hi' → AP M_X9_sampleAt b 25 [x0, x1] (.int r0 :: st) hi' g Φ) : AP M_X9_sampleAt b 22 [x0, x1] (.int a0 :: .ref k :: st) hi g Φ := AP.callVr (As := [.int a0]) (q := (RX6, TX6, 8)) hI hc k_X9_sampleAt_87 d_X9_sampleAt_22 rfl hs hk rfl rfl hst h
theorem d_X9_sampleAt_25 : decode cX9_sampleAt 25 = .ok (.ireturn, 1) := by decide +kernel
theorem s_X9_sampleAt_25 {x : Int32} (h : Φ (.ok (some (.int x))) hi g) : AP M_X9_sampleAt b 25 [x0, x1] [.int x] hi g Φ := AP.iret d_X9_sampleAt_25 rfl h
end
section
variable {b : Nat × Nat} {st : List Value} {hi : am_HI} {g : am_G} {Φ : am_P} {x0 : Value}
theorem d_X9_send_0 : decode cX9_send 0 = .ok (.aload_n 0, 1) := by decide +kernel
theorem s_X9_send_0 {n : Nat} (h : AP M_X9_send b 1 [.ref n] (.ref n :: st) hi g Φ) : AP M_X9_send b 0 [.ref n] (st) hi g Φ := AP.aload_n (x := n) (i := 0) d_X9_send_0 rfl rfl h
theorem d_X9_send_1 : decode cX9_send 1 = .ok (.getfield 20, 3) := by decide +kernel
theorem s_X9_send_1 {k r : Nat} (hI : am_Inv g) (hs : am_SH k = (0, 9)) (hk : k < 134) (hr : am_HRf k 1 = some r) (hn : k ≠ 39) (h : AP M_X9_send b 4 [x0] (.ref r :: st) hi g Φ) : AP M_X9_send b 1 [x0] (.ref k :: st) hi g Φ := AP.getR (j := 1) (q := (RX9, TX9, 7)) d_X9_send_1 hs (hI.lt hk) rfl (by decide) (by decide) w_346 (hI.r hn hr) h
theorem d_X9_send_4 : decode cX9_send 4 = .ok (.getfield 83, 3) := by decide +kernel
theorem s_X9_send_4 {k : Nat} (hI : am_Inv g) (hs : am_SH k = (0, 6)) (hk : k < 134) (h : AP M_X9_send b 7 [x0] (.int (hi k 3) :: st) hi g Φ) : AP M_X9_send b 4 [x0] (.ref k :: st) hi g Φ := AP.getI (j := 3) (q := (RX6, TX6, 8)) d_X9_send_4 hs (hI.lt hk) rfl (by decide) (by decide) w_168 h
theorem d_X9_send_7 : decode cX9_send 7 = .ok (.ifCond .le 7, 3) := by decide +kernel
theorem s_X9_send_7 {x : Int32} (h1 : x ≤ 0 → AP M_X9_send b 14 [x0] st hi g Φ) (h2 : ¬ x ≤ 0 → AP M_X9_send b 10 [x0] st hi g Φ) : AP M_X9_send b 7 [x0] (.int x :: st) hi g Φ := AP.if_le d_X9_send_7 (by decide) h1 h2
theorem d_X9_send_10 : decode cX9_send 10 = .ok (.iconst 1, 1) := by decide +kernel
theorem s_X9_send_10 (h : AP M_X9_send b 11 [x0] (.int 1 :: st) hi g Φ) : AP M_X9_send b 10 [x0] (st) hi g Φ := AP.iconst (x := 1) d_X9_send_10 (by decide) h
theorem d_X9_send_11 : decode cX9_send 11 = .ok (.goto 4, 3) := by decide +kernel
theorem s_X9_send_11 (h : AP M_X9_send b 15 [x0] st hi g Φ) : AP M_X9_send b 11 [x0] st hi g Φ := AP.goto d_X9_send_11 (by decide) h
theorem d_X9_send_14 : decode cX9_send 14 = .ok (.iconst 0, 1) := by decide +kernel
theorem s_X9_send_14 (h : AP M_X9_send b 15 [x0] (.int 0 :: st) hi g Φ) : AP M_X9_send b 14 [x0] (st) hi g Φ := AP.iconst (x := 0) d_X9_send_14 (by decide) h
theorem d_X9_send_15 : decode cX9_send 15 = .ok (.invokestatic 72, 3) := by decide +kernel
theorem s_X9_send_15 {a0 : Int32} {P : am_HI → Prop} (hI : am_Inv g) (hst : (st.map Value.category).sum ≤ 8) (hc : am_Cr M_X9_needPossible [.int a0] hi g none P) (h : ∀ hi' : am_HI, P hi' → AP M_X9_send b 18 [x0] (st) hi' g Φ) : AP M_X9_send b 15 [x0] (.int a0 :: st) hi g Φ := AP.callSr (As := [.int a0]) hI hc k_X9_send_72 d_X9_send_15 rfl hst h
theorem d_X9_send_18 : decode cX9_send 18 = .ok (.aload_n 0, 1) := by decide +kernel
theorem s_X9_send_18 {n : Nat} (h : AP M_X9_send b 19 [.ref n] (.ref n :: st) hi g Φ) : AP M_X9_send b 18 [.ref n] (st) hi g Φ := AP.aload_n (x := n) (i := 0) d_X9_send_18 rfl rfl h
theorem d_X9_send_19 : decode cX9_send 19 = .ok (.getfield 26, 3) := by decide +kernel
theorem s_X9_send_19 {k r : Nat} (hI : am_Inv g) (hs : am_SH k = (0, 9)) (hk : k < 134) (hr : am_HRf k 2 = some r) (hn : k ≠ 39) (h : AP M_X9_send b 22 [x0] (.ref r :: st) hi g Φ) : AP M_X9_send b 19 [x0] (.ref k :: st) hi g Φ := AP.getR (j := 2) (q := (RX9, TX9, 7)) d_X9_send_19 hs (hI.lt hk) rfl (by decide) (by decide) w_347 (hI.r hn hr) h
theorem d_X9_send_22 : decode cX9_send 22 = .ok (.aload_n 0, 1) := by decide +kernel
theorem s_X9_send_22 {n : Nat} (h : AP M_X9_send b 23 [.ref n] (.ref n :: st) hi g Φ) : AP M_X9_send b 22 [.ref n] (st) hi g Φ := AP.aload_n (x := n) (i := 0) d_X9_send_22 rfl rfl h
theorem d_X9_send_23 : decode cX9_send 23 = .ok (.getfield 20, 3) := by decide +kernel
theorem s_X9_send_23 {k r : Nat} (hI : am_Inv g) (hs : am_SH k = (0, 9)) (hk : k < 134) (hr : am_HRf k 1 = some r) (hn : k ≠ 39) (h : AP M_X9_send b 26 [x0] (.ref r :: st) hi g Φ) : AP M_X9_send b 23 [x0] (.ref k :: st) hi g Φ := AP.getR (j := 1) (q := (RX9, TX9, 7)) d_X9_send_23 hs (hI.lt hk) rfl (by decide) (by decide) w_346 (hI.r hn hr) h
theorem d_X9_send_26 : decode cX9_send 26 = .ok (.invokevirtual 75, 3) := by decide +kernel
theorem s_X9_send_26 {a0 : Nat} {k : Nat} {P : am_HI → Prop} (hI : am_Inv g) (hs : am_SH k = (0, 1)) (hk : k < 134) (hst : (st.map Value.category).sum ≤ 8) (hc : am_Cr M_X1_save [.ref k, .ref a0] hi g none P) (h : ∀ hi' : am_HI, P hi' → AP M_X9_send b 29 [x0] (st) hi' g Φ) : AP M_X9_send b 26 [x0] (.ref a0 :: .ref k :: st) hi g Φ := AP.callVr (As := [.ref a0]) (q := (RX1, TX1, 2)) hI hc k_X9_send_75 d_X9_send_26 rfl hs hk rfl rfl hst h
theorem d_X9_send_29 : decode cX9_send 29 = .ok (.aload_n 0, 1) := by decide +kernel
theorem s_X9_send_29 {n : Nat} (h : AP M_X9_send b 30 [.ref n] (.ref n :: st) hi g Φ) : AP M_X9_send b 29 [.ref n] (st) hi g Φ := AP.aload_n (x := n) (i := 0) d_X9_send_29 rfl rfl h
theorem d_X9_send_30 : decode cX9_send 30 = .ok (.invokevirtual 125, 3) := by decide +kernel
theorem s_X9_send_30  {k : Nat} {r0 : Int32} {P : am_HI → Prop} (hI : am_Inv g) (hs : am_SH k = (0, 9)) (hk : k < 134) (hst : (st.map Value.category).sum ≤ 8) (hc : am_Cr M_X9_writeLetter [.ref k] hi g (some (.int r0)) P) (h : ∀ hi' : am_HI, P hi' → AP M_X9_send b 33 [x0] (.int r0 :: st) hi' g Φ) : AP M_X9_send b 30 [x0] (.ref k :: st) hi g Φ := AP.callVr (As := []) (q := (RX9, TX9, 7)) hI hc k_X9_send_125 d_X9_send_30 rfl hs hk rfl rfl hst h
theorem d_X9_send_33 : decode cX9_send 33 = .ok (.pop, 1) := by decide +kernel
theorem s_X9_send_33 {u : Value} (hu : u.category = 1) (h : AP M_X9_send b 34 [x0] (st) hi g Φ) : AP M_X9_send b 33 [x0] (u :: st) hi g Φ := AP.pop d_X9_send_33 hu h
theorem d_X9_send_34 : decode cX9_send 34 = .ok (.aload_n 0, 1) := by decide +kernel
theorem s_X9_send_34 {n : Nat} (h : AP M_X9_send b 35 [.ref n] (.ref n :: st) hi g Φ) : AP M_X9_send b 34 [.ref n] (st) hi g Φ := AP.aload_n (x := n) (i := 0) d_X9_send_34 rfl rfl h
theorem d_X9_send_35 : decode cX9_send 35 = .ok (.getfield 20, 3) := by decide +kernel
theorem s_X9_send_35 {k r : Nat} (hI : am_Inv g) (hs : am_SH k = (0, 9)) (hk : k < 134) (hr : am_HRf k 1 = some r) (hn : k ≠ 39) (h : AP M_X9_send b 38 [x0] (.ref r :: st) hi g Φ) : AP M_X9_send b 35 [x0] (.ref k :: st) hi g Φ := AP.getR (j := 1) (q := (RX9, TX9, 7)) d_X9_send_35 hs (hI.lt hk) rfl (by decide) (by decide) w_346 (hI.r hn hr) h
theorem d_X9_send_38 : decode cX9_send 38 = .ok (.getfield 129, 3) := by decide +kernel
theorem s_X9_send_38 {k r : Nat} (hI : am_Inv g) (hs : am_SH k = (0, 6)) (hk : k < 134) (hr : am_HRf k 2 = some r) (hn : k ≠ 39) (h : AP M_X9_send b 41 [x0] (.ref r :: st) hi g Φ) : AP M_X9_send b 38 [x0] (.ref k :: st) hi g Φ := AP.getR (j := 2) (q := (RX6, TX6, 8)) d_X9_send_38 hs (hI.lt hk) rfl (by decide) (by decide) w_165 (hI.r hn hr) h
theorem d_X9_send_41 : decode cX9_send 41 = .ok (.invokevirtual 133, 3) := by decide +kernel
theorem s_X9_send_41  {k : Nat} {r0 : Int32} {P : am_HI → Prop} (hI : am_Inv g) (hs : am_SH k = (0, 2)) (hk : k < 134) (hst : (st.map Value.category).sum ≤ 8) (hc : am_Cr M_X2_countBits [.ref k] hi g (some (.int r0)) P) (h : ∀ hi' : am_HI, P hi' → AP M_X9_send b 44 [x0] (.int r0 :: st) hi' g Φ) : AP M_X9_send b 41 [x0] (.ref k :: st) hi g Φ := AP.callVr (As := []) (q := (RX2, TX2, 8)) hI hc k_X9_send_133 d_X9_send_41 rfl hs hk rfl rfl hst h
theorem d_X9_send_44 : decode cX9_send 44 = .ok (.ireturn, 1) := by decide +kernel
theorem s_X9_send_44 {x : Int32} (h : Φ (.ok (some (.int x))) hi g) : AP M_X9_send b 44 [x0] [.int x] hi g Φ := AP.iret d_X9_send_44 rfl h
end
section
variable {b : Nat × Nat} {st : List Value} {hi : am_HI} {g : am_G} {Φ : am_P} {x0 x1 x2 : Value}
theorem d_X9_setDelay_0 : decode cX9_setDelay 0 = .ok (.iload_n 1, 1) := by decide +kernel
theorem s_X9_setDelay_0 {n : Int32} (h : AP M_X9_setDelay b 1 [x0, .int n, x2] (.int n :: st) hi g Φ) : AP M_X9_setDelay b 0 [x0, .int n, x2] (st) hi g Φ := AP.iload_n (x := n) (i := 1) d_X9_setDelay_0 rfl rfl h
theorem d_X9_setDelay_1 : decode cX9_setDelay 1 = .ok (.iconst 1, 1) := by decide +kernel
theorem s_X9_setDelay_1 (h : AP M_X9_setDelay b 2 [x0, x1, x2] (.int 1 :: st) hi g Φ) : AP M_X9_setDelay b 1 [x0, x1, x2] (st) hi g Φ := AP.iconst (x := 1) d_X9_setDelay_1 (by decide) h
theorem d_X9_setDelay_2 : decode cX9_setDelay 2 = .ok (.bipush 12, 2) := by decide +kernel
theorem s_X9_setDelay_2 (h : AP M_X9_setDelay b 4 [x0, x1, x2] (.int 12 :: st) hi g Φ) : AP M_X9_setDelay b 2 [x0, x1, x2] (st) hi g Φ := AP.bipush (x := 12) d_X9_setDelay_2 (by decide) h
theorem d_X9_setDelay_4 : decode cX9_setDelay 4 = .ok (.invokestatic 58, 3) := by decide +kernel
theorem s_X9_setDelay_4 {a0 : Int32} {a1 : Int32} {a2 : Int32} {r0 : Int32} {P : am_HI → Prop} (hI : am_Inv g) (hst : (st.map Value.category).sum ≤ 8) (hc : am_Cr M_X9_isWithin [.int a0, .int a1, .int a2] hi g (some (.int r0)) P) (h : ∀ hi' : am_HI, P hi' → AP M_X9_setDelay b 7 [x0, x1, x2] (.int r0 :: st) hi' g Φ) : AP M_X9_setDelay b 4 [x0, x1, x2] (.int a2 :: .int a1 :: .int a0 :: st) hi g Φ := AP.callSr (As := [.int a0, .int a1, .int a2]) hI hc k_X9_setDelay_58 d_X9_setDelay_4 rfl hst h
theorem d_X9_setDelay_7 : decode cX9_setDelay 7 = .ok (.invokestatic 62, 3) := by decide +kernel
theorem s_X9_setDelay_7 {a0 : Int32} {P : am_HI → Prop} (hI : am_Inv g) (hst : (st.map Value.category).sum ≤ 8) (hc : am_Cr M_X9_needArgument [.int a0] hi g none P) (h : ∀ hi' : am_HI, P hi' → AP M_X9_setDelay b 10 [x0, x1, x2] (st) hi' g Φ) : AP M_X9_setDelay b 7 [x0, x1, x2] (.int a0 :: st) hi g Φ := AP.callSr (As := [.int a0]) hI hc k_X9_setDelay_62 d_X9_setDelay_7 rfl hst h
theorem d_X9_setDelay_10 : decode cX9_setDelay 10 = .ok (.aload_n 0, 1) := by decide +kernel
theorem s_X9_setDelay_10 {n : Nat} (h : AP M_X9_setDelay b 11 [.ref n, x1, x2] (.ref n :: st) hi g Φ) : AP M_X9_setDelay b 10 [.ref n, x1, x2] (st) hi g Φ := AP.aload_n (x := n) (i := 0) d_X9_setDelay_10 rfl rfl h
theorem d_X9_setDelay_11 : decode cX9_setDelay 11 = .ok (.getfield 26, 3) := by decide +kernel
theorem s_X9_setDelay_11 {k r : Nat} (hI : am_Inv g) (hs : am_SH k = (0, 9)) (hk : k < 134) (hr : am_HRf k 2 = some r) (hn : k ≠ 39) (h : AP M_X9_setDelay b 14 [x0, x1, x2] (.ref r :: st) hi g Φ) : AP M_X9_setDelay b 11 [x0, x1, x2] (.ref k :: st) hi g Φ := AP.getR (j := 2) (q := (RX9, TX9, 7)) d_X9_setDelay_11 hs (hI.lt hk) rfl (by decide) (by decide) w_347 (hI.r hn hr) h
theorem d_X9_setDelay_14 : decode cX9_setDelay 14 = .ok (.aload_n 0, 1) := by decide +kernel
theorem s_X9_setDelay_14 {n : Nat} (h : AP M_X9_setDelay b 15 [.ref n, x1, x2] (.ref n :: st) hi g Φ) : AP M_X9_setDelay b 14 [.ref n, x1, x2] (st) hi g Φ := AP.aload_n (x := n) (i := 0) d_X9_setDelay_14 rfl rfl h
theorem d_X9_setDelay_15 : decode cX9_setDelay 15 = .ok (.getfield 20, 3) := by decide +kernel
theorem s_X9_setDelay_15 {k r : Nat} (hI : am_Inv g) (hs : am_SH k = (0, 9)) (hk : k < 134) (hr : am_HRf k 1 = some r) (hn : k ≠ 39) (h : AP M_X9_setDelay b 18 [x0, x1, x2] (.ref r :: st) hi g Φ) : AP M_X9_setDelay b 15 [x0, x1, x2] (.ref k :: st) hi g Φ := AP.getR (j := 1) (q := (RX9, TX9, 7)) d_X9_setDelay_15 hs (hI.lt hk) rfl (by decide) (by decide) w_346 (hI.r hn hr) h
theorem d_X9_setDelay_18 : decode cX9_setDelay 18 = .ok (.invokevirtual 75, 3) := by decide +kernel
theorem s_X9_setDelay_18 {a0 : Nat} {k : Nat} {P : am_HI → Prop} (hI : am_Inv g) (hs : am_SH k = (0, 1)) (hk : k < 134) (hst : (st.map Value.category).sum ≤ 8) (hc : am_Cr M_X1_save [.ref k, .ref a0] hi g none P) (h : ∀ hi' : am_HI, P hi' → AP M_X9_setDelay b 21 [x0, x1, x2] (st) hi' g Φ) : AP M_X9_setDelay b 18 [x0, x1, x2] (.ref a0 :: .ref k :: st) hi g Φ := AP.callVr (As := [.ref a0]) (q := (RX1, TX1, 2)) hI hc k_X9_setDelay_75 d_X9_setDelay_18 rfl hs hk rfl rfl hst h
theorem d_X9_setDelay_21 : decode cX9_setDelay 21 = .ok (.aload_n 0, 1) := by decide +kernel
theorem s_X9_setDelay_21 {n : Nat} (h : AP M_X9_setDelay b 22 [.ref n, x1, x2] (.ref n :: st) hi g Φ) : AP M_X9_setDelay b 21 [.ref n, x1, x2] (st) hi g Φ := AP.aload_n (x := n) (i := 0) d_X9_setDelay_21 rfl rfl h
theorem d_X9_setDelay_22 : decode cX9_setDelay 22 = .ok (.getfield 20, 3) := by decide +kernel
theorem s_X9_setDelay_22 {k r : Nat} (hI : am_Inv g) (hs : am_SH k = (0, 9)) (hk : k < 134) (hr : am_HRf k 1 = some r) (hn : k ≠ 39) (h : AP M_X9_setDelay b 25 [x0, x1, x2] (.ref r :: st) hi g Φ) : AP M_X9_setDelay b 22 [x0, x1, x2] (.ref k :: st) hi g Φ := AP.getR (j := 1) (q := (RX9, TX9, 7)) d_X9_setDelay_22 hs (hI.lt hk) rfl (by decide) (by decide) w_346 (hI.r hn hr) h
theorem d_X9_setDelay_25 : decode cX9_setDelay 25 = .ok (.getfield 104, 3) := by decide +kernel
theorem s_X9_setDelay_25 {k : Nat} (hI : am_Inv g) (hs : am_SH k = (0, 6)) (hk : k < 134) (h : AP M_X9_setDelay b 28 [x0, x1, x2] (.int (hi k 4) :: st) hi g Φ) : AP M_X9_setDelay b 25 [x0, x1, x2] (.ref k :: st) hi g Φ := AP.getI (j := 4) (q := (RX6, TX6, 8)) d_X9_setDelay_25 hs (hI.lt hk) rfl (by decide) (by decide) w_171 h
theorem d_X9_setDelay_28 : decode cX9_setDelay 28 = .ok (.istore_n 2, 1) := by decide +kernel
theorem s_X9_setDelay_28 {n : Int32} (hc : x1.category = 1) (h : AP M_X9_setDelay b 29 [x0, x1, .int n] (st) hi g Φ) : AP M_X9_setDelay b 28 [x0, x1, x2] (.int n :: st) hi g Φ := AP.istore_n (x := n) (i := 2) d_X9_setDelay_28 rfl (by decide) (by simp [am_st, am_ci, am_cr, am_cl, am_cd, hc]) h
theorem d_X9_setDelay_29 : decode cX9_setDelay 29 = .ok (.aload_n 0, 1) := by decide +kernel
theorem s_X9_setDelay_29 {n : Nat} (h : AP M_X9_setDelay b 30 [.ref n, x1, x2] (.ref n :: st) hi g Φ) : AP M_X9_setDelay b 29 [.ref n, x1, x2] (st) hi g Φ := AP.aload_n (x := n) (i := 0) d_X9_setDelay_29 rfl rfl h
theorem d_X9_setDelay_30 : decode cX9_setDelay 30 = .ok (.getfield 20, 3) := by decide +kernel
theorem s_X9_setDelay_30 {k r : Nat} (hI : am_Inv g) (hs : am_SH k = (0, 9)) (hk : k < 134) (hr : am_HRf k 1 = some r) (hn : k ≠ 39) (h : AP M_X9_setDelay b 33 [x0, x1, x2] (.ref r :: st) hi g Φ) : AP M_X9_setDelay b 30 [x0, x1, x2] (.ref k :: st) hi g Φ := AP.getR (j := 1) (q := (RX9, TX9, 7)) d_X9_setDelay_30 hs (hI.lt hk) rfl (by decide) (by decide) w_346 (hI.r hn hr) h
theorem d_X9_setDelay_33 : decode cX9_setDelay 33 = .ok (.iload_n 1, 1) := by decide +kernel
theorem s_X9_setDelay_33 {n : Int32} (h : AP M_X9_setDelay b 34 [x0, .int n, x2] (.int n :: st) hi g Φ) : AP M_X9_setDelay b 33 [x0, .int n, x2] (st) hi g Φ := AP.iload_n (x := n) (i := 1) d_X9_setDelay_33 rfl rfl h
theorem d_X9_setDelay_34 : decode cX9_setDelay 34 = .ok (.putfield 104, 3) := by decide +kernel
theorem s_X9_setDelay_34 {k : Nat} {n : Int32} (hI : am_Inv g) (hs : am_SH k = (0, 6)) (hk : k < 134) (h : AP M_X9_setDelay b 37 [x0, x1, x2] (st) (am_up hi k 4 n) g Φ) : AP M_X9_setDelay b 34 [x0, x1, x2] (.int n :: .ref k :: st) hi g Φ := AP.putI (j := 4) (q := (RX6, TX6, 8)) d_X9_setDelay_34 hs (hI.lt hk) rfl (by decide) rfl rfl w_171 h
theorem d_X9_setDelay_37 : decode cX9_setDelay 37 = .ok (.iload_n 2, 1) := by decide +kernel
theorem s_X9_setDelay_37 {n : Int32} (h : AP M_X9_setDelay b 38 [x0, x1, .int n] (.int n :: st) hi g Φ) : AP M_X9_setDelay b 37 [x0, x1, .int n] (st) hi g Φ := AP.iload_n (x := n) (i := 2) d_X9_setDelay_37 rfl rfl h
theorem d_X9_setDelay_38 : decode cX9_setDelay 38 = .ok (.ireturn, 1) := by decide +kernel
theorem s_X9_setDelay_38 {x : Int32} (h : Φ (.ok (some (.int x))) hi g) : AP M_X9_setDelay b 38 [x0, x1, x2] [.int x] hi g Φ := AP.iret d_X9_setDelay_38 rfl h
end
section
variable {b : Nat × Nat} {st : List Value} {hi : am_HI} {g : am_G} {Φ : am_P} {x0 x1 x2 : Value}
theorem d_X9_setSpeed_0 : decode cX9_setSpeed 0 = .ok (.iload_n 1, 1) := by decide +kernel
theorem s_X9_setSpeed_0 {n : Int32} (h : AP M_X9_setSpeed b 1 [x0, .int n, x2] (.int n :: st) hi g Φ) : AP M_X9_setSpeed b 0 [x0, .int n, x2] (st) hi g Φ := AP.iload_n (x := n) (i := 1) d_X9_setSpeed_0 rfl rfl h
theorem d_X9_setSpeed_1 : decode cX9_setSpeed 1 = .ok (.iconst 0, 1) := by decide +kernel
theorem s_X9_setSpeed_1 (h : AP M_X9_setSpeed b 2 [x0, x1, x2] (.int 0 :: st) hi g Φ) : AP M_X9_setSpeed b 1 [x0, x1, x2] (st) hi g Φ := AP.iconst (x := 0) d_X9_setSpeed_1 (by decide) h
theorem d_X9_setSpeed_2 : decode cX9_setSpeed 2 = .ok (.iconst 3, 1) := by decide +kernel
theorem s_X9_setSpeed_2 (h : AP M_X9_setSpeed b 3 [x0, x1, x2] (.int 3 :: st) hi g Φ) : AP M_X9_setSpeed b 2 [x0, x1, x2] (st) hi g Φ := AP.iconst (x := 3) d_X9_setSpeed_2 (by decide) h
theorem d_X9_setSpeed_3 : decode cX9_setSpeed 3 = .ok (.invokestatic 58, 3) := by decide +kernel
theorem s_X9_setSpeed_3 {a0 : Int32} {a1 : Int32} {a2 : Int32} {r0 : Int32} {P : am_HI → Prop} (hI : am_Inv g) (hst : (st.map Value.category).sum ≤ 8) (hc : am_Cr M_X9_isWithin [.int a0, .int a1, .int a2] hi g (some (.int r0)) P) (h : ∀ hi' : am_HI, P hi' → AP M_X9_setSpeed b 6 [x0, x1, x2] (.int r0 :: st) hi' g Φ) : AP M_X9_setSpeed b 3 [x0, x1, x2] (.int a2 :: .int a1 :: .int a0 :: st) hi g Φ := AP.callSr (As := [.int a0, .int a1, .int a2]) hI hc k_X9_setSpeed_58 d_X9_setSpeed_3 rfl hst h
theorem d_X9_setSpeed_6 : decode cX9_setSpeed 6 = .ok (.invokestatic 62, 3) := by decide +kernel
theorem s_X9_setSpeed_6 {a0 : Int32} {P : am_HI → Prop} (hI : am_Inv g) (hst : (st.map Value.category).sum ≤ 8) (hc : am_Cr M_X9_needArgument [.int a0] hi g none P) (h : ∀ hi' : am_HI, P hi' → AP M_X9_setSpeed b 9 [x0, x1, x2] (st) hi' g Φ) : AP M_X9_setSpeed b 6 [x0, x1, x2] (.int a0 :: st) hi g Φ := AP.callSr (As := [.int a0]) hI hc k_X9_setSpeed_62 d_X9_setSpeed_6 rfl hst h
theorem d_X9_setSpeed_9 : decode cX9_setSpeed 9 = .ok (.aload_n 0, 1) := by decide +kernel
theorem s_X9_setSpeed_9 {n : Nat} (h : AP M_X9_setSpeed b 10 [.ref n, x1, x2] (.ref n :: st) hi g Φ) : AP M_X9_setSpeed b 9 [.ref n, x1, x2] (st) hi g Φ := AP.aload_n (x := n) (i := 0) d_X9_setSpeed_9 rfl rfl h
theorem d_X9_setSpeed_10 : decode cX9_setSpeed 10 = .ok (.getfield 26, 3) := by decide +kernel
theorem s_X9_setSpeed_10 {k r : Nat} (hI : am_Inv g) (hs : am_SH k = (0, 9)) (hk : k < 134) (hr : am_HRf k 2 = some r) (hn : k ≠ 39) (h : AP M_X9_setSpeed b 13 [x0, x1, x2] (.ref r :: st) hi g Φ) : AP M_X9_setSpeed b 10 [x0, x1, x2] (.ref k :: st) hi g Φ := AP.getR (j := 2) (q := (RX9, TX9, 7)) d_X9_setSpeed_10 hs (hI.lt hk) rfl (by decide) (by decide) w_347 (hI.r hn hr) h
theorem d_X9_setSpeed_13 : decode cX9_setSpeed 13 = .ok (.aload_n 0, 1) := by decide +kernel
theorem s_X9_setSpeed_13 {n : Nat} (h : AP M_X9_setSpeed b 14 [.ref n, x1, x2] (.ref n :: st) hi g Φ) : AP M_X9_setSpeed b 13 [.ref n, x1, x2] (st) hi g Φ := AP.aload_n (x := n) (i := 0) d_X9_setSpeed_13 rfl rfl h
theorem d_X9_setSpeed_14 : decode cX9_setSpeed 14 = .ok (.getfield 20, 3) := by decide +kernel
theorem s_X9_setSpeed_14 {k r : Nat} (hI : am_Inv g) (hs : am_SH k = (0, 9)) (hk : k < 134) (hr : am_HRf k 1 = some r) (hn : k ≠ 39) (h : AP M_X9_setSpeed b 17 [x0, x1, x2] (.ref r :: st) hi g Φ) : AP M_X9_setSpeed b 14 [x0, x1, x2] (.ref k :: st) hi g Φ := AP.getR (j := 1) (q := (RX9, TX9, 7)) d_X9_setSpeed_14 hs (hI.lt hk) rfl (by decide) (by decide) w_346 (hI.r hn hr) h
theorem d_X9_setSpeed_17 : decode cX9_setSpeed 17 = .ok (.invokevirtual 75, 3) := by decide +kernel
theorem s_X9_setSpeed_17 {a0 : Nat} {k : Nat} {P : am_HI → Prop} (hI : am_Inv g) (hs : am_SH k = (0, 1)) (hk : k < 134) (hst : (st.map Value.category).sum ≤ 8) (hc : am_Cr M_X1_save [.ref k, .ref a0] hi g none P) (h : ∀ hi' : am_HI, P hi' → AP M_X9_setSpeed b 20 [x0, x1, x2] (st) hi' g Φ) : AP M_X9_setSpeed b 17 [x0, x1, x2] (.ref a0 :: .ref k :: st) hi g Φ := AP.callVr (As := [.ref a0]) (q := (RX1, TX1, 2)) hI hc k_X9_setSpeed_75 d_X9_setSpeed_17 rfl hs hk rfl rfl hst h
theorem d_X9_setSpeed_20 : decode cX9_setSpeed 20 = .ok (.aload_n 0, 1) := by decide +kernel
theorem s_X9_setSpeed_20 {n : Nat} (h : AP M_X9_setSpeed b 21 [.ref n, x1, x2] (.ref n :: st) hi g Φ) : AP M_X9_setSpeed b 20 [.ref n, x1, x2] (st) hi g Φ := AP.aload_n (x := n) (i := 0) d_X9_setSpeed_20 rfl rfl h
theorem d_X9_setSpeed_21 : decode cX9_setSpeed 21 = .ok (.getfield 20, 3) := by decide +kernel
theorem s_X9_setSpeed_21 {k r : Nat} (hI : am_Inv g) (hs : am_SH k = (0, 9)) (hk : k < 134) (hr : am_HRf k 1 = some r) (hn : k ≠ 39) (h : AP M_X9_setSpeed b 24 [x0, x1, x2] (.ref r :: st) hi g Φ) : AP M_X9_setSpeed b 21 [x0, x1, x2] (.ref k :: st) hi g Φ := AP.getR (j := 1) (q := (RX9, TX9, 7)) d_X9_setSpeed_21 hs (hI.lt hk) rfl (by decide) (by decide) w_346 (hI.r hn hr) h
theorem d_X9_setSpeed_24 : decode cX9_setSpeed 24 = .ok (.getfield 107, 3) := by decide +kernel
theorem s_X9_setSpeed_24 {k : Nat} (hI : am_Inv g) (hs : am_SH k = (0, 6)) (hk : k < 134) (h : AP M_X9_setSpeed b 27 [x0, x1, x2] (.int (hi k 5) :: st) hi g Φ) : AP M_X9_setSpeed b 24 [x0, x1, x2] (.ref k :: st) hi g Φ := AP.getI (j := 5) (q := (RX6, TX6, 8)) d_X9_setSpeed_24 hs (hI.lt hk) rfl (by decide) (by decide) w_174 h
theorem d_X9_setSpeed_27 : decode cX9_setSpeed 27 = .ok (.istore_n 2, 1) := by decide +kernel
theorem s_X9_setSpeed_27 {n : Int32} (hc : x1.category = 1) (h : AP M_X9_setSpeed b 28 [x0, x1, .int n] (st) hi g Φ) : AP M_X9_setSpeed b 27 [x0, x1, x2] (.int n :: st) hi g Φ := AP.istore_n (x := n) (i := 2) d_X9_setSpeed_27 rfl (by decide) (by simp [am_st, am_ci, am_cr, am_cl, am_cd, hc]) h
theorem d_X9_setSpeed_28 : decode cX9_setSpeed 28 = .ok (.aload_n 0, 1) := by decide +kernel
theorem s_X9_setSpeed_28 {n : Nat} (h : AP M_X9_setSpeed b 29 [.ref n, x1, x2] (.ref n :: st) hi g Φ) : AP M_X9_setSpeed b 28 [.ref n, x1, x2] (st) hi g Φ := AP.aload_n (x := n) (i := 0) d_X9_setSpeed_28 rfl rfl h
theorem d_X9_setSpeed_29 : decode cX9_setSpeed 29 = .ok (.getfield 20, 3) := by decide +kernel
theorem s_X9_setSpeed_29 {k r : Nat} (hI : am_Inv g) (hs : am_SH k = (0, 9)) (hk : k < 134) (hr : am_HRf k 1 = some r) (hn : k ≠ 39) (h : AP M_X9_setSpeed b 32 [x0, x1, x2] (.ref r :: st) hi g Φ) : AP M_X9_setSpeed b 29 [x0, x1, x2] (.ref k :: st) hi g Φ := AP.getR (j := 1) (q := (RX9, TX9, 7)) d_X9_setSpeed_29 hs (hI.lt hk) rfl (by decide) (by decide) w_346 (hI.r hn hr) h
theorem d_X9_setSpeed_32 : decode cX9_setSpeed 32 = .ok (.iload_n 1, 1) := by decide +kernel
theorem s_X9_setSpeed_32 {n : Int32} (h : AP M_X9_setSpeed b 33 [x0, .int n, x2] (.int n :: st) hi g Φ) : AP M_X9_setSpeed b 32 [x0, .int n, x2] (st) hi g Φ := AP.iload_n (x := n) (i := 1) d_X9_setSpeed_32 rfl rfl h
theorem d_X9_setSpeed_33 : decode cX9_setSpeed 33 = .ok (.putfield 107, 3) := by decide +kernel
theorem s_X9_setSpeed_33 {k : Nat} {n : Int32} (hI : am_Inv g) (hs : am_SH k = (0, 6)) (hk : k < 134) (h : AP M_X9_setSpeed b 36 [x0, x1, x2] (st) (am_up hi k 5 n) g Φ) : AP M_X9_setSpeed b 33 [x0, x1, x2] (.int n :: .ref k :: st) hi g Φ := AP.putI (j := 5) (q := (RX6, TX6, 8)) d_X9_setSpeed_33 hs (hI.lt hk) rfl (by decide) rfl rfl w_174 h
theorem d_X9_setSpeed_36 : decode cX9_setSpeed 36 = .ok (.iload_n 2, 1) := by decide +kernel
theorem s_X9_setSpeed_36 {n : Int32} (h : AP M_X9_setSpeed b 37 [x0, x1, .int n] (.int n :: st) hi g Φ) : AP M_X9_setSpeed b 36 [x0, x1, .int n] (st) hi g Φ := AP.iload_n (x := n) (i := 2) d_X9_setSpeed_36 rfl rfl h
theorem d_X9_setSpeed_37 : decode cX9_setSpeed 37 = .ok (.ireturn, 1) := by decide +kernel
theorem s_X9_setSpeed_37 {x : Int32} (h : Φ (.ok (some (.int x))) hi g) : AP M_X9_setSpeed b 37 [x0, x1, x2] [.int x] hi g Φ := AP.iret d_X9_setSpeed_37 rfl h
end
section
variable {b : Nat × Nat} {st : List Value} {hi : am_HI} {g : am_G} {Φ : am_P} {x0 x1 x2 x3 : Value}
theorem d_X9_setWeight_0 : decode cX9_setWeight 0 = .ok (.iload_n 1, 1) := by decide +kernel
theorem s_X9_setWeight_0 {n : Int32} (h : AP M_X9_setWeight b 1 [x0, .int n, x2, x3] (.int n :: st) hi g Φ) : AP M_X9_setWeight b 0 [x0, .int n, x2, x3] (st) hi g Φ := AP.iload_n (x := n) (i := 1) d_X9_setWeight_0 rfl rfl h
theorem d_X9_setWeight_1 : decode cX9_setWeight 1 = .ok (.iconst 1, 1) := by decide +kernel
theorem s_X9_setWeight_1 (h : AP M_X9_setWeight b 2 [x0, x1, x2, x3] (.int 1 :: st) hi g Φ) : AP M_X9_setWeight b 1 [x0, x1, x2, x3] (st) hi g Φ := AP.iconst (x := 1) d_X9_setWeight_1 (by decide) h
theorem d_X9_setWeight_2 : decode cX9_setWeight 2 = .ok (.iconst 4, 1) := by decide +kernel
theorem s_X9_setWeight_2 (h : AP M_X9_setWeight b 3 [x0, x1, x2, x3] (.int 4 :: st) hi g Φ) : AP M_X9_setWeight b 2 [x0, x1, x2, x3] (st) hi g Φ := AP.iconst (x := 4) d_X9_setWeight_2 (by decide) h
theorem d_X9_setWeight_3 : decode cX9_setWeight 3 = .ok (.invokestatic 58, 3) := by decide +kernel
theorem s_X9_setWeight_3 {a0 : Int32} {a1 : Int32} {a2 : Int32} {r0 : Int32} {P : am_HI → Prop} (hI : am_Inv g) (hst : (st.map Value.category).sum ≤ 8) (hc : am_Cr M_X9_isWithin [.int a0, .int a1, .int a2] hi g (some (.int r0)) P) (h : ∀ hi' : am_HI, P hi' → AP M_X9_setWeight b 6 [x0, x1, x2, x3] (.int r0 :: st) hi' g Φ) : AP M_X9_setWeight b 3 [x0, x1, x2, x3] (.int a2 :: .int a1 :: .int a0 :: st) hi g Φ := AP.callSr (As := [.int a0, .int a1, .int a2]) hI hc k_X9_setWeight_58 d_X9_setWeight_3 rfl hst h
theorem d_X9_setWeight_6 : decode cX9_setWeight 6 = .ok (.invokestatic 62, 3) := by decide +kernel
theorem s_X9_setWeight_6 {a0 : Int32} {P : am_HI → Prop} (hI : am_Inv g) (hst : (st.map Value.category).sum ≤ 8) (hc : am_Cr M_X9_needArgument [.int a0] hi g none P) (h : ∀ hi' : am_HI, P hi' → AP M_X9_setWeight b 9 [x0, x1, x2, x3] (st) hi' g Φ) : AP M_X9_setWeight b 6 [x0, x1, x2, x3] (.int a0 :: st) hi g Φ := AP.callSr (As := [.int a0]) hI hc k_X9_setWeight_62 d_X9_setWeight_6 rfl hst h
theorem d_X9_setWeight_9 : decode cX9_setWeight 9 = .ok (.iload_n 2, 1) := by decide +kernel
theorem s_X9_setWeight_9 {n : Int32} (h : AP M_X9_setWeight b 10 [x0, x1, .int n, x3] (.int n :: st) hi g Φ) : AP M_X9_setWeight b 9 [x0, x1, .int n, x3] (st) hi g Φ := AP.iload_n (x := n) (i := 2) d_X9_setWeight_9 rfl rfl h
theorem d_X9_setWeight_10 : decode cX9_setWeight 10 = .ok (.bipush (-64), 2) := by decide +kernel
theorem s_X9_setWeight_10 (h : AP M_X9_setWeight b 12 [x0, x1, x2, x3] (.int (-64) :: st) hi g Φ) : AP M_X9_setWeight b 10 [x0, x1, x2, x3] (st) hi g Φ := AP.bipush (x := (-64)) d_X9_setWeight_10 (by decide) h
theorem d_X9_setWeight_12 : decode cX9_setWeight 12 = .ok (.bipush 64, 2) := by decide +kernel
theorem s_X9_setWeight_12 (h : AP M_X9_setWeight b 14 [x0, x1, x2, x3] (.int 64 :: st) hi g Φ) : AP M_X9_setWeight b 12 [x0, x1, x2, x3] (st) hi g Φ := AP.bipush (x := 64) d_X9_setWeight_12 (by decide) h
theorem d_X9_setWeight_14 : decode cX9_setWeight 14 = .ok (.invokestatic 58, 3) := by decide +kernel
theorem s_X9_setWeight_14 {a0 : Int32} {a1 : Int32} {a2 : Int32} {r0 : Int32} {P : am_HI → Prop} (hI : am_Inv g) (hst : (st.map Value.category).sum ≤ 8) (hc : am_Cr M_X9_isWithin [.int a0, .int a1, .int a2] hi g (some (.int r0)) P) (h : ∀ hi' : am_HI, P hi' → AP M_X9_setWeight b 17 [x0, x1, x2, x3] (.int r0 :: st) hi' g Φ) : AP M_X9_setWeight b 14 [x0, x1, x2, x3] (.int a2 :: .int a1 :: .int a0 :: st) hi g Φ := AP.callSr (As := [.int a0, .int a1, .int a2]) hI hc k_X9_setWeight_58 d_X9_setWeight_14 rfl hst h
theorem d_X9_setWeight_17 : decode cX9_setWeight 17 = .ok (.invokestatic 62, 3) := by decide +kernel
theorem s_X9_setWeight_17 {a0 : Int32} {P : am_HI → Prop} (hI : am_Inv g) (hst : (st.map Value.category).sum ≤ 8) (hc : am_Cr M_X9_needArgument [.int a0] hi g none P) (h : ∀ hi' : am_HI, P hi' → AP M_X9_setWeight b 20 [x0, x1, x2, x3] (st) hi' g Φ) : AP M_X9_setWeight b 17 [x0, x1, x2, x3] (.int a0 :: st) hi g Φ := AP.callSr (As := [.int a0]) hI hc k_X9_setWeight_62 d_X9_setWeight_17 rfl hst h
theorem d_X9_setWeight_20 : decode cX9_setWeight 20 = .ok (.aload_n 0, 1) := by decide +kernel
theorem s_X9_setWeight_20 {n : Nat} (h : AP M_X9_setWeight b 21 [.ref n, x1, x2, x3] (.ref n :: st) hi g Φ) : AP M_X9_setWeight b 20 [.ref n, x1, x2, x3] (st) hi g Φ := AP.aload_n (x := n) (i := 0) d_X9_setWeight_20 rfl rfl h
theorem d_X9_setWeight_21 : decode cX9_setWeight 21 = .ok (.getfield 26, 3) := by decide +kernel
theorem s_X9_setWeight_21 {k r : Nat} (hI : am_Inv g) (hs : am_SH k = (0, 9)) (hk : k < 134) (hr : am_HRf k 2 = some r) (hn : k ≠ 39) (h : AP M_X9_setWeight b 24 [x0, x1, x2, x3] (.ref r :: st) hi g Φ) : AP M_X9_setWeight b 21 [x0, x1, x2, x3] (.ref k :: st) hi g Φ := AP.getR (j := 2) (q := (RX9, TX9, 7)) d_X9_setWeight_21 hs (hI.lt hk) rfl (by decide) (by decide) w_347 (hI.r hn hr) h
theorem d_X9_setWeight_24 : decode cX9_setWeight 24 = .ok (.aload_n 0, 1) := by decide +kernel
theorem s_X9_setWeight_24 {n : Nat} (h : AP M_X9_setWeight b 25 [.ref n, x1, x2, x3] (.ref n :: st) hi g Φ) : AP M_X9_setWeight b 24 [.ref n, x1, x2, x3] (st) hi g Φ := AP.aload_n (x := n) (i := 0) d_X9_setWeight_24 rfl rfl h
theorem d_X9_setWeight_25 : decode cX9_setWeight 25 = .ok (.getfield 20, 3) := by decide +kernel
theorem s_X9_setWeight_25 {k r : Nat} (hI : am_Inv g) (hs : am_SH k = (0, 9)) (hk : k < 134) (hr : am_HRf k 1 = some r) (hn : k ≠ 39) (h : AP M_X9_setWeight b 28 [x0, x1, x2, x3] (.ref r :: st) hi g Φ) : AP M_X9_setWeight b 25 [x0, x1, x2, x3] (.ref k :: st) hi g Φ := AP.getR (j := 1) (q := (RX9, TX9, 7)) d_X9_setWeight_25 hs (hI.lt hk) rfl (by decide) (by decide) w_346 (hI.r hn hr) h
theorem d_X9_setWeight_28 : decode cX9_setWeight 28 = .ok (.invokevirtual 75, 3) := by decide +kernel
theorem s_X9_setWeight_28 {a0 : Nat} {k : Nat} {P : am_HI → Prop} (hI : am_Inv g) (hs : am_SH k = (0, 1)) (hk : k < 134) (hst : (st.map Value.category).sum ≤ 8) (hc : am_Cr M_X1_save [.ref k, .ref a0] hi g none P) (h : ∀ hi' : am_HI, P hi' → AP M_X9_setWeight b 31 [x0, x1, x2, x3] (st) hi' g Φ) : AP M_X9_setWeight b 28 [x0, x1, x2, x3] (.ref a0 :: .ref k :: st) hi g Φ := AP.callVr (As := [.ref a0]) (q := (RX1, TX1, 2)) hI hc k_X9_setWeight_75 d_X9_setWeight_28 rfl hs hk rfl rfl hst h
theorem d_X9_setWeight_31 : decode cX9_setWeight 31 = .ok (.aload_n 0, 1) := by decide +kernel
theorem s_X9_setWeight_31 {n : Nat} (h : AP M_X9_setWeight b 32 [.ref n, x1, x2, x3] (.ref n :: st) hi g Φ) : AP M_X9_setWeight b 31 [.ref n, x1, x2, x3] (st) hi g Φ := AP.aload_n (x := n) (i := 0) d_X9_setWeight_31 rfl rfl h
theorem d_X9_setWeight_32 : decode cX9_setWeight 32 = .ok (.getfield 20, 3) := by decide +kernel
theorem s_X9_setWeight_32 {k r : Nat} (hI : am_Inv g) (hs : am_SH k = (0, 9)) (hk : k < 134) (hr : am_HRf k 1 = some r) (hn : k ≠ 39) (h : AP M_X9_setWeight b 35 [x0, x1, x2, x3] (.ref r :: st) hi g Φ) : AP M_X9_setWeight b 32 [x0, x1, x2, x3] (.ref k :: st) hi g Φ := AP.getR (j := 1) (q := (RX9, TX9, 7)) d_X9_setWeight_32 hs (hI.lt hk) rfl (by decide) (by decide) w_346 (hI.r hn hr) h
theorem d_X9_setWeight_35 : decode cX9_setWeight 35 = .ok (.getfield 110, 3) := by decide +kernel
theorem s_X9_setWeight_35 {k r : Nat} (hI : am_Inv g) (hs : am_SH k = (0, 6)) (hk : k < 134) (hr : am_HRf k 1 = some r) (hn : k ≠ 39) (h : AP M_X9_setWeight b 38 [x0, x1, x2, x3] (.ref r :: st) hi g Φ) : AP M_X9_setWeight b 35 [x0, x1, x2, x3] (.ref k :: st) hi g Φ := AP.getR (j := 1) (q := (RX6, TX6, 8)) d_X9_setWeight_35 hs (hI.lt hk) rfl (by decide) (by decide) w_163 (hI.r hn hr) h
theorem d_X9_setWeight_38 : decode cX9_setWeight 38 = .ok (.iload_n 1, 1) := by decide +kernel
theorem s_X9_setWeight_38 {n : Int32} (h : AP M_X9_setWeight b 39 [x0, .int n, x2, x3] (.int n :: st) hi g Φ) : AP M_X9_setWeight b 38 [x0, .int n, x2, x3] (st) hi g Φ := AP.iload_n (x := n) (i := 1) d_X9_setWeight_38 rfl rfl h
theorem d_X9_setWeight_39 : decode cX9_setWeight 39 = .ok (.iconst 1, 1) := by decide +kernel
theorem s_X9_setWeight_39 (h : AP M_X9_setWeight b 40 [x0, x1, x2, x3] (.int 1 :: st) hi g Φ) : AP M_X9_setWeight b 39 [x0, x1, x2, x3] (st) hi g Φ := AP.iconst (x := 1) d_X9_setWeight_39 (by decide) h
theorem d_X9_setWeight_40 : decode cX9_setWeight 40 = .ok (.isub, 1) := by decide +kernel
theorem s_X9_setWeight_40 {x y : Int32} (h : AP M_X9_setWeight b 41 [x0, x1, x2, x3] (.int (x - y) :: st) hi g Φ) : AP M_X9_setWeight b 40 [x0, x1, x2, x3] (.int y :: .int x :: st) hi g Φ := AP.isub d_X9_setWeight_40 h
theorem d_X9_setWeight_41 : decode cX9_setWeight 41 = .ok (.iaload, 1) := by decide +kernel
theorem s_X9_setWeight_41 {k n j : Nat} {i : Int32} (hI : am_Inv g) (hs : am_SH k = (1, n)) (hk : k < 134) (hn : n < 2 ^ 31) (hx : i = nI j) (hj : j < n) (h : AP M_X9_setWeight b 42 [x0, x1, x2, x3] (.int (hi k j) :: st) hi g Φ) : AP M_X9_setWeight b 41 [x0, x1, x2, x3] (.int i :: .ref k :: st) hi g Φ := AP.iald d_X9_setWeight_41 hs (hI.lt hk) hn hx hj h
theorem d_X9_setWeight_42 : decode cX9_setWeight 42 = .ok (.istore_n 3, 1) := by decide +kernel
theorem s_X9_setWeight_42 {n : Int32} (hc : x2.category = 1) (h : AP M_X9_setWeight b 43 [x0, x1, x2, .int n] (st) hi g Φ) : AP M_X9_setWeight b 42 [x0, x1, x2, x3] (.int n :: st) hi g Φ := AP.istore_n (x := n) (i := 3) d_X9_setWeight_42 rfl (by decide) (by simp [am_st, am_ci, am_cr, am_cl, am_cd, hc]) h
theorem d_X9_setWeight_43 : decode cX9_setWeight 43 = .ok (.aload_n 0, 1) := by decide +kernel
theorem s_X9_setWeight_43 {n : Nat} (h : AP M_X9_setWeight b 44 [.ref n, x1, x2, x3] (.ref n :: st) hi g Φ) : AP M_X9_setWeight b 43 [.ref n, x1, x2, x3] (st) hi g Φ := AP.aload_n (x := n) (i := 0) d_X9_setWeight_43 rfl rfl h
theorem d_X9_setWeight_44 : decode cX9_setWeight 44 = .ok (.getfield 20, 3) := by decide +kernel
theorem s_X9_setWeight_44 {k r : Nat} (hI : am_Inv g) (hs : am_SH k = (0, 9)) (hk : k < 134) (hr : am_HRf k 1 = some r) (hn : k ≠ 39) (h : AP M_X9_setWeight b 47 [x0, x1, x2, x3] (.ref r :: st) hi g Φ) : AP M_X9_setWeight b 44 [x0, x1, x2, x3] (.ref k :: st) hi g Φ := AP.getR (j := 1) (q := (RX9, TX9, 7)) d_X9_setWeight_44 hs (hI.lt hk) rfl (by decide) (by decide) w_346 (hI.r hn hr) h
theorem d_X9_setWeight_47 : decode cX9_setWeight 47 = .ok (.getfield 110, 3) := by decide +kernel
theorem s_X9_setWeight_47 {k r : Nat} (hI : am_Inv g) (hs : am_SH k = (0, 6)) (hk : k < 134) (hr : am_HRf k 1 = some r) (hn : k ≠ 39) (h : AP M_X9_setWeight b 50 [x0, x1, x2, x3] (.ref r :: st) hi g Φ) : AP M_X9_setWeight b 47 [x0, x1, x2, x3] (.ref k :: st) hi g Φ := AP.getR (j := 1) (q := (RX6, TX6, 8)) d_X9_setWeight_47 hs (hI.lt hk) rfl (by decide) (by decide) w_163 (hI.r hn hr) h
theorem d_X9_setWeight_50 : decode cX9_setWeight 50 = .ok (.iload_n 1, 1) := by decide +kernel
theorem s_X9_setWeight_50 {n : Int32} (h : AP M_X9_setWeight b 51 [x0, .int n, x2, x3] (.int n :: st) hi g Φ) : AP M_X9_setWeight b 50 [x0, .int n, x2, x3] (st) hi g Φ := AP.iload_n (x := n) (i := 1) d_X9_setWeight_50 rfl rfl h
theorem d_X9_setWeight_51 : decode cX9_setWeight 51 = .ok (.iconst 1, 1) := by decide +kernel
theorem s_X9_setWeight_51 (h : AP M_X9_setWeight b 52 [x0, x1, x2, x3] (.int 1 :: st) hi g Φ) : AP M_X9_setWeight b 51 [x0, x1, x2, x3] (st) hi g Φ := AP.iconst (x := 1) d_X9_setWeight_51 (by decide) h
theorem d_X9_setWeight_52 : decode cX9_setWeight 52 = .ok (.isub, 1) := by decide +kernel
theorem s_X9_setWeight_52 {x y : Int32} (h : AP M_X9_setWeight b 53 [x0, x1, x2, x3] (.int (x - y) :: st) hi g Φ) : AP M_X9_setWeight b 52 [x0, x1, x2, x3] (.int y :: .int x :: st) hi g Φ := AP.isub d_X9_setWeight_52 h
theorem d_X9_setWeight_53 : decode cX9_setWeight 53 = .ok (.iload_n 2, 1) := by decide +kernel
theorem s_X9_setWeight_53 {n : Int32} (h : AP M_X9_setWeight b 54 [x0, x1, .int n, x3] (.int n :: st) hi g Φ) : AP M_X9_setWeight b 53 [x0, x1, .int n, x3] (st) hi g Φ := AP.iload_n (x := n) (i := 2) d_X9_setWeight_53 rfl rfl h
theorem d_X9_setWeight_54 : decode cX9_setWeight 54 = .ok (.iastore, 1) := by decide +kernel
theorem s_X9_setWeight_54 {k n j : Nat} {i x : Int32} (hI : am_Inv g) (hs : am_SH k = (1, n)) (hk : k < 134) (hn : n < 2 ^ 31) (hx : i = nI j) (hj : j < n) (h : AP M_X9_setWeight b 55 [x0, x1, x2, x3] (st) (am_up hi k j x) g Φ) : AP M_X9_setWeight b 54 [x0, x1, x2, x3] (.int x :: .int i :: .ref k :: st) hi g Φ := AP.iast d_X9_setWeight_54 hs (hI.lt hk) hn hx hj h
theorem d_X9_setWeight_55 : decode cX9_setWeight 55 = .ok (.iload_n 3, 1) := by decide +kernel
theorem s_X9_setWeight_55 {n : Int32} (h : AP M_X9_setWeight b 56 [x0, x1, x2, .int n] (.int n :: st) hi g Φ) : AP M_X9_setWeight b 55 [x0, x1, x2, .int n] (st) hi g Φ := AP.iload_n (x := n) (i := 3) d_X9_setWeight_55 rfl rfl h
theorem d_X9_setWeight_56 : decode cX9_setWeight 56 = .ok (.ireturn, 1) := by decide +kernel
theorem s_X9_setWeight_56 {x : Int32} (h : Φ (.ok (some (.int x))) hi g) : AP M_X9_setWeight b 56 [x0, x1, x2, x3] [.int x] hi g Φ := AP.iret d_X9_setWeight_56 rfl h
end
section
variable {b : Nat × Nat} {st : List Value} {hi : am_HI} {g : am_G} {Φ : am_P} {x0 x1 : Value}
theorem d_X9_sumOf_0 : decode cX9_sumOf 0 = .ok (.iload_n 1, 1) := by decide +kernel
theorem s_X9_sumOf_0 {n : Int32} (h : AP M_X9_sumOf b 1 [x0, .int n] (.int n :: st) hi g Φ) : AP M_X9_sumOf b 0 [x0, .int n] (st) hi g Φ := AP.iload_n (x := n) (i := 1) d_X9_sumOf_0 rfl rfl h
theorem d_X9_sumOf_1 : decode cX9_sumOf 1 = .ok (.invokestatic 113, 3) := by decide +kernel
theorem s_X9_sumOf_1 {a0 : Int32} {r0 : Int32} {P : am_HI → Prop} (hI : am_Inv g) (hst : (st.map Value.category).sum ≤ 8) (hc : am_Cr M_X9_isKind [.int a0] hi g (some (.int r0)) P) (h : ∀ hi' : am_HI, P hi' → AP M_X9_sumOf b 4 [x0, x1] (.int r0 :: st) hi' g Φ) : AP M_X9_sumOf b 1 [x0, x1] (.int a0 :: st) hi g Φ := AP.callSr (As := [.int a0]) hI hc k_X9_sumOf_113 d_X9_sumOf_1 rfl hst h
theorem d_X9_sumOf_4 : decode cX9_sumOf 4 = .ok (.invokestatic 62, 3) := by decide +kernel
theorem s_X9_sumOf_4 {a0 : Int32} {P : am_HI → Prop} (hI : am_Inv g) (hst : (st.map Value.category).sum ≤ 8) (hc : am_Cr M_X9_needArgument [.int a0] hi g none P) (h : ∀ hi' : am_HI, P hi' → AP M_X9_sumOf b 7 [x0, x1] (st) hi' g Φ) : AP M_X9_sumOf b 4 [x0, x1] (.int a0 :: st) hi g Φ := AP.callSr (As := [.int a0]) hI hc k_X9_sumOf_62 d_X9_sumOf_4 rfl hst h
theorem d_X9_sumOf_7 : decode cX9_sumOf 7 = .ok (.aload_n 0, 1) := by decide +kernel
theorem s_X9_sumOf_7 {n : Nat} (h : AP M_X9_sumOf b 8 [.ref n, x1] (.ref n :: st) hi g Φ) : AP M_X9_sumOf b 7 [.ref n, x1] (st) hi g Φ := AP.aload_n (x := n) (i := 0) d_X9_sumOf_7 rfl rfl h
theorem d_X9_sumOf_8 : decode cX9_sumOf 8 = .ok (.getfield 12, 3) := by decide +kernel
theorem s_X9_sumOf_8 {k r : Nat} (hI : am_Inv g) (hs : am_SH k = (0, 9)) (hk : k < 134) (hr : am_HRf k 0 = some r) (hn : k ≠ 39) (h : AP M_X9_sumOf b 11 [x0, x1] (.ref r :: st) hi g Φ) : AP M_X9_sumOf b 8 [x0, x1] (.ref k :: st) hi g Φ := AP.getR (j := 0) (q := (RX9, TX9, 7)) d_X9_sumOf_8 hs (hI.lt hk) rfl (by decide) (by decide) w_345 (hI.r hn hr) h
theorem d_X9_sumOf_11 : decode cX9_sumOf 11 = .ok (.iload_n 1, 1) := by decide +kernel
theorem s_X9_sumOf_11 {n : Int32} (h : AP M_X9_sumOf b 12 [x0, .int n] (.int n :: st) hi g Φ) : AP M_X9_sumOf b 11 [x0, .int n] (st) hi g Φ := AP.iload_n (x := n) (i := 1) d_X9_sumOf_11 rfl rfl h
theorem d_X9_sumOf_12 : decode cX9_sumOf 12 = .ok (.invokevirtual 170, 3) := by decide +kernel
theorem s_X9_sumOf_12 {a0 : Int32} {k : Nat} {r0 : Int32} {P : am_HI → Prop} (hI : am_Inv g) (hs : am_SH k = (0, 7)) (hk : k < 134) (hst : (st.map Value.category).sum ≤ 8) (hc : am_Cr M_X7_sumBy [.ref k, .int a0] hi g (some (.int r0)) P) (h : ∀ hi' : am_HI, P hi' → AP M_X9_sumOf b 15 [x0, x1] (.int r0 :: st) hi' g Φ) : AP M_X9_sumOf b 12 [x0, x1] (.int a0 :: .ref k :: st) hi g Φ := AP.callVr (As := [.int a0]) (q := (RX7, TX7, 7)) hI hc k_X9_sumOf_170 d_X9_sumOf_12 rfl hs hk rfl rfl hst h
theorem d_X9_sumOf_15 : decode cX9_sumOf 15 = .ok (.ireturn, 1) := by decide +kernel
theorem s_X9_sumOf_15 {x : Int32} (h : Φ (.ok (some (.int x))) hi g) : AP M_X9_sumOf b 15 [x0, x1] [.int x] hi g Φ := AP.iret d_X9_sumOf_15 rfl h
end
section
variable {b : Nat × Nat} {st : List Value} {hi : am_HI} {g : am_G} {Φ : am_P} {x0 x1 : Value}
theorem d_X9_sumWithDelay_0 : decode cX9_sumWithDelay 0 = .ok (.iload_n 1, 1) := by decide +kernel
theorem s_X9_sumWithDelay_0 {n : Int32} (h : AP M_X9_sumWithDelay b 1 [x0, .int n] (.int n :: st) hi g Φ) : AP M_X9_sumWithDelay b 0 [x0, .int n] (st) hi g Φ := AP.iload_n (x := n) (i := 1) d_X9_sumWithDelay_0 rfl rfl h
theorem d_X9_sumWithDelay_1 : decode cX9_sumWithDelay 1 = .ok (.iconst 1, 1) := by decide +kernel
theorem s_X9_sumWithDelay_1 (h : AP M_X9_sumWithDelay b 2 [x0, x1] (.int 1 :: st) hi g Φ) : AP M_X9_sumWithDelay b 1 [x0, x1] (st) hi g Φ := AP.iconst (x := 1) d_X9_sumWithDelay_1 (by decide) h
theorem d_X9_sumWithDelay_2 : decode cX9_sumWithDelay 2 = .ok (.bipush 12, 2) := by decide +kernel
theorem s_X9_sumWithDelay_2 (h : AP M_X9_sumWithDelay b 4 [x0, x1] (.int 12 :: st) hi g Φ) : AP M_X9_sumWithDelay b 2 [x0, x1] (st) hi g Φ := AP.bipush (x := 12) d_X9_sumWithDelay_2 (by decide) h
theorem d_X9_sumWithDelay_4 : decode cX9_sumWithDelay 4 = .ok (.invokestatic 58, 3) := by decide +kernel
theorem s_X9_sumWithDelay_4 {a0 : Int32} {a1 : Int32} {a2 : Int32} {r0 : Int32} {P : am_HI → Prop} (hI : am_Inv g) (hst : (st.map Value.category).sum ≤ 8) (hc : am_Cr M_X9_isWithin [.int a0, .int a1, .int a2] hi g (some (.int r0)) P) (h : ∀ hi' : am_HI, P hi' → AP M_X9_sumWithDelay b 7 [x0, x1] (.int r0 :: st) hi' g Φ) : AP M_X9_sumWithDelay b 4 [x0, x1] (.int a2 :: .int a1 :: .int a0 :: st) hi g Φ := AP.callSr (As := [.int a0, .int a1, .int a2]) hI hc k_X9_sumWithDelay_58 d_X9_sumWithDelay_4 rfl hst h
theorem d_X9_sumWithDelay_7 : decode cX9_sumWithDelay 7 = .ok (.invokestatic 62, 3) := by decide +kernel
theorem s_X9_sumWithDelay_7 {a0 : Int32} {P : am_HI → Prop} (hI : am_Inv g) (hst : (st.map Value.category).sum ≤ 8) (hc : am_Cr M_X9_needArgument [.int a0] hi g none P) (h : ∀ hi' : am_HI, P hi' → AP M_X9_sumWithDelay b 10 [x0, x1] (st) hi' g Φ) : AP M_X9_sumWithDelay b 7 [x0, x1] (.int a0 :: st) hi g Φ := AP.callSr (As := [.int a0]) hI hc k_X9_sumWithDelay_62 d_X9_sumWithDelay_7 rfl hst h
theorem d_X9_sumWithDelay_10 : decode cX9_sumWithDelay 10 = .ok (.aload_n 0, 1) := by decide +kernel
theorem s_X9_sumWithDelay_10 {n : Nat} (h : AP M_X9_sumWithDelay b 11 [.ref n, x1] (.ref n :: st) hi g Φ) : AP M_X9_sumWithDelay b 10 [.ref n, x1] (st) hi g Φ := AP.aload_n (x := n) (i := 0) d_X9_sumWithDelay_10 rfl rfl h
theorem d_X9_sumWithDelay_11 : decode cX9_sumWithDelay 11 = .ok (.getfield 12, 3) := by decide +kernel
theorem s_X9_sumWithDelay_11 {k r : Nat} (hI : am_Inv g) (hs : am_SH k = (0, 9)) (hk : k < 134) (hr : am_HRf k 0 = some r) (hn : k ≠ 39) (h : AP M_X9_sumWithDelay b 14 [x0, x1] (.ref r :: st) hi g Φ) : AP M_X9_sumWithDelay b 11 [x0, x1] (.ref k :: st) hi g Φ := AP.getR (j := 0) (q := (RX9, TX9, 7)) d_X9_sumWithDelay_11 hs (hI.lt hk) rfl (by decide) (by decide) w_345 (hI.r hn hr) h
theorem d_X9_sumWithDelay_14 : decode cX9_sumWithDelay 14 = .ok (.iconst 3, 1) := by decide +kernel
theorem s_X9_sumWithDelay_14 (h : AP M_X9_sumWithDelay b 15 [x0, x1] (.int 3 :: st) hi g Φ) : AP M_X9_sumWithDelay b 14 [x0, x1] (st) hi g Φ := AP.iconst (x := 3) d_X9_sumWithDelay_14 (by decide) h
theorem d_X9_sumWithDelay_15 : decode cX9_sumWithDelay 15 = .ok (.iload_n 1, 1) := by decide +kernel
theorem s_X9_sumWithDelay_15 {n : Int32} (h : AP M_X9_sumWithDelay b 16 [x0, .int n] (.int n :: st) hi g Φ) : AP M_X9_sumWithDelay b 15 [x0, .int n] (st) hi g Φ := AP.iload_n (x := n) (i := 1) d_X9_sumWithDelay_15 rfl rfl h
theorem d_X9_sumWithDelay_16 : decode cX9_sumWithDelay 16 = .ok (.aload_n 0, 1) := by decide +kernel
theorem s_X9_sumWithDelay_16 {n : Nat} (h : AP M_X9_sumWithDelay b 17 [.ref n, x1] (.ref n :: st) hi g Φ) : AP M_X9_sumWithDelay b 16 [.ref n, x1] (st) hi g Φ := AP.aload_n (x := n) (i := 0) d_X9_sumWithDelay_16 rfl rfl h
theorem d_X9_sumWithDelay_17 : decode cX9_sumWithDelay 17 = .ok (.getfield 20, 3) := by decide +kernel
theorem s_X9_sumWithDelay_17 {k r : Nat} (hI : am_Inv g) (hs : am_SH k = (0, 9)) (hk : k < 134) (hr : am_HRf k 1 = some r) (hn : k ≠ 39) (h : AP M_X9_sumWithDelay b 20 [x0, x1] (.ref r :: st) hi g Φ) : AP M_X9_sumWithDelay b 17 [x0, x1] (.ref k :: st) hi g Φ := AP.getR (j := 1) (q := (RX9, TX9, 7)) d_X9_sumWithDelay_17 hs (hI.lt hk) rfl (by decide) (by decide) w_346 (hI.r hn hr) h
theorem d_X9_sumWithDelay_20 : decode cX9_sumWithDelay 20 = .ok (.getfield 107, 3) := by decide +kernel
theorem s_X9_sumWithDelay_20 {k : Nat} (hI : am_Inv g) (hs : am_SH k = (0, 6)) (hk : k < 134) (h : AP M_X9_sumWithDelay b 23 [x0, x1] (.int (hi k 5) :: st) hi g Φ) : AP M_X9_sumWithDelay b 20 [x0, x1] (.ref k :: st) hi g Φ := AP.getI (j := 5) (q := (RX6, TX6, 8)) d_X9_sumWithDelay_20 hs (hI.lt hk) rfl (by decide) (by decide) w_174 h
theorem d_X9_sumWithDelay_23 : decode cX9_sumWithDelay 23 = .ok (.aload_n 0, 1) := by decide +kernel
theorem s_X9_sumWithDelay_23 {n : Nat} (h : AP M_X9_sumWithDelay b 24 [.ref n, x1] (.ref n :: st) hi g Φ) : AP M_X9_sumWithDelay b 23 [.ref n, x1] (st) hi g Φ := AP.aload_n (x := n) (i := 0) d_X9_sumWithDelay_23 rfl rfl h
theorem d_X9_sumWithDelay_24 : decode cX9_sumWithDelay 24 = .ok (.getfield 20, 3) := by decide +kernel
theorem s_X9_sumWithDelay_24 {k r : Nat} (hI : am_Inv g) (hs : am_SH k = (0, 9)) (hk : k < 134) (hr : am_HRf k 1 = some r) (hn : k ≠ 39) (h : AP M_X9_sumWithDelay b 27 [x0, x1] (.ref r :: st) hi g Φ) : AP M_X9_sumWithDelay b 24 [x0, x1] (.ref k :: st) hi g Φ := AP.getR (j := 1) (q := (RX9, TX9, 7)) d_X9_sumWithDelay_24 hs (hI.lt hk) rfl (by decide) (by decide) w_346 (hI.r hn hr) h
theorem d_X9_sumWithDelay_27 : decode cX9_sumWithDelay 27 = .ok (.getfield 110, 3) := by decide +kernel
theorem s_X9_sumWithDelay_27 {k r : Nat} (hI : am_Inv g) (hs : am_SH k = (0, 6)) (hk : k < 134) (hr : am_HRf k 1 = some r) (hn : k ≠ 39) (h : AP M_X9_sumWithDelay b 30 [x0, x1] (.ref r :: st) hi g Φ) : AP M_X9_sumWithDelay b 27 [x0, x1] (.ref k :: st) hi g Φ := AP.getR (j := 1) (q := (RX6, TX6, 8)) d_X9_sumWithDelay_27 hs (hI.lt hk) rfl (by decide) (by decide) w_163 (hI.r hn hr) h
theorem d_X9_sumWithDelay_30 : decode cX9_sumWithDelay 30 = .ok (.invokevirtual 173, 3) := by decide +kernel
theorem s_X9_sumWithDelay_30 {a0 : Int32} {a1 : Int32} {a2 : Int32} {a3 : Nat} {k : Nat} {r0 : Int32} {P : am_HI → Prop} (hI : am_Inv g) (hs : am_SH k = (0, 7)) (hk : k < 134) (hst : (st.map Value.category).sum ≤ 8) (hc : am_Cr M_X7_sumIf [.ref k, .int a0, .int a1, .int a2, .ref a3] hi g (some (.int r0)) P) (h : ∀ hi' : am_HI, P hi' → AP M_X9_sumWithDelay b 33 [x0, x1] (.int r0 :: st) hi' g Φ) : AP M_X9_sumWithDelay b 30 [x0, x1] (.ref a3 :: .int a2 :: .int a1 :: .int a0 :: .ref k :: st) hi g Φ := AP.callVr (As := [.int a0, .int a1, .int a2, .ref a3]) (q := (RX7, TX7, 7)) hI hc k_X9_sumWithDelay_173 d_X9_sumWithDelay_30 rfl hs hk rfl rfl hst h
theorem d_X9_sumWithDelay_33 : decode cX9_sumWithDelay 33 = .ok (.ireturn, 1) := by decide +kernel
theorem s_X9_sumWithDelay_33 {x : Int32} (h : Φ (.ok (some (.int x))) hi g) : AP M_X9_sumWithDelay b 33 [x0, x1] [.int x] hi g Φ := AP.iret d_X9_sumWithDelay_33 rfl h
end
section
variable {b : Nat × Nat} {st : List Value} {hi : am_HI} {g : am_G} {Φ : am_P} {x0 x1 x2 x3 : Value}
theorem d_X9_tamper_0 : decode cX9_tamper 0 = .ok (.aload_n 0, 1) := by decide +kernel
theorem s_X9_tamper_0 {n : Nat} (h : AP M_X9_tamper b 1 [.ref n, x1, x2, x3] (.ref n :: st) hi g Φ) : AP M_X9_tamper b 0 [.ref n, x1, x2, x3] (st) hi g Φ := AP.aload_n (x := n) (i := 0) d_X9_tamper_0 rfl rfl h
theorem d_X9_tamper_1 : decode cX9_tamper 1 = .ok (.iload_n 1, 1) := by decide +kernel
theorem s_X9_tamper_1 {n : Int32} (h : AP M_X9_tamper b 2 [x0, .int n, x2, x3] (.int n :: st) hi g Φ) : AP M_X9_tamper b 1 [x0, .int n, x2, x3] (st) hi g Φ := AP.iload_n (x := n) (i := 1) d_X9_tamper_1 rfl rfl h
theorem d_X9_tamper_2 : decode cX9_tamper 2 = .ok (.invokevirtual 139, 3) := by decide +kernel
theorem s_X9_tamper_2 {a0 : Int32} {k : Nat} {r0 : Int32} {P : am_HI → Prop} (hI : am_Inv g) (hs : am_SH k = (0, 9)) (hk : k < 134) (hst : (st.map Value.category).sum ≤ 8) (hc : am_Cr M_X9_isTold [.ref k, .int a0] hi g (some (.int r0)) P) (h : ∀ hi' : am_HI, P hi' → AP M_X9_tamper b 5 [x0, x1, x2, x3] (.int r0 :: st) hi' g Φ) : AP M_X9_tamper b 2 [x0, x1, x2, x3] (.int a0 :: .ref k :: st) hi g Φ := AP.callVr (As := [.int a0]) (q := (RX9, TX9, 7)) hI hc k_X9_tamper_139 d_X9_tamper_2 rfl hs hk rfl rfl hst h
theorem d_X9_tamper_5 : decode cX9_tamper 5 = .ok (.invokestatic 97, 3) := by decide +kernel
theorem s_X9_tamper_5 {a0 : Int32} {P : am_HI → Prop} (hI : am_Inv g) (hst : (st.map Value.category).sum ≤ 8) (hc : am_Cr M_X9_needIndex [.int a0] hi g none P) (h : ∀ hi' : am_HI, P hi' → AP M_X9_tamper b 8 [x0, x1, x2, x3] (st) hi' g Φ) : AP M_X9_tamper b 5 [x0, x1, x2, x3] (.int a0 :: st) hi g Φ := AP.callSr (As := [.int a0]) hI hc k_X9_tamper_97 d_X9_tamper_5 rfl hst h
theorem d_X9_tamper_8 : decode cX9_tamper 8 = .ok (.iload_n 2, 1) := by decide +kernel
theorem s_X9_tamper_8 {n : Int32} (h : AP M_X9_tamper b 9 [x0, x1, .int n, x3] (.int n :: st) hi g Φ) : AP M_X9_tamper b 8 [x0, x1, .int n, x3] (st) hi g Φ := AP.iload_n (x := n) (i := 2) d_X9_tamper_8 rfl rfl h
theorem d_X9_tamper_9 : decode cX9_tamper 9 = .ok (.sipush (-198), 3) := by decide +kernel
theorem s_X9_tamper_9 (h : AP M_X9_tamper b 12 [x0, x1, x2, x3] (.int (-198) :: st) hi g Φ) : AP M_X9_tamper b 9 [x0, x1, x2, x3] (st) hi g Φ := AP.sipush (x := (-198)) d_X9_tamper_9 (by decide) h
theorem d_X9_tamper_12 : decode cX9_tamper 12 = .ok (.sipush 198, 3) := by decide +kernel
theorem s_X9_tamper_12 (h : AP M_X9_tamper b 15 [x0, x1, x2, x3] (.int 198 :: st) hi g Φ) : AP M_X9_tamper b 12 [x0, x1, x2, x3] (st) hi g Φ := AP.sipush (x := 198) d_X9_tamper_12 (by decide) h
theorem d_X9_tamper_15 : decode cX9_tamper 15 = .ok (.invokestatic 58, 3) := by decide +kernel
theorem s_X9_tamper_15 {a0 : Int32} {a1 : Int32} {a2 : Int32} {r0 : Int32} {P : am_HI → Prop} (hI : am_Inv g) (hst : (st.map Value.category).sum ≤ 8) (hc : am_Cr M_X9_isWithin [.int a0, .int a1, .int a2] hi g (some (.int r0)) P) (h : ∀ hi' : am_HI, P hi' → AP M_X9_tamper b 18 [x0, x1, x2, x3] (.int r0 :: st) hi' g Φ) : AP M_X9_tamper b 15 [x0, x1, x2, x3] (.int a2 :: .int a1 :: .int a0 :: st) hi g Φ := AP.callSr (As := [.int a0, .int a1, .int a2]) hI hc k_X9_tamper_58 d_X9_tamper_15 rfl hst h
theorem d_X9_tamper_18 : decode cX9_tamper 18 = .ok (.invokestatic 62, 3) := by decide +kernel
theorem s_X9_tamper_18 {a0 : Int32} {P : am_HI → Prop} (hI : am_Inv g) (hst : (st.map Value.category).sum ≤ 8) (hc : am_Cr M_X9_needArgument [.int a0] hi g none P) (h : ∀ hi' : am_HI, P hi' → AP M_X9_tamper b 21 [x0, x1, x2, x3] (st) hi' g Φ) : AP M_X9_tamper b 18 [x0, x1, x2, x3] (.int a0 :: st) hi g Φ := AP.callSr (As := [.int a0]) hI hc k_X9_tamper_62 d_X9_tamper_18 rfl hst h
theorem d_X9_tamper_21 : decode cX9_tamper 21 = .ok (.aload_n 0, 1) := by decide +kernel
theorem s_X9_tamper_21 {n : Nat} (h : AP M_X9_tamper b 22 [.ref n, x1, x2, x3] (.ref n :: st) hi g Φ) : AP M_X9_tamper b 21 [.ref n, x1, x2, x3] (st) hi g Φ := AP.aload_n (x := n) (i := 0) d_X9_tamper_21 rfl rfl h
theorem d_X9_tamper_22 : decode cX9_tamper 22 = .ok (.getfield 26, 3) := by decide +kernel
theorem s_X9_tamper_22 {k r : Nat} (hI : am_Inv g) (hs : am_SH k = (0, 9)) (hk : k < 134) (hr : am_HRf k 2 = some r) (hn : k ≠ 39) (h : AP M_X9_tamper b 25 [x0, x1, x2, x3] (.ref r :: st) hi g Φ) : AP M_X9_tamper b 22 [x0, x1, x2, x3] (.ref k :: st) hi g Φ := AP.getR (j := 2) (q := (RX9, TX9, 7)) d_X9_tamper_22 hs (hI.lt hk) rfl (by decide) (by decide) w_347 (hI.r hn hr) h
theorem d_X9_tamper_25 : decode cX9_tamper 25 = .ok (.aload_n 0, 1) := by decide +kernel
theorem s_X9_tamper_25 {n : Nat} (h : AP M_X9_tamper b 26 [.ref n, x1, x2, x3] (.ref n :: st) hi g Φ) : AP M_X9_tamper b 25 [.ref n, x1, x2, x3] (st) hi g Φ := AP.aload_n (x := n) (i := 0) d_X9_tamper_25 rfl rfl h
theorem d_X9_tamper_26 : decode cX9_tamper 26 = .ok (.getfield 20, 3) := by decide +kernel
theorem s_X9_tamper_26 {k r : Nat} (hI : am_Inv g) (hs : am_SH k = (0, 9)) (hk : k < 134) (hr : am_HRf k 1 = some r) (hn : k ≠ 39) (h : AP M_X9_tamper b 29 [x0, x1, x2, x3] (.ref r :: st) hi g Φ) : AP M_X9_tamper b 26 [x0, x1, x2, x3] (.ref k :: st) hi g Φ := AP.getR (j := 1) (q := (RX9, TX9, 7)) d_X9_tamper_26 hs (hI.lt hk) rfl (by decide) (by decide) w_346 (hI.r hn hr) h
theorem d_X9_tamper_29 : decode cX9_tamper 29 = .ok (.invokevirtual 75, 3) := by decide +kernel
theorem s_X9_tamper_29 {a0 : Nat} {k : Nat} {P : am_HI → Prop} (hI : am_Inv g) (hs : am_SH k = (0, 1)) (hk : k < 134) (hst : (st.map Value.category).sum ≤ 8) (hc : am_Cr M_X1_save [.ref k, .ref a0] hi g none P) (h : ∀ hi' : am_HI, P hi' → AP M_X9_tamper b 32 [x0, x1, x2, x3] (st) hi' g Φ) : AP M_X9_tamper b 29 [x0, x1, x2, x3] (.ref a0 :: .ref k :: st) hi g Φ := AP.callVr (As := [.ref a0]) (q := (RX1, TX1, 2)) hI hc k_X9_tamper_75 d_X9_tamper_29 rfl hs hk rfl rfl hst h
theorem d_X9_tamper_32 : decode cX9_tamper 32 = .ok (.aload_n 0, 1) := by decide +kernel
theorem s_X9_tamper_32 {n : Nat} (h : AP M_X9_tamper b 33 [.ref n, x1, x2, x3] (.ref n :: st) hi g Φ) : AP M_X9_tamper b 32 [.ref n, x1, x2, x3] (st) hi g Φ := AP.aload_n (x := n) (i := 0) d_X9_tamper_32 rfl rfl h
theorem d_X9_tamper_33 : decode cX9_tamper 33 = .ok (.getfield 20, 3) := by decide +kernel
theorem s_X9_tamper_33 {k r : Nat} (hI : am_Inv g) (hs : am_SH k = (0, 9)) (hk : k < 134) (hr : am_HRf k 1 = some r) (hn : k ≠ 39) (h : AP M_X9_tamper b 36 [x0, x1, x2, x3] (.ref r :: st) hi g Φ) : AP M_X9_tamper b 33 [x0, x1, x2, x3] (.ref k :: st) hi g Φ := AP.getR (j := 1) (q := (RX9, TX9, 7)) d_X9_tamper_33 hs (hI.lt hk) rfl (by decide) (by decide) w_346 (hI.r hn hr) h
theorem d_X9_tamper_36 : decode cX9_tamper 36 = .ok (.getfield 129, 3) := by decide +kernel
theorem s_X9_tamper_36 {k r : Nat} (hI : am_Inv g) (hs : am_SH k = (0, 6)) (hk : k < 134) (hr : am_HRf k 2 = some r) (hn : k ≠ 39) (h : AP M_X9_tamper b 39 [x0, x1, x2, x3] (.ref r :: st) hi g Φ) : AP M_X9_tamper b 36 [x0, x1, x2, x3] (.ref k :: st) hi g Φ := AP.getR (j := 2) (q := (RX6, TX6, 8)) d_X9_tamper_36 hs (hI.lt hk) rfl (by decide) (by decide) w_165 (hI.r hn hr) h
theorem d_X9_tamper_39 : decode cX9_tamper 39 = .ok (.getfield 142, 3) := by decide +kernel
theorem s_X9_tamper_39 {k r : Nat} (hI : am_Inv g) (hs : am_SH k = (0, 2)) (hk : k < 134) (hr : am_HRf k 3 = some r) (hn : k ≠ 39) (h : AP M_X9_tamper b 42 [x0, x1, x2, x3] (.ref r :: st) hi g Φ) : AP M_X9_tamper b 39 [x0, x1, x2, x3] (.ref k :: st) hi g Φ := AP.getR (j := 3) (q := (RX2, TX2, 8)) d_X9_tamper_39 hs (hI.lt hk) rfl (by decide) (by decide) w_126 (hI.r hn hr) h
theorem d_X9_tamper_42 : decode cX9_tamper 42 = .ok (.iload_n 1, 1) := by decide +kernel
theorem s_X9_tamper_42 {n : Int32} (h : AP M_X9_tamper b 43 [x0, .int n, x2, x3] (.int n :: st) hi g Φ) : AP M_X9_tamper b 42 [x0, .int n, x2, x3] (st) hi g Φ := AP.iload_n (x := n) (i := 1) d_X9_tamper_42 rfl rfl h
theorem d_X9_tamper_43 : decode cX9_tamper 43 = .ok (.iaload, 1) := by decide +kernel
theorem s_X9_tamper_43 {k n j : Nat} {i : Int32} (hI : am_Inv g) (hs : am_SH k = (1, n)) (hk : k < 134) (hn : n < 2 ^ 31) (hx : i = nI j) (hj : j < n) (h : AP M_X9_tamper b 44 [x0, x1, x2, x3] (.int (hi k j) :: st) hi g Φ) : AP M_X9_tamper b 43 [x0, x1, x2, x3] (.int i :: .ref k :: st) hi g Φ := AP.iald d_X9_tamper_43 hs (hI.lt hk) hn hx hj h
theorem d_X9_tamper_44 : decode cX9_tamper 44 = .ok (.istore_n 3, 1) := by decide +kernel
theorem s_X9_tamper_44 {n : Int32} (hc : x2.category = 1) (h : AP M_X9_tamper b 45 [x0, x1, x2, .int n] (st) hi g Φ) : AP M_X9_tamper b 44 [x0, x1, x2, x3] (.int n :: st) hi g Φ := AP.istore_n (x := n) (i := 3) d_X9_tamper_44 rfl (by decide) (by simp [am_st, am_ci, am_cr, am_cl, am_cd, hc]) h
theorem d_X9_tamper_45 : decode cX9_tamper 45 = .ok (.aload_n 0, 1) := by decide +kernel
theorem s_X9_tamper_45 {n : Nat} (h : AP M_X9_tamper b 46 [.ref n, x1, x2, x3] (.ref n :: st) hi g Φ) : AP M_X9_tamper b 45 [.ref n, x1, x2, x3] (st) hi g Φ := AP.aload_n (x := n) (i := 0) d_X9_tamper_45 rfl rfl h
theorem d_X9_tamper_46 : decode cX9_tamper 46 = .ok (.getfield 20, 3) := by decide +kernel
theorem s_X9_tamper_46 {k r : Nat} (hI : am_Inv g) (hs : am_SH k = (0, 9)) (hk : k < 134) (hr : am_HRf k 1 = some r) (hn : k ≠ 39) (h : AP M_X9_tamper b 49 [x0, x1, x2, x3] (.ref r :: st) hi g Φ) : AP M_X9_tamper b 46 [x0, x1, x2, x3] (.ref k :: st) hi g Φ := AP.getR (j := 1) (q := (RX9, TX9, 7)) d_X9_tamper_46 hs (hI.lt hk) rfl (by decide) (by decide) w_346 (hI.r hn hr) h
theorem d_X9_tamper_49 : decode cX9_tamper 49 = .ok (.getfield 129, 3) := by decide +kernel
theorem s_X9_tamper_49 {k r : Nat} (hI : am_Inv g) (hs : am_SH k = (0, 6)) (hk : k < 134) (hr : am_HRf k 2 = some r) (hn : k ≠ 39) (h : AP M_X9_tamper b 52 [x0, x1, x2, x3] (.ref r :: st) hi g Φ) : AP M_X9_tamper b 49 [x0, x1, x2, x3] (.ref k :: st) hi g Φ := AP.getR (j := 2) (q := (RX6, TX6, 8)) d_X9_tamper_49 hs (hI.lt hk) rfl (by decide) (by decide) w_165 (hI.r hn hr) h
theorem d_X9_tamper_52 : decode cX9_tamper 52 = .ok (.getfield 142, 3) := by decide +kernel
theorem s_X9_tamper_52 {k r : Nat} (hI : am_Inv g) (hs : am_SH k = (0, 2)) (hk : k < 134) (hr : am_HRf k 3 = some r) (hn : k ≠ 39) (h : AP M_X9_tamper b 55 [x0, x1, x2, x3] (.ref r :: st) hi g Φ) : AP M_X9_tamper b 52 [x0, x1, x2, x3] (.ref k :: st) hi g Φ := AP.getR (j := 3) (q := (RX2, TX2, 8)) d_X9_tamper_52 hs (hI.lt hk) rfl (by decide) (by decide) w_126 (hI.r hn hr) h
theorem d_X9_tamper_55 : decode cX9_tamper 55 = .ok (.iload_n 1, 1) := by decide +kernel
theorem s_X9_tamper_55 {n : Int32} (h : AP M_X9_tamper b 56 [x0, .int n, x2, x3] (.int n :: st) hi g Φ) : AP M_X9_tamper b 55 [x0, .int n, x2, x3] (st) hi g Φ := AP.iload_n (x := n) (i := 1) d_X9_tamper_55 rfl rfl h
theorem d_X9_tamper_56 : decode cX9_tamper 56 = .ok (.iload_n 2, 1) := by decide +kernel
theorem s_X9_tamper_56 {n : Int32} (h : AP M_X9_tamper b 57 [x0, x1, .int n, x3] (.int n :: st) hi g Φ) : AP M_X9_tamper b 56 [x0, x1, .int n, x3] (st) hi g Φ := AP.iload_n (x := n) (i := 2) d_X9_tamper_56 rfl rfl h
theorem d_X9_tamper_57 : decode cX9_tamper 57 = .ok (.iastore, 1) := by decide +kernel
theorem s_X9_tamper_57 {k n j : Nat} {i x : Int32} (hI : am_Inv g) (hs : am_SH k = (1, n)) (hk : k < 134) (hn : n < 2 ^ 31) (hx : i = nI j) (hj : j < n) (h : AP M_X9_tamper b 58 [x0, x1, x2, x3] (st) (am_up hi k j x) g Φ) : AP M_X9_tamper b 57 [x0, x1, x2, x3] (.int x :: .int i :: .ref k :: st) hi g Φ := AP.iast d_X9_tamper_57 hs (hI.lt hk) hn hx hj h
theorem d_X9_tamper_58 : decode cX9_tamper 58 = .ok (.iload_n 3, 1) := by decide +kernel
theorem s_X9_tamper_58 {n : Int32} (h : AP M_X9_tamper b 59 [x0, x1, x2, .int n] (.int n :: st) hi g Φ) : AP M_X9_tamper b 58 [x0, x1, x2, .int n] (st) hi g Φ := AP.iload_n (x := n) (i := 3) d_X9_tamper_58 rfl rfl h
theorem d_X9_tamper_59 : decode cX9_tamper 59 = .ok (.ireturn, 1) := by decide +kernel
theorem s_X9_tamper_59 {x : Int32} (h : Φ (.ok (some (.int x))) hi g) : AP M_X9_tamper b 59 [x0, x1, x2, x3] [.int x] hi g Φ := AP.iret d_X9_tamper_59 rfl h
end
section
variable {b : Nat × Nat} {st : List Value} {hi : am_HI} {g : am_G} {Φ : am_P} {x0 x1 : Value}
theorem d_X9_turnKind_0 : decode cX9_turnKind 0 = .ok (.iload_n 1, 1) := by decide +kernel
theorem s_X9_turnKind_0 {n : Int32} (h : AP M_X9_turnKind b 1 [x0, .int n] (.int n :: st) hi g Φ) : AP M_X9_turnKind b 0 [x0, .int n] (st) hi g Φ := AP.iload_n (x := n) (i := 1) d_X9_turnKind_0 rfl rfl h
theorem d_X9_turnKind_1 : decode cX9_turnKind 1 = .ok (.invokestatic 113, 3) := by decide +kernel
theorem s_X9_turnKind_1 {a0 : Int32} {r0 : Int32} {P : am_HI → Prop} (hI : am_Inv g) (hst : (st.map Value.category).sum ≤ 8) (hc : am_Cr M_X9_isKind [.int a0] hi g (some (.int r0)) P) (h : ∀ hi' : am_HI, P hi' → AP M_X9_turnKind b 4 [x0, x1] (.int r0 :: st) hi' g Φ) : AP M_X9_turnKind b 1 [x0, x1] (.int a0 :: st) hi g Φ := AP.callSr (As := [.int a0]) hI hc k_X9_turnKind_113 d_X9_turnKind_1 rfl hst h
theorem d_X9_turnKind_4 : decode cX9_turnKind 4 = .ok (.invokestatic 62, 3) := by decide +kernel
theorem s_X9_turnKind_4 {a0 : Int32} {P : am_HI → Prop} (hI : am_Inv g) (hst : (st.map Value.category).sum ≤ 8) (hc : am_Cr M_X9_needArgument [.int a0] hi g none P) (h : ∀ hi' : am_HI, P hi' → AP M_X9_turnKind b 7 [x0, x1] (st) hi' g Φ) : AP M_X9_turnKind b 4 [x0, x1] (.int a0 :: st) hi g Φ := AP.callSr (As := [.int a0]) hI hc k_X9_turnKind_62 d_X9_turnKind_4 rfl hst h
theorem d_X9_turnKind_7 : decode cX9_turnKind 7 = .ok (.aload_n 0, 1) := by decide +kernel
theorem s_X9_turnKind_7 {n : Nat} (h : AP M_X9_turnKind b 8 [.ref n, x1] (.ref n :: st) hi g Φ) : AP M_X9_turnKind b 7 [.ref n, x1] (st) hi g Φ := AP.aload_n (x := n) (i := 0) d_X9_turnKind_7 rfl rfl h
theorem d_X9_turnKind_8 : decode cX9_turnKind 8 = .ok (.getfield 20, 3) := by decide +kernel
theorem s_X9_turnKind_8 {k r : Nat} (hI : am_Inv g) (hs : am_SH k = (0, 9)) (hk : k < 134) (hr : am_HRf k 1 = some r) (hn : k ≠ 39) (h : AP M_X9_turnKind b 11 [x0, x1] (.ref r :: st) hi g Φ) : AP M_X9_turnKind b 8 [x0, x1] (.ref k :: st) hi g Φ := AP.getR (j := 1) (q := (RX9, TX9, 7)) d_X9_turnKind_8 hs (hI.lt hk) rfl (by decide) (by decide) w_346 (hI.r hn hr) h
theorem d_X9_turnKind_11 : decode cX9_turnKind 11 = .ok (.iload_n 1, 1) := by decide +kernel
theorem s_X9_turnKind_11 {n : Int32} (h : AP M_X9_turnKind b 12 [x0, .int n] (.int n :: st) hi g Φ) : AP M_X9_turnKind b 11 [x0, .int n] (st) hi g Φ := AP.iload_n (x := n) (i := 1) d_X9_turnKind_11 rfl rfl h
theorem d_X9_turnKind_12 : decode cX9_turnKind 12 = .ok (.invokevirtual 116, 3) := by decide +kernel
theorem s_X9_turnKind_12 {a0 : Int32} {k : Nat} {r0 : Int32} {P : am_HI → Prop} (hI : am_Inv g) (hs : am_SH k = (0, 6)) (hk : k < 134) (hst : (st.map Value.category).sum ≤ 8) (hc : am_Cr M_X6_canTurn [.ref k, .int a0] hi g (some (.int r0)) P) (h : ∀ hi' : am_HI, P hi' → AP M_X9_turnKind b 15 [x0, x1] (.int r0 :: st) hi' g Φ) : AP M_X9_turnKind b 12 [x0, x1] (.int a0 :: .ref k :: st) hi g Φ := AP.callVr (As := [.int a0]) (q := (RX6, TX6, 8)) hI hc k_X9_turnKind_116 d_X9_turnKind_12 rfl hs hk rfl rfl hst h
theorem d_X9_turnKind_15 : decode cX9_turnKind 15 = .ok (.invokestatic 72, 3) := by decide +kernel
theorem s_X9_turnKind_15 {a0 : Int32} {P : am_HI → Prop} (hI : am_Inv g) (hst : (st.map Value.category).sum ≤ 8) (hc : am_Cr M_X9_needPossible [.int a0] hi g none P) (h : ∀ hi' : am_HI, P hi' → AP M_X9_turnKind b 18 [x0, x1] (st) hi' g Φ) : AP M_X9_turnKind b 15 [x0, x1] (.int a0 :: st) hi g Φ := AP.callSr (As := [.int a0]) hI hc k_X9_turnKind_72 d_X9_turnKind_15 rfl hst h
theorem d_X9_turnKind_18 : decode cX9_turnKind 18 = .ok (.aload_n 0, 1) := by decide +kernel
theorem s_X9_turnKind_18 {n : Nat} (h : AP M_X9_turnKind b 19 [.ref n, x1] (.ref n :: st) hi g Φ) : AP M_X9_turnKind b 18 [.ref n, x1] (st) hi g Φ := AP.aload_n (x := n) (i := 0) d_X9_turnKind_18 rfl rfl h
theorem d_X9_turnKind_19 : decode cX9_turnKind 19 = .ok (.getfield 26, 3) := by decide +kernel
theorem s_X9_turnKind_19 {k r : Nat} (hI : am_Inv g) (hs : am_SH k = (0, 9)) (hk : k < 134) (hr : am_HRf k 2 = some r) (hn : k ≠ 39) (h : AP M_X9_turnKind b 22 [x0, x1] (.ref r :: st) hi g Φ) : AP M_X9_turnKind b 19 [x0, x1] (.ref k :: st) hi g Φ := AP.getR (j := 2) (q := (RX9, TX9, 7)) d_X9_turnKind_19 hs (hI.lt hk) rfl (by decide) (by decide) w_347 (hI.r hn hr) h
theorem d_X9_turnKind_22 : decode cX9_turnKind 22 = .ok (.aload_n 0, 1) := by decide +kernel
theorem s_X9_turnKind_22 {n : Nat} (h : AP M_X9_turnKind b 23 [.ref n, x1] (.ref n :: st) hi g Φ) : AP M_X9_turnKind b 22 [.ref n, x1] (st) hi g Φ := AP.aload_n (x := n) (i := 0) d_X9_turnKind_22 rfl rfl h
theorem d_X9_turnKind_23 : decode cX9_turnKind 23 = .ok (.getfield 20, 3) := by decide +kernel
theorem s_X9_turnKind_23 {k r : Nat} (hI : am_Inv g) (hs : am_SH k = (0, 9)) (hk : k < 134) (hr : am_HRf k 1 = some r) (hn : k ≠ 39) (h : AP M_X9_turnKind b 26 [x0, x1] (.ref r :: st) hi g Φ) : AP M_X9_turnKind b 23 [x0, x1] (.ref k :: st) hi g Φ := AP.getR (j := 1) (q := (RX9, TX9, 7)) d_X9_turnKind_23 hs (hI.lt hk) rfl (by decide) (by decide) w_346 (hI.r hn hr) h
theorem d_X9_turnKind_26 : decode cX9_turnKind 26 = .ok (.invokevirtual 75, 3) := by decide +kernel
theorem s_X9_turnKind_26 {a0 : Nat} {k : Nat} {P : am_HI → Prop} (hI : am_Inv g) (hs : am_SH k = (0, 1)) (hk : k < 134) (hst : (st.map Value.category).sum ≤ 8) (hc : am_Cr M_X1_save [.ref k, .ref a0] hi g none P) (h : ∀ hi' : am_HI, P hi' → AP M_X9_turnKind b 29 [x0, x1] (st) hi' g Φ) : AP M_X9_turnKind b 26 [x0, x1] (.ref a0 :: .ref k :: st) hi g Φ := AP.callVr (As := [.ref a0]) (q := (RX1, TX1, 2)) hI hc k_X9_turnKind_75 d_X9_turnKind_26 rfl hs hk rfl rfl hst h
theorem d_X9_turnKind_29 : decode cX9_turnKind 29 = .ok (.aload_n 0, 1) := by decide +kernel
theorem s_X9_turnKind_29 {n : Nat} (h : AP M_X9_turnKind b 30 [.ref n, x1] (.ref n :: st) hi g Φ) : AP M_X9_turnKind b 29 [.ref n, x1] (st) hi g Φ := AP.aload_n (x := n) (i := 0) d_X9_turnKind_29 rfl rfl h
theorem d_X9_turnKind_30 : decode cX9_turnKind 30 = .ok (.getfield 20, 3) := by decide +kernel
theorem s_X9_turnKind_30 {k r : Nat} (hI : am_Inv g) (hs : am_SH k = (0, 9)) (hk : k < 134) (hr : am_HRf k 1 = some r) (hn : k ≠ 39) (h : AP M_X9_turnKind b 33 [x0, x1] (.ref r :: st) hi g Φ) : AP M_X9_turnKind b 30 [x0, x1] (.ref k :: st) hi g Φ := AP.getR (j := 1) (q := (RX9, TX9, 7)) d_X9_turnKind_30 hs (hI.lt hk) rfl (by decide) (by decide) w_346 (hI.r hn hr) h
theorem d_X9_turnKind_33 : decode cX9_turnKind 33 = .ok (.iload_n 1, 1) := by decide +kernel
theorem s_X9_turnKind_33 {n : Int32} (h : AP M_X9_turnKind b 34 [x0, .int n] (.int n :: st) hi g Φ) : AP M_X9_turnKind b 33 [x0, .int n] (st) hi g Φ := AP.iload_n (x := n) (i := 1) d_X9_turnKind_33 rfl rfl h
theorem d_X9_turnKind_34 : decode cX9_turnKind 34 = .ok (.invokevirtual 119, 3) := by decide +kernel
theorem s_X9_turnKind_34 {a0 : Int32} {k : Nat} {P : am_HI → Prop} (hI : am_Inv g) (hs : am_SH k = (0, 6)) (hk : k < 134) (hst : (st.map Value.category).sum ≤ 8) (hc : am_Cr M_X6_turn [.ref k, .int a0] hi g none P) (h : ∀ hi' : am_HI, P hi' → AP M_X9_turnKind b 37 [x0, x1] (st) hi' g Φ) : AP M_X9_turnKind b 34 [x0, x1] (.int a0 :: .ref k :: st) hi g Φ := AP.callVr (As := [.int a0]) (q := (RX6, TX6, 8)) hI hc k_X9_turnKind_119 d_X9_turnKind_34 rfl hs hk rfl rfl hst h
theorem d_X9_turnKind_37 : decode cX9_turnKind 37 = .ok (.aload_n 0, 1) := by decide +kernel
theorem s_X9_turnKind_37 {n : Nat} (h : AP M_X9_turnKind b 38 [.ref n, x1] (.ref n :: st) hi g Φ) : AP M_X9_turnKind b 37 [.ref n, x1] (st) hi g Φ := AP.aload_n (x := n) (i := 0) d_X9_turnKind_37 rfl rfl h
theorem d_X9_turnKind_38 : decode cX9_turnKind 38 = .ok (.getfield 20, 3) := by decide +kernel
theorem s_X9_turnKind_38 {k r : Nat} (hI : am_Inv g) (hs : am_SH k = (0, 9)) (hk : k < 134) (hr : am_HRf k 1 = some r) (hn : k ≠ 39) (h : AP M_X9_turnKind b 41 [x0, x1] (.ref r :: st) hi g Φ) : AP M_X9_turnKind b 38 [x0, x1] (.ref k :: st) hi g Φ := AP.getR (j := 1) (q := (RX9, TX9, 7)) d_X9_turnKind_38 hs (hI.lt hk) rfl (by decide) (by decide) w_346 (hI.r hn hr) h
theorem d_X9_turnKind_41 : decode cX9_turnKind 41 = .ok (.iload_n 1, 1) := by decide +kernel
theorem s_X9_turnKind_41 {n : Int32} (h : AP M_X9_turnKind b 42 [x0, .int n] (.int n :: st) hi g Φ) : AP M_X9_turnKind b 41 [x0, .int n] (st) hi g Φ := AP.iload_n (x := n) (i := 1) d_X9_turnKind_41 rfl rfl h
theorem d_X9_turnKind_42 : decode cX9_turnKind 42 = .ok (.invokevirtual 122, 3) := by decide +kernel
theorem s_X9_turnKind_42 {a0 : Int32} {k : Nat} {r0 : Int32} {P : am_HI → Prop} (hI : am_Inv g) (hs : am_SH k = (0, 6)) (hk : k < 134) (hst : (st.map Value.category).sum ≤ 8) (hc : am_Cr M_X6_allows [.ref k, .int a0] hi g (some (.int r0)) P) (h : ∀ hi' : am_HI, P hi' → AP M_X9_turnKind b 45 [x0, x1] (.int r0 :: st) hi' g Φ) : AP M_X9_turnKind b 42 [x0, x1] (.int a0 :: .ref k :: st) hi g Φ := AP.callVr (As := [.int a0]) (q := (RX6, TX6, 8)) hI hc k_X9_turnKind_122 d_X9_turnKind_42 rfl hs hk rfl rfl hst h
theorem d_X9_turnKind_45 : decode cX9_turnKind 45 = .ok (.ireturn, 1) := by decide +kernel
theorem s_X9_turnKind_45 {x : Int32} (hx : x = 0 ∨ x = 1) (h : Φ (.ok (some (.int x))) hi g) : AP M_X9_turnKind b 45 [x0, x1] [.int x] hi g Φ := AP.zret d_X9_turnKind_45 rfl hx h
end
section
variable {b : Nat × Nat} {st : List Value} {hi : am_HI} {g : am_G} {Φ : am_P} {x0 : Value}
theorem d_X9_undo_0 : decode cX9_undo 0 = .ok (.aload_n 0, 1) := by decide +kernel
theorem s_X9_undo_0 {n : Nat} (h : AP M_X9_undo b 1 [.ref n] (.ref n :: st) hi g Φ) : AP M_X9_undo b 0 [.ref n] (st) hi g Φ := AP.aload_n (x := n) (i := 0) d_X9_undo_0 rfl rfl h
theorem d_X9_undo_1 : decode cX9_undo 1 = .ok (.getfield 26, 3) := by decide +kernel
theorem s_X9_undo_1 {k r : Nat} (hI : am_Inv g) (hs : am_SH k = (0, 9)) (hk : k < 134) (hr : am_HRf k 2 = some r) (hn : k ≠ 39) (h : AP M_X9_undo b 4 [x0] (.ref r :: st) hi g Φ) : AP M_X9_undo b 1 [x0] (.ref k :: st) hi g Φ := AP.getR (j := 2) (q := (RX9, TX9, 7)) d_X9_undo_1 hs (hI.lt hk) rfl (by decide) (by decide) w_347 (hI.r hn hr) h
theorem d_X9_undo_4 : decode cX9_undo 4 = .ok (.getfield 278, 3) := by decide +kernel
theorem s_X9_undo_4 {k : Nat} (hI : am_Inv g) (hs : am_SH k = (0, 1)) (hk : k < 134) (h : AP M_X9_undo b 7 [x0] (.int (hi k 1) :: st) hi g Φ) : AP M_X9_undo b 4 [x0] (.ref k :: st) hi g Φ := AP.getI (j := 1) (q := (RX1, TX1, 2)) d_X9_undo_4 hs (hI.lt hk) rfl (by decide) (by decide) w_263 h
theorem d_X9_undo_7 : decode cX9_undo 7 = .ok (.ifCond .le 7, 3) := by decide +kernel
theorem s_X9_undo_7 {x : Int32} (h1 : x ≤ 0 → AP M_X9_undo b 14 [x0] st hi g Φ) (h2 : ¬ x ≤ 0 → AP M_X9_undo b 10 [x0] st hi g Φ) : AP M_X9_undo b 7 [x0] (.int x :: st) hi g Φ := AP.if_le d_X9_undo_7 (by decide) h1 h2
theorem d_X9_undo_10 : decode cX9_undo 10 = .ok (.iconst 1, 1) := by decide +kernel
theorem s_X9_undo_10 (h : AP M_X9_undo b 11 [x0] (.int 1 :: st) hi g Φ) : AP M_X9_undo b 10 [x0] (st) hi g Φ := AP.iconst (x := 1) d_X9_undo_10 (by decide) h
theorem d_X9_undo_11 : decode cX9_undo 11 = .ok (.goto 4, 3) := by decide +kernel
theorem s_X9_undo_11 (h : AP M_X9_undo b 15 [x0] st hi g Φ) : AP M_X9_undo b 11 [x0] st hi g Φ := AP.goto d_X9_undo_11 (by decide) h
theorem d_X9_undo_14 : decode cX9_undo 14 = .ok (.iconst 0, 1) := by decide +kernel
theorem s_X9_undo_14 (h : AP M_X9_undo b 15 [x0] (.int 0 :: st) hi g Φ) : AP M_X9_undo b 14 [x0] (st) hi g Φ := AP.iconst (x := 0) d_X9_undo_14 (by decide) h
theorem d_X9_undo_15 : decode cX9_undo 15 = .ok (.invokestatic 72, 3) := by decide +kernel
theorem s_X9_undo_15 {a0 : Int32} {P : am_HI → Prop} (hI : am_Inv g) (hst : (st.map Value.category).sum ≤ 8) (hc : am_Cr M_X9_needPossible [.int a0] hi g none P) (h : ∀ hi' : am_HI, P hi' → AP M_X9_undo b 18 [x0] (st) hi' g Φ) : AP M_X9_undo b 15 [x0] (.int a0 :: st) hi g Φ := AP.callSr (As := [.int a0]) hI hc k_X9_undo_72 d_X9_undo_15 rfl hst h
theorem d_X9_undo_18 : decode cX9_undo 18 = .ok (.aload_n 0, 1) := by decide +kernel
theorem s_X9_undo_18 {n : Nat} (h : AP M_X9_undo b 19 [.ref n] (.ref n :: st) hi g Φ) : AP M_X9_undo b 18 [.ref n] (st) hi g Φ := AP.aload_n (x := n) (i := 0) d_X9_undo_18 rfl rfl h
theorem d_X9_undo_19 : decode cX9_undo 19 = .ok (.getfield 26, 3) := by decide +kernel
theorem s_X9_undo_19 {k r : Nat} (hI : am_Inv g) (hs : am_SH k = (0, 9)) (hk : k < 134) (hr : am_HRf k 2 = some r) (hn : k ≠ 39) (h : AP M_X9_undo b 22 [x0] (.ref r :: st) hi g Φ) : AP M_X9_undo b 19 [x0] (.ref k :: st) hi g Φ := AP.getR (j := 2) (q := (RX9, TX9, 7)) d_X9_undo_19 hs (hI.lt hk) rfl (by decide) (by decide) w_347 (hI.r hn hr) h
theorem d_X9_undo_22 : decode cX9_undo 22 = .ok (.aload_n 0, 1) := by decide +kernel
theorem s_X9_undo_22 {n : Nat} (h : AP M_X9_undo b 23 [.ref n] (.ref n :: st) hi g Φ) : AP M_X9_undo b 22 [.ref n] (st) hi g Φ := AP.aload_n (x := n) (i := 0) d_X9_undo_22 rfl rfl h
theorem d_X9_undo_23 : decode cX9_undo 23 = .ok (.getfield 20, 3) := by decide +kernel
theorem s_X9_undo_23 {k r : Nat} (hI : am_Inv g) (hs : am_SH k = (0, 9)) (hk : k < 134) (hr : am_HRf k 1 = some r) (hn : k ≠ 39) (h : AP M_X9_undo b 26 [x0] (.ref r :: st) hi g Φ) : AP M_X9_undo b 23 [x0] (.ref k :: st) hi g Φ := AP.getR (j := 1) (q := (RX9, TX9, 7)) d_X9_undo_23 hs (hI.lt hk) rfl (by decide) (by decide) w_346 (hI.r hn hr) h
theorem d_X9_undo_26 : decode cX9_undo 26 = .ok (.invokevirtual 279, 3) := by decide +kernel
theorem s_X9_undo_26 {a0 : Nat} {k : Nat} {P : am_HI → Prop} (hI : am_Inv g) (hs : am_SH k = (0, 1)) (hk : k < 134) (hst : (st.map Value.category).sum ≤ 8) (hc : am_Cr M_X1_restore [.ref k, .ref a0] hi g none P) (h : ∀ hi' : am_HI, P hi' → AP M_X9_undo b 29 [x0] (st) hi' g Φ) : AP M_X9_undo b 26 [x0] (.ref a0 :: .ref k :: st) hi g Φ := AP.callVr (As := [.ref a0]) (q := (RX1, TX1, 2)) hI hc k_X9_undo_279 d_X9_undo_26 rfl hs hk rfl rfl hst h
theorem d_X9_undo_29 : decode cX9_undo 29 = .ok (.aload_n 0, 1) := by decide +kernel
theorem s_X9_undo_29 {n : Nat} (h : AP M_X9_undo b 30 [.ref n] (.ref n :: st) hi g Φ) : AP M_X9_undo b 29 [.ref n] (st) hi g Φ := AP.aload_n (x := n) (i := 0) d_X9_undo_29 rfl rfl h
theorem d_X9_undo_30 : decode cX9_undo 30 = .ok (.getfield 26, 3) := by decide +kernel
theorem s_X9_undo_30 {k r : Nat} (hI : am_Inv g) (hs : am_SH k = (0, 9)) (hk : k < 134) (hr : am_HRf k 2 = some r) (hn : k ≠ 39) (h : AP M_X9_undo b 33 [x0] (.ref r :: st) hi g Φ) : AP M_X9_undo b 30 [x0] (.ref k :: st) hi g Φ := AP.getR (j := 2) (q := (RX9, TX9, 7)) d_X9_undo_30 hs (hI.lt hk) rfl (by decide) (by decide) w_347 (hI.r hn hr) h
theorem d_X9_undo_33 : decode cX9_undo 33 = .ok (.getfield 278, 3) := by decide +kernel
theorem s_X9_undo_33 {k : Nat} (hI : am_Inv g) (hs : am_SH k = (0, 1)) (hk : k < 134) (h : AP M_X9_undo b 36 [x0] (.int (hi k 1) :: st) hi g Φ) : AP M_X9_undo b 33 [x0] (.ref k :: st) hi g Φ := AP.getI (j := 1) (q := (RX1, TX1, 2)) d_X9_undo_33 hs (hI.lt hk) rfl (by decide) (by decide) w_263 h
theorem d_X9_undo_36 : decode cX9_undo 36 = .ok (.ireturn, 1) := by decide +kernel
theorem s_X9_undo_36 {x : Int32} (h : Φ (.ok (some (.int x))) hi g) : AP M_X9_undo b 36 [x0] [.int x] hi g Φ := AP.iret d_X9_undo_36 rfl h
end
section
variable {b : Nat × Nat} {st : List Value} {hi : am_HI} {g : am_G} {Φ : am_P} {x0 x1 x2 : Value}
theorem d_X9_weightAt_0 : decode cX9_weightAt 0 = .ok (.iload_n 2, 1) := by decide +kernel
theorem s_X9_weightAt_0 {n : Int32} (h : AP M_X9_weightAt b 1 [x0, x1, .int n] (.int n :: st) hi g Φ) : AP M_X9_weightAt b 0 [x0, x1, .int n] (st) hi g Φ := AP.iload_n (x := n) (i := 2) d_X9_weightAt_0 rfl rfl h
theorem d_X9_weightAt_1 : decode cX9_weightAt 1 = .ok (.iconst 0, 1) := by decide +kernel
theorem s_X9_weightAt_1 (h : AP M_X9_weightAt b 2 [x0, x1, x2] (.int 0 :: st) hi g Φ) : AP M_X9_weightAt b 1 [x0, x1, x2] (st) hi g Φ := AP.iconst (x := 0) d_X9_weightAt_1 (by decide) h
theorem d_X9_weightAt_2 : decode cX9_weightAt 2 = .ok (.aload_n 0, 1) := by decide +kernel
theorem s_X9_weightAt_2 {n : Nat} (h : AP M_X9_weightAt b 3 [.ref n, x1, x2] (.ref n :: st) hi g Φ) : AP M_X9_weightAt b 2 [.ref n, x1, x2] (st) hi g Φ := AP.aload_n (x := n) (i := 0) d_X9_weightAt_2 rfl rfl h
theorem d_X9_weightAt_3 : decode cX9_weightAt 3 = .ok (.getfield 20, 3) := by decide +kernel
theorem s_X9_weightAt_3 {k r : Nat} (hI : am_Inv g) (hs : am_SH k = (0, 9)) (hk : k < 134) (hr : am_HRf k 1 = some r) (hn : k ≠ 39) (h : AP M_X9_weightAt b 6 [x0, x1, x2] (.ref r :: st) hi g Φ) : AP M_X9_weightAt b 3 [x0, x1, x2] (.ref k :: st) hi g Φ := AP.getR (j := 1) (q := (RX9, TX9, 7)) d_X9_weightAt_3 hs (hI.lt hk) rfl (by decide) (by decide) w_346 (hI.r hn hr) h
theorem d_X9_weightAt_6 : decode cX9_weightAt 6 = .ok (.getfield 83, 3) := by decide +kernel
theorem s_X9_weightAt_6 {k : Nat} (hI : am_Inv g) (hs : am_SH k = (0, 6)) (hk : k < 134) (h : AP M_X9_weightAt b 9 [x0, x1, x2] (.int (hi k 3) :: st) hi g Φ) : AP M_X9_weightAt b 6 [x0, x1, x2] (.ref k :: st) hi g Φ := AP.getI (j := 3) (q := (RX6, TX6, 8)) d_X9_weightAt_6 hs (hI.lt hk) rfl (by decide) (by decide) w_168 h
theorem d_X9_weightAt_9 : decode cX9_weightAt 9 = .ok (.invokestatic 58, 3) := by decide +kernel
theorem s_X9_weightAt_9 {a0 : Int32} {a1 : Int32} {a2 : Int32} {r0 : Int32} {P : am_HI → Prop} (hI : am_Inv g) (hst : (st.map Value.category).sum ≤ 8) (hc : am_Cr M_X9_isWithin [.int a0, .int a1, .int a2] hi g (some (.int r0)) P) (h : ∀ hi' : am_HI, P hi' → AP M_X9_weightAt b 12 [x0, x1, x2] (.int r0 :: st) hi' g Φ) : AP M_X9_weightAt b 9 [x0, x1, x2] (.int a2 :: .int a1 :: .int a0 :: st) hi g Φ := AP.callSr (As := [.int a0, .int a1, .int a2]) hI hc k_X9_weightAt_58 d_X9_weightAt_9 rfl hst h
theorem d_X9_weightAt_12 : decode cX9_weightAt 12 = .ok (.invokestatic 97, 3) := by decide +kernel
theorem s_X9_weightAt_12 {a0 : Int32} {P : am_HI → Prop} (hI : am_Inv g) (hst : (st.map Value.category).sum ≤ 8) (hc : am_Cr M_X9_needIndex [.int a0] hi g none P) (h : ∀ hi' : am_HI, P hi' → AP M_X9_weightAt b 15 [x0, x1, x2] (st) hi' g Φ) : AP M_X9_weightAt b 12 [x0, x1, x2] (.int a0 :: st) hi g Φ := AP.callSr (As := [.int a0]) hI hc k_X9_weightAt_97 d_X9_weightAt_12 rfl hst h
theorem d_X9_weightAt_15 : decode cX9_weightAt 15 = .ok (.iload_n 1, 1) := by decide +kernel
theorem s_X9_weightAt_15 {n : Int32} (h : AP M_X9_weightAt b 16 [x0, .int n, x2] (.int n :: st) hi g Φ) : AP M_X9_weightAt b 15 [x0, .int n, x2] (st) hi g Φ := AP.iload_n (x := n) (i := 1) d_X9_weightAt_15 rfl rfl h
theorem d_X9_weightAt_16 : decode cX9_weightAt 16 = .ok (.iconst 1, 1) := by decide +kernel
theorem s_X9_weightAt_16 (h : AP M_X9_weightAt b 17 [x0, x1, x2] (.int 1 :: st) hi g Φ) : AP M_X9_weightAt b 16 [x0, x1, x2] (st) hi g Φ := AP.iconst (x := 1) d_X9_weightAt_16 (by decide) h
theorem d_X9_weightAt_17 : decode cX9_weightAt 17 = .ok (.iconst 4, 1) := by decide +kernel
theorem s_X9_weightAt_17 (h : AP M_X9_weightAt b 18 [x0, x1, x2] (.int 4 :: st) hi g Φ) : AP M_X9_weightAt b 17 [x0, x1, x2] (st) hi g Φ := AP.iconst (x := 4) d_X9_weightAt_17 (by decide) h
theorem d_X9_weightAt_18 : decode cX9_weightAt 18 = .ok (.invokestatic 58, 3) := by decide +kernel
theorem s_X9_weightAt_18 {a0 : Int32} {a1 : Int32} {a2 : Int32} {r0 : Int32} {P : am_HI → Prop} (hI : am_Inv g) (hst : (st.map Value.category).sum ≤ 8) (hc : am_Cr M_X9_isWithin [.int a0, .int a1, .int a2] hi g (some (.int r0)) P) (h : ∀ hi' : am_HI, P hi' → AP M_X9_weightAt b 21 [x0, x1, x2] (.int r0 :: st) hi' g Φ) : AP M_X9_weightAt b 18 [x0, x1, x2] (.int a2 :: .int a1 :: .int a0 :: st) hi g Φ := AP.callSr (As := [.int a0, .int a1, .int a2]) hI hc k_X9_weightAt_58 d_X9_weightAt_18 rfl hst h
theorem d_X9_weightAt_21 : decode cX9_weightAt 21 = .ok (.invokestatic 62, 3) := by decide +kernel
theorem s_X9_weightAt_21 {a0 : Int32} {P : am_HI → Prop} (hI : am_Inv g) (hst : (st.map Value.category).sum ≤ 8) (hc : am_Cr M_X9_needArgument [.int a0] hi g none P) (h : ∀ hi' : am_HI, P hi' → AP M_X9_weightAt b 24 [x0, x1, x2] (st) hi' g Φ) : AP M_X9_weightAt b 21 [x0, x1, x2] (.int a0 :: st) hi g Φ := AP.callSr (As := [.int a0]) hI hc k_X9_weightAt_62 d_X9_weightAt_21 rfl hst h
theorem d_X9_weightAt_24 : decode cX9_weightAt 24 = .ok (.aload_n 0, 1) := by decide +kernel
theorem s_X9_weightAt_24 {n : Nat} (h : AP M_X9_weightAt b 25 [.ref n, x1, x2] (.ref n :: st) hi g Φ) : AP M_X9_weightAt b 24 [.ref n, x1, x2] (st) hi g Φ := AP.aload_n (x := n) (i := 0) d_X9_weightAt_24 rfl rfl h
theorem d_X9_weightAt_25 : decode cX9_weightAt 25 = .ok (.getfield 12, 3) := by decide +kernel
theorem s_X9_weightAt_25 {k r : Nat} (hI : am_Inv g) (hs : am_SH k = (0, 9)) (hk : k < 134) (hr : am_HRf k 0 = some r) (hn : k ≠ 39) (h : AP M_X9_weightAt b 28 [x0, x1, x2] (.ref r :: st) hi g Φ) : AP M_X9_weightAt b 25 [x0, x1, x2] (.ref k :: st) hi g Φ := AP.getR (j := 0) (q := (RX9, TX9, 7)) d_X9_weightAt_25 hs (hI.lt hk) rfl (by decide) (by decide) w_345 (hI.r hn hr) h
theorem d_X9_weightAt_28 : decode cX9_weightAt 28 = .ok (.invokevirtual 154, 3) := by decide +kernel
theorem s_X9_weightAt_28  {k : Nat} {P : am_HI → Prop} (hI : am_Inv g) (hs : am_SH k = (0, 7)) (hk : k < 134) (hst : (st.map Value.category).sum ≤ 8) (hc : am_Cr M_X7_follow [.ref k] hi g none P) (h : ∀ hi' : am_HI, P hi' → AP M_X9_weightAt b 31 [x0, x1, x2] (st) hi' g Φ) : AP M_X9_weightAt b 28 [x0, x1, x2] (.ref k :: st) hi g Φ := AP.callVr (As := []) (q := (RX7, TX7, 7)) hI hc k_X9_weightAt_154 d_X9_weightAt_28 rfl hs hk rfl rfl hst h
theorem d_X9_weightAt_31 : decode cX9_weightAt 31 = .ok (.aload_n 0, 1) := by decide +kernel
theorem s_X9_weightAt_31 {n : Nat} (h : AP M_X9_weightAt b 32 [.ref n, x1, x2] (.ref n :: st) hi g Φ) : AP M_X9_weightAt b 31 [.ref n, x1, x2] (st) hi g Φ := AP.aload_n (x := n) (i := 0) d_X9_weightAt_31 rfl rfl h
theorem d_X9_weightAt_32 : decode cX9_weightAt 32 = .ok (.getfield 12, 3) := by decide +kernel
theorem s_X9_weightAt_32 {k r : Nat} (hI : am_Inv g) (hs : am_SH k = (0, 9)) (hk : k < 134) (hr : am_HRf k 0 = some r) (hn : k ≠ 39) (h : AP M_X9_weightAt b 35 [x0, x1, x2] (.ref r :: st) hi g Φ) : AP M_X9_weightAt b 32 [x0, x1, x2] (.ref k :: st) hi g Φ := AP.getR (j := 0) (q := (RX9, TX9, 7)) d_X9_weightAt_32 hs (hI.lt hk) rfl (by decide) (by decide) w_345 (hI.r hn hr) h
theorem d_X9_weightAt_35 : decode cX9_weightAt 35 = .ok (.getfield 157, 3) := by decide +kernel
theorem s_X9_weightAt_35 {k r : Nat} (hI : am_Inv g) (hs : am_SH k = (0, 7)) (hk : k < 134) (hr : am_HRf k 4 = some r) (hn : k ≠ 39) (h : AP M_X9_weightAt b 38 [x0, x1, x2] (.ref r :: st) hi g Φ) : AP M_X9_weightAt b 35 [x0, x1, x2] (.ref k :: st) hi g Φ := AP.getR (j := 4) (q := (RX7, TX7, 7)) d_X9_weightAt_35 hs (hI.lt hk) rfl (by decide) (by decide) w_233 (hI.r hn hr) h
theorem d_X9_weightAt_38 : decode cX9_weightAt 38 = .ok (.iload_n 1, 1) := by decide +kernel
theorem s_X9_weightAt_38 {n : Int32} (h : AP M_X9_weightAt b 39 [x0, .int n, x2] (.int n :: st) hi g Φ) : AP M_X9_weightAt b 38 [x0, .int n, x2] (st) hi g Φ := AP.iload_n (x := n) (i := 1) d_X9_weightAt_38 rfl rfl h
theorem d_X9_weightAt_39 : decode cX9_weightAt 39 = .ok (.iconst 1, 1) := by decide +kernel
theorem s_X9_weightAt_39 (h : AP M_X9_weightAt b 40 [x0, x1, x2] (.int 1 :: st) hi g Φ) : AP M_X9_weightAt b 39 [x0, x1, x2] (st) hi g Φ := AP.iconst (x := 1) d_X9_weightAt_39 (by decide) h
theorem d_X9_weightAt_40 : decode cX9_weightAt 40 = .ok (.isub, 1) := by decide +kernel
theorem s_X9_weightAt_40 {x y : Int32} (h : AP M_X9_weightAt b 41 [x0, x1, x2] (.int (x - y) :: st) hi g Φ) : AP M_X9_weightAt b 40 [x0, x1, x2] (.int y :: .int x :: st) hi g Φ := AP.isub d_X9_weightAt_40 h
theorem d_X9_weightAt_41 : decode cX9_weightAt 41 = .ok (.aaload, 1) := by decide +kernel
theorem s_X9_weightAt_41 {k n j r : Nat} {i : Int32} (hI : am_Inv g) (hs : am_SH k = (6, n)) (hk : k < 134) (hn : n < 2 ^ 31) (hx : i = nI j) (hj : j < n) (hr : g.2.1 k j = some r) (h : AP M_X9_weightAt b 42 [x0, x1, x2] (.ref r :: st) hi g Φ) : AP M_X9_weightAt b 41 [x0, x1, x2] (.int i :: .ref k :: st) hi g Φ := AP.rald d_X9_weightAt_41 hs (hI.lt hk) hn hx hj hr h
theorem s_X9_weightAt_41a {k n j r : Nat} {i : Int32} (hI : am_Inv g) (hs : am_SH k = (5, n)) (hk : k < 134) (hn : n < 2 ^ 31) (hx : i = nI j) (hj : j < n) (hr : g.2.1 k j = some r) (h : AP M_X9_weightAt b 42 [x0, x1, x2] (.ref r :: st) hi g Φ) : AP M_X9_weightAt b 41 [x0, x1, x2] (.int i :: .ref k :: st) hi g Φ := AP.aald d_X9_weightAt_41 hs (hI.lt hk) hn hx hj hr h
theorem d_X9_weightAt_42 : decode cX9_weightAt 42 = .ok (.iload_n 2, 1) := by decide +kernel
theorem s_X9_weightAt_42 {n : Int32} (h : AP M_X9_weightAt b 43 [x0, x1, .int n] (.int n :: st) hi g Φ) : AP M_X9_weightAt b 42 [x0, x1, .int n] (st) hi g Φ := AP.iload_n (x := n) (i := 2) d_X9_weightAt_42 rfl rfl h
theorem d_X9_weightAt_43 : decode cX9_weightAt 43 = .ok (.iaload, 1) := by decide +kernel
theorem s_X9_weightAt_43 {k n j : Nat} {i : Int32} (hI : am_Inv g) (hs : am_SH k = (1, n)) (hk : k < 134) (hn : n < 2 ^ 31) (hx : i = nI j) (hj : j < n) (h : AP M_X9_weightAt b 44 [x0, x1, x2] (.int (hi k j) :: st) hi g Φ) : AP M_X9_weightAt b 43 [x0, x1, x2] (.int i :: .ref k :: st) hi g Φ := AP.iald d_X9_weightAt_43 hs (hI.lt hk) hn hx hj h
theorem d_X9_weightAt_44 : decode cX9_weightAt 44 = .ok (.ireturn, 1) := by decide +kernel
theorem s_X9_weightAt_44 {x : Int32} (h : Φ (.ok (some (.int x))) hi g) : AP M_X9_weightAt b 44 [x0, x1, x2] [.int x] hi g Φ := AP.iret d_X9_weightAt_44 rfl h
end
section
variable {b : Nat × Nat} {st : List Value} {hi : am_HI} {g : am_G} {Φ : am_P} {x0 x1 x2 : Value}
theorem d_X9_weightByCounting_0 : decode cX9_weightByCounting 0 = .ok (.iload_n 2, 1) := by decide +kernel
theorem s_X9_weightByCounting_0 {n : Int32} (h : AP M_X9_weightByCounting b 1 [x0, x1, .int n] (.int n :: st) hi g Φ) : AP M_X9_weightByCounting b 0 [x0, x1, .int n] (st) hi g Φ := AP.iload_n (x := n) (i := 2) d_X9_weightByCounting_0 rfl rfl h
theorem d_X9_weightByCounting_1 : decode cX9_weightByCounting 1 = .ok (.iconst 0, 1) := by decide +kernel
theorem s_X9_weightByCounting_1 (h : AP M_X9_weightByCounting b 2 [x0, x1, x2] (.int 0 :: st) hi g Φ) : AP M_X9_weightByCounting b 1 [x0, x1, x2] (st) hi g Φ := AP.iconst (x := 0) d_X9_weightByCounting_1 (by decide) h
theorem d_X9_weightByCounting_2 : decode cX9_weightByCounting 2 = .ok (.aload_n 0, 1) := by decide +kernel
theorem s_X9_weightByCounting_2 {n : Nat} (h : AP M_X9_weightByCounting b 3 [.ref n, x1, x2] (.ref n :: st) hi g Φ) : AP M_X9_weightByCounting b 2 [.ref n, x1, x2] (st) hi g Φ := AP.aload_n (x := n) (i := 0) d_X9_weightByCounting_2 rfl rfl h
theorem d_X9_weightByCounting_3 : decode cX9_weightByCounting 3 = .ok (.getfield 20, 3) := by decide +kernel
theorem s_X9_weightByCounting_3 {k r : Nat} (hI : am_Inv g) (hs : am_SH k = (0, 9)) (hk : k < 134) (hr : am_HRf k 1 = some r) (hn : k ≠ 39) (h : AP M_X9_weightByCounting b 6 [x0, x1, x2] (.ref r :: st) hi g Φ) : AP M_X9_weightByCounting b 3 [x0, x1, x2] (.ref k :: st) hi g Φ := AP.getR (j := 1) (q := (RX9, TX9, 7)) d_X9_weightByCounting_3 hs (hI.lt hk) rfl (by decide) (by decide) w_346 (hI.r hn hr) h
theorem d_X9_weightByCounting_6 : decode cX9_weightByCounting 6 = .ok (.getfield 83, 3) := by decide +kernel
theorem s_X9_weightByCounting_6 {k : Nat} (hI : am_Inv g) (hs : am_SH k = (0, 6)) (hk : k < 134) (h : AP M_X9_weightByCounting b 9 [x0, x1, x2] (.int (hi k 3) :: st) hi g Φ) : AP M_X9_weightByCounting b 6 [x0, x1, x2] (.ref k :: st) hi g Φ := AP.getI (j := 3) (q := (RX6, TX6, 8)) d_X9_weightByCounting_6 hs (hI.lt hk) rfl (by decide) (by decide) w_168 h
theorem d_X9_weightByCounting_9 : decode cX9_weightByCounting 9 = .ok (.invokestatic 58, 3) := by decide +kernel
theorem s_X9_weightByCounting_9 {a0 : Int32} {a1 : Int32} {a2 : Int32} {r0 : Int32} {P : am_HI → Prop} (hI : am_Inv g) (hst : (st.map Value.category).sum ≤ 8) (hc : am_Cr M_X9_isWithin [.int a0, .int a1, .int a2] hi g (some (.int r0)) P) (h : ∀ hi' : am_HI, P hi' → AP M_X9_weightByCounting b 12 [x0, x1, x2] (.int r0 :: st) hi' g Φ) : AP M_X9_weightByCounting b 9 [x0, x1, x2] (.int a2 :: .int a1 :: .int a0 :: st) hi g Φ := AP.callSr (As := [.int a0, .int a1, .int a2]) hI hc k_X9_weightByCounting_58 d_X9_weightByCounting_9 rfl hst h
theorem d_X9_weightByCounting_12 : decode cX9_weightByCounting 12 = .ok (.invokestatic 97, 3) := by decide +kernel
theorem s_X9_weightByCounting_12 {a0 : Int32} {P : am_HI → Prop} (hI : am_Inv g) (hst : (st.map Value.category).sum ≤ 8) (hc : am_Cr M_X9_needIndex [.int a0] hi g none P) (h : ∀ hi' : am_HI, P hi' → AP M_X9_weightByCounting b 15 [x0, x1, x2] (st) hi' g Φ) : AP M_X9_weightByCounting b 12 [x0, x1, x2] (.int a0 :: st) hi g Φ := AP.callSr (As := [.int a0]) hI hc k_X9_weightByCounting_97 d_X9_weightByCounting_12 rfl hst h
theorem d_X9_weightByCounting_15 : decode cX9_weightByCounting 15 = .ok (.iload_n 1, 1) := by decide +kernel
theorem s_X9_weightByCounting_15 {n : Int32} (h : AP M_X9_weightByCounting b 16 [x0, .int n, x2] (.int n :: st) hi g Φ) : AP M_X9_weightByCounting b 15 [x0, .int n, x2] (st) hi g Φ := AP.iload_n (x := n) (i := 1) d_X9_weightByCounting_15 rfl rfl h
theorem d_X9_weightByCounting_16 : decode cX9_weightByCounting 16 = .ok (.iconst 1, 1) := by decide +kernel
theorem s_X9_weightByCounting_16 (h : AP M_X9_weightByCounting b 17 [x0, x1, x2] (.int 1 :: st) hi g Φ) : AP M_X9_weightByCounting b 16 [x0, x1, x2] (st) hi g Φ := AP.iconst (x := 1) d_X9_weightByCounting_16 (by decide) h
theorem d_X9_weightByCounting_17 : decode cX9_weightByCounting 17 = .ok (.iconst 4, 1) := by decide +kernel
theorem s_X9_weightByCounting_17 (h : AP M_X9_weightByCounting b 18 [x0, x1, x2] (.int 4 :: st) hi g Φ) : AP M_X9_weightByCounting b 17 [x0, x1, x2] (st) hi g Φ := AP.iconst (x := 4) d_X9_weightByCounting_17 (by decide) h
theorem d_X9_weightByCounting_18 : decode cX9_weightByCounting 18 = .ok (.invokestatic 58, 3) := by decide +kernel
theorem s_X9_weightByCounting_18 {a0 : Int32} {a1 : Int32} {a2 : Int32} {r0 : Int32} {P : am_HI → Prop} (hI : am_Inv g) (hst : (st.map Value.category).sum ≤ 8) (hc : am_Cr M_X9_isWithin [.int a0, .int a1, .int a2] hi g (some (.int r0)) P) (h : ∀ hi' : am_HI, P hi' → AP M_X9_weightByCounting b 21 [x0, x1, x2] (.int r0 :: st) hi' g Φ) : AP M_X9_weightByCounting b 18 [x0, x1, x2] (.int a2 :: .int a1 :: .int a0 :: st) hi g Φ := AP.callSr (As := [.int a0, .int a1, .int a2]) hI hc k_X9_weightByCounting_58 d_X9_weightByCounting_18 rfl hst h
theorem d_X9_weightByCounting_21 : decode cX9_weightByCounting 21 = .ok (.invokestatic 62, 3) := by decide +kernel
theorem s_X9_weightByCounting_21 {a0 : Int32} {P : am_HI → Prop} (hI : am_Inv g) (hst : (st.map Value.category).sum ≤ 8) (hc : am_Cr M_X9_needArgument [.int a0] hi g none P) (h : ∀ hi' : am_HI, P hi' → AP M_X9_weightByCounting b 24 [x0, x1, x2] (st) hi' g Φ) : AP M_X9_weightByCounting b 21 [x0, x1, x2] (.int a0 :: st) hi g Φ := AP.callSr (As := [.int a0]) hI hc k_X9_weightByCounting_62 d_X9_weightByCounting_21 rfl hst h
theorem d_X9_weightByCounting_24 : decode cX9_weightByCounting 24 = .ok (.aload_n 0, 1) := by decide +kernel
theorem s_X9_weightByCounting_24 {n : Nat} (h : AP M_X9_weightByCounting b 25 [.ref n, x1, x2] (.ref n :: st) hi g Φ) : AP M_X9_weightByCounting b 24 [.ref n, x1, x2] (st) hi g Φ := AP.aload_n (x := n) (i := 0) d_X9_weightByCounting_24 rfl rfl h
theorem d_X9_weightByCounting_25 : decode cX9_weightByCounting 25 = .ok (.getfield 12, 3) := by decide +kernel
theorem s_X9_weightByCounting_25 {k r : Nat} (hI : am_Inv g) (hs : am_SH k = (0, 9)) (hk : k < 134) (hr : am_HRf k 0 = some r) (hn : k ≠ 39) (h : AP M_X9_weightByCounting b 28 [x0, x1, x2] (.ref r :: st) hi g Φ) : AP M_X9_weightByCounting b 25 [x0, x1, x2] (.ref k :: st) hi g Φ := AP.getR (j := 0) (q := (RX9, TX9, 7)) d_X9_weightByCounting_25 hs (hI.lt hk) rfl (by decide) (by decide) w_345 (hI.r hn hr) h
theorem d_X9_weightByCounting_28 : decode cX9_weightByCounting 28 = .ok (.invokevirtual 154, 3) := by decide +kernel
theorem s_X9_weightByCounting_28  {k : Nat} {P : am_HI → Prop} (hI : am_Inv g) (hs : am_SH k = (0, 7)) (hk : k < 134) (hst : (st.map Value.category).sum ≤ 8) (hc : am_Cr M_X7_follow [.ref k] hi g none P) (h : ∀ hi' : am_HI, P hi' → AP M_X9_weightByCounting b 31 [x0, x1, x2] (st) hi' g Φ) : AP M_X9_weightByCounting b 28 [x0, x1, x2] (.ref k :: st) hi g Φ := AP.callVr (As := []) (q := (RX7, TX7, 7)) hI hc k_X9_weightByCounting_154 d_X9_weightByCounting_28 rfl hs hk rfl rfl hst h
theorem d_X9_weightByCounting_31 : decode cX9_weightByCounting 31 = .ok (.aload_n 0, 1) := by decide +kernel
theorem s_X9_weightByCounting_31 {n : Nat} (h : AP M_X9_weightByCounting b 32 [.ref n, x1, x2] (.ref n :: st) hi g Φ) : AP M_X9_weightByCounting b 31 [.ref n, x1, x2] (st) hi g Φ := AP.aload_n (x := n) (i := 0) d_X9_weightByCounting_31 rfl rfl h
theorem d_X9_weightByCounting_32 : decode cX9_weightByCounting 32 = .ok (.getfield 20, 3) := by decide +kernel
theorem s_X9_weightByCounting_32 {k r : Nat} (hI : am_Inv g) (hs : am_SH k = (0, 9)) (hk : k < 134) (hr : am_HRf k 1 = some r) (hn : k ≠ 39) (h : AP M_X9_weightByCounting b 35 [x0, x1, x2] (.ref r :: st) hi g Φ) : AP M_X9_weightByCounting b 32 [x0, x1, x2] (.ref k :: st) hi g Φ := AP.getR (j := 1) (q := (RX9, TX9, 7)) d_X9_weightByCounting_32 hs (hI.lt hk) rfl (by decide) (by decide) w_346 (hI.r hn hr) h
theorem d_X9_weightByCounting_35 : decode cX9_weightByCounting 35 = .ok (.getfield 110, 3) := by decide +kernel
theorem s_X9_weightByCounting_35 {k r : Nat} (hI : am_Inv g) (hs : am_SH k = (0, 6)) (hk : k < 134) (hr : am_HRf k 1 = some r) (hn : k ≠ 39) (h : AP M_X9_weightByCounting b 38 [x0, x1, x2] (.ref r :: st) hi g Φ) : AP M_X9_weightByCounting b 35 [x0, x1, x2] (.ref k :: st) hi g Φ := AP.getR (j := 1) (q := (RX6, TX6, 8)) d_X9_weightByCounting_35 hs (hI.lt hk) rfl (by decide) (by decide) w_163 (hI.r hn hr) h
theorem d_X9_weightByCounting_38 : decode cX9_weightByCounting 38 = .ok (.iload_n 1, 1) := by decide +kernel
theorem s_X9_weightByCounting_38 {n : Int32} (h : AP M_X9_weightByCounting b 39 [x0, .int n, x2] (.int n :: st) hi g Φ) : AP M_X9_weightByCounting b 38 [x0, .int n, x2] (st) hi g Φ := AP.iload_n (x := n) (i := 1) d_X9_weightByCounting_38 rfl rfl h
theorem d_X9_weightByCounting_39 : decode cX9_weightByCounting 39 = .ok (.iconst 1, 1) := by decide +kernel
theorem s_X9_weightByCounting_39 (h : AP M_X9_weightByCounting b 40 [x0, x1, x2] (.int 1 :: st) hi g Φ) : AP M_X9_weightByCounting b 39 [x0, x1, x2] (st) hi g Φ := AP.iconst (x := 1) d_X9_weightByCounting_39 (by decide) h
theorem d_X9_weightByCounting_40 : decode cX9_weightByCounting 40 = .ok (.isub, 1) := by decide +kernel
theorem s_X9_weightByCounting_40 {x y : Int32} (h : AP M_X9_weightByCounting b 41 [x0, x1, x2] (.int (x - y) :: st) hi g Φ) : AP M_X9_weightByCounting b 40 [x0, x1, x2] (.int y :: .int x :: st) hi g Φ := AP.isub d_X9_weightByCounting_40 h
theorem d_X9_weightByCounting_41 : decode cX9_weightByCounting 41 = .ok (.iaload, 1) := by decide +kernel
theorem s_X9_weightByCounting_41 {k n j : Nat} {i : Int32} (hI : am_Inv g) (hs : am_SH k = (1, n)) (hk : k < 134) (hn : n < 2 ^ 31) (hx : i = nI j) (hj : j < n) (h : AP M_X9_weightByCounting b 42 [x0, x1, x2] (.int (hi k j) :: st) hi g Φ) : AP M_X9_weightByCounting b 41 [x0, x1, x2] (.int i :: .ref k :: st) hi g Φ := AP.iald d_X9_weightByCounting_41 hs (hI.lt hk) hn hx hj h
theorem d_X9_weightByCounting_42 : decode cX9_weightByCounting 42 = .ok (.aload_n 0, 1) := by decide +kernel
theorem s_X9_weightByCounting_42 {n : Nat} (h : AP M_X9_weightByCounting b 43 [.ref n, x1, x2] (.ref n :: st) hi g Φ) : AP M_X9_weightByCounting b 42 [.ref n, x1, x2] (st) hi g Φ := AP.aload_n (x := n) (i := 0) d_X9_weightByCounting_42 rfl rfl h
theorem d_X9_weightByCounting_43 : decode cX9_weightByCounting 43 = .ok (.getfield 20, 3) := by decide +kernel
theorem s_X9_weightByCounting_43 {k r : Nat} (hI : am_Inv g) (hs : am_SH k = (0, 9)) (hk : k < 134) (hr : am_HRf k 1 = some r) (hn : k ≠ 39) (h : AP M_X9_weightByCounting b 46 [x0, x1, x2] (.ref r :: st) hi g Φ) : AP M_X9_weightByCounting b 43 [x0, x1, x2] (.ref k :: st) hi g Φ := AP.getR (j := 1) (q := (RX9, TX9, 7)) d_X9_weightByCounting_43 hs (hI.lt hk) rfl (by decide) (by decide) w_346 (hI.r hn hr) h
theorem d_X9_weightByCounting_46 : decode cX9_weightByCounting 46 = .ok (.getfield 107, 3) := by decide +kernel
theorem s_X9_weightByCounting_46 {k : Nat} (hI : am_Inv g) (hs : am_SH k = (0, 6)) (hk : k < 134) (h : AP M_X9_weightByCounting b 49 [x0, x1, x2] (.int (hi k 5) :: st) hi g Φ) : AP M_X9_weightByCounting b 46 [x0, x1, x2] (.ref k :: st) hi g Φ := AP.getI (j := 5) (q := (RX6, TX6, 8)) d_X9_weightByCounting_46 hs (hI.lt hk) rfl (by decide) (by decide) w_174 h
theorem d_X9_weightByCounting_49 : decode cX9_weightByCounting 49 = .ok (.aload_n 0, 1) := by decide +kernel
theorem s_X9_weightByCounting_49 {n : Nat} (h : AP M_X9_weightByCounting b 50 [.ref n, x1, x2] (.ref n :: st) hi g Φ) : AP M_X9_weightByCounting b 49 [.ref n, x1, x2] (st) hi g Φ := AP.aload_n (x := n) (i := 0) d_X9_weightByCounting_49 rfl rfl h
theorem d_X9_weightByCounting_50 : decode cX9_weightByCounting 50 = .ok (.getfield 12, 3) := by decide +kernel
theorem s_X9_weightByCounting_50 {k r : Nat} (hI : am_Inv g) (hs : am_SH k = (0, 9)) (hk : k < 134) (hr : am_HRf k 0 = some r) (hn : k ≠ 39) (h : AP M_X9_weightByCounting b 53 [x0, x1, x2] (.ref r :: st) hi g Φ) : AP M_X9_weightByCounting b 50 [x0, x1, x2] (.ref k :: st) hi g Φ := AP.getR (j := 0) (q := (RX9, TX9, 7)) d_X9_weightByCounting_50 hs (hI.lt hk) rfl (by decide) (by decide) w_345 (hI.r hn hr) h
theorem d_X9_weightByCounting_53 : decode cX9_weightByCounting 53 = .ok (.iload_n 1, 1) := by decide +kernel
theorem s_X9_weightByCounting_53 {n : Int32} (h : AP M_X9_weightByCounting b 54 [x0, .int n, x2] (.int n :: st) hi g Φ) : AP M_X9_weightByCounting b 53 [x0, .int n, x2] (st) hi g Φ := AP.iload_n (x := n) (i := 1) d_X9_weightByCounting_53 rfl rfl h
theorem d_X9_weightByCounting_54 : decode cX9_weightByCounting 54 = .ok (.iload_n 2, 1) := by decide +kernel
theorem s_X9_weightByCounting_54 {n : Int32} (h : AP M_X9_weightByCounting b 55 [x0, x1, .int n] (.int n :: st) hi g Φ) : AP M_X9_weightByCounting b 54 [x0, x1, .int n] (st) hi g Φ := AP.iload_n (x := n) (i := 2) d_X9_weightByCounting_54 rfl rfl h
theorem d_X9_weightByCounting_55 : decode cX9_weightByCounting 55 = .ok (.invokevirtual 161, 3) := by decide +kernel
theorem s_X9_weightByCounting_55 {a0 : Int32} {a1 : Int32} {k : Nat} {r0 : Int32} {P : am_HI → Prop} (hI : am_Inv g) (hs : am_SH k = (0, 7)) (hk : k < 134) (hst : (st.map Value.category).sum ≤ 8) (hc : am_Cr M_X7_countRises [.ref k, .int a0, .int a1] hi g (some (.int r0)) P) (h : ∀ hi' : am_HI, P hi' → AP M_X9_weightByCounting b 58 [x0, x1, x2] (.int r0 :: st) hi' g Φ) : AP M_X9_weightByCounting b 55 [x0, x1, x2] (.int a1 :: .int a0 :: .ref k :: st) hi g Φ := AP.callVr (As := [.int a0, .int a1]) (q := (RX7, TX7, 7)) hI hc k_X9_weightByCounting_161 d_X9_weightByCounting_55 rfl hs hk rfl rfl hst h
theorem d_X9_weightByCounting_58 : decode cX9_weightByCounting 58 = .ok (.imul, 1) := by decide +kernel
theorem s_X9_weightByCounting_58 {x y : Int32} (h : AP M_X9_weightByCounting b 59 [x0, x1, x2] (.int (x * y) :: st) hi g Φ) : AP M_X9_weightByCounting b 58 [x0, x1, x2] (.int y :: .int x :: st) hi g Φ := AP.imul d_X9_weightByCounting_58 h
theorem d_X9_weightByCounting_59 : decode cX9_weightByCounting 59 = .ok (.iadd, 1) := by decide +kernel
theorem s_X9_weightByCounting_59 {x y : Int32} (h : AP M_X9_weightByCounting b 60 [x0, x1, x2] (.int (x + y) :: st) hi g Φ) : AP M_X9_weightByCounting b 59 [x0, x1, x2] (.int y :: .int x :: st) hi g Φ := AP.iadd d_X9_weightByCounting_59 h
theorem d_X9_weightByCounting_60 : decode cX9_weightByCounting 60 = .ok (.ireturn, 1) := by decide +kernel
theorem s_X9_weightByCounting_60 {x : Int32} (h : Φ (.ok (some (.int x))) hi g) : AP M_X9_weightByCounting b 60 [x0, x1, x2] [.int x] hi g Φ := AP.iret d_X9_weightByCounting_60 rfl h
end
section
variable {b : Nat × Nat} {st : List Value} {hi : am_HI} {g : am_G} {Φ : am_P} {x0 x1 : Value}
theorem d_X9_whyBest_0 : decode cX9_whyBest 0 = .ok (.aload_n 0, 1) := by decide +kernel
theorem s_X9_whyBest_0 {n : Nat} (h : AP M_X9_whyBest b 1 [.ref n, x1] (.ref n :: st) hi g Φ) : AP M_X9_whyBest b 0 [.ref n, x1] (st) hi g Φ := AP.aload_n (x := n) (i := 0) d_X9_whyBest_0 rfl rfl h
theorem d_X9_whyBest_1 : decode cX9_whyBest 1 = .ok (.iload_n 1, 1) := by decide +kernel
theorem s_X9_whyBest_1 {n : Int32} (h : AP M_X9_whyBest b 2 [x0, .int n] (.int n :: st) hi g Φ) : AP M_X9_whyBest b 1 [x0, .int n] (st) hi g Φ := AP.iload_n (x := n) (i := 1) d_X9_whyBest_1 rfl rfl h
theorem d_X9_whyBest_2 : decode cX9_whyBest 2 = .ok (.invokevirtual 186, 3) := by decide +kernel
theorem s_X9_whyBest_2 {a0 : Int32} {k : Nat} {r0 : Int32} {P : am_HI → Prop} (hI : am_Inv g) (hs : am_SH k = (0, 9)) (hk : k < 134) (hst : (st.map Value.category).sum ≤ 8) (hc : am_Cr M_X9_isBlock [.ref k, .int a0] hi g (some (.int r0)) P) (h : ∀ hi' : am_HI, P hi' → AP M_X9_whyBest b 5 [x0, x1] (.int r0 :: st) hi' g Φ) : AP M_X9_whyBest b 2 [x0, x1] (.int a0 :: .ref k :: st) hi g Φ := AP.callVr (As := [.int a0]) (q := (RX9, TX9, 7)) hI hc k_X9_whyBest_186 d_X9_whyBest_2 rfl hs hk rfl rfl hst h
theorem d_X9_whyBest_5 : decode cX9_whyBest 5 = .ok (.invokestatic 97, 3) := by decide +kernel
theorem s_X9_whyBest_5 {a0 : Int32} {P : am_HI → Prop} (hI : am_Inv g) (hst : (st.map Value.category).sum ≤ 8) (hc : am_Cr M_X9_needIndex [.int a0] hi g none P) (h : ∀ hi' : am_HI, P hi' → AP M_X9_whyBest b 8 [x0, x1] (st) hi' g Φ) : AP M_X9_whyBest b 5 [x0, x1] (.int a0 :: st) hi g Φ := AP.callSr (As := [.int a0]) hI hc k_X9_whyBest_97 d_X9_whyBest_5 rfl hst h
theorem d_X9_whyBest_8 : decode cX9_whyBest 8 = .ok (.aload_n 0, 1) := by decide +kernel
theorem s_X9_whyBest_8 {n : Nat} (h : AP M_X9_whyBest b 9 [.ref n, x1] (.ref n :: st) hi g Φ) : AP M_X9_whyBest b 8 [.ref n, x1] (st) hi g Φ := AP.aload_n (x := n) (i := 0) d_X9_whyBest_8 rfl rfl h
theorem d_X9_whyBest_9 : decode cX9_whyBest 9 = .ok (.getfield 12, 3) := by decide +kernel
theorem s_X9_whyBest_9 {k r : Nat} (hI : am_Inv g) (hs : am_SH k = (0, 9)) (hk : k < 134) (hr : am_HRf k 0 = some r) (hn : k ≠ 39) (h : AP M_X9_whyBest b 12 [x0, x1] (.ref r :: st) hi g Φ) : AP M_X9_whyBest b 9 [x0, x1] (.ref k :: st) hi g Φ := AP.getR (j := 0) (q := (RX9, TX9, 7)) d_X9_whyBest_9 hs (hI.lt hk) rfl (by decide) (by decide) w_345 (hI.r hn hr) h
theorem d_X9_whyBest_12 : decode cX9_whyBest 12 = .ok (.invokevirtual 192, 3) := by decide +kernel
theorem s_X9_whyBest_12  {k : Nat} {P : am_HI → Prop} (hI : am_Inv g) (hs : am_SH k = (0, 7)) (hk : k < 134) (hst : (st.map Value.category).sum ≤ 8) (hc : am_Cr M_X7_weighBlocks [.ref k] hi g none P) (h : ∀ hi' : am_HI, P hi' → AP M_X9_whyBest b 15 [x0, x1] (st) hi' g Φ) : AP M_X9_whyBest b 12 [x0, x1] (.ref k :: st) hi g Φ := AP.callVr (As := []) (q := (RX7, TX7, 7)) hI hc k_X9_whyBest_192 d_X9_whyBest_12 rfl hs hk rfl rfl hst h
theorem d_X9_whyBest_15 : decode cX9_whyBest 15 = .ok (.aload_n 0, 1) := by decide +kernel
theorem s_X9_whyBest_15 {n : Nat} (h : AP M_X9_whyBest b 16 [.ref n, x1] (.ref n :: st) hi g Φ) : AP M_X9_whyBest b 15 [.ref n, x1] (st) hi g Φ := AP.aload_n (x := n) (i := 0) d_X9_whyBest_15 rfl rfl h
theorem d_X9_whyBest_16 : decode cX9_whyBest 16 = .ok (.getfield 12, 3) := by decide +kernel
theorem s_X9_whyBest_16 {k r : Nat} (hI : am_Inv g) (hs : am_SH k = (0, 9)) (hk : k < 134) (hr : am_HRf k 0 = some r) (hn : k ≠ 39) (h : AP M_X9_whyBest b 19 [x0, x1] (.ref r :: st) hi g Φ) : AP M_X9_whyBest b 16 [x0, x1] (.ref k :: st) hi g Φ := AP.getR (j := 0) (q := (RX9, TX9, 7)) d_X9_whyBest_16 hs (hI.lt hk) rfl (by decide) (by decide) w_345 (hI.r hn hr) h
theorem d_X9_whyBest_19 : decode cX9_whyBest 19 = .ok (.iload_n 1, 1) := by decide +kernel
theorem s_X9_whyBest_19 {n : Int32} (h : AP M_X9_whyBest b 20 [x0, .int n] (.int n :: st) hi g Φ) : AP M_X9_whyBest b 19 [x0, .int n] (st) hi g Φ := AP.iload_n (x := n) (i := 1) d_X9_whyBest_19 rfl rfl h
theorem d_X9_whyBest_20 : decode cX9_whyBest 20 = .ok (.invokevirtual 201, 3) := by decide +kernel
theorem s_X9_whyBest_20 {a0 : Int32} {k : Nat} {r0 : Int32} {P : am_HI → Prop} (hI : am_Inv g) (hs : am_SH k = (0, 7)) (hk : k < 134) (hst : (st.map Value.category).sum ≤ 8) (hc : am_Cr M_X7_reasonFor [.ref k, .int a0] hi g (some (.int r0)) P) (h : ∀ hi' : am_HI, P hi' → AP M_X9_whyBest b 23 [x0, x1] (.int r0 :: st) hi' g Φ) : AP M_X9_whyBest b 20 [x0, x1] (.int a0 :: .ref k :: st) hi g Φ := AP.callVr (As := [.int a0]) (q := (RX7, TX7, 7)) hI hc k_X9_whyBest_201 d_X9_whyBest_20 rfl hs hk rfl rfl hst h
theorem d_X9_whyBest_23 : decode cX9_whyBest 23 = .ok (.ireturn, 1) := by decide +kernel
theorem s_X9_whyBest_23 {x : Int32} (h : Φ (.ok (some (.int x))) hi g) : AP M_X9_whyBest b 23 [x0, x1] [.int x] hi g Φ := AP.iret d_X9_whyBest_23 rfl h
end
