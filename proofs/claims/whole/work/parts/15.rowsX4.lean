/-! ===== rows by program ===== -/
section
variable {b : Nat × Nat} {st : List Value} {hi : am_HI} {g : am_G} {Φ : am_P} {x0 x1 : Value}
theorem d_X4_heardAt_0 : decode cX4_heardAt 0 = .ok (.iload_n 1, 1) := by decide +kernel
theorem s_X4_heardAt_0 {n : Int32} (h : AP M_X4_heardAt b 1 [x0, .int n] (.int n :: st) hi g Φ) : AP M_X4_heardAt b 0 [x0, .int n] (st) hi g Φ := AP.iload_n (x := n) (i := 1) d_X4_heardAt_0 rfl rfl h
theorem d_X4_heardAt_1 : decode cX4_heardAt 1 = .ok (.ifCond .lt 26, 3) := by decide +kernel
theorem s_X4_heardAt_1 {x : Int32} (h1 : x < 0 → AP M_X4_heardAt b 27 [x0, x1] st hi g Φ) (h2 : ¬ x < 0 → AP M_X4_heardAt b 4 [x0, x1] st hi g Φ) : AP M_X4_heardAt b 1 [x0, x1] (.int x :: st) hi g Φ := AP.if_lt d_X4_heardAt_1 (by decide) h1 h2
theorem d_X4_heardAt_4 : decode cX4_heardAt 4 = .ok (.iload_n 1, 1) := by decide +kernel
theorem s_X4_heardAt_4 {n : Int32} (h : AP M_X4_heardAt b 5 [x0, .int n] (.int n :: st) hi g Φ) : AP M_X4_heardAt b 4 [x0, .int n] (st) hi g Φ := AP.iload_n (x := n) (i := 1) d_X4_heardAt_4 rfl rfl h
theorem d_X4_heardAt_5 : decode cX4_heardAt 5 = .ok (.aload_n 0, 1) := by decide +kernel
theorem s_X4_heardAt_5 {n : Nat} (h : AP M_X4_heardAt b 6 [.ref n, x1] (.ref n :: st) hi g Φ) : AP M_X4_heardAt b 5 [.ref n, x1] (st) hi g Φ := AP.aload_n (x := n) (i := 0) d_X4_heardAt_5 rfl rfl h
theorem d_X4_heardAt_6 : decode cX4_heardAt 6 = .ok (.getfield 12, 3) := by decide +kernel
theorem s_X4_heardAt_6 {k r : Nat} (hI : am_Inv g) (hs : am_SH k = (0, 4)) (hk : k < 134) (hr : am_HRf k 0 = some r) (hn : k ≠ 39) (h : AP M_X4_heardAt b 9 [x0, x1] (.ref r :: st) hi g Φ) : AP M_X4_heardAt b 6 [x0, x1] (.ref k :: st) hi g Φ := AP.getR (j := 0) (q := (RX4, TX4, 1)) d_X4_heardAt_6 hs (hI.lt hk) rfl (by decide) (by decide) w_323 (hI.r hn hr) h
theorem d_X4_heardAt_9 : decode cX4_heardAt 9 = .ok (.getfield 69, 3) := by decide +kernel
theorem s_X4_heardAt_9 {k : Nat} (hI : am_Inv g) (hs : am_SH k = (0, 0)) (hk : k < 134) (h : AP M_X4_heardAt b 12 [x0, x1] (.int (hi k 2) :: st) hi g Φ) : AP M_X4_heardAt b 9 [x0, x1] (.ref k :: st) hi g Φ := AP.getI (j := 2) (q := (RX0, TX0, 6)) d_X4_heardAt_9 hs (hI.lt hk) rfl (by decide) (by decide) w_207 h
theorem d_X4_heardAt_12 : decode cX4_heardAt 12 = .ok (.if_icmp .ge 15, 3) := by decide +kernel
theorem s_X4_heardAt_12 {x y : Int32} (h1 : y ≤ x → AP M_X4_heardAt b 27 [x0, x1] st hi g Φ) (h2 : ¬ y ≤ x → AP M_X4_heardAt b 15 [x0, x1] st hi g Φ) : AP M_X4_heardAt b 12 [x0, x1] (.int y :: .int x :: st) hi g Φ := AP.icmp_ge d_X4_heardAt_12 (by decide) h1 h2
theorem d_X4_heardAt_15 : decode cX4_heardAt 15 = .ok (.aload_n 0, 1) := by decide +kernel
theorem s_X4_heardAt_15 {n : Nat} (h : AP M_X4_heardAt b 16 [.ref n, x1] (.ref n :: st) hi g Φ) : AP M_X4_heardAt b 15 [.ref n, x1] (st) hi g Φ := AP.aload_n (x := n) (i := 0) d_X4_heardAt_15 rfl rfl h
theorem d_X4_heardAt_16 : decode cX4_heardAt 16 = .ok (.getfield 12, 3) := by decide +kernel
theorem s_X4_heardAt_16 {k r : Nat} (hI : am_Inv g) (hs : am_SH k = (0, 4)) (hk : k < 134) (hr : am_HRf k 0 = some r) (hn : k ≠ 39) (h : AP M_X4_heardAt b 19 [x0, x1] (.ref r :: st) hi g Φ) : AP M_X4_heardAt b 16 [x0, x1] (.ref k :: st) hi g Φ := AP.getR (j := 0) (q := (RX4, TX4, 1)) d_X4_heardAt_16 hs (hI.lt hk) rfl (by decide) (by decide) w_323 (hI.r hn hr) h
theorem d_X4_heardAt_19 : decode cX4_heardAt 19 = .ok (.getfield 70, 3) := by decide +kernel
theorem s_X4_heardAt_19 {k r : Nat} (hI : am_Inv g) (hs : am_SH k = (0, 0)) (hk : k < 134) (hr : am_HRf k 0 = some r) (hn : k ≠ 39) (h : AP M_X4_heardAt b 22 [x0, x1] (.ref r :: st) hi g Φ) : AP M_X4_heardAt b 19 [x0, x1] (.ref k :: st) hi g Φ := AP.getR (j := 0) (q := (RX0, TX0, 6)) d_X4_heardAt_19 hs (hI.lt hk) rfl (by decide) (by decide) w_203 (hI.r hn hr) h
theorem d_X4_heardAt_22 : decode cX4_heardAt 22 = .ok (.iload_n 1, 1) := by decide +kernel
theorem s_X4_heardAt_22 {n : Int32} (h : AP M_X4_heardAt b 23 [x0, .int n] (.int n :: st) hi g Φ) : AP M_X4_heardAt b 22 [x0, .int n] (st) hi g Φ := AP.iload_n (x := n) (i := 1) d_X4_heardAt_22 rfl rfl h
theorem d_X4_heardAt_23 : decode cX4_heardAt 23 = .ok (.iaload, 1) := by decide +kernel
theorem s_X4_heardAt_23 {k n j : Nat} {i : Int32} (hI : am_Inv g) (hs : am_SH k = (1, n)) (hk : k < 134) (hn : n < 2 ^ 31) (hx : i = nI j) (hj : j < n) (h : AP M_X4_heardAt b 24 [x0, x1] (.int (hi k j) :: st) hi g Φ) : AP M_X4_heardAt b 23 [x0, x1] (.int i :: .ref k :: st) hi g Φ := AP.iald d_X4_heardAt_23 hs (hI.lt hk) hn hx hj h
theorem d_X4_heardAt_24 : decode cX4_heardAt 24 = .ok (.goto 4, 3) := by decide +kernel
theorem s_X4_heardAt_24 (h : AP M_X4_heardAt b 28 [x0, x1] st hi g Φ) : AP M_X4_heardAt b 24 [x0, x1] st hi g Φ := AP.goto d_X4_heardAt_24 (by decide) h
theorem d_X4_heardAt_27 : decode cX4_heardAt 27 = .ok (.iconst 0, 1) := by decide +kernel
theorem s_X4_heardAt_27 (h : AP M_X4_heardAt b 28 [x0, x1] (.int 0 :: st) hi g Φ) : AP M_X4_heardAt b 27 [x0, x1] (st) hi g Φ := AP.iconst (x := 0) d_X4_heardAt_27 (by decide) h
theorem d_X4_heardAt_28 : decode cX4_heardAt 28 = .ok (.ireturn, 1) := by decide +kernel
theorem s_X4_heardAt_28 {x : Int32} (h : Φ (.ok (some (.int x))) hi g) : AP M_X4_heardAt b 28 [x0, x1] [.int x] hi g Φ := AP.iret d_X4_heardAt_28 rfl h
end
section
variable {b : Nat × Nat} {st : List Value} {hi : am_HI} {g : am_G} {Φ : am_P} {x0 x1 x2 x3 : Value}
theorem d_X4_countUnlike_0 : decode cX4_countUnlike 0 = .ok (.iconst 0, 1) := by decide +kernel
theorem s_X4_countUnlike_0 (h : AP M_X4_countUnlike b 1 [x0, x1, x2, x3] (.int 0 :: st) hi g Φ) : AP M_X4_countUnlike b 0 [x0, x1, x2, x3] (st) hi g Φ := AP.iconst (x := 0) d_X4_countUnlike_0 (by decide) h
theorem d_X4_countUnlike_1 : decode cX4_countUnlike 1 = .ok (.istore_n 2, 1) := by decide +kernel
theorem s_X4_countUnlike_1 {n : Int32} (hc : x1.category = 1) (h : AP M_X4_countUnlike b 2 [x0, x1, .int n, x3] (st) hi g Φ) : AP M_X4_countUnlike b 1 [x0, x1, x2, x3] (.int n :: st) hi g Φ := AP.istore_n (x := n) (i := 2) d_X4_countUnlike_1 rfl (by decide) (by simp [am_st, am_ci, am_cr, am_cl, am_cd, hc]) h
theorem d_X4_countUnlike_2 : decode cX4_countUnlike 2 = .ok (.iconst 0, 1) := by decide +kernel
theorem s_X4_countUnlike_2 (h : AP M_X4_countUnlike b 3 [x0, x1, x2, x3] (.int 0 :: st) hi g Φ) : AP M_X4_countUnlike b 2 [x0, x1, x2, x3] (st) hi g Φ := AP.iconst (x := 0) d_X4_countUnlike_2 (by decide) h
theorem d_X4_countUnlike_3 : decode cX4_countUnlike 3 = .ok (.istore_n 3, 1) := by decide +kernel
theorem s_X4_countUnlike_3 {n : Int32} (hc : x2.category = 1) (h : AP M_X4_countUnlike b 4 [x0, x1, x2, .int n] (st) hi g Φ) : AP M_X4_countUnlike b 3 [x0, x1, x2, x3] (.int n :: st) hi g Φ := AP.istore_n (x := n) (i := 3) d_X4_countUnlike_3 rfl (by decide) (by simp [am_st, am_ci, am_cr, am_cl, am_cd, hc]) h
theorem d_X4_countUnlike_4 : decode cX4_countUnlike 4 = .ok (.iload_n 3, 1) := by decide +kernel
theorem s_X4_countUnlike_4 {n : Int32} (h : AP M_X4_countUnlike b 5 [x0, x1, x2, .int n] (.int n :: st) hi g Φ) : AP M_X4_countUnlike b 4 [x0, x1, x2, .int n] (st) hi g Φ := AP.iload_n (x := n) (i := 3) d_X4_countUnlike_4 rfl rfl h
theorem d_X4_countUnlike_5 : decode cX4_countUnlike 5 = .ok (.aload_n 1, 1) := by decide +kernel
theorem s_X4_countUnlike_5 {n : Nat} (h : AP M_X4_countUnlike b 6 [x0, .ref n, x2, x3] (.ref n :: st) hi g Φ) : AP M_X4_countUnlike b 5 [x0, .ref n, x2, x3] (st) hi g Φ := AP.aload_n (x := n) (i := 1) d_X4_countUnlike_5 rfl rfl h
theorem d_X4_countUnlike_6 : decode cX4_countUnlike 6 = .ok (.getfield 35, 3) := by decide +kernel
theorem s_X4_countUnlike_6 {k : Nat} (hI : am_Inv g) (hs : am_SH k = (0, 2)) (hk : k < 134) (h : AP M_X4_countUnlike b 9 [x0, x1, x2, x3] (.int (hi k 5) :: st) hi g Φ) : AP M_X4_countUnlike b 6 [x0, x1, x2, x3] (.ref k :: st) hi g Φ := AP.getI (j := 5) (q := (RX2, TX2, 8)) d_X4_countUnlike_6 hs (hI.lt hk) rfl (by decide) (by decide) w_132 h
theorem d_X4_countUnlike_9 : decode cX4_countUnlike 9 = .ok (.if_icmp .ge 31, 3) := by decide +kernel
theorem s_X4_countUnlike_9 {x y : Int32} (h1 : y ≤ x → AP M_X4_countUnlike b 40 [x0, x1, x2, x3] st hi g Φ) (h2 : ¬ y ≤ x → AP M_X4_countUnlike b 12 [x0, x1, x2, x3] st hi g Φ) : AP M_X4_countUnlike b 9 [x0, x1, x2, x3] (.int y :: .int x :: st) hi g Φ := AP.icmp_ge d_X4_countUnlike_9 (by decide) h1 h2
theorem d_X4_countUnlike_12 : decode cX4_countUnlike 12 = .ok (.iload_n 2, 1) := by decide +kernel
theorem s_X4_countUnlike_12 {n : Int32} (h : AP M_X4_countUnlike b 13 [x0, x1, .int n, x3] (.int n :: st) hi g Φ) : AP M_X4_countUnlike b 12 [x0, x1, .int n, x3] (st) hi g Φ := AP.iload_n (x := n) (i := 2) d_X4_countUnlike_12 rfl rfl h
theorem d_X4_countUnlike_13 : decode cX4_countUnlike 13 = .ok (.aload_n 0, 1) := by decide +kernel
theorem s_X4_countUnlike_13 {n : Nat} (h : AP M_X4_countUnlike b 14 [.ref n, x1, x2, x3] (.ref n :: st) hi g Φ) : AP M_X4_countUnlike b 13 [.ref n, x1, x2, x3] (st) hi g Φ := AP.aload_n (x := n) (i := 0) d_X4_countUnlike_13 rfl rfl h
theorem d_X4_countUnlike_14 : decode cX4_countUnlike 14 = .ok (.iload_n 3, 1) := by decide +kernel
theorem s_X4_countUnlike_14 {n : Int32} (h : AP M_X4_countUnlike b 15 [x0, x1, x2, .int n] (.int n :: st) hi g Φ) : AP M_X4_countUnlike b 14 [x0, x1, x2, .int n] (st) hi g Φ := AP.iload_n (x := n) (i := 3) d_X4_countUnlike_14 rfl rfl h
theorem d_X4_countUnlike_15 : decode cX4_countUnlike 15 = .ok (.invokevirtual 73, 3) := by decide +kernel
theorem s_X4_countUnlike_15 {a0 : Int32} {k : Nat} {r0 : Int32} {P : am_HI → Prop} (hI : am_Inv g) (hs : am_SH k = (0, 4)) (hk : k < 134) (hst : (st.map Value.category).sum ≤ 8) (hc : am_Cr M_X4_heardAt [.ref k, .int a0] hi g (some (.int r0)) P) (h : ∀ hi' : am_HI, P hi' → AP M_X4_countUnlike b 18 [x0, x1, x2, x3] (.int r0 :: st) hi' g Φ) : AP M_X4_countUnlike b 15 [x0, x1, x2, x3] (.int a0 :: .ref k :: st) hi g Φ := AP.callVr (As := [.int a0]) (q := (RX4, TX4, 1)) hI hc k_X4_countUnlike_73 d_X4_countUnlike_15 rfl hs hk rfl rfl hst h
theorem d_X4_countUnlike_18 : decode cX4_countUnlike 18 = .ok (.aload_n 1, 1) := by decide +kernel
theorem s_X4_countUnlike_18 {n : Nat} (h : AP M_X4_countUnlike b 19 [x0, .ref n, x2, x3] (.ref n :: st) hi g Φ) : AP M_X4_countUnlike b 18 [x0, .ref n, x2, x3] (st) hi g Φ := AP.aload_n (x := n) (i := 1) d_X4_countUnlike_18 rfl rfl h
theorem d_X4_countUnlike_19 : decode cX4_countUnlike 19 = .ok (.getfield 76, 3) := by decide +kernel
theorem s_X4_countUnlike_19 {k r : Nat} (hI : am_Inv g) (hs : am_SH k = (0, 2)) (hk : k < 134) (hr : am_HRf k 4 = some r) (hn : k ≠ 39) (h : AP M_X4_countUnlike b 22 [x0, x1, x2, x3] (.ref r :: st) hi g Φ) : AP M_X4_countUnlike b 19 [x0, x1, x2, x3] (.ref k :: st) hi g Φ := AP.getR (j := 4) (q := (RX2, TX2, 8)) d_X4_countUnlike_19 hs (hI.lt hk) rfl (by decide) (by decide) w_128 (hI.r hn hr) h
theorem d_X4_countUnlike_22 : decode cX4_countUnlike 22 = .ok (.iload_n 3, 1) := by decide +kernel
theorem s_X4_countUnlike_22 {n : Int32} (h : AP M_X4_countUnlike b 23 [x0, x1, x2, .int n] (.int n :: st) hi g Φ) : AP M_X4_countUnlike b 22 [x0, x1, x2, .int n] (st) hi g Φ := AP.iload_n (x := n) (i := 3) d_X4_countUnlike_22 rfl rfl h
theorem d_X4_countUnlike_23 : decode cX4_countUnlike 23 = .ok (.iaload, 1) := by decide +kernel
theorem s_X4_countUnlike_23 {k n j : Nat} {i : Int32} (hI : am_Inv g) (hs : am_SH k = (1, n)) (hk : k < 134) (hn : n < 2 ^ 31) (hx : i = nI j) (hj : j < n) (h : AP M_X4_countUnlike b 24 [x0, x1, x2, x3] (.int (hi k j) :: st) hi g Φ) : AP M_X4_countUnlike b 23 [x0, x1, x2, x3] (.int i :: .ref k :: st) hi g Φ := AP.iald d_X4_countUnlike_23 hs (hI.lt hk) hn hx hj h
theorem d_X4_countUnlike_24 : decode cX4_countUnlike 24 = .ok (.if_icmp .eq 7, 3) := by decide +kernel
theorem s_X4_countUnlike_24 {x y : Int32} (h1 : x = y → AP M_X4_countUnlike b 31 [x0, x1, x2, x3] st hi g Φ) (h2 : ¬ x = y → AP M_X4_countUnlike b 27 [x0, x1, x2, x3] st hi g Φ) : AP M_X4_countUnlike b 24 [x0, x1, x2, x3] (.int y :: .int x :: st) hi g Φ := AP.icmp_eq d_X4_countUnlike_24 (by decide) h1 h2
theorem d_X4_countUnlike_27 : decode cX4_countUnlike 27 = .ok (.iconst 1, 1) := by decide +kernel
theorem s_X4_countUnlike_27 (h : AP M_X4_countUnlike b 28 [x0, x1, x2, x3] (.int 1 :: st) hi g Φ) : AP M_X4_countUnlike b 27 [x0, x1, x2, x3] (st) hi g Φ := AP.iconst (x := 1) d_X4_countUnlike_27 (by decide) h
theorem d_X4_countUnlike_28 : decode cX4_countUnlike 28 = .ok (.goto 4, 3) := by decide +kernel
theorem s_X4_countUnlike_28 (h : AP M_X4_countUnlike b 32 [x0, x1, x2, x3] st hi g Φ) : AP M_X4_countUnlike b 28 [x0, x1, x2, x3] st hi g Φ := AP.goto d_X4_countUnlike_28 (by decide) h
theorem d_X4_countUnlike_31 : decode cX4_countUnlike 31 = .ok (.iconst 0, 1) := by decide +kernel
theorem s_X4_countUnlike_31 (h : AP M_X4_countUnlike b 32 [x0, x1, x2, x3] (.int 0 :: st) hi g Φ) : AP M_X4_countUnlike b 31 [x0, x1, x2, x3] (st) hi g Φ := AP.iconst (x := 0) d_X4_countUnlike_31 (by decide) h
theorem d_X4_countUnlike_32 : decode cX4_countUnlike 32 = .ok (.iadd, 1) := by decide +kernel
theorem s_X4_countUnlike_32 {x y : Int32} (h : AP M_X4_countUnlike b 33 [x0, x1, x2, x3] (.int (x + y) :: st) hi g Φ) : AP M_X4_countUnlike b 32 [x0, x1, x2, x3] (.int y :: .int x :: st) hi g Φ := AP.iadd d_X4_countUnlike_32 h
theorem d_X4_countUnlike_33 : decode cX4_countUnlike 33 = .ok (.istore_n 2, 1) := by decide +kernel
theorem s_X4_countUnlike_33 {n : Int32} (hc : x1.category = 1) (h : AP M_X4_countUnlike b 34 [x0, x1, .int n, x3] (st) hi g Φ) : AP M_X4_countUnlike b 33 [x0, x1, x2, x3] (.int n :: st) hi g Φ := AP.istore_n (x := n) (i := 2) d_X4_countUnlike_33 rfl (by decide) (by simp [am_st, am_ci, am_cr, am_cl, am_cd, hc]) h
theorem d_X4_countUnlike_34 : decode cX4_countUnlike 34 = .ok (.iinc 3 1, 3) := by decide +kernel
theorem s_X4_countUnlike_34 {n : Int32} (hc : x2.category = 1) (h : AP M_X4_countUnlike b 37 [x0, x1, x2, .int (n + 1)] (st) hi g Φ) : AP M_X4_countUnlike b 34 [x0, x1, x2, .int n] (st) hi g Φ := AP.iinc (i := 3) (x := n) (y := n + 1) d_X4_countUnlike_34 rfl rfl (by decide) (by simp [am_st, am_ci, am_cr, am_cl, am_cd, hc]) h
theorem d_X4_countUnlike_37 : decode cX4_countUnlike 37 = .ok (.goto (-33), 3) := by decide +kernel
theorem s_X4_countUnlike_37 (h : AP M_X4_countUnlike b 4 [x0, x1, x2, x3] st hi g Φ) : AP M_X4_countUnlike b 37 [x0, x1, x2, x3] st hi g Φ := AP.goto d_X4_countUnlike_37 (by decide) h
theorem d_X4_countUnlike_40 : decode cX4_countUnlike 40 = .ok (.iload_n 2, 1) := by decide +kernel
theorem s_X4_countUnlike_40 {n : Int32} (h : AP M_X4_countUnlike b 41 [x0, x1, .int n, x3] (.int n :: st) hi g Φ) : AP M_X4_countUnlike b 40 [x0, x1, .int n, x3] (st) hi g Φ := AP.iload_n (x := n) (i := 2) d_X4_countUnlike_40 rfl rfl h
theorem d_X4_countUnlike_41 : decode cX4_countUnlike 41 = .ok (.ireturn, 1) := by decide +kernel
theorem s_X4_countUnlike_41 {x : Int32} (h : Φ (.ok (some (.int x))) hi g) : AP M_X4_countUnlike b 41 [x0, x1, x2, x3] [.int x] hi g Φ := AP.iret d_X4_countUnlike_41 rfl h
end
section
variable {b : Nat × Nat} {st : List Value} {hi : am_HI} {g : am_G} {Φ : am_P} {x0 x1 x2 : Value}
theorem d_X4_findUnlike_0 : decode cX4_findUnlike 0 = .ok (.iconst 0, 1) := by decide +kernel
theorem s_X4_findUnlike_0 (h : AP M_X4_findUnlike b 1 [x0, x1, x2] (.int 0 :: st) hi g Φ) : AP M_X4_findUnlike b 0 [x0, x1, x2] (st) hi g Φ := AP.iconst (x := 0) d_X4_findUnlike_0 (by decide) h
theorem d_X4_findUnlike_1 : decode cX4_findUnlike 1 = .ok (.istore_n 2, 1) := by decide +kernel
theorem s_X4_findUnlike_1 {n : Int32} (hc : x1.category = 1) (h : AP M_X4_findUnlike b 2 [x0, x1, .int n] (st) hi g Φ) : AP M_X4_findUnlike b 1 [x0, x1, x2] (.int n :: st) hi g Φ := AP.istore_n (x := n) (i := 2) d_X4_findUnlike_1 rfl (by decide) (by simp [am_st, am_ci, am_cr, am_cl, am_cd, hc]) h
theorem d_X4_findUnlike_2 : decode cX4_findUnlike 2 = .ok (.iload_n 2, 1) := by decide +kernel
theorem s_X4_findUnlike_2 {n : Int32} (h : AP M_X4_findUnlike b 3 [x0, x1, .int n] (.int n :: st) hi g Φ) : AP M_X4_findUnlike b 2 [x0, x1, .int n] (st) hi g Φ := AP.iload_n (x := n) (i := 2) d_X4_findUnlike_2 rfl rfl h
theorem d_X4_findUnlike_3 : decode cX4_findUnlike 3 = .ok (.aload_n 1, 1) := by decide +kernel
theorem s_X4_findUnlike_3 {n : Nat} (h : AP M_X4_findUnlike b 4 [x0, .ref n, x2] (.ref n :: st) hi g Φ) : AP M_X4_findUnlike b 3 [x0, .ref n, x2] (st) hi g Φ := AP.aload_n (x := n) (i := 1) d_X4_findUnlike_3 rfl rfl h
theorem d_X4_findUnlike_4 : decode cX4_findUnlike 4 = .ok (.getfield 35, 3) := by decide +kernel
theorem s_X4_findUnlike_4 {k : Nat} (hI : am_Inv g) (hs : am_SH k = (0, 2)) (hk : k < 134) (h : AP M_X4_findUnlike b 7 [x0, x1, x2] (.int (hi k 5) :: st) hi g Φ) : AP M_X4_findUnlike b 4 [x0, x1, x2] (.ref k :: st) hi g Φ := AP.getI (j := 5) (q := (RX2, TX2, 8)) d_X4_findUnlike_4 hs (hI.lt hk) rfl (by decide) (by decide) w_132 h
theorem d_X4_findUnlike_7 : decode cX4_findUnlike 7 = .ok (.if_icmp .ge 25, 3) := by decide +kernel
theorem s_X4_findUnlike_7 {x y : Int32} (h1 : y ≤ x → AP M_X4_findUnlike b 32 [x0, x1, x2] st hi g Φ) (h2 : ¬ y ≤ x → AP M_X4_findUnlike b 10 [x0, x1, x2] st hi g Φ) : AP M_X4_findUnlike b 7 [x0, x1, x2] (.int y :: .int x :: st) hi g Φ := AP.icmp_ge d_X4_findUnlike_7 (by decide) h1 h2
theorem d_X4_findUnlike_10 : decode cX4_findUnlike 10 = .ok (.aload_n 0, 1) := by decide +kernel
theorem s_X4_findUnlike_10 {n : Nat} (h : AP M_X4_findUnlike b 11 [.ref n, x1, x2] (.ref n :: st) hi g Φ) : AP M_X4_findUnlike b 10 [.ref n, x1, x2] (st) hi g Φ := AP.aload_n (x := n) (i := 0) d_X4_findUnlike_10 rfl rfl h
theorem d_X4_findUnlike_11 : decode cX4_findUnlike 11 = .ok (.iload_n 2, 1) := by decide +kernel
theorem s_X4_findUnlike_11 {n : Int32} (h : AP M_X4_findUnlike b 12 [x0, x1, .int n] (.int n :: st) hi g Φ) : AP M_X4_findUnlike b 11 [x0, x1, .int n] (st) hi g Φ := AP.iload_n (x := n) (i := 2) d_X4_findUnlike_11 rfl rfl h
theorem d_X4_findUnlike_12 : decode cX4_findUnlike 12 = .ok (.invokevirtual 73, 3) := by decide +kernel
theorem s_X4_findUnlike_12 {a0 : Int32} {k : Nat} {r0 : Int32} {P : am_HI → Prop} (hI : am_Inv g) (hs : am_SH k = (0, 4)) (hk : k < 134) (hst : (st.map Value.category).sum ≤ 8) (hc : am_Cr M_X4_heardAt [.ref k, .int a0] hi g (some (.int r0)) P) (h : ∀ hi' : am_HI, P hi' → AP M_X4_findUnlike b 15 [x0, x1, x2] (.int r0 :: st) hi' g Φ) : AP M_X4_findUnlike b 12 [x0, x1, x2] (.int a0 :: .ref k :: st) hi g Φ := AP.callVr (As := [.int a0]) (q := (RX4, TX4, 1)) hI hc k_X4_findUnlike_73 d_X4_findUnlike_12 rfl hs hk rfl rfl hst h
theorem d_X4_findUnlike_15 : decode cX4_findUnlike 15 = .ok (.aload_n 1, 1) := by decide +kernel
theorem s_X4_findUnlike_15 {n : Nat} (h : AP M_X4_findUnlike b 16 [x0, .ref n, x2] (.ref n :: st) hi g Φ) : AP M_X4_findUnlike b 15 [x0, .ref n, x2] (st) hi g Φ := AP.aload_n (x := n) (i := 1) d_X4_findUnlike_15 rfl rfl h
theorem d_X4_findUnlike_16 : decode cX4_findUnlike 16 = .ok (.getfield 76, 3) := by decide +kernel
theorem s_X4_findUnlike_16 {k r : Nat} (hI : am_Inv g) (hs : am_SH k = (0, 2)) (hk : k < 134) (hr : am_HRf k 4 = some r) (hn : k ≠ 39) (h : AP M_X4_findUnlike b 19 [x0, x1, x2] (.ref r :: st) hi g Φ) : AP M_X4_findUnlike b 16 [x0, x1, x2] (.ref k :: st) hi g Φ := AP.getR (j := 4) (q := (RX2, TX2, 8)) d_X4_findUnlike_16 hs (hI.lt hk) rfl (by decide) (by decide) w_128 (hI.r hn hr) h
theorem d_X4_findUnlike_19 : decode cX4_findUnlike 19 = .ok (.iload_n 2, 1) := by decide +kernel
theorem s_X4_findUnlike_19 {n : Int32} (h : AP M_X4_findUnlike b 20 [x0, x1, .int n] (.int n :: st) hi g Φ) : AP M_X4_findUnlike b 19 [x0, x1, .int n] (st) hi g Φ := AP.iload_n (x := n) (i := 2) d_X4_findUnlike_19 rfl rfl h
theorem d_X4_findUnlike_20 : decode cX4_findUnlike 20 = .ok (.iaload, 1) := by decide +kernel
theorem s_X4_findUnlike_20 {k n j : Nat} {i : Int32} (hI : am_Inv g) (hs : am_SH k = (1, n)) (hk : k < 134) (hn : n < 2 ^ 31) (hx : i = nI j) (hj : j < n) (h : AP M_X4_findUnlike b 21 [x0, x1, x2] (.int (hi k j) :: st) hi g Φ) : AP M_X4_findUnlike b 20 [x0, x1, x2] (.int i :: .ref k :: st) hi g Φ := AP.iald d_X4_findUnlike_20 hs (hI.lt hk) hn hx hj h
theorem d_X4_findUnlike_21 : decode cX4_findUnlike 21 = .ok (.if_icmp .eq 5, 3) := by decide +kernel
theorem s_X4_findUnlike_21 {x y : Int32} (h1 : x = y → AP M_X4_findUnlike b 26 [x0, x1, x2] st hi g Φ) (h2 : ¬ x = y → AP M_X4_findUnlike b 24 [x0, x1, x2] st hi g Φ) : AP M_X4_findUnlike b 21 [x0, x1, x2] (.int y :: .int x :: st) hi g Φ := AP.icmp_eq d_X4_findUnlike_21 (by decide) h1 h2
theorem d_X4_findUnlike_24 : decode cX4_findUnlike 24 = .ok (.iload_n 2, 1) := by decide +kernel
theorem s_X4_findUnlike_24 {n : Int32} (h : AP M_X4_findUnlike b 25 [x0, x1, .int n] (.int n :: st) hi g Φ) : AP M_X4_findUnlike b 24 [x0, x1, .int n] (st) hi g Φ := AP.iload_n (x := n) (i := 2) d_X4_findUnlike_24 rfl rfl h
theorem d_X4_findUnlike_25 : decode cX4_findUnlike 25 = .ok (.ireturn, 1) := by decide +kernel
theorem s_X4_findUnlike_25 {x : Int32} (h : Φ (.ok (some (.int x))) hi g) : AP M_X4_findUnlike b 25 [x0, x1, x2] [.int x] hi g Φ := AP.iret d_X4_findUnlike_25 rfl h
theorem d_X4_findUnlike_26 : decode cX4_findUnlike 26 = .ok (.iinc 2 1, 3) := by decide +kernel
theorem s_X4_findUnlike_26 {n : Int32} (hc : x1.category = 1) (h : AP M_X4_findUnlike b 29 [x0, x1, .int (n + 1)] (st) hi g Φ) : AP M_X4_findUnlike b 26 [x0, x1, .int n] (st) hi g Φ := AP.iinc (i := 2) (x := n) (y := n + 1) d_X4_findUnlike_26 rfl rfl (by decide) (by simp [am_st, am_ci, am_cr, am_cl, am_cd, hc]) h
theorem d_X4_findUnlike_29 : decode cX4_findUnlike 29 = .ok (.goto (-27), 3) := by decide +kernel
theorem s_X4_findUnlike_29 (h : AP M_X4_findUnlike b 2 [x0, x1, x2] st hi g Φ) : AP M_X4_findUnlike b 29 [x0, x1, x2] st hi g Φ := AP.goto d_X4_findUnlike_29 (by decide) h
theorem d_X4_findUnlike_32 : decode cX4_findUnlike 32 = .ok (.iconst (-1), 1) := by decide +kernel
theorem s_X4_findUnlike_32 (h : AP M_X4_findUnlike b 33 [x0, x1, x2] (.int (-1) :: st) hi g Φ) : AP M_X4_findUnlike b 32 [x0, x1, x2] (st) hi g Φ := AP.iconst (x := (-1)) d_X4_findUnlike_32 (by decide) h
theorem d_X4_findUnlike_33 : decode cX4_findUnlike 33 = .ok (.ireturn, 1) := by decide +kernel
theorem s_X4_findUnlike_33 {x : Int32} (h : Φ (.ok (some (.int x))) hi g) : AP M_X4_findUnlike b 33 [x0, x1, x2] [.int x] hi g Φ := AP.iret d_X4_findUnlike_33 rfl h
end
section
variable {b : Nat × Nat} {st : List Value} {hi : am_HI} {g : am_G} {Φ : am_P} {x0 x1 x2 x3 x4 : Value}
theorem d_X4_read_0 : decode cX4_read 0 = .ok (.aload_n 0, 1) := by decide +kernel
theorem s_X4_read_0 {n : Nat} (h : AP M_X4_read b 1 [.ref n, x1, x2, x3, x4] (.ref n :: st) hi g Φ) : AP M_X4_read b 0 [.ref n, x1, x2, x3, x4] (st) hi g Φ := AP.aload_n (x := n) (i := 0) d_X4_read_0 rfl rfl h
theorem d_X4_read_1 : decode cX4_read 1 = .ok (.getfield 12, 3) := by decide +kernel
theorem s_X4_read_1 {k r : Nat} (hI : am_Inv g) (hs : am_SH k = (0, 4)) (hk : k < 134) (hr : am_HRf k 0 = some r) (hn : k ≠ 39) (h : AP M_X4_read b 4 [x0, x1, x2, x3, x4] (.ref r :: st) hi g Φ) : AP M_X4_read b 1 [x0, x1, x2, x3, x4] (.ref k :: st) hi g Φ := AP.getR (j := 0) (q := (RX4, TX4, 1)) d_X4_read_1 hs (hI.lt hk) rfl (by decide) (by decide) w_323 (hI.r hn hr) h
theorem d_X4_read_4 : decode cX4_read 4 = .ok (.aload_n 1, 1) := by decide +kernel
theorem s_X4_read_4 {n : Nat} (h : AP M_X4_read b 5 [x0, .ref n, x2, x3, x4] (.ref n :: st) hi g Φ) : AP M_X4_read b 4 [x0, .ref n, x2, x3, x4] (st) hi g Φ := AP.aload_n (x := n) (i := 1) d_X4_read_4 rfl rfl h
theorem d_X4_read_5 : decode cX4_read 5 = .ok (.getfield 18, 3) := by decide +kernel
theorem s_X4_read_5 {k : Nat} (hI : am_Inv g) (hs : am_SH k = (0, 2)) (hk : k < 134) (h : AP M_X4_read b 8 [x0, x1, x2, x3, x4] (.int (hi k 6) :: st) hi g Φ) : AP M_X4_read b 5 [x0, x1, x2, x3, x4] (.ref k :: st) hi g Φ := AP.getI (j := 6) (q := (RX2, TX2, 8)) d_X4_read_5 hs (hI.lt hk) rfl (by decide) (by decide) w_135 h
theorem d_X4_read_8 : decode cX4_read 8 = .ok (.aload_n 1, 1) := by decide +kernel
theorem s_X4_read_8 {n : Nat} (h : AP M_X4_read b 9 [x0, .ref n, x2, x3, x4] (.ref n :: st) hi g Φ) : AP M_X4_read b 8 [x0, .ref n, x2, x3, x4] (st) hi g Φ := AP.aload_n (x := n) (i := 1) d_X4_read_8 rfl rfl h
theorem d_X4_read_9 : decode cX4_read 9 = .ok (.getfield 24, 3) := by decide +kernel
theorem s_X4_read_9 {k : Nat} (hI : am_Inv g) (hs : am_SH k = (0, 2)) (hk : k < 134) (h : AP M_X4_read b 12 [x0, x1, x2, x3, x4] (.int (hi k 7) :: st) hi g Φ) : AP M_X4_read b 9 [x0, x1, x2, x3, x4] (.ref k :: st) hi g Φ := AP.getI (j := 7) (q := (RX2, TX2, 8)) d_X4_read_9 hs (hI.lt hk) rfl (by decide) (by decide) w_138 h
theorem d_X4_read_12 : decode cX4_read 12 = .ok (.aload_n 1, 1) := by decide +kernel
theorem s_X4_read_12 {n : Nat} (h : AP M_X4_read b 13 [x0, .ref n, x2, x3, x4] (.ref n :: st) hi g Φ) : AP M_X4_read b 12 [x0, .ref n, x2, x3, x4] (st) hi g Φ := AP.aload_n (x := n) (i := 1) d_X4_read_12 rfl rfl h
theorem d_X4_read_13 : decode cX4_read 13 = .ok (.getfield 27, 3) := by decide +kernel
theorem s_X4_read_13 {k r : Nat} (hI : am_Inv g) (hs : am_SH k = (0, 2)) (hk : k < 134) (hr : am_HRf k 0 = some r) (hn : k ≠ 39) (h : AP M_X4_read b 16 [x0, x1, x2, x3, x4] (.ref r :: st) hi g Φ) : AP M_X4_read b 13 [x0, x1, x2, x3, x4] (.ref k :: st) hi g Φ := AP.getR (j := 0) (q := (RX2, TX2, 8)) d_X4_read_13 hs (hI.lt hk) rfl (by decide) (by decide) w_114 (hI.r hn hr) h
theorem d_X4_read_16 : decode cX4_read 16 = .ok (.invokevirtual 31, 3) := by decide +kernel
theorem s_X4_read_16 {a0 : Int32} {a1 : Int32} {a2 : Nat} {k : Nat} {P : am_HI → Prop} (hI : am_Inv g) (hs : am_SH k = (0, 0)) (hk : k < 134) (hst : (st.map Value.category).sum ≤ 8) (hc : am_Cr M_X0_begin [.ref k, .int a0, .int a1, .ref a2] hi g none P) (h : ∀ hi' : am_HI, P hi' → AP M_X4_read b 19 [x0, x1, x2, x3, x4] (st) hi' g Φ) : AP M_X4_read b 16 [x0, x1, x2, x3, x4] (.ref a2 :: .int a1 :: .int a0 :: .ref k :: st) hi g Φ := AP.callVr (As := [.int a0, .int a1, .ref a2]) (q := (RX0, TX0, 6)) hI hc k_X4_read_31 d_X4_read_16 rfl hs hk rfl rfl hst h
theorem d_X4_read_19 : decode cX4_read 19 = .ok (.iconst 0, 1) := by decide +kernel
theorem s_X4_read_19 (h : AP M_X4_read b 20 [x0, x1, x2, x3, x4] (.int 0 :: st) hi g Φ) : AP M_X4_read b 19 [x0, x1, x2, x3, x4] (st) hi g Φ := AP.iconst (x := 0) d_X4_read_19 (by decide) h
theorem d_X4_read_20 : decode cX4_read 20 = .ok (.istore_n 3, 1) := by decide +kernel
theorem s_X4_read_20 {n : Int32} (hc : x2.category = 1) (h : AP M_X4_read b 21 [x0, x1, x2, .int n, x4] (st) hi g Φ) : AP M_X4_read b 20 [x0, x1, x2, x3, x4] (.int n :: st) hi g Φ := AP.istore_n (x := n) (i := 3) d_X4_read_20 rfl (by decide) (by simp [am_st, am_ci, am_cr, am_cl, am_cd, hc]) h
theorem d_X4_read_21 : decode cX4_read 21 = .ok (.iload_n 3, 1) := by decide +kernel
theorem s_X4_read_21 {n : Int32} (h : AP M_X4_read b 22 [x0, x1, x2, .int n, x4] (.int n :: st) hi g Φ) : AP M_X4_read b 21 [x0, x1, x2, .int n, x4] (st) hi g Φ := AP.iload_n (x := n) (i := 3) d_X4_read_21 rfl rfl h
theorem d_X4_read_22 : decode cX4_read 22 = .ok (.aload_n 1, 1) := by decide +kernel
theorem s_X4_read_22 {n : Nat} (h : AP M_X4_read b 23 [x0, .ref n, x2, x3, x4] (.ref n :: st) hi g Φ) : AP M_X4_read b 22 [x0, .ref n, x2, x3, x4] (st) hi g Φ := AP.aload_n (x := n) (i := 1) d_X4_read_22 rfl rfl h
theorem d_X4_read_23 : decode cX4_read 23 = .ok (.getfield 35, 3) := by decide +kernel
theorem s_X4_read_23 {k : Nat} (hI : am_Inv g) (hs : am_SH k = (0, 2)) (hk : k < 134) (h : AP M_X4_read b 26 [x0, x1, x2, x3, x4] (.int (hi k 5) :: st) hi g Φ) : AP M_X4_read b 23 [x0, x1, x2, x3, x4] (.ref k :: st) hi g Φ := AP.getI (j := 5) (q := (RX2, TX2, 8)) d_X4_read_23 hs (hI.lt hk) rfl (by decide) (by decide) w_132 h
theorem d_X4_read_26 : decode cX4_read 26 = .ok (.if_icmp .ge 57, 3) := by decide +kernel
theorem s_X4_read_26 {x y : Int32} (h1 : y ≤ x → AP M_X4_read b 83 [x0, x1, x2, x3, x4] st hi g Φ) (h2 : ¬ y ≤ x → AP M_X4_read b 29 [x0, x1, x2, x3, x4] st hi g Φ) : AP M_X4_read b 26 [x0, x1, x2, x3, x4] (.int y :: .int x :: st) hi g Φ := AP.icmp_ge d_X4_read_26 (by decide) h1 h2
theorem d_X4_read_29 : decode cX4_read 29 = .ok (.aload_n 1, 1) := by decide +kernel
theorem s_X4_read_29 {n : Nat} (h : AP M_X4_read b 30 [x0, .ref n, x2, x3, x4] (.ref n :: st) hi g Φ) : AP M_X4_read b 29 [x0, .ref n, x2, x3, x4] (st) hi g Φ := AP.aload_n (x := n) (i := 1) d_X4_read_29 rfl rfl h
theorem d_X4_read_30 : decode cX4_read 30 = .ok (.getfield 38, 3) := by decide +kernel
theorem s_X4_read_30 {k r : Nat} (hI : am_Inv g) (hs : am_SH k = (0, 2)) (hk : k < 134) (hr : am_HRf k 3 = some r) (hn : k ≠ 39) (h : AP M_X4_read b 33 [x0, x1, x2, x3, x4] (.ref r :: st) hi g Φ) : AP M_X4_read b 30 [x0, x1, x2, x3, x4] (.ref k :: st) hi g Φ := AP.getR (j := 3) (q := (RX2, TX2, 8)) d_X4_read_30 hs (hI.lt hk) rfl (by decide) (by decide) w_124 (hI.r hn hr) h
theorem d_X4_read_33 : decode cX4_read 33 = .ok (.iload_n 3, 1) := by decide +kernel
theorem s_X4_read_33 {n : Int32} (h : AP M_X4_read b 34 [x0, x1, x2, .int n, x4] (.int n :: st) hi g Φ) : AP M_X4_read b 33 [x0, x1, x2, .int n, x4] (st) hi g Φ := AP.iload_n (x := n) (i := 3) d_X4_read_33 rfl rfl h
theorem d_X4_read_34 : decode cX4_read 34 = .ok (.iaload, 1) := by decide +kernel
theorem s_X4_read_34 {k n j : Nat} {i : Int32} (hI : am_Inv g) (hs : am_SH k = (1, n)) (hk : k < 134) (hn : n < 2 ^ 31) (hx : i = nI j) (hj : j < n) (h : AP M_X4_read b 35 [x0, x1, x2, x3, x4] (.int (hi k j) :: st) hi g Φ) : AP M_X4_read b 34 [x0, x1, x2, x3, x4] (.int i :: .ref k :: st) hi g Φ := AP.iald d_X4_read_34 hs (hI.lt hk) hn hx hj h
theorem d_X4_read_35 : decode cX4_read 35 = .ok (.iload_n 3, 1) := by decide +kernel
theorem s_X4_read_35 {n : Int32} (h : AP M_X4_read b 36 [x0, x1, x2, .int n, x4] (.int n :: st) hi g Φ) : AP M_X4_read b 35 [x0, x1, x2, .int n, x4] (st) hi g Φ := AP.iload_n (x := n) (i := 3) d_X4_read_35 rfl rfl h
theorem d_X4_read_36 : decode cX4_read 36 = .ok (.iload_n 2, 1) := by decide +kernel
theorem s_X4_read_36 {n : Int32} (h : AP M_X4_read b 37 [x0, x1, .int n, x3, x4] (.int n :: st) hi g Φ) : AP M_X4_read b 36 [x0, x1, .int n, x3, x4] (st) hi g Φ := AP.iload_n (x := n) (i := 2) d_X4_read_36 rfl rfl h
theorem d_X4_read_37 : decode cX4_read 37 = .ok (.if_icmp .ne 7, 3) := by decide +kernel
theorem s_X4_read_37 {x y : Int32} (h1 : ¬ x = y → AP M_X4_read b 44 [x0, x1, x2, x3, x4] st hi g Φ) (h2 : x = y → AP M_X4_read b 40 [x0, x1, x2, x3, x4] st hi g Φ) : AP M_X4_read b 37 [x0, x1, x2, x3, x4] (.int y :: .int x :: st) hi g Φ := AP.icmp_ne d_X4_read_37 (by decide) h1 h2
theorem d_X4_read_40 : decode cX4_read 40 = .ok (.iconst 1, 1) := by decide +kernel
theorem s_X4_read_40 (h : AP M_X4_read b 41 [x0, x1, x2, x3, x4] (.int 1 :: st) hi g Φ) : AP M_X4_read b 40 [x0, x1, x2, x3, x4] (st) hi g Φ := AP.iconst (x := 1) d_X4_read_40 (by decide) h
theorem d_X4_read_41 : decode cX4_read 41 = .ok (.goto 4, 3) := by decide +kernel
theorem s_X4_read_41 (h : AP M_X4_read b 45 [x0, x1, x2, x3, x4] st hi g Φ) : AP M_X4_read b 41 [x0, x1, x2, x3, x4] st hi g Φ := AP.goto d_X4_read_41 (by decide) h
theorem d_X4_read_44 : decode cX4_read 44 = .ok (.iconst 0, 1) := by decide +kernel
theorem s_X4_read_44 (h : AP M_X4_read b 45 [x0, x1, x2, x3, x4] (.int 0 :: st) hi g Φ) : AP M_X4_read b 44 [x0, x1, x2, x3, x4] (st) hi g Φ := AP.iconst (x := 0) d_X4_read_44 (by decide) h
theorem d_X4_read_45 : decode cX4_read 45 = .ok (.iadd, 1) := by decide +kernel
theorem s_X4_read_45 {x y : Int32} (h : AP M_X4_read b 46 [x0, x1, x2, x3, x4] (.int (x + y) :: st) hi g Φ) : AP M_X4_read b 45 [x0, x1, x2, x3, x4] (.int y :: .int x :: st) hi g Φ := AP.iadd d_X4_read_45 h
theorem d_X4_read_46 : decode cX4_read 46 = .ok (.istore 4, 2) := by decide +kernel
theorem s_X4_read_46 {n : Int32} (hc : x3.category = 1) (h : AP M_X4_read b 48 [x0, x1, x2, x3, .int n] (st) hi g Φ) : AP M_X4_read b 46 [x0, x1, x2, x3, x4] (.int n :: st) hi g Φ := AP.istore (x := n) (i := 4) d_X4_read_46 (by decide) (by simp [am_st, am_ci, am_cr, am_cl, am_cd, hc]) h
theorem d_X4_read_48 : decode cX4_read 48 = .ok (.aload_n 0, 1) := by decide +kernel
theorem s_X4_read_48 {n : Nat} (h : AP M_X4_read b 49 [.ref n, x1, x2, x3, x4] (.ref n :: st) hi g Φ) : AP M_X4_read b 48 [.ref n, x1, x2, x3, x4] (st) hi g Φ := AP.aload_n (x := n) (i := 0) d_X4_read_48 rfl rfl h
theorem d_X4_read_49 : decode cX4_read 49 = .ok (.getfield 12, 3) := by decide +kernel
theorem s_X4_read_49 {k r : Nat} (hI : am_Inv g) (hs : am_SH k = (0, 4)) (hk : k < 134) (hr : am_HRf k 0 = some r) (hn : k ≠ 39) (h : AP M_X4_read b 52 [x0, x1, x2, x3, x4] (.ref r :: st) hi g Φ) : AP M_X4_read b 49 [x0, x1, x2, x3, x4] (.ref k :: st) hi g Φ := AP.getR (j := 0) (q := (RX4, TX4, 1)) d_X4_read_49 hs (hI.lt hk) rfl (by decide) (by decide) w_323 (hI.r hn hr) h
theorem d_X4_read_52 : decode cX4_read 52 = .ok (.aload_n 0, 1) := by decide +kernel
theorem s_X4_read_52 {n : Nat} (h : AP M_X4_read b 53 [.ref n, x1, x2, x3, x4] (.ref n :: st) hi g Φ) : AP M_X4_read b 52 [.ref n, x1, x2, x3, x4] (st) hi g Φ := AP.aload_n (x := n) (i := 0) d_X4_read_52 rfl rfl h
theorem d_X4_read_53 : decode cX4_read 53 = .ok (.getfield 12, 3) := by decide +kernel
theorem s_X4_read_53 {k r : Nat} (hI : am_Inv g) (hs : am_SH k = (0, 4)) (hk : k < 134) (hr : am_HRf k 0 = some r) (hn : k ≠ 39) (h : AP M_X4_read b 56 [x0, x1, x2, x3, x4] (.ref r :: st) hi g Φ) : AP M_X4_read b 53 [x0, x1, x2, x3, x4] (.ref k :: st) hi g Φ := AP.getR (j := 0) (q := (RX4, TX4, 1)) d_X4_read_53 hs (hI.lt hk) rfl (by decide) (by decide) w_323 (hI.r hn hr) h
theorem d_X4_read_56 : decode cX4_read 56 = .ok (.aload_n 1, 1) := by decide +kernel
theorem s_X4_read_56 {n : Nat} (h : AP M_X4_read b 57 [x0, .ref n, x2, x3, x4] (.ref n :: st) hi g Φ) : AP M_X4_read b 56 [x0, .ref n, x2, x3, x4] (st) hi g Φ := AP.aload_n (x := n) (i := 1) d_X4_read_56 rfl rfl h
theorem d_X4_read_57 : decode cX4_read 57 = .ok (.getfield 41, 3) := by decide +kernel
theorem s_X4_read_57 {k r : Nat} (hI : am_Inv g) (hs : am_SH k = (0, 2)) (hk : k < 134) (hr : am_HRf k 1 = some r) (hn : k ≠ 39) (h : AP M_X4_read b 60 [x0, x1, x2, x3, x4] (.ref r :: st) hi g Φ) : AP M_X4_read b 57 [x0, x1, x2, x3, x4] (.ref k :: st) hi g Φ := AP.getR (j := 1) (q := (RX2, TX2, 8)) d_X4_read_57 hs (hI.lt hk) rfl (by decide) (by decide) w_118 (hI.r hn hr) h
theorem d_X4_read_60 : decode cX4_read 60 = .ok (.iload_n 3, 1) := by decide +kernel
theorem s_X4_read_60 {n : Int32} (h : AP M_X4_read b 61 [x0, x1, x2, .int n, x4] (.int n :: st) hi g Φ) : AP M_X4_read b 60 [x0, x1, x2, .int n, x4] (st) hi g Φ := AP.iload_n (x := n) (i := 3) d_X4_read_60 rfl rfl h
theorem d_X4_read_61 : decode cX4_read 61 = .ok (.bipush 8, 2) := by decide +kernel
theorem s_X4_read_61 (h : AP M_X4_read b 63 [x0, x1, x2, x3, x4] (.int 8 :: st) hi g Φ) : AP M_X4_read b 61 [x0, x1, x2, x3, x4] (st) hi g Φ := AP.bipush (x := 8) d_X4_read_61 (by decide) h
theorem d_X4_read_63 : decode cX4_read 63 = .ok (.idiv, 1) := by decide +kernel
theorem s_X4_read_63 {x y : Int32} (hy : ¬ y = 0) (h : AP M_X4_read b 64 [x0, x1, x2, x3, x4] (.int (x / y) :: st) hi g Φ) : AP M_X4_read b 63 [x0, x1, x2, x3, x4] (.int y :: .int x :: st) hi g Φ := AP.idiv d_X4_read_63 hy h
theorem d_X4_read_64 : decode cX4_read 64 = .ok (.iaload, 1) := by decide +kernel
theorem s_X4_read_64 {k n j : Nat} {i : Int32} (hI : am_Inv g) (hs : am_SH k = (1, n)) (hk : k < 134) (hn : n < 2 ^ 31) (hx : i = nI j) (hj : j < n) (h : AP M_X4_read b 65 [x0, x1, x2, x3, x4] (.int (hi k j) :: st) hi g Φ) : AP M_X4_read b 64 [x0, x1, x2, x3, x4] (.int i :: .ref k :: st) hi g Φ := AP.iald d_X4_read_64 hs (hI.lt hk) hn hx hj h
theorem d_X4_read_65 : decode cX4_read 65 = .ok (.invokevirtual 44, 3) := by decide +kernel
theorem s_X4_read_65 {a0 : Int32} {k : Nat} {r0 : Int32} {P : am_HI → Prop} (hI : am_Inv g) (hs : am_SH k = (0, 0)) (hk : k < 134) (hst : (st.map Value.category).sum ≤ 8) (hc : am_Cr M_X0_foretell [.ref k, .int a0] hi g (some (.int r0)) P) (h : ∀ hi' : am_HI, P hi' → AP M_X4_read b 68 [x0, x1, x2, x3, x4] (.int r0 :: st) hi' g Φ) : AP M_X4_read b 65 [x0, x1, x2, x3, x4] (.int a0 :: .ref k :: st) hi g Φ := AP.callVr (As := [.int a0]) (q := (RX0, TX0, 6)) hI hc k_X4_read_44 d_X4_read_65 rfl hs hk rfl rfl hst h
theorem d_X4_read_68 : decode cX4_read 68 = .ok (.iload 4, 2) := by decide +kernel
theorem s_X4_read_68 {n : Int32} (h : AP M_X4_read b 70 [x0, x1, x2, x3, .int n] (.int n :: st) hi g Φ) : AP M_X4_read b 68 [x0, x1, x2, x3, .int n] (st) hi g Φ := AP.iload (x := n) (i := 4) d_X4_read_68 rfl h
theorem d_X4_read_70 : decode cX4_read 70 = .ok (.iadd, 1) := by decide +kernel
theorem s_X4_read_70 {x y : Int32} (h : AP M_X4_read b 71 [x0, x1, x2, x3, x4] (.int (x + y) :: st) hi g Φ) : AP M_X4_read b 70 [x0, x1, x2, x3, x4] (.int y :: .int x :: st) hi g Φ := AP.iadd d_X4_read_70 h
theorem d_X4_read_71 : decode cX4_read 71 = .ok (.invokestatic 48, 3) := by decide +kernel
theorem s_X4_read_71 {a0 : Int32} {r0 : Int32} {P : am_HI → Prop} (hI : am_Inv g) (hst : (st.map Value.category).sum ≤ 8) (hc : am_Cr M_X9_limit [.int a0] hi g (some (.int r0)) P) (h : ∀ hi' : am_HI, P hi' → AP M_X4_read b 74 [x0, x1, x2, x3, x4] (.int r0 :: st) hi' g Φ) : AP M_X4_read b 71 [x0, x1, x2, x3, x4] (.int a0 :: st) hi g Φ := AP.callNr (As := [.int a0]) hI hc k_X4_read_48 d_X4_read_71 rfl hst h
theorem d_X4_read_74 : decode cX4_read 74 = .ok (.invokevirtual 51, 3) := by decide +kernel
theorem s_X4_read_74 {a0 : Int32} {k : Nat} {P : am_HI → Prop} (hI : am_Inv g) (hs : am_SH k = (0, 0)) (hk : k < 134) (hst : (st.map Value.category).sum ≤ 8) (hc : am_Cr M_X0_show [.ref k, .int a0] hi g none P) (h : ∀ hi' : am_HI, P hi' → AP M_X4_read b 77 [x0, x1, x2, x3, x4] (st) hi' g Φ) : AP M_X4_read b 74 [x0, x1, x2, x3, x4] (.int a0 :: .ref k :: st) hi g Φ := AP.callVr (As := [.int a0]) (q := (RX0, TX0, 6)) hI hc k_X4_read_51 d_X4_read_74 rfl hs hk rfl rfl hst h
theorem d_X4_read_77 : decode cX4_read 77 = .ok (.iinc 3 1, 3) := by decide +kernel
theorem s_X4_read_77 {n : Int32} (hc : x2.category = 1) (h : AP M_X4_read b 80 [x0, x1, x2, .int (n + 1), x4] (st) hi g Φ) : AP M_X4_read b 77 [x0, x1, x2, .int n, x4] (st) hi g Φ := AP.iinc (i := 3) (x := n) (y := n + 1) d_X4_read_77 rfl rfl (by decide) (by simp [am_st, am_ci, am_cr, am_cl, am_cd, hc]) h
theorem d_X4_read_80 : decode cX4_read 80 = .ok (.goto (-59), 3) := by decide +kernel
theorem s_X4_read_80 (h : AP M_X4_read b 21 [x0, x1, x2, x3, x4] st hi g Φ) : AP M_X4_read b 80 [x0, x1, x2, x3, x4] st hi g Φ := AP.goto d_X4_read_80 (by decide) h
theorem d_X4_read_83 : decode cX4_read 83 = .ok (.return_, 1) := by decide +kernel
theorem s_X4_read_83 (h : Φ (.ok none) hi g) : AP M_X4_read b 83 [x0, x1, x2, x3, x4] [] hi g Φ := AP.vret d_X4_read_83 rfl h
end
section
variable {b : Nat × Nat} {st : List Value} {hi : am_HI} {g : am_G} {Φ : am_P} {x0 x1 x2 x3 x4 x5 x6 : Value}
theorem d_X4_readBits_0 : decode cX4_readBits 0 = .ok (.aload_n 0, 1) := by decide +kernel
theorem s_X4_readBits_0 {n : Nat} (h : AP M_X4_readBits b 1 [.ref n, x1, x2, x3, x4, x5, x6] (.ref n :: st) hi g Φ) : AP M_X4_readBits b 0 [.ref n, x1, x2, x3, x4, x5, x6] (st) hi g Φ := AP.aload_n (x := n) (i := 0) d_X4_readBits_0 rfl rfl h
theorem d_X4_readBits_1 : decode cX4_readBits 1 = .ok (.getfield 12, 3) := by decide +kernel
theorem s_X4_readBits_1 {k r : Nat} (hI : am_Inv g) (hs : am_SH k = (0, 4)) (hk : k < 134) (hr : am_HRf k 0 = some r) (hn : k ≠ 39) (h : AP M_X4_readBits b 4 [x0, x1, x2, x3, x4, x5, x6] (.ref r :: st) hi g Φ) : AP M_X4_readBits b 1 [x0, x1, x2, x3, x4, x5, x6] (.ref k :: st) hi g Φ := AP.getR (j := 0) (q := (RX4, TX4, 1)) d_X4_readBits_1 hs (hI.lt hk) rfl (by decide) (by decide) w_323 (hI.r hn hr) h
theorem d_X4_readBits_4 : decode cX4_readBits 4 = .ok (.aload_n 1, 1) := by decide +kernel
theorem s_X4_readBits_4 {n : Nat} (h : AP M_X4_readBits b 5 [x0, .ref n, x2, x3, x4, x5, x6] (.ref n :: st) hi g Φ) : AP M_X4_readBits b 4 [x0, .ref n, x2, x3, x4, x5, x6] (st) hi g Φ := AP.aload_n (x := n) (i := 1) d_X4_readBits_4 rfl rfl h
theorem d_X4_readBits_5 : decode cX4_readBits 5 = .ok (.getfield 18, 3) := by decide +kernel
theorem s_X4_readBits_5 {k : Nat} (hI : am_Inv g) (hs : am_SH k = (0, 2)) (hk : k < 134) (h : AP M_X4_readBits b 8 [x0, x1, x2, x3, x4, x5, x6] (.int (hi k 6) :: st) hi g Φ) : AP M_X4_readBits b 5 [x0, x1, x2, x3, x4, x5, x6] (.ref k :: st) hi g Φ := AP.getI (j := 6) (q := (RX2, TX2, 8)) d_X4_readBits_5 hs (hI.lt hk) rfl (by decide) (by decide) w_135 h
theorem d_X4_readBits_8 : decode cX4_readBits 8 = .ok (.aload_n 1, 1) := by decide +kernel
theorem s_X4_readBits_8 {n : Nat} (h : AP M_X4_readBits b 9 [x0, .ref n, x2, x3, x4, x5, x6] (.ref n :: st) hi g Φ) : AP M_X4_readBits b 8 [x0, .ref n, x2, x3, x4, x5, x6] (st) hi g Φ := AP.aload_n (x := n) (i := 1) d_X4_readBits_8 rfl rfl h
theorem d_X4_readBits_9 : decode cX4_readBits 9 = .ok (.getfield 24, 3) := by decide +kernel
theorem s_X4_readBits_9 {k : Nat} (hI : am_Inv g) (hs : am_SH k = (0, 2)) (hk : k < 134) (h : AP M_X4_readBits b 12 [x0, x1, x2, x3, x4, x5, x6] (.int (hi k 7) :: st) hi g Φ) : AP M_X4_readBits b 9 [x0, x1, x2, x3, x4, x5, x6] (.ref k :: st) hi g Φ := AP.getI (j := 7) (q := (RX2, TX2, 8)) d_X4_readBits_9 hs (hI.lt hk) rfl (by decide) (by decide) w_138 h
theorem d_X4_readBits_12 : decode cX4_readBits 12 = .ok (.aload_n 1, 1) := by decide +kernel
theorem s_X4_readBits_12 {n : Nat} (h : AP M_X4_readBits b 13 [x0, .ref n, x2, x3, x4, x5, x6] (.ref n :: st) hi g Φ) : AP M_X4_readBits b 12 [x0, .ref n, x2, x3, x4, x5, x6] (st) hi g Φ := AP.aload_n (x := n) (i := 1) d_X4_readBits_12 rfl rfl h
theorem d_X4_readBits_13 : decode cX4_readBits 13 = .ok (.getfield 27, 3) := by decide +kernel
theorem s_X4_readBits_13 {k r : Nat} (hI : am_Inv g) (hs : am_SH k = (0, 2)) (hk : k < 134) (hr : am_HRf k 0 = some r) (hn : k ≠ 39) (h : AP M_X4_readBits b 16 [x0, x1, x2, x3, x4, x5, x6] (.ref r :: st) hi g Φ) : AP M_X4_readBits b 13 [x0, x1, x2, x3, x4, x5, x6] (.ref k :: st) hi g Φ := AP.getR (j := 0) (q := (RX2, TX2, 8)) d_X4_readBits_13 hs (hI.lt hk) rfl (by decide) (by decide) w_114 (hI.r hn hr) h
theorem d_X4_readBits_16 : decode cX4_readBits 16 = .ok (.invokevirtual 31, 3) := by decide +kernel
theorem s_X4_readBits_16 {a0 : Int32} {a1 : Int32} {a2 : Nat} {k : Nat} {P : am_HI → Prop} (hI : am_Inv g) (hs : am_SH k = (0, 0)) (hk : k < 134) (hst : (st.map Value.category).sum ≤ 8) (hc : am_Cr M_X0_begin [.ref k, .int a0, .int a1, .ref a2] hi g none P) (h : ∀ hi' : am_HI, P hi' → AP M_X4_readBits b 19 [x0, x1, x2, x3, x4, x5, x6] (st) hi' g Φ) : AP M_X4_readBits b 16 [x0, x1, x2, x3, x4, x5, x6] (.ref a2 :: .int a1 :: .int a0 :: .ref k :: st) hi g Φ := AP.callVr (As := [.int a0, .int a1, .ref a2]) (q := (RX0, TX0, 6)) hI hc k_X4_readBits_31 d_X4_readBits_16 rfl hs hk rfl rfl hst h
theorem d_X4_readBits_19 : decode cX4_readBits 19 = .ok (.aload_n 2, 1) := by decide +kernel
theorem s_X4_readBits_19 {n : Nat} (h : AP M_X4_readBits b 20 [x0, x1, .ref n, x3, x4, x5, x6] (.ref n :: st) hi g Φ) : AP M_X4_readBits b 19 [x0, x1, .ref n, x3, x4, x5, x6] (st) hi g Φ := AP.aload_n (x := n) (i := 2) d_X4_readBits_19 rfl rfl h
theorem d_X4_readBits_20 : decode cX4_readBits 20 = .ok (.iconst 0, 1) := by decide +kernel
theorem s_X4_readBits_20 (h : AP M_X4_readBits b 21 [x0, x1, x2, x3, x4, x5, x6] (.int 0 :: st) hi g Φ) : AP M_X4_readBits b 20 [x0, x1, x2, x3, x4, x5, x6] (st) hi g Φ := AP.iconst (x := 0) d_X4_readBits_20 (by decide) h
theorem d_X4_readBits_21 : decode cX4_readBits 21 = .ok (.putfield 55, 3) := by decide +kernel
theorem s_X4_readBits_21 {k : Nat} {n : Int32} (hI : am_Inv g) (hs : am_SH k = (0, 3)) (hk : k < 134) (h : AP M_X4_readBits b 24 [x0, x1, x2, x3, x4, x5, x6] (st) (am_up hi k 2 n) g Φ) : AP M_X4_readBits b 21 [x0, x1, x2, x3, x4, x5, x6] (.int n :: .ref k :: st) hi g Φ := AP.putI (j := 2) (q := (RX3, TX3, 3)) d_X4_readBits_21 hs (hI.lt hk) rfl (by decide) rfl rfl w_337 h
theorem d_X4_readBits_24 : decode cX4_readBits 24 = .ok (.iconst 0, 1) := by decide +kernel
theorem s_X4_readBits_24 (h : AP M_X4_readBits b 25 [x0, x1, x2, x3, x4, x5, x6] (.int 0 :: st) hi g Φ) : AP M_X4_readBits b 24 [x0, x1, x2, x3, x4, x5, x6] (st) hi g Φ := AP.iconst (x := 0) d_X4_readBits_24 (by decide) h
theorem d_X4_readBits_25 : decode cX4_readBits 25 = .ok (.istore_n 3, 1) := by decide +kernel
theorem s_X4_readBits_25 {n : Int32} (hc : x2.category = 1) (h : AP M_X4_readBits b 26 [x0, x1, x2, .int n, x4, x5, x6] (st) hi g Φ) : AP M_X4_readBits b 25 [x0, x1, x2, x3, x4, x5, x6] (.int n :: st) hi g Φ := AP.istore_n (x := n) (i := 3) d_X4_readBits_25 rfl (by decide) (by simp [am_st, am_ci, am_cr, am_cl, am_cd, hc]) h
theorem d_X4_readBits_26 : decode cX4_readBits 26 = .ok (.iconst 0, 1) := by decide +kernel
theorem s_X4_readBits_26 (h : AP M_X4_readBits b 27 [x0, x1, x2, x3, x4, x5, x6] (.int 0 :: st) hi g Φ) : AP M_X4_readBits b 26 [x0, x1, x2, x3, x4, x5, x6] (st) hi g Φ := AP.iconst (x := 0) d_X4_readBits_26 (by decide) h
theorem d_X4_readBits_27 : decode cX4_readBits 27 = .ok (.istore 4, 2) := by decide +kernel
theorem s_X4_readBits_27 {n : Int32} (hc : x3.category = 1) (h : AP M_X4_readBits b 29 [x0, x1, x2, x3, .int n, x5, x6] (st) hi g Φ) : AP M_X4_readBits b 27 [x0, x1, x2, x3, x4, x5, x6] (.int n :: st) hi g Φ := AP.istore (x := n) (i := 4) d_X4_readBits_27 (by decide) (by simp [am_st, am_ci, am_cr, am_cl, am_cd, hc]) h
theorem d_X4_readBits_29 : decode cX4_readBits 29 = .ok (.iconst 0, 1) := by decide +kernel
theorem s_X4_readBits_29 (h : AP M_X4_readBits b 30 [x0, x1, x2, x3, x4, x5, x6] (.int 0 :: st) hi g Φ) : AP M_X4_readBits b 29 [x0, x1, x2, x3, x4, x5, x6] (st) hi g Φ := AP.iconst (x := 0) d_X4_readBits_29 (by decide) h
theorem d_X4_readBits_30 : decode cX4_readBits 30 = .ok (.istore 5, 2) := by decide +kernel
theorem s_X4_readBits_30 {n : Int32} (hc : x4.category = 1) (h : AP M_X4_readBits b 32 [x0, x1, x2, x3, x4, .int n, x6] (st) hi g Φ) : AP M_X4_readBits b 30 [x0, x1, x2, x3, x4, x5, x6] (.int n :: st) hi g Φ := AP.istore (x := n) (i := 5) d_X4_readBits_30 (by decide) (by simp [am_st, am_ci, am_cr, am_cl, am_cd, hc]) h
theorem d_X4_readBits_32 : decode cX4_readBits 32 = .ok (.iload 5, 2) := by decide +kernel
theorem s_X4_readBits_32 {n : Int32} (h : AP M_X4_readBits b 34 [x0, x1, x2, x3, x4, .int n, x6] (.int n :: st) hi g Φ) : AP M_X4_readBits b 32 [x0, x1, x2, x3, x4, .int n, x6] (st) hi g Φ := AP.iload (x := n) (i := 5) d_X4_readBits_32 rfl h
theorem d_X4_readBits_34 : decode cX4_readBits 34 = .ok (.aload_n 1, 1) := by decide +kernel
theorem s_X4_readBits_34 {n : Nat} (h : AP M_X4_readBits b 35 [x0, .ref n, x2, x3, x4, x5, x6] (.ref n :: st) hi g Φ) : AP M_X4_readBits b 34 [x0, .ref n, x2, x3, x4, x5, x6] (st) hi g Φ := AP.aload_n (x := n) (i := 1) d_X4_readBits_34 rfl rfl h
theorem d_X4_readBits_35 : decode cX4_readBits 35 = .ok (.getfield 35, 3) := by decide +kernel
theorem s_X4_readBits_35 {k : Nat} (hI : am_Inv g) (hs : am_SH k = (0, 2)) (hk : k < 134) (h : AP M_X4_readBits b 38 [x0, x1, x2, x3, x4, x5, x6] (.int (hi k 5) :: st) hi g Φ) : AP M_X4_readBits b 35 [x0, x1, x2, x3, x4, x5, x6] (.ref k :: st) hi g Φ := AP.getI (j := 5) (q := (RX2, TX2, 8)) d_X4_readBits_35 hs (hI.lt hk) rfl (by decide) (by decide) w_132 h
theorem d_X4_readBits_38 : decode cX4_readBits 38 = .ok (.if_icmp .ge 62, 3) := by decide +kernel
theorem s_X4_readBits_38 {x y : Int32} (h1 : y ≤ x → AP M_X4_readBits b 100 [x0, x1, x2, x3, x4, x5, x6] st hi g Φ) (h2 : ¬ y ≤ x → AP M_X4_readBits b 41 [x0, x1, x2, x3, x4, x5, x6] st hi g Φ) : AP M_X4_readBits b 38 [x0, x1, x2, x3, x4, x5, x6] (.int y :: .int x :: st) hi g Φ := AP.icmp_ge d_X4_readBits_38 (by decide) h1 h2
theorem d_X4_readBits_41 : decode cX4_readBits 41 = .ok (.iload 5, 2) := by decide +kernel
theorem s_X4_readBits_41 {n : Int32} (h : AP M_X4_readBits b 43 [x0, x1, x2, x3, x4, .int n, x6] (.int n :: st) hi g Φ) : AP M_X4_readBits b 41 [x0, x1, x2, x3, x4, .int n, x6] (st) hi g Φ := AP.iload (x := n) (i := 5) d_X4_readBits_41 rfl h
theorem d_X4_readBits_43 : decode cX4_readBits 43 = .ok (.bipush 8, 2) := by decide +kernel
theorem s_X4_readBits_43 (h : AP M_X4_readBits b 45 [x0, x1, x2, x3, x4, x5, x6] (.int 8 :: st) hi g Φ) : AP M_X4_readBits b 43 [x0, x1, x2, x3, x4, x5, x6] (st) hi g Φ := AP.bipush (x := 8) d_X4_readBits_43 (by decide) h
theorem d_X4_readBits_45 : decode cX4_readBits 45 = .ok (.irem, 1) := by decide +kernel
theorem s_X4_readBits_45 {x y : Int32} (hy : ¬ y = 0) (h : AP M_X4_readBits b 46 [x0, x1, x2, x3, x4, x5, x6] (.int (x - x / y * y) :: st) hi g Φ) : AP M_X4_readBits b 45 [x0, x1, x2, x3, x4, x5, x6] (.int y :: .int x :: st) hi g Φ := AP.irem d_X4_readBits_45 hy h
theorem d_X4_readBits_46 : decode cX4_readBits 46 = .ok (.ifCond .ne 16, 3) := by decide +kernel
theorem s_X4_readBits_46 {x : Int32} (h1 : ¬ x = 0 → AP M_X4_readBits b 62 [x0, x1, x2, x3, x4, x5, x6] st hi g Φ) (h2 : x = 0 → AP M_X4_readBits b 49 [x0, x1, x2, x3, x4, x5, x6] st hi g Φ) : AP M_X4_readBits b 46 [x0, x1, x2, x3, x4, x5, x6] (.int x :: st) hi g Φ := AP.if_ne d_X4_readBits_46 (by decide) h1 h2
theorem d_X4_readBits_49 : decode cX4_readBits 49 = .ok (.aload_n 2, 1) := by decide +kernel
theorem s_X4_readBits_49 {n : Nat} (h : AP M_X4_readBits b 50 [x0, x1, .ref n, x3, x4, x5, x6] (.ref n :: st) hi g Φ) : AP M_X4_readBits b 49 [x0, x1, .ref n, x3, x4, x5, x6] (st) hi g Φ := AP.aload_n (x := n) (i := 2) d_X4_readBits_49 rfl rfl h
theorem d_X4_readBits_50 : decode cX4_readBits 50 = .ok (.iconst 3, 1) := by decide +kernel
theorem s_X4_readBits_50 (h : AP M_X4_readBits b 51 [x0, x1, x2, x3, x4, x5, x6] (.int 3 :: st) hi g Φ) : AP M_X4_readBits b 50 [x0, x1, x2, x3, x4, x5, x6] (st) hi g Φ := AP.iconst (x := 3) d_X4_readBits_50 (by decide) h
theorem d_X4_readBits_51 : decode cX4_readBits 51 = .ok (.invokevirtual 60, 3) := by decide +kernel
theorem s_X4_readBits_51 {a0 : Int32} {k : Nat} {r0 : Int32} {P : am_HI → Prop} (hI : am_Inv g) (hs : am_SH k = (0, 3)) (hk : k < 134) (hst : (st.map Value.category).sum ≤ 8) (hc : am_Cr M_X3_readNumber [.ref k, .int a0] hi g (some (.int r0)) P) (h : ∀ hi' : am_HI, P hi' → AP M_X4_readBits b 54 [x0, x1, x2, x3, x4, x5, x6] (.int r0 :: st) hi' g Φ) : AP M_X4_readBits b 51 [x0, x1, x2, x3, x4, x5, x6] (.int a0 :: .ref k :: st) hi g Φ := AP.callVr (As := [.int a0]) (q := (RX3, TX3, 3)) hI hc k_X4_readBits_60 d_X4_readBits_51 rfl hs hk rfl rfl hst h
theorem d_X4_readBits_54 : decode cX4_readBits 54 = .ok (.istore_n 3, 1) := by decide +kernel
theorem s_X4_readBits_54 {n : Int32} (hc : x2.category = 1) (h : AP M_X4_readBits b 55 [x0, x1, x2, .int n, x4, x5, x6] (st) hi g Φ) : AP M_X4_readBits b 54 [x0, x1, x2, x3, x4, x5, x6] (.int n :: st) hi g Φ := AP.istore_n (x := n) (i := 3) d_X4_readBits_54 rfl (by decide) (by simp [am_st, am_ci, am_cr, am_cl, am_cd, hc]) h
theorem d_X4_readBits_55 : decode cX4_readBits 55 = .ok (.aload_n 2, 1) := by decide +kernel
theorem s_X4_readBits_55 {n : Nat} (h : AP M_X4_readBits b 56 [x0, x1, .ref n, x3, x4, x5, x6] (.ref n :: st) hi g Φ) : AP M_X4_readBits b 55 [x0, x1, .ref n, x3, x4, x5, x6] (st) hi g Φ := AP.aload_n (x := n) (i := 2) d_X4_readBits_55 rfl rfl h
theorem d_X4_readBits_56 : decode cX4_readBits 56 = .ok (.iconst 3, 1) := by decide +kernel
theorem s_X4_readBits_56 (h : AP M_X4_readBits b 57 [x0, x1, x2, x3, x4, x5, x6] (.int 3 :: st) hi g Φ) : AP M_X4_readBits b 56 [x0, x1, x2, x3, x4, x5, x6] (st) hi g Φ := AP.iconst (x := 3) d_X4_readBits_56 (by decide) h
theorem d_X4_readBits_57 : decode cX4_readBits 57 = .ok (.invokevirtual 60, 3) := by decide +kernel
theorem s_X4_readBits_57 {a0 : Int32} {k : Nat} {r0 : Int32} {P : am_HI → Prop} (hI : am_Inv g) (hs : am_SH k = (0, 3)) (hk : k < 134) (hst : (st.map Value.category).sum ≤ 8) (hc : am_Cr M_X3_readNumber [.ref k, .int a0] hi g (some (.int r0)) P) (h : ∀ hi' : am_HI, P hi' → AP M_X4_readBits b 60 [x0, x1, x2, x3, x4, x5, x6] (.int r0 :: st) hi' g Φ) : AP M_X4_readBits b 57 [x0, x1, x2, x3, x4, x5, x6] (.int a0 :: .ref k :: st) hi g Φ := AP.callVr (As := [.int a0]) (q := (RX3, TX3, 3)) hI hc k_X4_readBits_60 d_X4_readBits_57 rfl hs hk rfl rfl hst h
theorem d_X4_readBits_60 : decode cX4_readBits 60 = .ok (.istore 4, 2) := by decide +kernel
theorem s_X4_readBits_60 {n : Int32} (hc : x3.category = 1) (h : AP M_X4_readBits b 62 [x0, x1, x2, x3, .int n, x5, x6] (st) hi g Φ) : AP M_X4_readBits b 60 [x0, x1, x2, x3, x4, x5, x6] (.int n :: st) hi g Φ := AP.istore (x := n) (i := 4) d_X4_readBits_60 (by decide) (by simp [am_st, am_ci, am_cr, am_cl, am_cd, hc]) h
theorem d_X4_readBits_62 : decode cX4_readBits 62 = .ok (.aload_n 2, 1) := by decide +kernel
theorem s_X4_readBits_62 {n : Nat} (h : AP M_X4_readBits b 63 [x0, x1, .ref n, x3, x4, x5, x6] (.ref n :: st) hi g Φ) : AP M_X4_readBits b 62 [x0, x1, .ref n, x3, x4, x5, x6] (st) hi g Φ := AP.aload_n (x := n) (i := 2) d_X4_readBits_62 rfl rfl h
theorem d_X4_readBits_63 : decode cX4_readBits 63 = .ok (.iload 4, 2) := by decide +kernel
theorem s_X4_readBits_63 {n : Int32} (h : AP M_X4_readBits b 65 [x0, x1, x2, x3, .int n, x5, x6] (.int n :: st) hi g Φ) : AP M_X4_readBits b 63 [x0, x1, x2, x3, .int n, x5, x6] (st) hi g Φ := AP.iload (x := n) (i := 4) d_X4_readBits_63 rfl h
theorem d_X4_readBits_65 : decode cX4_readBits 65 = .ok (.invokevirtual 63, 3) := by decide +kernel
theorem s_X4_readBits_65 {a0 : Int32} {k : Nat} {r0 : Int32} {P : am_HI → Prop} (hI : am_Inv g) (hs : am_SH k = (0, 3)) (hk : k < 134) (hst : (st.map Value.category).sum ≤ 8) (hc : am_Cr M_X3_readFolded [.ref k, .int a0] hi g (some (.int r0)) P) (h : ∀ hi' : am_HI, P hi' → AP M_X4_readBits b 68 [x0, x1, x2, x3, x4, x5, x6] (.int r0 :: st) hi' g Φ) : AP M_X4_readBits b 65 [x0, x1, x2, x3, x4, x5, x6] (.int a0 :: .ref k :: st) hi g Φ := AP.callVr (As := [.int a0]) (q := (RX3, TX3, 3)) hI hc k_X4_readBits_63 d_X4_readBits_65 rfl hs hk rfl rfl hst h
theorem d_X4_readBits_68 : decode cX4_readBits 68 = .ok (.invokestatic 66, 3) := by decide +kernel
theorem s_X4_readBits_68 {a0 : Int32} {r0 : Int32} {P : am_HI → Prop} (hI : am_Inv g) (hst : (st.map Value.category).sum ≤ 8) (hc : am_Cr M_X9_unfold [.int a0] hi g (some (.int r0)) P) (h : ∀ hi' : am_HI, P hi' → AP M_X4_readBits b 71 [x0, x1, x2, x3, x4, x5, x6] (.int r0 :: st) hi' g Φ) : AP M_X4_readBits b 68 [x0, x1, x2, x3, x4, x5, x6] (.int a0 :: st) hi g Φ := AP.callNr (As := [.int a0]) hI hc k_X4_readBits_66 d_X4_readBits_68 rfl hst h
theorem d_X4_readBits_71 : decode cX4_readBits 71 = .ok (.istore 6, 2) := by decide +kernel
theorem s_X4_readBits_71 {n : Int32} (hc : x5.category = 1) (h : AP M_X4_readBits b 73 [x0, x1, x2, x3, x4, x5, .int n] (st) hi g Φ) : AP M_X4_readBits b 71 [x0, x1, x2, x3, x4, x5, x6] (.int n :: st) hi g Φ := AP.istore (x := n) (i := 6) d_X4_readBits_71 (by decide) (by simp [am_st, am_ci, am_cr, am_cl, am_cd, hc]) h
theorem d_X4_readBits_73 : decode cX4_readBits 73 = .ok (.aload_n 0, 1) := by decide +kernel
theorem s_X4_readBits_73 {n : Nat} (h : AP M_X4_readBits b 74 [.ref n, x1, x2, x3, x4, x5, x6] (.ref n :: st) hi g Φ) : AP M_X4_readBits b 73 [.ref n, x1, x2, x3, x4, x5, x6] (st) hi g Φ := AP.aload_n (x := n) (i := 0) d_X4_readBits_73 rfl rfl h
theorem d_X4_readBits_74 : decode cX4_readBits 74 = .ok (.getfield 12, 3) := by decide +kernel
theorem s_X4_readBits_74 {k r : Nat} (hI : am_Inv g) (hs : am_SH k = (0, 4)) (hk : k < 134) (hr : am_HRf k 0 = some r) (hn : k ≠ 39) (h : AP M_X4_readBits b 77 [x0, x1, x2, x3, x4, x5, x6] (.ref r :: st) hi g Φ) : AP M_X4_readBits b 74 [x0, x1, x2, x3, x4, x5, x6] (.ref k :: st) hi g Φ := AP.getR (j := 0) (q := (RX4, TX4, 1)) d_X4_readBits_74 hs (hI.lt hk) rfl (by decide) (by decide) w_323 (hI.r hn hr) h
theorem d_X4_readBits_77 : decode cX4_readBits 77 = .ok (.aload_n 0, 1) := by decide +kernel
theorem s_X4_readBits_77 {n : Nat} (h : AP M_X4_readBits b 78 [.ref n, x1, x2, x3, x4, x5, x6] (.ref n :: st) hi g Φ) : AP M_X4_readBits b 77 [.ref n, x1, x2, x3, x4, x5, x6] (st) hi g Φ := AP.aload_n (x := n) (i := 0) d_X4_readBits_77 rfl rfl h
theorem d_X4_readBits_78 : decode cX4_readBits 78 = .ok (.getfield 12, 3) := by decide +kernel
theorem s_X4_readBits_78 {k r : Nat} (hI : am_Inv g) (hs : am_SH k = (0, 4)) (hk : k < 134) (hr : am_HRf k 0 = some r) (hn : k ≠ 39) (h : AP M_X4_readBits b 81 [x0, x1, x2, x3, x4, x5, x6] (.ref r :: st) hi g Φ) : AP M_X4_readBits b 78 [x0, x1, x2, x3, x4, x5, x6] (.ref k :: st) hi g Φ := AP.getR (j := 0) (q := (RX4, TX4, 1)) d_X4_readBits_78 hs (hI.lt hk) rfl (by decide) (by decide) w_323 (hI.r hn hr) h
theorem d_X4_readBits_81 : decode cX4_readBits 81 = .ok (.iload_n 3, 1) := by decide +kernel
theorem s_X4_readBits_81 {n : Int32} (h : AP M_X4_readBits b 82 [x0, x1, x2, .int n, x4, x5, x6] (.int n :: st) hi g Φ) : AP M_X4_readBits b 81 [x0, x1, x2, .int n, x4, x5, x6] (st) hi g Φ := AP.iload_n (x := n) (i := 3) d_X4_readBits_81 rfl rfl h
theorem d_X4_readBits_82 : decode cX4_readBits 82 = .ok (.invokevirtual 44, 3) := by decide +kernel
theorem s_X4_readBits_82 {a0 : Int32} {k : Nat} {r0 : Int32} {P : am_HI → Prop} (hI : am_Inv g) (hs : am_SH k = (0, 0)) (hk : k < 134) (hst : (st.map Value.category).sum ≤ 8) (hc : am_Cr M_X0_foretell [.ref k, .int a0] hi g (some (.int r0)) P) (h : ∀ hi' : am_HI, P hi' → AP M_X4_readBits b 85 [x0, x1, x2, x3, x4, x5, x6] (.int r0 :: st) hi' g Φ) : AP M_X4_readBits b 82 [x0, x1, x2, x3, x4, x5, x6] (.int a0 :: .ref k :: st) hi g Φ := AP.callVr (As := [.int a0]) (q := (RX0, TX0, 6)) hI hc k_X4_readBits_44 d_X4_readBits_82 rfl hs hk rfl rfl hst h
theorem d_X4_readBits_85 : decode cX4_readBits 85 = .ok (.iload 6, 2) := by decide +kernel
theorem s_X4_readBits_85 {n : Int32} (h : AP M_X4_readBits b 87 [x0, x1, x2, x3, x4, x5, .int n] (.int n :: st) hi g Φ) : AP M_X4_readBits b 85 [x0, x1, x2, x3, x4, x5, .int n] (st) hi g Φ := AP.iload (x := n) (i := 6) d_X4_readBits_85 rfl h
theorem d_X4_readBits_87 : decode cX4_readBits 87 = .ok (.iadd, 1) := by decide +kernel
theorem s_X4_readBits_87 {x y : Int32} (h : AP M_X4_readBits b 88 [x0, x1, x2, x3, x4, x5, x6] (.int (x + y) :: st) hi g Φ) : AP M_X4_readBits b 87 [x0, x1, x2, x3, x4, x5, x6] (.int y :: .int x :: st) hi g Φ := AP.iadd d_X4_readBits_87 h
theorem d_X4_readBits_88 : decode cX4_readBits 88 = .ok (.invokestatic 48, 3) := by decide +kernel
theorem s_X4_readBits_88 {a0 : Int32} {r0 : Int32} {P : am_HI → Prop} (hI : am_Inv g) (hst : (st.map Value.category).sum ≤ 8) (hc : am_Cr M_X9_limit [.int a0] hi g (some (.int r0)) P) (h : ∀ hi' : am_HI, P hi' → AP M_X4_readBits b 91 [x0, x1, x2, x3, x4, x5, x6] (.int r0 :: st) hi' g Φ) : AP M_X4_readBits b 88 [x0, x1, x2, x3, x4, x5, x6] (.int a0 :: st) hi g Φ := AP.callNr (As := [.int a0]) hI hc k_X4_readBits_48 d_X4_readBits_88 rfl hst h
theorem d_X4_readBits_91 : decode cX4_readBits 91 = .ok (.invokevirtual 51, 3) := by decide +kernel
theorem s_X4_readBits_91 {a0 : Int32} {k : Nat} {P : am_HI → Prop} (hI : am_Inv g) (hs : am_SH k = (0, 0)) (hk : k < 134) (hst : (st.map Value.category).sum ≤ 8) (hc : am_Cr M_X0_show [.ref k, .int a0] hi g none P) (h : ∀ hi' : am_HI, P hi' → AP M_X4_readBits b 94 [x0, x1, x2, x3, x4, x5, x6] (st) hi' g Φ) : AP M_X4_readBits b 91 [x0, x1, x2, x3, x4, x5, x6] (.int a0 :: .ref k :: st) hi g Φ := AP.callVr (As := [.int a0]) (q := (RX0, TX0, 6)) hI hc k_X4_readBits_51 d_X4_readBits_91 rfl hs hk rfl rfl hst h
theorem d_X4_readBits_94 : decode cX4_readBits 94 = .ok (.iinc 5 1, 3) := by decide +kernel
theorem s_X4_readBits_94 {n : Int32} (hc : x4.category = 1) (h : AP M_X4_readBits b 97 [x0, x1, x2, x3, x4, .int (n + 1), x6] (st) hi g Φ) : AP M_X4_readBits b 94 [x0, x1, x2, x3, x4, .int n, x6] (st) hi g Φ := AP.iinc (i := 5) (x := n) (y := n + 1) d_X4_readBits_94 rfl rfl (by decide) (by simp [am_st, am_ci, am_cr, am_cl, am_cd, hc]) h
theorem d_X4_readBits_97 : decode cX4_readBits 97 = .ok (.goto (-65), 3) := by decide +kernel
theorem s_X4_readBits_97 (h : AP M_X4_readBits b 32 [x0, x1, x2, x3, x4, x5, x6] st hi g Φ) : AP M_X4_readBits b 97 [x0, x1, x2, x3, x4, x5, x6] st hi g Φ := AP.goto d_X4_readBits_97 (by decide) h
theorem d_X4_readBits_100 : decode cX4_readBits 100 = .ok (.return_, 1) := by decide +kernel
theorem s_X4_readBits_100 (h : Φ (.ok none) hi g) : AP M_X4_readBits b 100 [x0, x1, x2, x3, x4, x5, x6] [] hi g Φ := AP.vret d_X4_readBits_100 rfl h
end
