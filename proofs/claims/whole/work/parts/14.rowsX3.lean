/-! ===== rows by program ===== -/
section
variable {b : Nat × Nat} {st : List Value} {hi : am_HI} {g : am_G} {Φ : am_P} {x0 x1 : Value}
theorem d_X3_isOne_0 : decode cX3_isOne 0 = .ok (.iload_n 1, 1) := by decide +kernel
theorem s_X3_isOne_0 {n : Int32} (h : AP M_X3_isOne b 1 [x0, .int n] (.int n :: st) hi g Φ) : AP M_X3_isOne b 0 [x0, .int n] (st) hi g Φ := AP.iload_n (x := n) (i := 1) d_X3_isOne_0 rfl rfl h
theorem d_X3_isOne_1 : decode cX3_isOne 1 = .ok (.ifCond .lt 24, 3) := by decide +kernel
theorem s_X3_isOne_1 {x : Int32} (h1 : x < 0 → AP M_X3_isOne b 25 [x0, x1] st hi g Φ) (h2 : ¬ x < 0 → AP M_X3_isOne b 4 [x0, x1] st hi g Φ) : AP M_X3_isOne b 1 [x0, x1] (.int x :: st) hi g Φ := AP.if_lt d_X3_isOne_1 (by decide) h1 h2
theorem d_X3_isOne_4 : decode cX3_isOne 4 = .ok (.iload_n 1, 1) := by decide +kernel
theorem s_X3_isOne_4 {n : Int32} (h : AP M_X3_isOne b 5 [x0, .int n] (.int n :: st) hi g Φ) : AP M_X3_isOne b 4 [x0, .int n] (st) hi g Φ := AP.iload_n (x := n) (i := 1) d_X3_isOne_4 rfl rfl h
theorem d_X3_isOne_5 : decode cX3_isOne 5 = .ok (.aload_n 0, 1) := by decide +kernel
theorem s_X3_isOne_5 {n : Nat} (h : AP M_X3_isOne b 6 [.ref n, x1] (.ref n :: st) hi g Φ) : AP M_X3_isOne b 5 [.ref n, x1] (st) hi g Φ := AP.aload_n (x := n) (i := 0) d_X3_isOne_5 rfl rfl h
theorem d_X3_isOne_6 : decode cX3_isOne 6 = .ok (.getfield 15, 3) := by decide +kernel
theorem s_X3_isOne_6 {k : Nat} (hI : am_Inv g) (hs : am_SH k = (0, 3)) (hk : k < 134) (h : AP M_X3_isOne b 9 [x0, x1] (.int (hi k 1) :: st) hi g Φ) : AP M_X3_isOne b 6 [x0, x1] (.ref k :: st) hi g Φ := AP.getI (j := 1) (q := (RX3, TX3, 3)) d_X3_isOne_6 hs (hI.lt hk) rfl (by decide) (by decide) w_334 h
theorem d_X3_isOne_9 : decode cX3_isOne 9 = .ok (.if_icmp .ge 16, 3) := by decide +kernel
theorem s_X3_isOne_9 {x y : Int32} (h1 : y ≤ x → AP M_X3_isOne b 25 [x0, x1] st hi g Φ) (h2 : ¬ y ≤ x → AP M_X3_isOne b 12 [x0, x1] st hi g Φ) : AP M_X3_isOne b 9 [x0, x1] (.int y :: .int x :: st) hi g Φ := AP.icmp_ge d_X3_isOne_9 (by decide) h1 h2
theorem d_X3_isOne_12 : decode cX3_isOne 12 = .ok (.aload_n 0, 1) := by decide +kernel
theorem s_X3_isOne_12 {n : Nat} (h : AP M_X3_isOne b 13 [.ref n, x1] (.ref n :: st) hi g Φ) : AP M_X3_isOne b 12 [.ref n, x1] (st) hi g Φ := AP.aload_n (x := n) (i := 0) d_X3_isOne_12 rfl rfl h
theorem d_X3_isOne_13 : decode cX3_isOne 13 = .ok (.getfield 9, 3) := by decide +kernel
theorem s_X3_isOne_13 {k r : Nat} (hI : am_Inv g) (hs : am_SH k = (0, 3)) (hk : k < 134) (hr : am_HRf k 0 = some r) (hn : k ≠ 39) (h : AP M_X3_isOne b 16 [x0, x1] (.ref r :: st) hi g Φ) : AP M_X3_isOne b 13 [x0, x1] (.ref k :: st) hi g Φ := AP.getR (j := 0) (q := (RX3, TX3, 3)) d_X3_isOne_13 hs (hI.lt hk) rfl (by decide) (by decide) w_333 (hI.r hn hr) h
theorem d_X3_isOne_16 : decode cX3_isOne 16 = .ok (.iload_n 1, 1) := by decide +kernel
theorem s_X3_isOne_16 {n : Int32} (h : AP M_X3_isOne b 17 [x0, .int n] (.int n :: st) hi g Φ) : AP M_X3_isOne b 16 [x0, .int n] (st) hi g Φ := AP.iload_n (x := n) (i := 1) d_X3_isOne_16 rfl rfl h
theorem d_X3_isOne_17 : decode cX3_isOne 17 = .ok (.baload, 1) := by decide +kernel
theorem s_X3_isOne_17 {k n j : Nat} {i : Int32} (hI : am_Inv g) (hs : am_SH k = (2, n)) (hk : k < 134) (hn : n < 2 ^ 31) (hx : i = nI j) (hj : j < n) (h : AP M_X3_isOne b 18 [x0, x1] (.int (hi k j) :: st) hi g Φ) : AP M_X3_isOne b 17 [x0, x1] (.int i :: .ref k :: st) hi g Φ := AP.zald d_X3_isOne_17 hs (hI.lt hk) hn hx hj h
theorem d_X3_isOne_18 : decode cX3_isOne 18 = .ok (.ifCond .eq 7, 3) := by decide +kernel
theorem s_X3_isOne_18 {x : Int32} (h1 : x = 0 → AP M_X3_isOne b 25 [x0, x1] st hi g Φ) (h2 : ¬ x = 0 → AP M_X3_isOne b 21 [x0, x1] st hi g Φ) : AP M_X3_isOne b 18 [x0, x1] (.int x :: st) hi g Φ := AP.if_eq d_X3_isOne_18 (by decide) h1 h2
theorem d_X3_isOne_21 : decode cX3_isOne 21 = .ok (.iconst 1, 1) := by decide +kernel
theorem s_X3_isOne_21 (h : AP M_X3_isOne b 22 [x0, x1] (.int 1 :: st) hi g Φ) : AP M_X3_isOne b 21 [x0, x1] (st) hi g Φ := AP.iconst (x := 1) d_X3_isOne_21 (by decide) h
theorem d_X3_isOne_22 : decode cX3_isOne 22 = .ok (.goto 4, 3) := by decide +kernel
theorem s_X3_isOne_22 (h : AP M_X3_isOne b 26 [x0, x1] st hi g Φ) : AP M_X3_isOne b 22 [x0, x1] st hi g Φ := AP.goto d_X3_isOne_22 (by decide) h
theorem d_X3_isOne_25 : decode cX3_isOne 25 = .ok (.iconst 0, 1) := by decide +kernel
theorem s_X3_isOne_25 (h : AP M_X3_isOne b 26 [x0, x1] (.int 0 :: st) hi g Φ) : AP M_X3_isOne b 25 [x0, x1] (st) hi g Φ := AP.iconst (x := 0) d_X3_isOne_25 (by decide) h
theorem d_X3_isOne_26 : decode cX3_isOne 26 = .ok (.ireturn, 1) := by decide +kernel
theorem s_X3_isOne_26 {x : Int32} (hx : x = 0 ∨ x = 1) (h : Φ (.ok (some (.int x))) hi g) : AP M_X3_isOne b 26 [x0, x1] [.int x] hi g Φ := AP.zret d_X3_isOne_26 rfl hx h
end
section
variable {b : Nat × Nat} {st : List Value} {hi : am_HI} {g : am_G} {Φ : am_P} {x0 x1 : Value}
theorem d_X3_writeBit_0 : decode cX3_writeBit 0 = .ok (.aload_n 0, 1) := by decide +kernel
theorem s_X3_writeBit_0 {n : Nat} (h : AP M_X3_writeBit b 1 [.ref n, x1] (.ref n :: st) hi g Φ) : AP M_X3_writeBit b 0 [.ref n, x1] (st) hi g Φ := AP.aload_n (x := n) (i := 0) d_X3_writeBit_0 rfl rfl h
theorem d_X3_writeBit_1 : decode cX3_writeBit 1 = .ok (.getfield 15, 3) := by decide +kernel
theorem s_X3_writeBit_1 {k : Nat} (hI : am_Inv g) (hs : am_SH k = (0, 3)) (hk : k < 134) (h : AP M_X3_writeBit b 4 [x0, x1] (.int (hi k 1) :: st) hi g Φ) : AP M_X3_writeBit b 1 [x0, x1] (.ref k :: st) hi g Φ := AP.getI (j := 1) (q := (RX3, TX3, 3)) d_X3_writeBit_1 hs (hI.lt hk) rfl (by decide) (by decide) w_334 h
theorem d_X3_writeBit_4 : decode cX3_writeBit 4 = .ok (.sipush 19092, 3) := by decide +kernel
theorem s_X3_writeBit_4 (h : AP M_X3_writeBit b 7 [x0, x1] (.int 19092 :: st) hi g Φ) : AP M_X3_writeBit b 4 [x0, x1] (st) hi g Φ := AP.sipush (x := 19092) d_X3_writeBit_4 (by decide) h
theorem d_X3_writeBit_7 : decode cX3_writeBit 7 = .ok (.if_icmp .ge 23, 3) := by decide +kernel
theorem s_X3_writeBit_7 {x y : Int32} (h1 : y ≤ x → AP M_X3_writeBit b 30 [x0, x1] st hi g Φ) (h2 : ¬ y ≤ x → AP M_X3_writeBit b 10 [x0, x1] st hi g Φ) : AP M_X3_writeBit b 7 [x0, x1] (.int y :: .int x :: st) hi g Φ := AP.icmp_ge d_X3_writeBit_7 (by decide) h1 h2
theorem d_X3_writeBit_10 : decode cX3_writeBit 10 = .ok (.aload_n 0, 1) := by decide +kernel
theorem s_X3_writeBit_10 {n : Nat} (h : AP M_X3_writeBit b 11 [.ref n, x1] (.ref n :: st) hi g Φ) : AP M_X3_writeBit b 10 [.ref n, x1] (st) hi g Φ := AP.aload_n (x := n) (i := 0) d_X3_writeBit_10 rfl rfl h
theorem d_X3_writeBit_11 : decode cX3_writeBit 11 = .ok (.getfield 9, 3) := by decide +kernel
theorem s_X3_writeBit_11 {k r : Nat} (hI : am_Inv g) (hs : am_SH k = (0, 3)) (hk : k < 134) (hr : am_HRf k 0 = some r) (hn : k ≠ 39) (h : AP M_X3_writeBit b 14 [x0, x1] (.ref r :: st) hi g Φ) : AP M_X3_writeBit b 11 [x0, x1] (.ref k :: st) hi g Φ := AP.getR (j := 0) (q := (RX3, TX3, 3)) d_X3_writeBit_11 hs (hI.lt hk) rfl (by decide) (by decide) w_333 (hI.r hn hr) h
theorem d_X3_writeBit_14 : decode cX3_writeBit 14 = .ok (.aload_n 0, 1) := by decide +kernel
theorem s_X3_writeBit_14 {n : Nat} (h : AP M_X3_writeBit b 15 [.ref n, x1] (.ref n :: st) hi g Φ) : AP M_X3_writeBit b 14 [.ref n, x1] (st) hi g Φ := AP.aload_n (x := n) (i := 0) d_X3_writeBit_14 rfl rfl h
theorem d_X3_writeBit_15 : decode cX3_writeBit 15 = .ok (.getfield 15, 3) := by decide +kernel
theorem s_X3_writeBit_15 {k : Nat} (hI : am_Inv g) (hs : am_SH k = (0, 3)) (hk : k < 134) (h : AP M_X3_writeBit b 18 [x0, x1] (.int (hi k 1) :: st) hi g Φ) : AP M_X3_writeBit b 15 [x0, x1] (.ref k :: st) hi g Φ := AP.getI (j := 1) (q := (RX3, TX3, 3)) d_X3_writeBit_15 hs (hI.lt hk) rfl (by decide) (by decide) w_334 h
theorem d_X3_writeBit_18 : decode cX3_writeBit 18 = .ok (.iload_n 1, 1) := by decide +kernel
theorem s_X3_writeBit_18 {n : Int32} (h : AP M_X3_writeBit b 19 [x0, .int n] (.int n :: st) hi g Φ) : AP M_X3_writeBit b 18 [x0, .int n] (st) hi g Φ := AP.iload_n (x := n) (i := 1) d_X3_writeBit_18 rfl rfl h
theorem d_X3_writeBit_19 : decode cX3_writeBit 19 = .ok (.bastore, 1) := by decide +kernel
theorem s_X3_writeBit_19 {k n j : Nat} {i x : Int32} (hI : am_Inv g) (hs : am_SH k = (2, n)) (hk : k < 134) (hn : n < 2 ^ 31) (hx : i = nI j) (hj : j < n) (hb : vp_nar .boolean x = x) (h : AP M_X3_writeBit b 20 [x0, x1] (st) (am_up hi k j x) g Φ) : AP M_X3_writeBit b 19 [x0, x1] (.int x :: .int i :: .ref k :: st) hi g Φ := AP.zast d_X3_writeBit_19 hs (hI.lt hk) hn hx hj hb h
theorem d_X3_writeBit_20 : decode cX3_writeBit 20 = .ok (.aload_n 0, 1) := by decide +kernel
theorem s_X3_writeBit_20 {n : Nat} (h : AP M_X3_writeBit b 21 [.ref n, x1] (.ref n :: st) hi g Φ) : AP M_X3_writeBit b 20 [.ref n, x1] (st) hi g Φ := AP.aload_n (x := n) (i := 0) d_X3_writeBit_20 rfl rfl h
theorem d_X3_writeBit_21 : decode cX3_writeBit 21 = .ok (.dup, 1) := by decide +kernel
theorem s_X3_writeBit_21 {u : Value} (hu : u.category = 1) (h : AP M_X3_writeBit b 22 [x0, x1] (u :: u :: st) hi g Φ) : AP M_X3_writeBit b 21 [x0, x1] (u :: st) hi g Φ := AP.dup d_X3_writeBit_21 hu h
theorem d_X3_writeBit_22 : decode cX3_writeBit 22 = .ok (.getfield 15, 3) := by decide +kernel
theorem s_X3_writeBit_22 {k : Nat} (hI : am_Inv g) (hs : am_SH k = (0, 3)) (hk : k < 134) (h : AP M_X3_writeBit b 25 [x0, x1] (.int (hi k 1) :: st) hi g Φ) : AP M_X3_writeBit b 22 [x0, x1] (.ref k :: st) hi g Φ := AP.getI (j := 1) (q := (RX3, TX3, 3)) d_X3_writeBit_22 hs (hI.lt hk) rfl (by decide) (by decide) w_334 h
theorem d_X3_writeBit_25 : decode cX3_writeBit 25 = .ok (.iconst 1, 1) := by decide +kernel
theorem s_X3_writeBit_25 (h : AP M_X3_writeBit b 26 [x0, x1] (.int 1 :: st) hi g Φ) : AP M_X3_writeBit b 25 [x0, x1] (st) hi g Φ := AP.iconst (x := 1) d_X3_writeBit_25 (by decide) h
theorem d_X3_writeBit_26 : decode cX3_writeBit 26 = .ok (.iadd, 1) := by decide +kernel
theorem s_X3_writeBit_26 {x y : Int32} (h : AP M_X3_writeBit b 27 [x0, x1] (.int (x + y) :: st) hi g Φ) : AP M_X3_writeBit b 26 [x0, x1] (.int y :: .int x :: st) hi g Φ := AP.iadd d_X3_writeBit_26 h
theorem d_X3_writeBit_27 : decode cX3_writeBit 27 = .ok (.putfield 15, 3) := by decide +kernel
theorem s_X3_writeBit_27 {k : Nat} {n : Int32} (hI : am_Inv g) (hs : am_SH k = (0, 3)) (hk : k < 134) (h : AP M_X3_writeBit b 30 [x0, x1] (st) (am_up hi k 1 n) g Φ) : AP M_X3_writeBit b 27 [x0, x1] (.int n :: .ref k :: st) hi g Φ := AP.putI (j := 1) (q := (RX3, TX3, 3)) d_X3_writeBit_27 hs (hI.lt hk) rfl (by decide) rfl rfl w_334 h
theorem d_X3_writeBit_30 : decode cX3_writeBit 30 = .ok (.return_, 1) := by decide +kernel
theorem s_X3_writeBit_30 (h : Φ (.ok none) hi g) : AP M_X3_writeBit b 30 [x0, x1] [] hi g Φ := AP.vret d_X3_writeBit_30 rfl h
end
section
variable {b : Nat × Nat} {st : List Value} {hi : am_HI} {g : am_G} {Φ : am_P} {x0 x1 : Value}
theorem d_X3_readBit_0 : decode cX3_readBit 0 = .ok (.aload_n 0, 1) := by decide +kernel
theorem s_X3_readBit_0 {n : Nat} (h : AP M_X3_readBit b 1 [.ref n, x1] (.ref n :: st) hi g Φ) : AP M_X3_readBit b 0 [.ref n, x1] (st) hi g Φ := AP.aload_n (x := n) (i := 0) d_X3_readBit_0 rfl rfl h
theorem d_X3_readBit_1 : decode cX3_readBit 1 = .ok (.aload_n 0, 1) := by decide +kernel
theorem s_X3_readBit_1 {n : Nat} (h : AP M_X3_readBit b 2 [.ref n, x1] (.ref n :: st) hi g Φ) : AP M_X3_readBit b 1 [.ref n, x1] (st) hi g Φ := AP.aload_n (x := n) (i := 0) d_X3_readBit_1 rfl rfl h
theorem d_X3_readBit_2 : decode cX3_readBit 2 = .ok (.getfield 19, 3) := by decide +kernel
theorem s_X3_readBit_2 {k : Nat} (hI : am_Inv g) (hs : am_SH k = (0, 3)) (hk : k < 134) (h : AP M_X3_readBit b 5 [x0, x1] (.int (hi k 2) :: st) hi g Φ) : AP M_X3_readBit b 2 [x0, x1] (.ref k :: st) hi g Φ := AP.getI (j := 2) (q := (RX3, TX3, 3)) d_X3_readBit_2 hs (hI.lt hk) rfl (by decide) (by decide) w_336 h
theorem d_X3_readBit_5 : decode cX3_readBit 5 = .ok (.invokevirtual 52, 3) := by decide +kernel
theorem s_X3_readBit_5 {a0 : Int32} {k : Nat} {r0 : Int32} {P : am_HI → Prop} (hI : am_Inv g) (hs : am_SH k = (0, 3)) (hk : k < 134) (hst : (st.map Value.category).sum ≤ 8) (hc : am_Cr M_X3_isOne [.ref k, .int a0] hi g (some (.int r0)) P) (h : ∀ hi' : am_HI, P hi' → AP M_X3_readBit b 8 [x0, x1] (.int r0 :: st) hi' g Φ) : AP M_X3_readBit b 5 [x0, x1] (.int a0 :: .ref k :: st) hi g Φ := AP.callVr (As := [.int a0]) (q := (RX3, TX3, 3)) hI hc k_X3_readBit_52 d_X3_readBit_5 rfl hs hk rfl rfl hst h
theorem d_X3_readBit_8 : decode cX3_readBit 8 = .ok (.istore_n 1, 1) := by decide +kernel
theorem s_X3_readBit_8 {n : Int32} (hc : x0.category = 1) (h : AP M_X3_readBit b 9 [x0, .int n] (st) hi g Φ) : AP M_X3_readBit b 8 [x0, x1] (.int n :: st) hi g Φ := AP.istore_n (x := n) (i := 1) d_X3_readBit_8 rfl (by decide) (by simp [am_st, am_ci, am_cr, am_cl, am_cd, hc]) h
theorem d_X3_readBit_9 : decode cX3_readBit 9 = .ok (.aload_n 0, 1) := by decide +kernel
theorem s_X3_readBit_9 {n : Nat} (h : AP M_X3_readBit b 10 [.ref n, x1] (.ref n :: st) hi g Φ) : AP M_X3_readBit b 9 [.ref n, x1] (st) hi g Φ := AP.aload_n (x := n) (i := 0) d_X3_readBit_9 rfl rfl h
theorem d_X3_readBit_10 : decode cX3_readBit 10 = .ok (.dup, 1) := by decide +kernel
theorem s_X3_readBit_10 {u : Value} (hu : u.category = 1) (h : AP M_X3_readBit b 11 [x0, x1] (u :: u :: st) hi g Φ) : AP M_X3_readBit b 10 [x0, x1] (u :: st) hi g Φ := AP.dup d_X3_readBit_10 hu h
theorem d_X3_readBit_11 : decode cX3_readBit 11 = .ok (.getfield 19, 3) := by decide +kernel
theorem s_X3_readBit_11 {k : Nat} (hI : am_Inv g) (hs : am_SH k = (0, 3)) (hk : k < 134) (h : AP M_X3_readBit b 14 [x0, x1] (.int (hi k 2) :: st) hi g Φ) : AP M_X3_readBit b 11 [x0, x1] (.ref k :: st) hi g Φ := AP.getI (j := 2) (q := (RX3, TX3, 3)) d_X3_readBit_11 hs (hI.lt hk) rfl (by decide) (by decide) w_336 h
theorem d_X3_readBit_14 : decode cX3_readBit 14 = .ok (.iconst 1, 1) := by decide +kernel
theorem s_X3_readBit_14 (h : AP M_X3_readBit b 15 [x0, x1] (.int 1 :: st) hi g Φ) : AP M_X3_readBit b 14 [x0, x1] (st) hi g Φ := AP.iconst (x := 1) d_X3_readBit_14 (by decide) h
theorem d_X3_readBit_15 : decode cX3_readBit 15 = .ok (.iadd, 1) := by decide +kernel
theorem s_X3_readBit_15 {x y : Int32} (h : AP M_X3_readBit b 16 [x0, x1] (.int (x + y) :: st) hi g Φ) : AP M_X3_readBit b 15 [x0, x1] (.int y :: .int x :: st) hi g Φ := AP.iadd d_X3_readBit_15 h
theorem d_X3_readBit_16 : decode cX3_readBit 16 = .ok (.putfield 19, 3) := by decide +kernel
theorem s_X3_readBit_16 {k : Nat} {n : Int32} (hI : am_Inv g) (hs : am_SH k = (0, 3)) (hk : k < 134) (h : AP M_X3_readBit b 19 [x0, x1] (st) (am_up hi k 2 n) g Φ) : AP M_X3_readBit b 16 [x0, x1] (.int n :: .ref k :: st) hi g Φ := AP.putI (j := 2) (q := (RX3, TX3, 3)) d_X3_readBit_16 hs (hI.lt hk) rfl (by decide) rfl rfl w_336 h
theorem d_X3_readBit_19 : decode cX3_readBit 19 = .ok (.iload_n 1, 1) := by decide +kernel
theorem s_X3_readBit_19 {n : Int32} (h : AP M_X3_readBit b 20 [x0, .int n] (.int n :: st) hi g Φ) : AP M_X3_readBit b 19 [x0, .int n] (st) hi g Φ := AP.iload_n (x := n) (i := 1) d_X3_readBit_19 rfl rfl h
theorem d_X3_readBit_20 : decode cX3_readBit 20 = .ok (.ireturn, 1) := by decide +kernel
theorem s_X3_readBit_20 {x : Int32} (hx : x = 0 ∨ x = 1) (h : Φ (.ok (some (.int x))) hi g) : AP M_X3_readBit b 20 [x0, x1] [.int x] hi g Φ := AP.zret d_X3_readBit_20 rfl hx h
end
section
variable {b : Nat × Nat} {st : List Value} {hi : am_HI} {g : am_G} {Φ : am_P} {x0 x1 x2 x3 : Value}
theorem d_X3_writeNumber_0 : decode cX3_writeNumber 0 = .ok (.iload_n 2, 1) := by decide +kernel
theorem s_X3_writeNumber_0 {n : Int32} (h : AP M_X3_writeNumber b 1 [x0, x1, .int n, x3] (.int n :: st) hi g Φ) : AP M_X3_writeNumber b 0 [x0, x1, .int n, x3] (st) hi g Φ := AP.iload_n (x := n) (i := 2) d_X3_writeNumber_0 rfl rfl h
theorem d_X3_writeNumber_1 : decode cX3_writeNumber 1 = .ok (.iconst 1, 1) := by decide +kernel
theorem s_X3_writeNumber_1 (h : AP M_X3_writeNumber b 2 [x0, x1, x2, x3] (.int 1 :: st) hi g Φ) : AP M_X3_writeNumber b 1 [x0, x1, x2, x3] (st) hi g Φ := AP.iconst (x := 1) d_X3_writeNumber_1 (by decide) h
theorem d_X3_writeNumber_2 : decode cX3_writeNumber 2 = .ok (.isub, 1) := by decide +kernel
theorem s_X3_writeNumber_2 {x y : Int32} (h : AP M_X3_writeNumber b 3 [x0, x1, x2, x3] (.int (x - y) :: st) hi g Φ) : AP M_X3_writeNumber b 2 [x0, x1, x2, x3] (.int y :: .int x :: st) hi g Φ := AP.isub d_X3_writeNumber_2 h
theorem d_X3_writeNumber_3 : decode cX3_writeNumber 3 = .ok (.istore_n 3, 1) := by decide +kernel
theorem s_X3_writeNumber_3 {n : Int32} (hc : x2.category = 1) (h : AP M_X3_writeNumber b 4 [x0, x1, x2, .int n] (st) hi g Φ) : AP M_X3_writeNumber b 3 [x0, x1, x2, x3] (.int n :: st) hi g Φ := AP.istore_n (x := n) (i := 3) d_X3_writeNumber_3 rfl (by decide) (by simp [am_st, am_ci, am_cr, am_cl, am_cd, hc]) h
theorem d_X3_writeNumber_4 : decode cX3_writeNumber 4 = .ok (.iload_n 3, 1) := by decide +kernel
theorem s_X3_writeNumber_4 {n : Int32} (h : AP M_X3_writeNumber b 5 [x0, x1, x2, .int n] (.int n :: st) hi g Φ) : AP M_X3_writeNumber b 4 [x0, x1, x2, .int n] (st) hi g Φ := AP.iload_n (x := n) (i := 3) d_X3_writeNumber_4 rfl rfl h
theorem d_X3_writeNumber_5 : decode cX3_writeNumber 5 = .ok (.ifCond .lt 27, 3) := by decide +kernel
theorem s_X3_writeNumber_5 {x : Int32} (h1 : x < 0 → AP M_X3_writeNumber b 32 [x0, x1, x2, x3] st hi g Φ) (h2 : ¬ x < 0 → AP M_X3_writeNumber b 8 [x0, x1, x2, x3] st hi g Φ) : AP M_X3_writeNumber b 5 [x0, x1, x2, x3] (.int x :: st) hi g Φ := AP.if_lt d_X3_writeNumber_5 (by decide) h1 h2
theorem d_X3_writeNumber_8 : decode cX3_writeNumber 8 = .ok (.aload_n 0, 1) := by decide +kernel
theorem s_X3_writeNumber_8 {n : Nat} (h : AP M_X3_writeNumber b 9 [.ref n, x1, x2, x3] (.ref n :: st) hi g Φ) : AP M_X3_writeNumber b 8 [.ref n, x1, x2, x3] (st) hi g Φ := AP.aload_n (x := n) (i := 0) d_X3_writeNumber_8 rfl rfl h
theorem d_X3_writeNumber_9 : decode cX3_writeNumber 9 = .ok (.iload_n 1, 1) := by decide +kernel
theorem s_X3_writeNumber_9 {n : Int32} (h : AP M_X3_writeNumber b 10 [x0, .int n, x2, x3] (.int n :: st) hi g Φ) : AP M_X3_writeNumber b 9 [x0, .int n, x2, x3] (st) hi g Φ := AP.iload_n (x := n) (i := 1) d_X3_writeNumber_9 rfl rfl h
theorem d_X3_writeNumber_10 : decode cX3_writeNumber 10 = .ok (.iload_n 3, 1) := by decide +kernel
theorem s_X3_writeNumber_10 {n : Int32} (h : AP M_X3_writeNumber b 11 [x0, x1, x2, .int n] (.int n :: st) hi g Φ) : AP M_X3_writeNumber b 10 [x0, x1, x2, .int n] (st) hi g Φ := AP.iload_n (x := n) (i := 3) d_X3_writeNumber_10 rfl rfl h
theorem d_X3_writeNumber_11 : decode cX3_writeNumber 11 = .ok (.ishr, 1) := by decide +kernel
theorem s_X3_writeNumber_11 {x y : Int32} (h : AP M_X3_writeNumber b 12 [x0, x1, x2, x3] (.int (x >>> (y &&& 31)) :: st) hi g Φ) : AP M_X3_writeNumber b 11 [x0, x1, x2, x3] (.int y :: .int x :: st) hi g Φ := AP.ishr d_X3_writeNumber_11 h
theorem d_X3_writeNumber_12 : decode cX3_writeNumber 12 = .ok (.iconst 1, 1) := by decide +kernel
theorem s_X3_writeNumber_12 (h : AP M_X3_writeNumber b 13 [x0, x1, x2, x3] (.int 1 :: st) hi g Φ) : AP M_X3_writeNumber b 12 [x0, x1, x2, x3] (st) hi g Φ := AP.iconst (x := 1) d_X3_writeNumber_12 (by decide) h
theorem d_X3_writeNumber_13 : decode cX3_writeNumber 13 = .ok (.iand, 1) := by decide +kernel
theorem s_X3_writeNumber_13 {x y : Int32} (h : AP M_X3_writeNumber b 14 [x0, x1, x2, x3] (.int (x &&& y) :: st) hi g Φ) : AP M_X3_writeNumber b 13 [x0, x1, x2, x3] (.int y :: .int x :: st) hi g Φ := AP.iand d_X3_writeNumber_13 h
theorem d_X3_writeNumber_14 : decode cX3_writeNumber 14 = .ok (.iconst 1, 1) := by decide +kernel
theorem s_X3_writeNumber_14 (h : AP M_X3_writeNumber b 15 [x0, x1, x2, x3] (.int 1 :: st) hi g Φ) : AP M_X3_writeNumber b 14 [x0, x1, x2, x3] (st) hi g Φ := AP.iconst (x := 1) d_X3_writeNumber_14 (by decide) h
theorem d_X3_writeNumber_15 : decode cX3_writeNumber 15 = .ok (.if_icmp .ne 7, 3) := by decide +kernel
theorem s_X3_writeNumber_15 {x y : Int32} (h1 : ¬ x = y → AP M_X3_writeNumber b 22 [x0, x1, x2, x3] st hi g Φ) (h2 : x = y → AP M_X3_writeNumber b 18 [x0, x1, x2, x3] st hi g Φ) : AP M_X3_writeNumber b 15 [x0, x1, x2, x3] (.int y :: .int x :: st) hi g Φ := AP.icmp_ne d_X3_writeNumber_15 (by decide) h1 h2
theorem d_X3_writeNumber_18 : decode cX3_writeNumber 18 = .ok (.iconst 1, 1) := by decide +kernel
theorem s_X3_writeNumber_18 (h : AP M_X3_writeNumber b 19 [x0, x1, x2, x3] (.int 1 :: st) hi g Φ) : AP M_X3_writeNumber b 18 [x0, x1, x2, x3] (st) hi g Φ := AP.iconst (x := 1) d_X3_writeNumber_18 (by decide) h
theorem d_X3_writeNumber_19 : decode cX3_writeNumber 19 = .ok (.goto 4, 3) := by decide +kernel
theorem s_X3_writeNumber_19 (h : AP M_X3_writeNumber b 23 [x0, x1, x2, x3] st hi g Φ) : AP M_X3_writeNumber b 19 [x0, x1, x2, x3] st hi g Φ := AP.goto d_X3_writeNumber_19 (by decide) h
theorem d_X3_writeNumber_22 : decode cX3_writeNumber 22 = .ok (.iconst 0, 1) := by decide +kernel
theorem s_X3_writeNumber_22 (h : AP M_X3_writeNumber b 23 [x0, x1, x2, x3] (.int 0 :: st) hi g Φ) : AP M_X3_writeNumber b 22 [x0, x1, x2, x3] (st) hi g Φ := AP.iconst (x := 0) d_X3_writeNumber_22 (by decide) h
theorem d_X3_writeNumber_23 : decode cX3_writeNumber 23 = .ok (.invokevirtual 48, 3) := by decide +kernel
theorem s_X3_writeNumber_23 {a0 : Int32} {k : Nat} {P : am_HI → Prop} (hI : am_Inv g) (hs : am_SH k = (0, 3)) (hk : k < 134) (hst : (st.map Value.category).sum ≤ 8) (hc : am_Cr M_X3_writeBit [.ref k, .int a0] hi g none P) (h : ∀ hi' : am_HI, P hi' → AP M_X3_writeNumber b 26 [x0, x1, x2, x3] (st) hi' g Φ) : AP M_X3_writeNumber b 23 [x0, x1, x2, x3] (.int a0 :: .ref k :: st) hi g Φ := AP.callVr (As := [.int a0]) (q := (RX3, TX3, 3)) hI hc k_X3_writeNumber_48 d_X3_writeNumber_23 rfl hs hk rfl rfl hst h
theorem d_X3_writeNumber_26 : decode cX3_writeNumber 26 = .ok (.iinc 3 (-1), 3) := by decide +kernel
theorem s_X3_writeNumber_26 {n : Int32} (hc : x2.category = 1) (h : AP M_X3_writeNumber b 29 [x0, x1, x2, .int (n + (-1))] (st) hi g Φ) : AP M_X3_writeNumber b 26 [x0, x1, x2, .int n] (st) hi g Φ := AP.iinc (i := 3) (x := n) (y := n + (-1)) d_X3_writeNumber_26 rfl rfl (by decide) (by simp [am_st, am_ci, am_cr, am_cl, am_cd, hc]) h
theorem d_X3_writeNumber_29 : decode cX3_writeNumber 29 = .ok (.goto (-25), 3) := by decide +kernel
theorem s_X3_writeNumber_29 (h : AP M_X3_writeNumber b 4 [x0, x1, x2, x3] st hi g Φ) : AP M_X3_writeNumber b 29 [x0, x1, x2, x3] st hi g Φ := AP.goto d_X3_writeNumber_29 (by decide) h
theorem d_X3_writeNumber_32 : decode cX3_writeNumber 32 = .ok (.return_, 1) := by decide +kernel
theorem s_X3_writeNumber_32 (h : Φ (.ok none) hi g) : AP M_X3_writeNumber b 32 [x0, x1, x2, x3] [] hi g Φ := AP.vret d_X3_writeNumber_32 rfl h
end
section
variable {b : Nat × Nat} {st : List Value} {hi : am_HI} {g : am_G} {Φ : am_P} {x0 x1 x2 x3 : Value}
theorem d_X3_readNumber_0 : decode cX3_readNumber 0 = .ok (.iconst 0, 1) := by decide +kernel
theorem s_X3_readNumber_0 (h : AP M_X3_readNumber b 1 [x0, x1, x2, x3] (.int 0 :: st) hi g Φ) : AP M_X3_readNumber b 0 [x0, x1, x2, x3] (st) hi g Φ := AP.iconst (x := 0) d_X3_readNumber_0 (by decide) h
theorem d_X3_readNumber_1 : decode cX3_readNumber 1 = .ok (.istore_n 2, 1) := by decide +kernel
theorem s_X3_readNumber_1 {n : Int32} (hc : x1.category = 1) (h : AP M_X3_readNumber b 2 [x0, x1, .int n, x3] (st) hi g Φ) : AP M_X3_readNumber b 1 [x0, x1, x2, x3] (.int n :: st) hi g Φ := AP.istore_n (x := n) (i := 2) d_X3_readNumber_1 rfl (by decide) (by simp [am_st, am_ci, am_cr, am_cl, am_cd, hc]) h
theorem d_X3_readNumber_2 : decode cX3_readNumber 2 = .ok (.iconst 0, 1) := by decide +kernel
theorem s_X3_readNumber_2 (h : AP M_X3_readNumber b 3 [x0, x1, x2, x3] (.int 0 :: st) hi g Φ) : AP M_X3_readNumber b 2 [x0, x1, x2, x3] (st) hi g Φ := AP.iconst (x := 0) d_X3_readNumber_2 (by decide) h
theorem d_X3_readNumber_3 : decode cX3_readNumber 3 = .ok (.istore_n 3, 1) := by decide +kernel
theorem s_X3_readNumber_3 {n : Int32} (hc : x2.category = 1) (h : AP M_X3_readNumber b 4 [x0, x1, x2, .int n] (st) hi g Φ) : AP M_X3_readNumber b 3 [x0, x1, x2, x3] (.int n :: st) hi g Φ := AP.istore_n (x := n) (i := 3) d_X3_readNumber_3 rfl (by decide) (by simp [am_st, am_ci, am_cr, am_cl, am_cd, hc]) h
theorem d_X3_readNumber_4 : decode cX3_readNumber 4 = .ok (.iload_n 3, 1) := by decide +kernel
theorem s_X3_readNumber_4 {n : Int32} (h : AP M_X3_readNumber b 5 [x0, x1, x2, .int n] (.int n :: st) hi g Φ) : AP M_X3_readNumber b 4 [x0, x1, x2, .int n] (st) hi g Φ := AP.iload_n (x := n) (i := 3) d_X3_readNumber_4 rfl rfl h
theorem d_X3_readNumber_5 : decode cX3_readNumber 5 = .ok (.iload_n 1, 1) := by decide +kernel
theorem s_X3_readNumber_5 {n : Int32} (h : AP M_X3_readNumber b 6 [x0, .int n, x2, x3] (.int n :: st) hi g Φ) : AP M_X3_readNumber b 5 [x0, .int n, x2, x3] (st) hi g Φ := AP.iload_n (x := n) (i := 1) d_X3_readNumber_5 rfl rfl h
theorem d_X3_readNumber_6 : decode cX3_readNumber 6 = .ok (.if_icmp .ge 26, 3) := by decide +kernel
theorem s_X3_readNumber_6 {x y : Int32} (h1 : y ≤ x → AP M_X3_readNumber b 32 [x0, x1, x2, x3] st hi g Φ) (h2 : ¬ y ≤ x → AP M_X3_readNumber b 9 [x0, x1, x2, x3] st hi g Φ) : AP M_X3_readNumber b 6 [x0, x1, x2, x3] (.int y :: .int x :: st) hi g Φ := AP.icmp_ge d_X3_readNumber_6 (by decide) h1 h2
theorem d_X3_readNumber_9 : decode cX3_readNumber 9 = .ok (.iconst 2, 1) := by decide +kernel
theorem s_X3_readNumber_9 (h : AP M_X3_readNumber b 10 [x0, x1, x2, x3] (.int 2 :: st) hi g Φ) : AP M_X3_readNumber b 9 [x0, x1, x2, x3] (st) hi g Φ := AP.iconst (x := 2) d_X3_readNumber_9 (by decide) h
theorem d_X3_readNumber_10 : decode cX3_readNumber 10 = .ok (.iload_n 2, 1) := by decide +kernel
theorem s_X3_readNumber_10 {n : Int32} (h : AP M_X3_readNumber b 11 [x0, x1, .int n, x3] (.int n :: st) hi g Φ) : AP M_X3_readNumber b 10 [x0, x1, .int n, x3] (st) hi g Φ := AP.iload_n (x := n) (i := 2) d_X3_readNumber_10 rfl rfl h
theorem d_X3_readNumber_11 : decode cX3_readNumber 11 = .ok (.imul, 1) := by decide +kernel
theorem s_X3_readNumber_11 {x y : Int32} (h : AP M_X3_readNumber b 12 [x0, x1, x2, x3] (.int (x * y) :: st) hi g Φ) : AP M_X3_readNumber b 11 [x0, x1, x2, x3] (.int y :: .int x :: st) hi g Φ := AP.imul d_X3_readNumber_11 h
theorem d_X3_readNumber_12 : decode cX3_readNumber 12 = .ok (.aload_n 0, 1) := by decide +kernel
theorem s_X3_readNumber_12 {n : Nat} (h : AP M_X3_readNumber b 13 [.ref n, x1, x2, x3] (.ref n :: st) hi g Φ) : AP M_X3_readNumber b 12 [.ref n, x1, x2, x3] (st) hi g Φ := AP.aload_n (x := n) (i := 0) d_X3_readNumber_12 rfl rfl h
theorem d_X3_readNumber_13 : decode cX3_readNumber 13 = .ok (.invokevirtual 56, 3) := by decide +kernel
theorem s_X3_readNumber_13  {k : Nat} {r0 : Int32} {P : am_HI → Prop} (hI : am_Inv g) (hs : am_SH k = (0, 3)) (hk : k < 134) (hst : (st.map Value.category).sum ≤ 8) (hc : am_Cr M_X3_readBit [.ref k] hi g (some (.int r0)) P) (h : ∀ hi' : am_HI, P hi' → AP M_X3_readNumber b 16 [x0, x1, x2, x3] (.int r0 :: st) hi' g Φ) : AP M_X3_readNumber b 13 [x0, x1, x2, x3] (.ref k :: st) hi g Φ := AP.callVr (As := []) (q := (RX3, TX3, 3)) hI hc k_X3_readNumber_56 d_X3_readNumber_13 rfl hs hk rfl rfl hst h
theorem d_X3_readNumber_16 : decode cX3_readNumber 16 = .ok (.ifCond .eq 7, 3) := by decide +kernel
theorem s_X3_readNumber_16 {x : Int32} (h1 : x = 0 → AP M_X3_readNumber b 23 [x0, x1, x2, x3] st hi g Φ) (h2 : ¬ x = 0 → AP M_X3_readNumber b 19 [x0, x1, x2, x3] st hi g Φ) : AP M_X3_readNumber b 16 [x0, x1, x2, x3] (.int x :: st) hi g Φ := AP.if_eq d_X3_readNumber_16 (by decide) h1 h2
theorem d_X3_readNumber_19 : decode cX3_readNumber 19 = .ok (.iconst 1, 1) := by decide +kernel
theorem s_X3_readNumber_19 (h : AP M_X3_readNumber b 20 [x0, x1, x2, x3] (.int 1 :: st) hi g Φ) : AP M_X3_readNumber b 19 [x0, x1, x2, x3] (st) hi g Φ := AP.iconst (x := 1) d_X3_readNumber_19 (by decide) h
theorem d_X3_readNumber_20 : decode cX3_readNumber 20 = .ok (.goto 4, 3) := by decide +kernel
theorem s_X3_readNumber_20 (h : AP M_X3_readNumber b 24 [x0, x1, x2, x3] st hi g Φ) : AP M_X3_readNumber b 20 [x0, x1, x2, x3] st hi g Φ := AP.goto d_X3_readNumber_20 (by decide) h
theorem d_X3_readNumber_23 : decode cX3_readNumber 23 = .ok (.iconst 0, 1) := by decide +kernel
theorem s_X3_readNumber_23 (h : AP M_X3_readNumber b 24 [x0, x1, x2, x3] (.int 0 :: st) hi g Φ) : AP M_X3_readNumber b 23 [x0, x1, x2, x3] (st) hi g Φ := AP.iconst (x := 0) d_X3_readNumber_23 (by decide) h
theorem d_X3_readNumber_24 : decode cX3_readNumber 24 = .ok (.iadd, 1) := by decide +kernel
theorem s_X3_readNumber_24 {x y : Int32} (h : AP M_X3_readNumber b 25 [x0, x1, x2, x3] (.int (x + y) :: st) hi g Φ) : AP M_X3_readNumber b 24 [x0, x1, x2, x3] (.int y :: .int x :: st) hi g Φ := AP.iadd d_X3_readNumber_24 h
theorem d_X3_readNumber_25 : decode cX3_readNumber 25 = .ok (.istore_n 2, 1) := by decide +kernel
theorem s_X3_readNumber_25 {n : Int32} (hc : x1.category = 1) (h : AP M_X3_readNumber b 26 [x0, x1, .int n, x3] (st) hi g Φ) : AP M_X3_readNumber b 25 [x0, x1, x2, x3] (.int n :: st) hi g Φ := AP.istore_n (x := n) (i := 2) d_X3_readNumber_25 rfl (by decide) (by simp [am_st, am_ci, am_cr, am_cl, am_cd, hc]) h
theorem d_X3_readNumber_26 : decode cX3_readNumber 26 = .ok (.iinc 3 1, 3) := by decide +kernel
theorem s_X3_readNumber_26 {n : Int32} (hc : x2.category = 1) (h : AP M_X3_readNumber b 29 [x0, x1, x2, .int (n + 1)] (st) hi g Φ) : AP M_X3_readNumber b 26 [x0, x1, x2, .int n] (st) hi g Φ := AP.iinc (i := 3) (x := n) (y := n + 1) d_X3_readNumber_26 rfl rfl (by decide) (by simp [am_st, am_ci, am_cr, am_cl, am_cd, hc]) h
theorem d_X3_readNumber_29 : decode cX3_readNumber 29 = .ok (.goto (-25), 3) := by decide +kernel
theorem s_X3_readNumber_29 (h : AP M_X3_readNumber b 4 [x0, x1, x2, x3] st hi g Φ) : AP M_X3_readNumber b 29 [x0, x1, x2, x3] st hi g Φ := AP.goto d_X3_readNumber_29 (by decide) h
theorem d_X3_readNumber_32 : decode cX3_readNumber 32 = .ok (.iload_n 2, 1) := by decide +kernel
theorem s_X3_readNumber_32 {n : Int32} (h : AP M_X3_readNumber b 33 [x0, x1, .int n, x3] (.int n :: st) hi g Φ) : AP M_X3_readNumber b 32 [x0, x1, .int n, x3] (st) hi g Φ := AP.iload_n (x := n) (i := 2) d_X3_readNumber_32 rfl rfl h
theorem d_X3_readNumber_33 : decode cX3_readNumber 33 = .ok (.ireturn, 1) := by decide +kernel
theorem s_X3_readNumber_33 {x : Int32} (h : Φ (.ok (some (.int x))) hi g) : AP M_X3_readNumber b 33 [x0, x1, x2, x3] [.int x] hi g Φ := AP.iret d_X3_readNumber_33 rfl h
end
section
variable {b : Nat × Nat} {st : List Value} {hi : am_HI} {g : am_G} {Φ : am_P} {x0 x1 x2 x3 : Value}
theorem d_X3_writeFolded_0 : decode cX3_writeFolded 0 = .ok (.iload_n 1, 1) := by decide +kernel
theorem s_X3_writeFolded_0 {n : Int32} (h : AP M_X3_writeFolded b 1 [x0, .int n, x2, x3] (.int n :: st) hi g Φ) : AP M_X3_writeFolded b 0 [x0, .int n, x2, x3] (st) hi g Φ := AP.iload_n (x := n) (i := 1) d_X3_writeFolded_0 rfl rfl h
theorem d_X3_writeFolded_1 : decode cX3_writeFolded 1 = .ok (.iload_n 2, 1) := by decide +kernel
theorem s_X3_writeFolded_1 {n : Int32} (h : AP M_X3_writeFolded b 2 [x0, x1, .int n, x3] (.int n :: st) hi g Φ) : AP M_X3_writeFolded b 1 [x0, x1, .int n, x3] (st) hi g Φ := AP.iload_n (x := n) (i := 2) d_X3_writeFolded_1 rfl rfl h
theorem d_X3_writeFolded_2 : decode cX3_writeFolded 2 = .ok (.ishr, 1) := by decide +kernel
theorem s_X3_writeFolded_2 {x y : Int32} (h : AP M_X3_writeFolded b 3 [x0, x1, x2, x3] (.int (x >>> (y &&& 31)) :: st) hi g Φ) : AP M_X3_writeFolded b 2 [x0, x1, x2, x3] (.int y :: .int x :: st) hi g Φ := AP.ishr d_X3_writeFolded_2 h
theorem d_X3_writeFolded_3 : decode cX3_writeFolded 3 = .ok (.istore_n 3, 1) := by decide +kernel
theorem s_X3_writeFolded_3 {n : Int32} (hc : x2.category = 1) (h : AP M_X3_writeFolded b 4 [x0, x1, x2, .int n] (st) hi g Φ) : AP M_X3_writeFolded b 3 [x0, x1, x2, x3] (.int n :: st) hi g Φ := AP.istore_n (x := n) (i := 3) d_X3_writeFolded_3 rfl (by decide) (by simp [am_st, am_ci, am_cr, am_cl, am_cd, hc]) h
theorem d_X3_writeFolded_4 : decode cX3_writeFolded 4 = .ok (.iload_n 3, 1) := by decide +kernel
theorem s_X3_writeFolded_4 {n : Int32} (h : AP M_X3_writeFolded b 5 [x0, x1, x2, .int n] (.int n :: st) hi g Φ) : AP M_X3_writeFolded b 4 [x0, x1, x2, .int n] (st) hi g Φ := AP.iload_n (x := n) (i := 3) d_X3_writeFolded_4 rfl rfl h
theorem d_X3_writeFolded_5 : decode cX3_writeFolded 5 = .ok (.ifCond .le 14, 3) := by decide +kernel
theorem s_X3_writeFolded_5 {x : Int32} (h1 : x ≤ 0 → AP M_X3_writeFolded b 19 [x0, x1, x2, x3] st hi g Φ) (h2 : ¬ x ≤ 0 → AP M_X3_writeFolded b 8 [x0, x1, x2, x3] st hi g Φ) : AP M_X3_writeFolded b 5 [x0, x1, x2, x3] (.int x :: st) hi g Φ := AP.if_le d_X3_writeFolded_5 (by decide) h1 h2
theorem d_X3_writeFolded_8 : decode cX3_writeFolded 8 = .ok (.aload_n 0, 1) := by decide +kernel
theorem s_X3_writeFolded_8 {n : Nat} (h : AP M_X3_writeFolded b 9 [.ref n, x1, x2, x3] (.ref n :: st) hi g Φ) : AP M_X3_writeFolded b 8 [.ref n, x1, x2, x3] (st) hi g Φ := AP.aload_n (x := n) (i := 0) d_X3_writeFolded_8 rfl rfl h
theorem d_X3_writeFolded_9 : decode cX3_writeFolded 9 = .ok (.iconst 1, 1) := by decide +kernel
theorem s_X3_writeFolded_9 (h : AP M_X3_writeFolded b 10 [x0, x1, x2, x3] (.int 1 :: st) hi g Φ) : AP M_X3_writeFolded b 9 [x0, x1, x2, x3] (st) hi g Φ := AP.iconst (x := 1) d_X3_writeFolded_9 (by decide) h
theorem d_X3_writeFolded_10 : decode cX3_writeFolded 10 = .ok (.invokevirtual 48, 3) := by decide +kernel
theorem s_X3_writeFolded_10 {a0 : Int32} {k : Nat} {P : am_HI → Prop} (hI : am_Inv g) (hs : am_SH k = (0, 3)) (hk : k < 134) (hst : (st.map Value.category).sum ≤ 8) (hc : am_Cr M_X3_writeBit [.ref k, .int a0] hi g none P) (h : ∀ hi' : am_HI, P hi' → AP M_X3_writeFolded b 13 [x0, x1, x2, x3] (st) hi' g Φ) : AP M_X3_writeFolded b 10 [x0, x1, x2, x3] (.int a0 :: .ref k :: st) hi g Φ := AP.callVr (As := [.int a0]) (q := (RX3, TX3, 3)) hI hc k_X3_writeFolded_48 d_X3_writeFolded_10 rfl hs hk rfl rfl hst h
theorem d_X3_writeFolded_13 : decode cX3_writeFolded 13 = .ok (.iinc 3 (-1), 3) := by decide +kernel
theorem s_X3_writeFolded_13 {n : Int32} (hc : x2.category = 1) (h : AP M_X3_writeFolded b 16 [x0, x1, x2, .int (n + (-1))] (st) hi g Φ) : AP M_X3_writeFolded b 13 [x0, x1, x2, .int n] (st) hi g Φ := AP.iinc (i := 3) (x := n) (y := n + (-1)) d_X3_writeFolded_13 rfl rfl (by decide) (by simp [am_st, am_ci, am_cr, am_cl, am_cd, hc]) h
theorem d_X3_writeFolded_16 : decode cX3_writeFolded 16 = .ok (.goto (-12), 3) := by decide +kernel
theorem s_X3_writeFolded_16 (h : AP M_X3_writeFolded b 4 [x0, x1, x2, x3] st hi g Φ) : AP M_X3_writeFolded b 16 [x0, x1, x2, x3] st hi g Φ := AP.goto d_X3_writeFolded_16 (by decide) h
theorem d_X3_writeFolded_19 : decode cX3_writeFolded 19 = .ok (.aload_n 0, 1) := by decide +kernel
theorem s_X3_writeFolded_19 {n : Nat} (h : AP M_X3_writeFolded b 20 [.ref n, x1, x2, x3] (.ref n :: st) hi g Φ) : AP M_X3_writeFolded b 19 [.ref n, x1, x2, x3] (st) hi g Φ := AP.aload_n (x := n) (i := 0) d_X3_writeFolded_19 rfl rfl h
theorem d_X3_writeFolded_20 : decode cX3_writeFolded 20 = .ok (.iconst 0, 1) := by decide +kernel
theorem s_X3_writeFolded_20 (h : AP M_X3_writeFolded b 21 [x0, x1, x2, x3] (.int 0 :: st) hi g Φ) : AP M_X3_writeFolded b 20 [x0, x1, x2, x3] (st) hi g Φ := AP.iconst (x := 0) d_X3_writeFolded_20 (by decide) h
theorem d_X3_writeFolded_21 : decode cX3_writeFolded 21 = .ok (.invokevirtual 48, 3) := by decide +kernel
theorem s_X3_writeFolded_21 {a0 : Int32} {k : Nat} {P : am_HI → Prop} (hI : am_Inv g) (hs : am_SH k = (0, 3)) (hk : k < 134) (hst : (st.map Value.category).sum ≤ 8) (hc : am_Cr M_X3_writeBit [.ref k, .int a0] hi g none P) (h : ∀ hi' : am_HI, P hi' → AP M_X3_writeFolded b 24 [x0, x1, x2, x3] (st) hi' g Φ) : AP M_X3_writeFolded b 21 [x0, x1, x2, x3] (.int a0 :: .ref k :: st) hi g Φ := AP.callVr (As := [.int a0]) (q := (RX3, TX3, 3)) hI hc k_X3_writeFolded_48 d_X3_writeFolded_21 rfl hs hk rfl rfl hst h
theorem d_X3_writeFolded_24 : decode cX3_writeFolded 24 = .ok (.aload_n 0, 1) := by decide +kernel
theorem s_X3_writeFolded_24 {n : Nat} (h : AP M_X3_writeFolded b 25 [.ref n, x1, x2, x3] (.ref n :: st) hi g Φ) : AP M_X3_writeFolded b 24 [.ref n, x1, x2, x3] (st) hi g Φ := AP.aload_n (x := n) (i := 0) d_X3_writeFolded_24 rfl rfl h
theorem d_X3_writeFolded_25 : decode cX3_writeFolded 25 = .ok (.iload_n 1, 1) := by decide +kernel
theorem s_X3_writeFolded_25 {n : Int32} (h : AP M_X3_writeFolded b 26 [x0, .int n, x2, x3] (.int n :: st) hi g Φ) : AP M_X3_writeFolded b 25 [x0, .int n, x2, x3] (st) hi g Φ := AP.iload_n (x := n) (i := 1) d_X3_writeFolded_25 rfl rfl h
theorem d_X3_writeFolded_26 : decode cX3_writeFolded 26 = .ok (.iload_n 2, 1) := by decide +kernel
theorem s_X3_writeFolded_26 {n : Int32} (h : AP M_X3_writeFolded b 27 [x0, x1, .int n, x3] (.int n :: st) hi g Φ) : AP M_X3_writeFolded b 26 [x0, x1, .int n, x3] (st) hi g Φ := AP.iload_n (x := n) (i := 2) d_X3_writeFolded_26 rfl rfl h
theorem d_X3_writeFolded_27 : decode cX3_writeFolded 27 = .ok (.invokevirtual 31, 3) := by decide +kernel
theorem s_X3_writeFolded_27 {a0 : Int32} {a1 : Int32} {k : Nat} {P : am_HI → Prop} (hI : am_Inv g) (hs : am_SH k = (0, 3)) (hk : k < 134) (hst : (st.map Value.category).sum ≤ 8) (hc : am_Cr M_X3_writeNumber [.ref k, .int a0, .int a1] hi g none P) (h : ∀ hi' : am_HI, P hi' → AP M_X3_writeFolded b 30 [x0, x1, x2, x3] (st) hi' g Φ) : AP M_X3_writeFolded b 27 [x0, x1, x2, x3] (.int a1 :: .int a0 :: .ref k :: st) hi g Φ := AP.callVr (As := [.int a0, .int a1]) (q := (RX3, TX3, 3)) hI hc k_X3_writeFolded_31 d_X3_writeFolded_27 rfl hs hk rfl rfl hst h
theorem d_X3_writeFolded_30 : decode cX3_writeFolded 30 = .ok (.return_, 1) := by decide +kernel
theorem s_X3_writeFolded_30 (h : Φ (.ok none) hi g) : AP M_X3_writeFolded b 30 [x0, x1, x2, x3] [] hi g Φ := AP.vret d_X3_writeFolded_30 rfl h
end
section
variable {b : Nat × Nat} {st : List Value} {hi : am_HI} {g : am_G} {Φ : am_P} {x0 x1 x2 : Value}
theorem d_X3_readFolded_0 : decode cX3_readFolded 0 = .ok (.iconst 0, 1) := by decide +kernel
theorem s_X3_readFolded_0 (h : AP M_X3_readFolded b 1 [x0, x1, x2] (.int 0 :: st) hi g Φ) : AP M_X3_readFolded b 0 [x0, x1, x2] (st) hi g Φ := AP.iconst (x := 0) d_X3_readFolded_0 (by decide) h
theorem d_X3_readFolded_1 : decode cX3_readFolded 1 = .ok (.istore_n 2, 1) := by decide +kernel
theorem s_X3_readFolded_1 {n : Int32} (hc : x1.category = 1) (h : AP M_X3_readFolded b 2 [x0, x1, .int n] (st) hi g Φ) : AP M_X3_readFolded b 1 [x0, x1, x2] (.int n :: st) hi g Φ := AP.istore_n (x := n) (i := 2) d_X3_readFolded_1 rfl (by decide) (by simp [am_st, am_ci, am_cr, am_cl, am_cd, hc]) h
theorem d_X3_readFolded_2 : decode cX3_readFolded 2 = .ok (.iload_n 2, 1) := by decide +kernel
theorem s_X3_readFolded_2 {n : Int32} (h : AP M_X3_readFolded b 3 [x0, x1, .int n] (.int n :: st) hi g Φ) : AP M_X3_readFolded b 2 [x0, x1, .int n] (st) hi g Φ := AP.iload_n (x := n) (i := 2) d_X3_readFolded_2 rfl rfl h
theorem d_X3_readFolded_3 : decode cX3_readFolded 3 = .ok (.sipush 19092, 3) := by decide +kernel
theorem s_X3_readFolded_3 (h : AP M_X3_readFolded b 6 [x0, x1, x2] (.int 19092 :: st) hi g Φ) : AP M_X3_readFolded b 3 [x0, x1, x2] (st) hi g Φ := AP.sipush (x := 19092) d_X3_readFolded_3 (by decide) h
theorem d_X3_readFolded_6 : decode cX3_readFolded 6 = .ok (.if_icmp .ge 16, 3) := by decide +kernel
theorem s_X3_readFolded_6 {x y : Int32} (h1 : y ≤ x → AP M_X3_readFolded b 22 [x0, x1, x2] st hi g Φ) (h2 : ¬ y ≤ x → AP M_X3_readFolded b 9 [x0, x1, x2] st hi g Φ) : AP M_X3_readFolded b 6 [x0, x1, x2] (.int y :: .int x :: st) hi g Φ := AP.icmp_ge d_X3_readFolded_6 (by decide) h1 h2
theorem d_X3_readFolded_9 : decode cX3_readFolded 9 = .ok (.aload_n 0, 1) := by decide +kernel
theorem s_X3_readFolded_9 {n : Nat} (h : AP M_X3_readFolded b 10 [.ref n, x1, x2] (.ref n :: st) hi g Φ) : AP M_X3_readFolded b 9 [.ref n, x1, x2] (st) hi g Φ := AP.aload_n (x := n) (i := 0) d_X3_readFolded_9 rfl rfl h
theorem d_X3_readFolded_10 : decode cX3_readFolded 10 = .ok (.invokevirtual 56, 3) := by decide +kernel
theorem s_X3_readFolded_10  {k : Nat} {r0 : Int32} {P : am_HI → Prop} (hI : am_Inv g) (hs : am_SH k = (0, 3)) (hk : k < 134) (hst : (st.map Value.category).sum ≤ 8) (hc : am_Cr M_X3_readBit [.ref k] hi g (some (.int r0)) P) (h : ∀ hi' : am_HI, P hi' → AP M_X3_readFolded b 13 [x0, x1, x2] (.int r0 :: st) hi' g Φ) : AP M_X3_readFolded b 10 [x0, x1, x2] (.ref k :: st) hi g Φ := AP.callVr (As := []) (q := (RX3, TX3, 3)) hI hc k_X3_readFolded_56 d_X3_readFolded_10 rfl hs hk rfl rfl hst h
theorem d_X3_readFolded_13 : decode cX3_readFolded 13 = .ok (.ifCond .eq 9, 3) := by decide +kernel
theorem s_X3_readFolded_13 {x : Int32} (h1 : x = 0 → AP M_X3_readFolded b 22 [x0, x1, x2] st hi g Φ) (h2 : ¬ x = 0 → AP M_X3_readFolded b 16 [x0, x1, x2] st hi g Φ) : AP M_X3_readFolded b 13 [x0, x1, x2] (.int x :: st) hi g Φ := AP.if_eq d_X3_readFolded_13 (by decide) h1 h2
theorem d_X3_readFolded_16 : decode cX3_readFolded 16 = .ok (.iinc 2 1, 3) := by decide +kernel
theorem s_X3_readFolded_16 {n : Int32} (hc : x1.category = 1) (h : AP M_X3_readFolded b 19 [x0, x1, .int (n + 1)] (st) hi g Φ) : AP M_X3_readFolded b 16 [x0, x1, .int n] (st) hi g Φ := AP.iinc (i := 2) (x := n) (y := n + 1) d_X3_readFolded_16 rfl rfl (by decide) (by simp [am_st, am_ci, am_cr, am_cl, am_cd, hc]) h
theorem d_X3_readFolded_19 : decode cX3_readFolded 19 = .ok (.goto (-17), 3) := by decide +kernel
theorem s_X3_readFolded_19 (h : AP M_X3_readFolded b 2 [x0, x1, x2] st hi g Φ) : AP M_X3_readFolded b 19 [x0, x1, x2] st hi g Φ := AP.goto d_X3_readFolded_19 (by decide) h
theorem d_X3_readFolded_22 : decode cX3_readFolded 22 = .ok (.iload_n 2, 1) := by decide +kernel
theorem s_X3_readFolded_22 {n : Int32} (h : AP M_X3_readFolded b 23 [x0, x1, .int n] (.int n :: st) hi g Φ) : AP M_X3_readFolded b 22 [x0, x1, .int n] (st) hi g Φ := AP.iload_n (x := n) (i := 2) d_X3_readFolded_22 rfl rfl h
theorem d_X3_readFolded_23 : decode cX3_readFolded 23 = .ok (.iload_n 1, 1) := by decide +kernel
theorem s_X3_readFolded_23 {n : Int32} (h : AP M_X3_readFolded b 24 [x0, .int n, x2] (.int n :: st) hi g Φ) : AP M_X3_readFolded b 23 [x0, .int n, x2] (st) hi g Φ := AP.iload_n (x := n) (i := 1) d_X3_readFolded_23 rfl rfl h
theorem d_X3_readFolded_24 : decode cX3_readFolded 24 = .ok (.ishl, 1) := by decide +kernel
theorem s_X3_readFolded_24 {x y : Int32} (h : AP M_X3_readFolded b 25 [x0, x1, x2] (.int (x <<< (y &&& 31)) :: st) hi g Φ) : AP M_X3_readFolded b 24 [x0, x1, x2] (.int y :: .int x :: st) hi g Φ := AP.ishl d_X3_readFolded_24 h
theorem d_X3_readFolded_25 : decode cX3_readFolded 25 = .ok (.aload_n 0, 1) := by decide +kernel
theorem s_X3_readFolded_25 {n : Nat} (h : AP M_X3_readFolded b 26 [.ref n, x1, x2] (.ref n :: st) hi g Φ) : AP M_X3_readFolded b 25 [.ref n, x1, x2] (st) hi g Φ := AP.aload_n (x := n) (i := 0) d_X3_readFolded_25 rfl rfl h
theorem d_X3_readFolded_26 : decode cX3_readFolded 26 = .ok (.iload_n 1, 1) := by decide +kernel
theorem s_X3_readFolded_26 {n : Int32} (h : AP M_X3_readFolded b 27 [x0, .int n, x2] (.int n :: st) hi g Φ) : AP M_X3_readFolded b 26 [x0, .int n, x2] (st) hi g Φ := AP.iload_n (x := n) (i := 1) d_X3_readFolded_26 rfl rfl h
theorem d_X3_readFolded_27 : decode cX3_readFolded 27 = .ok (.invokevirtual 60, 3) := by decide +kernel
theorem s_X3_readFolded_27 {a0 : Int32} {k : Nat} {r0 : Int32} {P : am_HI → Prop} (hI : am_Inv g) (hs : am_SH k = (0, 3)) (hk : k < 134) (hst : (st.map Value.category).sum ≤ 8) (hc : am_Cr M_X3_readNumber [.ref k, .int a0] hi g (some (.int r0)) P) (h : ∀ hi' : am_HI, P hi' → AP M_X3_readFolded b 30 [x0, x1, x2] (.int r0 :: st) hi' g Φ) : AP M_X3_readFolded b 27 [x0, x1, x2] (.int a0 :: .ref k :: st) hi g Φ := AP.callVr (As := [.int a0]) (q := (RX3, TX3, 3)) hI hc k_X3_readFolded_60 d_X3_readFolded_27 rfl hs hk rfl rfl hst h
theorem d_X3_readFolded_30 : decode cX3_readFolded 30 = .ok (.iadd, 1) := by decide +kernel
theorem s_X3_readFolded_30 {x y : Int32} (h : AP M_X3_readFolded b 31 [x0, x1, x2] (.int (x + y) :: st) hi g Φ) : AP M_X3_readFolded b 30 [x0, x1, x2] (.int y :: .int x :: st) hi g Φ := AP.iadd d_X3_readFolded_30 h
theorem d_X3_readFolded_31 : decode cX3_readFolded 31 = .ok (.ireturn, 1) := by decide +kernel
theorem s_X3_readFolded_31 {x : Int32} (h : Φ (.ok (some (.int x))) hi g) : AP M_X3_readFolded b 31 [x0, x1, x2] [.int x] hi g Φ := AP.iret d_X3_readFolded_31 rfl h
end
section
variable {b : Nat × Nat} {st : List Value} {hi : am_HI} {g : am_G} {Φ : am_P} {x0 x1 x2 x3 : Value}
theorem d_X3_write_0 : decode cX3_write 0 = .ok (.aload_n 0, 1) := by decide +kernel
theorem s_X3_write_0 {n : Nat} (h : AP M_X3_write b 1 [.ref n, x1, x2, x3] (.ref n :: st) hi g Φ) : AP M_X3_write b 0 [.ref n, x1, x2, x3] (st) hi g Φ := AP.aload_n (x := n) (i := 0) d_X3_write_0 rfl rfl h
theorem d_X3_write_1 : decode cX3_write 1 = .ok (.iconst 0, 1) := by decide +kernel
theorem s_X3_write_1 (h : AP M_X3_write b 2 [x0, x1, x2, x3] (.int 0 :: st) hi g Φ) : AP M_X3_write b 1 [x0, x1, x2, x3] (st) hi g Φ := AP.iconst (x := 0) d_X3_write_1 (by decide) h
theorem d_X3_write_2 : decode cX3_write 2 = .ok (.putfield 15, 3) := by decide +kernel
theorem s_X3_write_2 {k : Nat} {n : Int32} (hI : am_Inv g) (hs : am_SH k = (0, 3)) (hk : k < 134) (h : AP M_X3_write b 5 [x0, x1, x2, x3] (st) (am_up hi k 1 n) g Φ) : AP M_X3_write b 2 [x0, x1, x2, x3] (.int n :: .ref k :: st) hi g Φ := AP.putI (j := 1) (q := (RX3, TX3, 3)) d_X3_write_2 hs (hI.lt hk) rfl (by decide) rfl rfl w_334 h
theorem d_X3_write_5 : decode cX3_write 5 = .ok (.iconst 0, 1) := by decide +kernel
theorem s_X3_write_5 (h : AP M_X3_write b 6 [x0, x1, x2, x3] (.int 0 :: st) hi g Φ) : AP M_X3_write b 5 [x0, x1, x2, x3] (st) hi g Φ := AP.iconst (x := 0) d_X3_write_5 (by decide) h
theorem d_X3_write_6 : decode cX3_write 6 = .ok (.istore_n 2, 1) := by decide +kernel
theorem s_X3_write_6 {n : Int32} (hc : x1.category = 1) (h : AP M_X3_write b 7 [x0, x1, .int n, x3] (st) hi g Φ) : AP M_X3_write b 6 [x0, x1, x2, x3] (.int n :: st) hi g Φ := AP.istore_n (x := n) (i := 2) d_X3_write_6 rfl (by decide) (by simp [am_st, am_ci, am_cr, am_cl, am_cd, hc]) h
theorem d_X3_write_7 : decode cX3_write 7 = .ok (.iload_n 2, 1) := by decide +kernel
theorem s_X3_write_7 {n : Int32} (h : AP M_X3_write b 8 [x0, x1, .int n, x3] (.int n :: st) hi g Φ) : AP M_X3_write b 7 [x0, x1, .int n, x3] (st) hi g Φ := AP.iload_n (x := n) (i := 2) d_X3_write_7 rfl rfl h
theorem d_X3_write_8 : decode cX3_write 8 = .ok (.aload_n 1, 1) := by decide +kernel
theorem s_X3_write_8 {n : Nat} (h : AP M_X3_write b 9 [x0, .ref n, x2, x3] (.ref n :: st) hi g Φ) : AP M_X3_write b 8 [x0, .ref n, x2, x3] (st) hi g Φ := AP.aload_n (x := n) (i := 1) d_X3_write_8 rfl rfl h
theorem d_X3_write_9 : decode cX3_write 9 = .ok (.getfield 22, 3) := by decide +kernel
theorem s_X3_write_9 {k : Nat} (hI : am_Inv g) (hs : am_SH k = (0, 2)) (hk : k < 134) (h : AP M_X3_write b 12 [x0, x1, x2, x3] (.int (hi k 5) :: st) hi g Φ) : AP M_X3_write b 9 [x0, x1, x2, x3] (.ref k :: st) hi g Φ := AP.getI (j := 5) (q := (RX2, TX2, 8)) d_X3_write_9 hs (hI.lt hk) rfl (by decide) (by decide) w_131 h
theorem d_X3_write_12 : decode cX3_write 12 = .ok (.if_icmp .ge 62, 3) := by decide +kernel
theorem s_X3_write_12 {x y : Int32} (h1 : y ≤ x → AP M_X3_write b 74 [x0, x1, x2, x3] st hi g Φ) (h2 : ¬ y ≤ x → AP M_X3_write b 15 [x0, x1, x2, x3] st hi g Φ) : AP M_X3_write b 12 [x0, x1, x2, x3] (.int y :: .int x :: st) hi g Φ := AP.icmp_ge d_X3_write_12 (by decide) h1 h2
theorem d_X3_write_15 : decode cX3_write 15 = .ok (.iload_n 2, 1) := by decide +kernel
theorem s_X3_write_15 {n : Int32} (h : AP M_X3_write b 16 [x0, x1, .int n, x3] (.int n :: st) hi g Φ) : AP M_X3_write b 15 [x0, x1, .int n, x3] (st) hi g Φ := AP.iload_n (x := n) (i := 2) d_X3_write_15 rfl rfl h
theorem d_X3_write_16 : decode cX3_write 16 = .ok (.bipush 8, 2) := by decide +kernel
theorem s_X3_write_16 (h : AP M_X3_write b 18 [x0, x1, x2, x3] (.int 8 :: st) hi g Φ) : AP M_X3_write b 16 [x0, x1, x2, x3] (st) hi g Φ := AP.bipush (x := 8) d_X3_write_16 (by decide) h
theorem d_X3_write_18 : decode cX3_write 18 = .ok (.idiv, 1) := by decide +kernel
theorem s_X3_write_18 {x y : Int32} (hy : ¬ y = 0) (h : AP M_X3_write b 19 [x0, x1, x2, x3] (.int (x / y) :: st) hi g Φ) : AP M_X3_write b 18 [x0, x1, x2, x3] (.int y :: .int x :: st) hi g Φ := AP.idiv d_X3_write_18 hy h
theorem d_X3_write_19 : decode cX3_write 19 = .ok (.istore_n 3, 1) := by decide +kernel
theorem s_X3_write_19 {n : Int32} (hc : x2.category = 1) (h : AP M_X3_write b 20 [x0, x1, x2, .int n] (st) hi g Φ) : AP M_X3_write b 19 [x0, x1, x2, x3] (.int n :: st) hi g Φ := AP.istore_n (x := n) (i := 3) d_X3_write_19 rfl (by decide) (by simp [am_st, am_ci, am_cr, am_cl, am_cd, hc]) h
theorem d_X3_write_20 : decode cX3_write 20 = .ok (.iload_n 2, 1) := by decide +kernel
theorem s_X3_write_20 {n : Int32} (h : AP M_X3_write b 21 [x0, x1, .int n, x3] (.int n :: st) hi g Φ) : AP M_X3_write b 20 [x0, x1, .int n, x3] (st) hi g Φ := AP.iload_n (x := n) (i := 2) d_X3_write_20 rfl rfl h
theorem d_X3_write_21 : decode cX3_write 21 = .ok (.bipush 8, 2) := by decide +kernel
theorem s_X3_write_21 (h : AP M_X3_write b 23 [x0, x1, x2, x3] (.int 8 :: st) hi g Φ) : AP M_X3_write b 21 [x0, x1, x2, x3] (st) hi g Φ := AP.bipush (x := 8) d_X3_write_21 (by decide) h
theorem d_X3_write_23 : decode cX3_write 23 = .ok (.irem, 1) := by decide +kernel
theorem s_X3_write_23 {x y : Int32} (hy : ¬ y = 0) (h : AP M_X3_write b 24 [x0, x1, x2, x3] (.int (x - x / y * y) :: st) hi g Φ) : AP M_X3_write b 23 [x0, x1, x2, x3] (.int y :: .int x :: st) hi g Φ := AP.irem d_X3_write_23 hy h
theorem d_X3_write_24 : decode cX3_write 24 = .ok (.ifCond .ne 25, 3) := by decide +kernel
theorem s_X3_write_24 {x : Int32} (h1 : ¬ x = 0 → AP M_X3_write b 49 [x0, x1, x2, x3] st hi g Φ) (h2 : x = 0 → AP M_X3_write b 27 [x0, x1, x2, x3] st hi g Φ) : AP M_X3_write b 24 [x0, x1, x2, x3] (.int x :: st) hi g Φ := AP.if_ne d_X3_write_24 (by decide) h1 h2
theorem d_X3_write_27 : decode cX3_write 27 = .ok (.aload_n 0, 1) := by decide +kernel
theorem s_X3_write_27 {n : Nat} (h : AP M_X3_write b 28 [.ref n, x1, x2, x3] (.ref n :: st) hi g Φ) : AP M_X3_write b 27 [.ref n, x1, x2, x3] (st) hi g Φ := AP.aload_n (x := n) (i := 0) d_X3_write_27 rfl rfl h
theorem d_X3_write_28 : decode cX3_write 28 = .ok (.aload_n 1, 1) := by decide +kernel
theorem s_X3_write_28 {n : Nat} (h : AP M_X3_write b 29 [x0, .ref n, x2, x3] (.ref n :: st) hi g Φ) : AP M_X3_write b 28 [x0, .ref n, x2, x3] (st) hi g Φ := AP.aload_n (x := n) (i := 1) d_X3_write_28 rfl rfl h
theorem d_X3_write_29 : decode cX3_write 29 = .ok (.getfield 27, 3) := by decide +kernel
theorem s_X3_write_29 {k r : Nat} (hI : am_Inv g) (hs : am_SH k = (0, 2)) (hk : k < 134) (hr : am_HRf k 1 = some r) (hn : k ≠ 39) (h : AP M_X3_write b 32 [x0, x1, x2, x3] (.ref r :: st) hi g Φ) : AP M_X3_write b 29 [x0, x1, x2, x3] (.ref k :: st) hi g Φ := AP.getR (j := 1) (q := (RX2, TX2, 8)) d_X3_write_29 hs (hI.lt hk) rfl (by decide) (by decide) w_117 (hI.r hn hr) h
theorem d_X3_write_32 : decode cX3_write 32 = .ok (.iload_n 3, 1) := by decide +kernel
theorem s_X3_write_32 {n : Int32} (h : AP M_X3_write b 33 [x0, x1, x2, .int n] (.int n :: st) hi g Φ) : AP M_X3_write b 32 [x0, x1, x2, .int n] (st) hi g Φ := AP.iload_n (x := n) (i := 3) d_X3_write_32 rfl rfl h
theorem d_X3_write_33 : decode cX3_write 33 = .ok (.iaload, 1) := by decide +kernel
theorem s_X3_write_33 {k n j : Nat} {i : Int32} (hI : am_Inv g) (hs : am_SH k = (1, n)) (hk : k < 134) (hn : n < 2 ^ 31) (hx : i = nI j) (hj : j < n) (h : AP M_X3_write b 34 [x0, x1, x2, x3] (.int (hi k j) :: st) hi g Φ) : AP M_X3_write b 33 [x0, x1, x2, x3] (.int i :: .ref k :: st) hi g Φ := AP.iald d_X3_write_33 hs (hI.lt hk) hn hx hj h
theorem d_X3_write_34 : decode cX3_write 34 = .ok (.iconst 3, 1) := by decide +kernel
theorem s_X3_write_34 (h : AP M_X3_write b 35 [x0, x1, x2, x3] (.int 3 :: st) hi g Φ) : AP M_X3_write b 34 [x0, x1, x2, x3] (st) hi g Φ := AP.iconst (x := 3) d_X3_write_34 (by decide) h
theorem d_X3_write_35 : decode cX3_write 35 = .ok (.invokevirtual 31, 3) := by decide +kernel
theorem s_X3_write_35 {a0 : Int32} {a1 : Int32} {k : Nat} {P : am_HI → Prop} (hI : am_Inv g) (hs : am_SH k = (0, 3)) (hk : k < 134) (hst : (st.map Value.category).sum ≤ 8) (hc : am_Cr M_X3_writeNumber [.ref k, .int a0, .int a1] hi g none P) (h : ∀ hi' : am_HI, P hi' → AP M_X3_write b 38 [x0, x1, x2, x3] (st) hi' g Φ) : AP M_X3_write b 35 [x0, x1, x2, x3] (.int a1 :: .int a0 :: .ref k :: st) hi g Φ := AP.callVr (As := [.int a0, .int a1]) (q := (RX3, TX3, 3)) hI hc k_X3_write_31 d_X3_write_35 rfl hs hk rfl rfl hst h
theorem d_X3_write_38 : decode cX3_write 38 = .ok (.aload_n 0, 1) := by decide +kernel
theorem s_X3_write_38 {n : Nat} (h : AP M_X3_write b 39 [.ref n, x1, x2, x3] (.ref n :: st) hi g Φ) : AP M_X3_write b 38 [.ref n, x1, x2, x3] (st) hi g Φ := AP.aload_n (x := n) (i := 0) d_X3_write_38 rfl rfl h
theorem d_X3_write_39 : decode cX3_write 39 = .ok (.aload_n 1, 1) := by decide +kernel
theorem s_X3_write_39 {n : Nat} (h : AP M_X3_write b 40 [x0, .ref n, x2, x3] (.ref n :: st) hi g Φ) : AP M_X3_write b 39 [x0, .ref n, x2, x3] (st) hi g Φ := AP.aload_n (x := n) (i := 1) d_X3_write_39 rfl rfl h
theorem d_X3_write_40 : decode cX3_write 40 = .ok (.getfield 35, 3) := by decide +kernel
theorem s_X3_write_40 {k r : Nat} (hI : am_Inv g) (hs : am_SH k = (0, 2)) (hk : k < 134) (hr : am_HRf k 2 = some r) (hn : k ≠ 39) (h : AP M_X3_write b 43 [x0, x1, x2, x3] (.ref r :: st) hi g Φ) : AP M_X3_write b 40 [x0, x1, x2, x3] (.ref k :: st) hi g Φ := AP.getR (j := 2) (q := (RX2, TX2, 8)) d_X3_write_40 hs (hI.lt hk) rfl (by decide) (by decide) w_121 (hI.r hn hr) h
theorem d_X3_write_43 : decode cX3_write 43 = .ok (.iload_n 3, 1) := by decide +kernel
theorem s_X3_write_43 {n : Int32} (h : AP M_X3_write b 44 [x0, x1, x2, .int n] (.int n :: st) hi g Φ) : AP M_X3_write b 43 [x0, x1, x2, .int n] (st) hi g Φ := AP.iload_n (x := n) (i := 3) d_X3_write_43 rfl rfl h
theorem d_X3_write_44 : decode cX3_write 44 = .ok (.iaload, 1) := by decide +kernel
theorem s_X3_write_44 {k n j : Nat} {i : Int32} (hI : am_Inv g) (hs : am_SH k = (1, n)) (hk : k < 134) (hn : n < 2 ^ 31) (hx : i = nI j) (hj : j < n) (h : AP M_X3_write b 45 [x0, x1, x2, x3] (.int (hi k j) :: st) hi g Φ) : AP M_X3_write b 44 [x0, x1, x2, x3] (.int i :: .ref k :: st) hi g Φ := AP.iald d_X3_write_44 hs (hI.lt hk) hn hx hj h
theorem d_X3_write_45 : decode cX3_write 45 = .ok (.iconst 3, 1) := by decide +kernel
theorem s_X3_write_45 (h : AP M_X3_write b 46 [x0, x1, x2, x3] (.int 3 :: st) hi g Φ) : AP M_X3_write b 45 [x0, x1, x2, x3] (st) hi g Φ := AP.iconst (x := 3) d_X3_write_45 (by decide) h
theorem d_X3_write_46 : decode cX3_write 46 = .ok (.invokevirtual 31, 3) := by decide +kernel
theorem s_X3_write_46 {a0 : Int32} {a1 : Int32} {k : Nat} {P : am_HI → Prop} (hI : am_Inv g) (hs : am_SH k = (0, 3)) (hk : k < 134) (hst : (st.map Value.category).sum ≤ 8) (hc : am_Cr M_X3_writeNumber [.ref k, .int a0, .int a1] hi g none P) (h : ∀ hi' : am_HI, P hi' → AP M_X3_write b 49 [x0, x1, x2, x3] (st) hi' g Φ) : AP M_X3_write b 46 [x0, x1, x2, x3] (.int a1 :: .int a0 :: .ref k :: st) hi g Φ := AP.callVr (As := [.int a0, .int a1]) (q := (RX3, TX3, 3)) hI hc k_X3_write_31 d_X3_write_46 rfl hs hk rfl rfl hst h
theorem d_X3_write_49 : decode cX3_write 49 = .ok (.aload_n 0, 1) := by decide +kernel
theorem s_X3_write_49 {n : Nat} (h : AP M_X3_write b 50 [.ref n, x1, x2, x3] (.ref n :: st) hi g Φ) : AP M_X3_write b 49 [.ref n, x1, x2, x3] (st) hi g Φ := AP.aload_n (x := n) (i := 0) d_X3_write_49 rfl rfl h
theorem d_X3_write_50 : decode cX3_write 50 = .ok (.aload_n 1, 1) := by decide +kernel
theorem s_X3_write_50 {n : Nat} (h : AP M_X3_write b 51 [x0, .ref n, x2, x3] (.ref n :: st) hi g Φ) : AP M_X3_write b 50 [x0, .ref n, x2, x3] (st) hi g Φ := AP.aload_n (x := n) (i := 1) d_X3_write_50 rfl rfl h
theorem d_X3_write_51 : decode cX3_write 51 = .ok (.getfield 38, 3) := by decide +kernel
theorem s_X3_write_51 {k r : Nat} (hI : am_Inv g) (hs : am_SH k = (0, 2)) (hk : k < 134) (hr : am_HRf k 3 = some r) (hn : k ≠ 39) (h : AP M_X3_write b 54 [x0, x1, x2, x3] (.ref r :: st) hi g Φ) : AP M_X3_write b 51 [x0, x1, x2, x3] (.ref k :: st) hi g Φ := AP.getR (j := 3) (q := (RX2, TX2, 8)) d_X3_write_51 hs (hI.lt hk) rfl (by decide) (by decide) w_125 (hI.r hn hr) h
theorem d_X3_write_54 : decode cX3_write 54 = .ok (.iload_n 2, 1) := by decide +kernel
theorem s_X3_write_54 {n : Int32} (h : AP M_X3_write b 55 [x0, x1, .int n, x3] (.int n :: st) hi g Φ) : AP M_X3_write b 54 [x0, x1, .int n, x3] (st) hi g Φ := AP.iload_n (x := n) (i := 2) d_X3_write_54 rfl rfl h
theorem d_X3_write_55 : decode cX3_write 55 = .ok (.iaload, 1) := by decide +kernel
theorem s_X3_write_55 {k n j : Nat} {i : Int32} (hI : am_Inv g) (hs : am_SH k = (1, n)) (hk : k < 134) (hn : n < 2 ^ 31) (hx : i = nI j) (hj : j < n) (h : AP M_X3_write b 56 [x0, x1, x2, x3] (.int (hi k j) :: st) hi g Φ) : AP M_X3_write b 55 [x0, x1, x2, x3] (.int i :: .ref k :: st) hi g Φ := AP.iald d_X3_write_55 hs (hI.lt hk) hn hx hj h
theorem d_X3_write_56 : decode cX3_write 56 = .ok (.invokestatic 41, 3) := by decide +kernel
theorem s_X3_write_56 {a0 : Int32} {r0 : Int32} {P : am_HI → Prop} (hI : am_Inv g) (hst : (st.map Value.category).sum ≤ 8) (hc : am_Cr M_X9_fold [.int a0] hi g (some (.int r0)) P) (h : ∀ hi' : am_HI, P hi' → AP M_X3_write b 59 [x0, x1, x2, x3] (.int r0 :: st) hi' g Φ) : AP M_X3_write b 56 [x0, x1, x2, x3] (.int a0 :: st) hi g Φ := AP.callNr (As := [.int a0]) hI hc k_X3_write_41 d_X3_write_56 rfl hst h
theorem d_X3_write_59 : decode cX3_write 59 = .ok (.aload_n 1, 1) := by decide +kernel
theorem s_X3_write_59 {n : Nat} (h : AP M_X3_write b 60 [x0, .ref n, x2, x3] (.ref n :: st) hi g Φ) : AP M_X3_write b 59 [x0, .ref n, x2, x3] (st) hi g Φ := AP.aload_n (x := n) (i := 1) d_X3_write_59 rfl rfl h
theorem d_X3_write_60 : decode cX3_write 60 = .ok (.getfield 35, 3) := by decide +kernel
theorem s_X3_write_60 {k r : Nat} (hI : am_Inv g) (hs : am_SH k = (0, 2)) (hk : k < 134) (hr : am_HRf k 2 = some r) (hn : k ≠ 39) (h : AP M_X3_write b 63 [x0, x1, x2, x3] (.ref r :: st) hi g Φ) : AP M_X3_write b 60 [x0, x1, x2, x3] (.ref k :: st) hi g Φ := AP.getR (j := 2) (q := (RX2, TX2, 8)) d_X3_write_60 hs (hI.lt hk) rfl (by decide) (by decide) w_121 (hI.r hn hr) h
theorem d_X3_write_63 : decode cX3_write 63 = .ok (.iload_n 3, 1) := by decide +kernel
theorem s_X3_write_63 {n : Int32} (h : AP M_X3_write b 64 [x0, x1, x2, .int n] (.int n :: st) hi g Φ) : AP M_X3_write b 63 [x0, x1, x2, .int n] (st) hi g Φ := AP.iload_n (x := n) (i := 3) d_X3_write_63 rfl rfl h
theorem d_X3_write_64 : decode cX3_write 64 = .ok (.iaload, 1) := by decide +kernel
theorem s_X3_write_64 {k n j : Nat} {i : Int32} (hI : am_Inv g) (hs : am_SH k = (1, n)) (hk : k < 134) (hn : n < 2 ^ 31) (hx : i = nI j) (hj : j < n) (h : AP M_X3_write b 65 [x0, x1, x2, x3] (.int (hi k j) :: st) hi g Φ) : AP M_X3_write b 64 [x0, x1, x2, x3] (.int i :: .ref k :: st) hi g Φ := AP.iald d_X3_write_64 hs (hI.lt hk) hn hx hj h
theorem d_X3_write_65 : decode cX3_write 65 = .ok (.invokevirtual 45, 3) := by decide +kernel
theorem s_X3_write_65 {a0 : Int32} {a1 : Int32} {k : Nat} {P : am_HI → Prop} (hI : am_Inv g) (hs : am_SH k = (0, 3)) (hk : k < 134) (hst : (st.map Value.category).sum ≤ 8) (hc : am_Cr M_X3_writeFolded [.ref k, .int a0, .int a1] hi g none P) (h : ∀ hi' : am_HI, P hi' → AP M_X3_write b 68 [x0, x1, x2, x3] (st) hi' g Φ) : AP M_X3_write b 65 [x0, x1, x2, x3] (.int a1 :: .int a0 :: .ref k :: st) hi g Φ := AP.callVr (As := [.int a0, .int a1]) (q := (RX3, TX3, 3)) hI hc k_X3_write_45 d_X3_write_65 rfl hs hk rfl rfl hst h
theorem d_X3_write_68 : decode cX3_write 68 = .ok (.iinc 2 1, 3) := by decide +kernel
theorem s_X3_write_68 {n : Int32} (hc : x1.category = 1) (h : AP M_X3_write b 71 [x0, x1, .int (n + 1), x3] (st) hi g Φ) : AP M_X3_write b 68 [x0, x1, .int n, x3] (st) hi g Φ := AP.iinc (i := 2) (x := n) (y := n + 1) d_X3_write_68 rfl rfl (by decide) (by simp [am_st, am_ci, am_cr, am_cl, am_cd, hc]) h
theorem d_X3_write_71 : decode cX3_write 71 = .ok (.goto (-64), 3) := by decide +kernel
theorem s_X3_write_71 (h : AP M_X3_write b 7 [x0, x1, x2, x3] st hi g Φ) : AP M_X3_write b 71 [x0, x1, x2, x3] st hi g Φ := AP.goto d_X3_write_71 (by decide) h
theorem d_X3_write_74 : decode cX3_write 74 = .ok (.return_, 1) := by decide +kernel
theorem s_X3_write_74 (h : Φ (.ok none) hi g) : AP M_X3_write b 74 [x0, x1, x2, x3] [] hi g Φ := AP.vret d_X3_write_74 rfl h
end
