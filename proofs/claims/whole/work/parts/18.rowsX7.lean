/-! ===== rows by program ===== -/
section
variable {b : Nat × Nat} {st : List Value} {hi : am_HI} {g : am_G} {Φ : am_P} {x0 x1 x2 : Value}
theorem d_X7_leftBy_0 : decode cX7_leftBy 0 = .ok (.aload_n 0, 1) := by decide +kernel
theorem s_X7_leftBy_0 {n : Nat} (h : AP M_X7_leftBy b 1 [.ref n, x1, x2] (.ref n :: st) hi g Φ) : AP M_X7_leftBy b 0 [.ref n, x1, x2] (st) hi g Φ := AP.aload_n (x := n) (i := 0) d_X7_leftBy_0 rfl rfl h
theorem d_X7_leftBy_1 : decode cX7_leftBy 1 = .ok (.getfield 12, 3) := by decide +kernel
theorem s_X7_leftBy_1 {k r : Nat} (hI : am_Inv g) (hs : am_SH k = (0, 7)) (hk : k < 134) (hr : am_HRf k 0 = some r) (hn : k ≠ 39) (h : AP M_X7_leftBy b 4 [x0, x1, x2] (.ref r :: st) hi g Φ) : AP M_X7_leftBy b 1 [x0, x1, x2] (.ref k :: st) hi g Φ := AP.getR (j := 0) (q := (RX7, TX7, 7)) d_X7_leftBy_1 hs (hI.lt hk) rfl (by decide) (by decide) w_226 (hI.r hn hr) h
theorem d_X7_leftBy_4 : decode cX7_leftBy 4 = .ok (.getfield 73, 3) := by decide +kernel
theorem s_X7_leftBy_4 {k r : Nat} (hI : am_Inv g) (hs : am_SH k = (0, 6)) (hk : k < 134) (hr : am_HRf k 0 = some r) (hn : k ≠ 39) (h : AP M_X7_leftBy b 7 [x0, x1, x2] (.ref r :: st) hi g Φ) : AP M_X7_leftBy b 4 [x0, x1, x2] (.ref k :: st) hi g Φ := AP.getR (j := 0) (q := (RX6, TX6, 8)) d_X7_leftBy_4 hs (hI.lt hk) rfl (by decide) (by decide) w_159 (hI.r hn hr) h
theorem d_X7_leftBy_7 : decode cX7_leftBy 7 = .ok (.iload_n 2, 1) := by decide +kernel
theorem s_X7_leftBy_7 {n : Int32} (h : AP M_X7_leftBy b 8 [x0, x1, .int n] (.int n :: st) hi g Φ) : AP M_X7_leftBy b 7 [x0, x1, .int n] (st) hi g Φ := AP.iload_n (x := n) (i := 2) d_X7_leftBy_7 rfl rfl h
theorem d_X7_leftBy_8 : decode cX7_leftBy 8 = .ok (.iaload, 1) := by decide +kernel
theorem s_X7_leftBy_8 {k n j : Nat} {i : Int32} (hI : am_Inv g) (hs : am_SH k = (1, n)) (hk : k < 134) (hn : n < 2 ^ 31) (hx : i = nI j) (hj : j < n) (h : AP M_X7_leftBy b 9 [x0, x1, x2] (.int (hi k j) :: st) hi g Φ) : AP M_X7_leftBy b 8 [x0, x1, x2] (.int i :: .ref k :: st) hi g Φ := AP.iald d_X7_leftBy_8 hs (hI.lt hk) hn hx hj h
theorem d_X7_leftBy_9 : decode cX7_leftBy 9 = .ok (.aload_n 0, 1) := by decide +kernel
theorem s_X7_leftBy_9 {n : Nat} (h : AP M_X7_leftBy b 10 [.ref n, x1, x2] (.ref n :: st) hi g Φ) : AP M_X7_leftBy b 9 [.ref n, x1, x2] (st) hi g Φ := AP.aload_n (x := n) (i := 0) d_X7_leftBy_9 rfl rfl h
theorem d_X7_leftBy_10 : decode cX7_leftBy 10 = .ok (.getfield 31, 3) := by decide +kernel
theorem s_X7_leftBy_10 {k r : Nat} (hI : am_Inv g) (hs : am_SH k = (0, 7)) (hk : k < 134) (hr : am_HRf k 3 = some r) (hn : k ≠ 39) (h : AP M_X7_leftBy b 13 [x0, x1, x2] (.ref r :: st) hi g Φ) : AP M_X7_leftBy b 10 [x0, x1, x2] (.ref k :: st) hi g Φ := AP.getR (j := 3) (q := (RX7, TX7, 7)) d_X7_leftBy_10 hs (hI.lt hk) rfl (by decide) (by decide) w_230 (hI.r hn hr) h
theorem d_X7_leftBy_13 : decode cX7_leftBy 13 = .ok (.iload_n 1, 1) := by decide +kernel
theorem s_X7_leftBy_13 {n : Int32} (h : AP M_X7_leftBy b 14 [x0, .int n, x2] (.int n :: st) hi g Φ) : AP M_X7_leftBy b 13 [x0, .int n, x2] (st) hi g Φ := AP.iload_n (x := n) (i := 1) d_X7_leftBy_13 rfl rfl h
theorem d_X7_leftBy_14 : decode cX7_leftBy 14 = .ok (.aaload, 1) := by decide +kernel
theorem s_X7_leftBy_14 {k n j r : Nat} {i : Int32} (hI : am_Inv g) (hs : am_SH k = (6, n)) (hk : k < 134) (hn : n < 2 ^ 31) (hx : i = nI j) (hj : j < n) (hr : g.2.1 k j = some r) (h : AP M_X7_leftBy b 15 [x0, x1, x2] (.ref r :: st) hi g Φ) : AP M_X7_leftBy b 14 [x0, x1, x2] (.int i :: .ref k :: st) hi g Φ := AP.rald d_X7_leftBy_14 hs (hI.lt hk) hn hx hj hr h
theorem s_X7_leftBy_14a {k n j r : Nat} {i : Int32} (hI : am_Inv g) (hs : am_SH k = (5, n)) (hk : k < 134) (hn : n < 2 ^ 31) (hx : i = nI j) (hj : j < n) (hr : g.2.1 k j = some r) (h : AP M_X7_leftBy b 15 [x0, x1, x2] (.ref r :: st) hi g Φ) : AP M_X7_leftBy b 14 [x0, x1, x2] (.int i :: .ref k :: st) hi g Φ := AP.aald d_X7_leftBy_14 hs (hI.lt hk) hn hx hj hr h
theorem d_X7_leftBy_15 : decode cX7_leftBy 15 = .ok (.iload_n 2, 1) := by decide +kernel
theorem s_X7_leftBy_15 {n : Int32} (h : AP M_X7_leftBy b 16 [x0, x1, .int n] (.int n :: st) hi g Φ) : AP M_X7_leftBy b 15 [x0, x1, .int n] (st) hi g Φ := AP.iload_n (x := n) (i := 2) d_X7_leftBy_15 rfl rfl h
theorem d_X7_leftBy_16 : decode cX7_leftBy 16 = .ok (.iaload, 1) := by decide +kernel
theorem s_X7_leftBy_16 {k n j : Nat} {i : Int32} (hI : am_Inv g) (hs : am_SH k = (1, n)) (hk : k < 134) (hn : n < 2 ^ 31) (hx : i = nI j) (hj : j < n) (h : AP M_X7_leftBy b 17 [x0, x1, x2] (.int (hi k j) :: st) hi g Φ) : AP M_X7_leftBy b 16 [x0, x1, x2] (.int i :: .ref k :: st) hi g Φ := AP.iald d_X7_leftBy_16 hs (hI.lt hk) hn hx hj h
theorem d_X7_leftBy_17 : decode cX7_leftBy 17 = .ok (.isub, 1) := by decide +kernel
theorem s_X7_leftBy_17 {x y : Int32} (h : AP M_X7_leftBy b 18 [x0, x1, x2] (.int (x - y) :: st) hi g Φ) : AP M_X7_leftBy b 17 [x0, x1, x2] (.int y :: .int x :: st) hi g Φ := AP.isub d_X7_leftBy_17 h
theorem d_X7_leftBy_18 : decode cX7_leftBy 18 = .ok (.ireturn, 1) := by decide +kernel
theorem s_X7_leftBy_18 {x : Int32} (h : Φ (.ok (some (.int x))) hi g) : AP M_X7_leftBy b 18 [x0, x1, x2] [.int x] hi g Φ := AP.iret d_X7_leftBy_18 rfl h
end
section
variable {b : Nat × Nat} {st : List Value} {hi : am_HI} {g : am_G} {Φ : am_P} {x0 x1 x2 x3 x4 x5 x6 : Value}
theorem d_X7_countBits_0 : decode cX7_countBits 0 = .ok (.bipush 6, 2) := by decide +kernel
theorem s_X7_countBits_0 (h : AP M_X7_countBits b 2 [x0, x1, x2, x3, x4, x5, x6] (.int 6 :: st) hi g Φ) : AP M_X7_countBits b 0 [x0, x1, x2, x3, x4, x5, x6] (st) hi g Φ := AP.bipush (x := 6) d_X7_countBits_0 (by decide) h
theorem d_X7_countBits_2 : decode cX7_countBits 2 = .ok (.istore 4, 2) := by decide +kernel
theorem s_X7_countBits_2 {n : Int32} (hc : x3.category = 1) (h : AP M_X7_countBits b 4 [x0, x1, x2, x3, .int n, x5, x6] (st) hi g Φ) : AP M_X7_countBits b 2 [x0, x1, x2, x3, x4, x5, x6] (.int n :: st) hi g Φ := AP.istore (x := n) (i := 4) d_X7_countBits_2 (by decide) (by simp [am_st, am_ci, am_cr, am_cl, am_cd, hc]) h
theorem d_X7_countBits_4 : decode cX7_countBits 4 = .ok (.iload_n 1, 1) := by decide +kernel
theorem s_X7_countBits_4 {n : Int32} (h : AP M_X7_countBits b 5 [x0, .int n, x2, x3, x4, x5, x6] (.int n :: st) hi g Φ) : AP M_X7_countBits b 4 [x0, .int n, x2, x3, x4, x5, x6] (st) hi g Φ := AP.iload_n (x := n) (i := 1) d_X7_countBits_4 rfl rfl h
theorem d_X7_countBits_5 : decode cX7_countBits 5 = .ok (.iconst 1, 1) := by decide +kernel
theorem s_X7_countBits_5 (h : AP M_X7_countBits b 6 [x0, x1, x2, x3, x4, x5, x6] (.int 1 :: st) hi g Φ) : AP M_X7_countBits b 5 [x0, x1, x2, x3, x4, x5, x6] (st) hi g Φ := AP.iconst (x := 1) d_X7_countBits_5 (by decide) h
theorem d_X7_countBits_6 : decode cX7_countBits 6 = .ok (.iadd, 1) := by decide +kernel
theorem s_X7_countBits_6 {x y : Int32} (h : AP M_X7_countBits b 7 [x0, x1, x2, x3, x4, x5, x6] (.int (x + y) :: st) hi g Φ) : AP M_X7_countBits b 6 [x0, x1, x2, x3, x4, x5, x6] (.int y :: .int x :: st) hi g Φ := AP.iadd d_X7_countBits_6 h
theorem d_X7_countBits_7 : decode cX7_countBits 7 = .ok (.bipush 8, 2) := by decide +kernel
theorem s_X7_countBits_7 (h : AP M_X7_countBits b 9 [x0, x1, x2, x3, x4, x5, x6] (.int 8 :: st) hi g Φ) : AP M_X7_countBits b 7 [x0, x1, x2, x3, x4, x5, x6] (st) hi g Φ := AP.bipush (x := 8) d_X7_countBits_7 (by decide) h
theorem d_X7_countBits_9 : decode cX7_countBits 9 = .ok (.imul, 1) := by decide +kernel
theorem s_X7_countBits_9 {x y : Int32} (h : AP M_X7_countBits b 10 [x0, x1, x2, x3, x4, x5, x6] (.int (x * y) :: st) hi g Φ) : AP M_X7_countBits b 9 [x0, x1, x2, x3, x4, x5, x6] (.int y :: .int x :: st) hi g Φ := AP.imul d_X7_countBits_9 h
theorem d_X7_countBits_10 : decode cX7_countBits 10 = .ok (.aload_n 0, 1) := by decide +kernel
theorem s_X7_countBits_10 {n : Nat} (h : AP M_X7_countBits b 11 [.ref n, x1, x2, x3, x4, x5, x6] (.ref n :: st) hi g Φ) : AP M_X7_countBits b 10 [.ref n, x1, x2, x3, x4, x5, x6] (st) hi g Φ := AP.aload_n (x := n) (i := 0) d_X7_countBits_10 rfl rfl h
theorem d_X7_countBits_11 : decode cX7_countBits 11 = .ok (.getfield 12, 3) := by decide +kernel
theorem s_X7_countBits_11 {k r : Nat} (hI : am_Inv g) (hs : am_SH k = (0, 7)) (hk : k < 134) (hr : am_HRf k 0 = some r) (hn : k ≠ 39) (h : AP M_X7_countBits b 14 [x0, x1, x2, x3, x4, x5, x6] (.ref r :: st) hi g Φ) : AP M_X7_countBits b 11 [x0, x1, x2, x3, x4, x5, x6] (.ref k :: st) hi g Φ := AP.getR (j := 0) (q := (RX7, TX7, 7)) d_X7_countBits_11 hs (hI.lt hk) rfl (by decide) (by decide) w_226 (hI.r hn hr) h
theorem d_X7_countBits_14 : decode cX7_countBits 14 = .ok (.getfield 57, 3) := by decide +kernel
theorem s_X7_countBits_14 {k : Nat} (hI : am_Inv g) (hs : am_SH k = (0, 6)) (hk : k < 134) (h : AP M_X7_countBits b 17 [x0, x1, x2, x3, x4, x5, x6] (.int (hi k 3) :: st) hi g Φ) : AP M_X7_countBits b 14 [x0, x1, x2, x3, x4, x5, x6] (.ref k :: st) hi g Φ := AP.getI (j := 3) (q := (RX6, TX6, 8)) d_X7_countBits_14 hs (hI.lt hk) rfl (by decide) (by decide) w_167 h
theorem d_X7_countBits_17 : decode cX7_countBits 17 = .ok (.invokestatic 117, 3) := by decide +kernel
theorem s_X7_countBits_17 {a0 : Int32} {a1 : Int32} {r0 : Int32} {P : am_HI → Prop} (hI : am_Inv g) (hst : (st.map Value.category).sum ≤ 8) (hc : am_Cr M_J9_min_7cf53 [.int a0, .int a1] hi g (some (.int r0)) P) (h : ∀ hi' : am_HI, P hi' → AP M_X7_countBits b 20 [x0, x1, x2, x3, x4, x5, x6] (.int r0 :: st) hi' g Φ) : AP M_X7_countBits b 17 [x0, x1, x2, x3, x4, x5, x6] (.int a1 :: .int a0 :: st) hi g Φ := AP.callSr (As := [.int a0, .int a1]) hI hc k_X7_countBits_117 d_X7_countBits_17 rfl hst h
theorem d_X7_countBits_20 : decode cX7_countBits 20 = .ok (.istore 5, 2) := by decide +kernel
theorem s_X7_countBits_20 {n : Int32} (hc : x4.category = 1) (h : AP M_X7_countBits b 22 [x0, x1, x2, x3, x4, .int n, x6] (st) hi g Φ) : AP M_X7_countBits b 20 [x0, x1, x2, x3, x4, x5, x6] (.int n :: st) hi g Φ := AP.istore (x := n) (i := 5) d_X7_countBits_20 (by decide) (by simp [am_st, am_ci, am_cr, am_cl, am_cd, hc]) h
theorem d_X7_countBits_22 : decode cX7_countBits 22 = .ok (.iload_n 1, 1) := by decide +kernel
theorem s_X7_countBits_22 {n : Int32} (h : AP M_X7_countBits b 23 [x0, .int n, x2, x3, x4, x5, x6] (.int n :: st) hi g Φ) : AP M_X7_countBits b 22 [x0, .int n, x2, x3, x4, x5, x6] (st) hi g Φ := AP.iload_n (x := n) (i := 1) d_X7_countBits_22 rfl rfl h
theorem d_X7_countBits_23 : decode cX7_countBits 23 = .ok (.bipush 8, 2) := by decide +kernel
theorem s_X7_countBits_23 (h : AP M_X7_countBits b 25 [x0, x1, x2, x3, x4, x5, x6] (.int 8 :: st) hi g Φ) : AP M_X7_countBits b 23 [x0, x1, x2, x3, x4, x5, x6] (st) hi g Φ := AP.bipush (x := 8) d_X7_countBits_23 (by decide) h
theorem d_X7_countBits_25 : decode cX7_countBits 25 = .ok (.imul, 1) := by decide +kernel
theorem s_X7_countBits_25 {x y : Int32} (h : AP M_X7_countBits b 26 [x0, x1, x2, x3, x4, x5, x6] (.int (x * y) :: st) hi g Φ) : AP M_X7_countBits b 25 [x0, x1, x2, x3, x4, x5, x6] (.int y :: .int x :: st) hi g Φ := AP.imul d_X7_countBits_25 h
theorem d_X7_countBits_26 : decode cX7_countBits 26 = .ok (.istore 6, 2) := by decide +kernel
theorem s_X7_countBits_26 {n : Int32} (hc : x5.category = 1) (h : AP M_X7_countBits b 28 [x0, x1, x2, x3, x4, x5, .int n] (st) hi g Φ) : AP M_X7_countBits b 26 [x0, x1, x2, x3, x4, x5, x6] (.int n :: st) hi g Φ := AP.istore (x := n) (i := 6) d_X7_countBits_26 (by decide) (by simp [am_st, am_ci, am_cr, am_cl, am_cd, hc]) h
theorem d_X7_countBits_28 : decode cX7_countBits 28 = .ok (.iload 6, 2) := by decide +kernel
theorem s_X7_countBits_28 {n : Int32} (h : AP M_X7_countBits b 30 [x0, x1, x2, x3, x4, x5, .int n] (.int n :: st) hi g Φ) : AP M_X7_countBits b 28 [x0, x1, x2, x3, x4, x5, .int n] (st) hi g Φ := AP.iload (x := n) (i := 6) d_X7_countBits_28 rfl h
theorem d_X7_countBits_30 : decode cX7_countBits 30 = .ok (.iload 5, 2) := by decide +kernel
theorem s_X7_countBits_30 {n : Int32} (h : AP M_X7_countBits b 32 [x0, x1, x2, x3, x4, .int n, x6] (.int n :: st) hi g Φ) : AP M_X7_countBits b 30 [x0, x1, x2, x3, x4, .int n, x6] (st) hi g Φ := AP.iload (x := n) (i := 5) d_X7_countBits_30 rfl h
theorem d_X7_countBits_32 : decode cX7_countBits 32 = .ok (.if_icmp .ge 28, 3) := by decide +kernel
theorem s_X7_countBits_32 {x y : Int32} (h1 : y ≤ x → AP M_X7_countBits b 60 [x0, x1, x2, x3, x4, x5, x6] st hi g Φ) (h2 : ¬ y ≤ x → AP M_X7_countBits b 35 [x0, x1, x2, x3, x4, x5, x6] st hi g Φ) : AP M_X7_countBits b 32 [x0, x1, x2, x3, x4, x5, x6] (.int y :: .int x :: st) hi g Φ := AP.icmp_ge d_X7_countBits_32 (by decide) h1 h2
theorem d_X7_countBits_35 : decode cX7_countBits 35 = .ok (.iload 4, 2) := by decide +kernel
theorem s_X7_countBits_35 {n : Int32} (h : AP M_X7_countBits b 37 [x0, x1, x2, x3, .int n, x5, x6] (.int n :: st) hi g Φ) : AP M_X7_countBits b 35 [x0, x1, x2, x3, .int n, x5, x6] (st) hi g Φ := AP.iload (x := n) (i := 4) d_X7_countBits_35 rfl h
theorem d_X7_countBits_37 : decode cX7_countBits 37 = .ok (.aload_n 0, 1) := by decide +kernel
theorem s_X7_countBits_37 {n : Nat} (h : AP M_X7_countBits b 38 [.ref n, x1, x2, x3, x4, x5, x6] (.ref n :: st) hi g Φ) : AP M_X7_countBits b 37 [.ref n, x1, x2, x3, x4, x5, x6] (st) hi g Φ := AP.aload_n (x := n) (i := 0) d_X7_countBits_37 rfl rfl h
theorem d_X7_countBits_38 : decode cX7_countBits 38 = .ok (.iload_n 2, 1) := by decide +kernel
theorem s_X7_countBits_38 {n : Int32} (h : AP M_X7_countBits b 39 [x0, x1, .int n, x3, x4, x5, x6] (.int n :: st) hi g Φ) : AP M_X7_countBits b 38 [x0, x1, .int n, x3, x4, x5, x6] (st) hi g Φ := AP.iload_n (x := n) (i := 2) d_X7_countBits_38 rfl rfl h
theorem d_X7_countBits_39 : decode cX7_countBits 39 = .ok (.iload 6, 2) := by decide +kernel
theorem s_X7_countBits_39 {n : Int32} (h : AP M_X7_countBits b 41 [x0, x1, x2, x3, x4, x5, .int n] (.int n :: st) hi g Φ) : AP M_X7_countBits b 39 [x0, x1, x2, x3, x4, x5, .int n] (st) hi g Φ := AP.iload (x := n) (i := 6) d_X7_countBits_39 rfl h
theorem d_X7_countBits_41 : decode cX7_countBits 41 = .ok (.invokevirtual 76, 3) := by decide +kernel
theorem s_X7_countBits_41 {a0 : Int32} {a1 : Int32} {k : Nat} {r0 : Int32} {P : am_HI → Prop} (hI : am_Inv g) (hs : am_SH k = (0, 7)) (hk : k < 134) (hst : (st.map Value.category).sum ≤ 8) (hc : am_Cr M_X7_leftBy [.ref k, .int a0, .int a1] hi g (some (.int r0)) P) (h : ∀ hi' : am_HI, P hi' → AP M_X7_countBits b 44 [x0, x1, x2, x3, x4, x5, x6] (.int r0 :: st) hi' g Φ) : AP M_X7_countBits b 41 [x0, x1, x2, x3, x4, x5, x6] (.int a1 :: .int a0 :: .ref k :: st) hi g Φ := AP.callVr (As := [.int a0, .int a1]) (q := (RX7, TX7, 7)) hI hc k_X7_countBits_76 d_X7_countBits_41 rfl hs hk rfl rfl hst h
theorem d_X7_countBits_44 : decode cX7_countBits 44 = .ok (.invokestatic 120, 3) := by decide +kernel
theorem s_X7_countBits_44 {a0 : Int32} {r0 : Int32} {P : am_HI → Prop} (hI : am_Inv g) (hst : (st.map Value.category).sum ≤ 8) (hc : am_Cr M_X9_fold [.int a0] hi g (some (.int r0)) P) (h : ∀ hi' : am_HI, P hi' → AP M_X7_countBits b 47 [x0, x1, x2, x3, x4, x5, x6] (.int r0 :: st) hi' g Φ) : AP M_X7_countBits b 44 [x0, x1, x2, x3, x4, x5, x6] (.int a0 :: st) hi g Φ := AP.callNr (As := [.int a0]) hI hc k_X7_countBits_120 d_X7_countBits_44 rfl hst h
theorem d_X7_countBits_47 : decode cX7_countBits 47 = .ok (.iload_n 3, 1) := by decide +kernel
theorem s_X7_countBits_47 {n : Int32} (h : AP M_X7_countBits b 48 [x0, x1, x2, .int n, x4, x5, x6] (.int n :: st) hi g Φ) : AP M_X7_countBits b 47 [x0, x1, x2, .int n, x4, x5, x6] (st) hi g Φ := AP.iload_n (x := n) (i := 3) d_X7_countBits_47 rfl rfl h
theorem d_X7_countBits_48 : decode cX7_countBits 48 = .ok (.invokestatic 123, 3) := by decide +kernel
theorem s_X7_countBits_48 {a0 : Int32} {a1 : Int32} {r0 : Int32} {P : am_HI → Prop} (hI : am_Inv g) (hst : (st.map Value.category).sum ≤ 8) (hc : am_Cr M_X9_bitsOfFolded [.int a0, .int a1] hi g (some (.int r0)) P) (h : ∀ hi' : am_HI, P hi' → AP M_X7_countBits b 51 [x0, x1, x2, x3, x4, x5, x6] (.int r0 :: st) hi' g Φ) : AP M_X7_countBits b 48 [x0, x1, x2, x3, x4, x5, x6] (.int a1 :: .int a0 :: st) hi g Φ := AP.callNr (As := [.int a0, .int a1]) hI hc k_X7_countBits_123 d_X7_countBits_48 rfl hst h
theorem d_X7_countBits_51 : decode cX7_countBits 51 = .ok (.iadd, 1) := by decide +kernel
theorem s_X7_countBits_51 {x y : Int32} (h : AP M_X7_countBits b 52 [x0, x1, x2, x3, x4, x5, x6] (.int (x + y) :: st) hi g Φ) : AP M_X7_countBits b 51 [x0, x1, x2, x3, x4, x5, x6] (.int y :: .int x :: st) hi g Φ := AP.iadd d_X7_countBits_51 h
theorem d_X7_countBits_52 : decode cX7_countBits 52 = .ok (.istore 4, 2) := by decide +kernel
theorem s_X7_countBits_52 {n : Int32} (hc : x3.category = 1) (h : AP M_X7_countBits b 54 [x0, x1, x2, x3, .int n, x5, x6] (st) hi g Φ) : AP M_X7_countBits b 52 [x0, x1, x2, x3, x4, x5, x6] (.int n :: st) hi g Φ := AP.istore (x := n) (i := 4) d_X7_countBits_52 (by decide) (by simp [am_st, am_ci, am_cr, am_cl, am_cd, hc]) h
theorem d_X7_countBits_54 : decode cX7_countBits 54 = .ok (.iinc 6 1, 3) := by decide +kernel
theorem s_X7_countBits_54 {n : Int32} (hc : x5.category = 1) (h : AP M_X7_countBits b 57 [x0, x1, x2, x3, x4, x5, .int (n + 1)] (st) hi g Φ) : AP M_X7_countBits b 54 [x0, x1, x2, x3, x4, x5, .int n] (st) hi g Φ := AP.iinc (i := 6) (x := n) (y := n + 1) d_X7_countBits_54 rfl rfl (by decide) (by simp [am_st, am_ci, am_cr, am_cl, am_cd, hc]) h
theorem d_X7_countBits_57 : decode cX7_countBits 57 = .ok (.goto (-29), 3) := by decide +kernel
theorem s_X7_countBits_57 (h : AP M_X7_countBits b 28 [x0, x1, x2, x3, x4, x5, x6] st hi g Φ) : AP M_X7_countBits b 57 [x0, x1, x2, x3, x4, x5, x6] st hi g Φ := AP.goto d_X7_countBits_57 (by decide) h
theorem d_X7_countBits_60 : decode cX7_countBits 60 = .ok (.iload 4, 2) := by decide +kernel
theorem s_X7_countBits_60 {n : Int32} (h : AP M_X7_countBits b 62 [x0, x1, x2, x3, .int n, x5, x6] (.int n :: st) hi g Φ) : AP M_X7_countBits b 60 [x0, x1, x2, x3, .int n, x5, x6] (st) hi g Φ := AP.iload (x := n) (i := 4) d_X7_countBits_60 rfl h
theorem d_X7_countBits_62 : decode cX7_countBits 62 = .ok (.ireturn, 1) := by decide +kernel
theorem s_X7_countBits_62 {x : Int32} (h : Φ (.ok (some (.int x))) hi g) : AP M_X7_countBits b 62 [x0, x1, x2, x3, x4, x5, x6] [.int x] hi g Φ := AP.iret d_X7_countBits_62 rfl h
end
section
variable {b : Nat × Nat} {st : List Value} {hi : am_HI} {g : am_G} {Φ : am_P} {x0 x1 x2 x3 x4 x5 x6 : Value}
theorem d_X7_countRises_0 : decode cX7_countRises 0 = .ok (.iconst 0, 1) := by decide +kernel
theorem s_X7_countRises_0 (h : AP M_X7_countRises b 1 [x0, x1, x2, x3, x4, x5, x6] (.int 0 :: st) hi g Φ) : AP M_X7_countRises b 0 [x0, x1, x2, x3, x4, x5, x6] (st) hi g Φ := AP.iconst (x := 0) d_X7_countRises_0 (by decide) h
theorem d_X7_countRises_1 : decode cX7_countRises 1 = .ok (.istore_n 3, 1) := by decide +kernel
theorem s_X7_countRises_1 {n : Int32} (hc : x2.category = 1) (h : AP M_X7_countRises b 2 [x0, x1, x2, .int n, x4, x5, x6] (st) hi g Φ) : AP M_X7_countRises b 1 [x0, x1, x2, x3, x4, x5, x6] (.int n :: st) hi g Φ := AP.istore_n (x := n) (i := 3) d_X7_countRises_1 rfl (by decide) (by simp [am_st, am_ci, am_cr, am_cl, am_cd, hc]) h
theorem d_X7_countRises_2 : decode cX7_countRises 2 = .ok (.iconst 0, 1) := by decide +kernel
theorem s_X7_countRises_2 (h : AP M_X7_countRises b 3 [x0, x1, x2, x3, x4, x5, x6] (.int 0 :: st) hi g Φ) : AP M_X7_countRises b 2 [x0, x1, x2, x3, x4, x5, x6] (st) hi g Φ := AP.iconst (x := 0) d_X7_countRises_2 (by decide) h
theorem d_X7_countRises_3 : decode cX7_countRises 3 = .ok (.istore 4, 2) := by decide +kernel
theorem s_X7_countRises_3 {n : Int32} (hc : x3.category = 1) (h : AP M_X7_countRises b 5 [x0, x1, x2, x3, .int n, x5, x6] (st) hi g Φ) : AP M_X7_countRises b 3 [x0, x1, x2, x3, x4, x5, x6] (.int n :: st) hi g Φ := AP.istore (x := n) (i := 4) d_X7_countRises_3 (by decide) (by simp [am_st, am_ci, am_cr, am_cl, am_cd, hc]) h
theorem d_X7_countRises_5 : decode cX7_countRises 5 = .ok (.iload 4, 2) := by decide +kernel
theorem s_X7_countRises_5 {n : Int32} (h : AP M_X7_countRises b 7 [x0, x1, x2, x3, .int n, x5, x6] (.int n :: st) hi g Φ) : AP M_X7_countRises b 5 [x0, x1, x2, x3, .int n, x5, x6] (st) hi g Φ := AP.iload (x := n) (i := 4) d_X7_countRises_5 rfl h
theorem d_X7_countRises_7 : decode cX7_countRises 7 = .ok (.iload_n 2, 1) := by decide +kernel
theorem s_X7_countRises_7 {n : Int32} (h : AP M_X7_countRises b 8 [x0, x1, .int n, x3, x4, x5, x6] (.int n :: st) hi g Φ) : AP M_X7_countRises b 7 [x0, x1, .int n, x3, x4, x5, x6] (st) hi g Φ := AP.iload_n (x := n) (i := 2) d_X7_countRises_7 rfl rfl h
theorem d_X7_countRises_8 : decode cX7_countRises 8 = .ok (.if_icmp .ge 59, 3) := by decide +kernel
theorem s_X7_countRises_8 {x y : Int32} (h1 : y ≤ x → AP M_X7_countRises b 67 [x0, x1, x2, x3, x4, x5, x6] st hi g Φ) (h2 : ¬ y ≤ x → AP M_X7_countRises b 11 [x0, x1, x2, x3, x4, x5, x6] st hi g Φ) : AP M_X7_countRises b 8 [x0, x1, x2, x3, x4, x5, x6] (.int y :: .int x :: st) hi g Φ := AP.icmp_ge d_X7_countRises_8 (by decide) h1 h2
theorem d_X7_countRises_11 : decode cX7_countRises 11 = .ok (.aload_n 0, 1) := by decide +kernel
theorem s_X7_countRises_11 {n : Nat} (h : AP M_X7_countRises b 12 [.ref n, x1, x2, x3, x4, x5, x6] (.ref n :: st) hi g Φ) : AP M_X7_countRises b 11 [.ref n, x1, x2, x3, x4, x5, x6] (st) hi g Φ := AP.aload_n (x := n) (i := 0) d_X7_countRises_11 rfl rfl h
theorem d_X7_countRises_12 : decode cX7_countRises 12 = .ok (.iconst 4, 1) := by decide +kernel
theorem s_X7_countRises_12 (h : AP M_X7_countRises b 13 [x0, x1, x2, x3, x4, x5, x6] (.int 4 :: st) hi g Φ) : AP M_X7_countRises b 12 [x0, x1, x2, x3, x4, x5, x6] (st) hi g Φ := AP.iconst (x := 4) d_X7_countRises_12 (by decide) h
theorem d_X7_countRises_13 : decode cX7_countRises 13 = .ok (.iload 4, 2) := by decide +kernel
theorem s_X7_countRises_13 {n : Int32} (h : AP M_X7_countRises b 15 [x0, x1, x2, x3, .int n, x5, x6] (.int n :: st) hi g Φ) : AP M_X7_countRises b 13 [x0, x1, x2, x3, .int n, x5, x6] (st) hi g Φ := AP.iload (x := n) (i := 4) d_X7_countRises_13 rfl h
theorem d_X7_countRises_15 : decode cX7_countRises 15 = .ok (.invokevirtual 76, 3) := by decide +kernel
theorem s_X7_countRises_15 {a0 : Int32} {a1 : Int32} {k : Nat} {r0 : Int32} {P : am_HI → Prop} (hI : am_Inv g) (hs : am_SH k = (0, 7)) (hk : k < 134) (hst : (st.map Value.category).sum ≤ 8) (hc : am_Cr M_X7_leftBy [.ref k, .int a0, .int a1] hi g (some (.int r0)) P) (h : ∀ hi' : am_HI, P hi' → AP M_X7_countRises b 18 [x0, x1, x2, x3, x4, x5, x6] (.int r0 :: st) hi' g Φ) : AP M_X7_countRises b 15 [x0, x1, x2, x3, x4, x5, x6] (.int a1 :: .int a0 :: .ref k :: st) hi g Φ := AP.callVr (As := [.int a0, .int a1]) (q := (RX7, TX7, 7)) hI hc k_X7_countRises_76 d_X7_countRises_15 rfl hs hk rfl rfl hst h
theorem d_X7_countRises_18 : decode cX7_countRises 18 = .ok (.istore 5, 2) := by decide +kernel
theorem s_X7_countRises_18 {n : Int32} (hc : x4.category = 1) (h : AP M_X7_countRises b 20 [x0, x1, x2, x3, x4, .int n, x6] (st) hi g Φ) : AP M_X7_countRises b 18 [x0, x1, x2, x3, x4, x5, x6] (.int n :: st) hi g Φ := AP.istore (x := n) (i := 5) d_X7_countRises_18 (by decide) (by simp [am_st, am_ci, am_cr, am_cl, am_cd, hc]) h
theorem d_X7_countRises_20 : decode cX7_countRises 20 = .ok (.aload_n 0, 1) := by decide +kernel
theorem s_X7_countRises_20 {n : Nat} (h : AP M_X7_countRises b 21 [.ref n, x1, x2, x3, x4, x5, x6] (.ref n :: st) hi g Φ) : AP M_X7_countRises b 20 [.ref n, x1, x2, x3, x4, x5, x6] (st) hi g Φ := AP.aload_n (x := n) (i := 0) d_X7_countRises_20 rfl rfl h
theorem d_X7_countRises_21 : decode cX7_countRises 21 = .ok (.getfield 12, 3) := by decide +kernel
theorem s_X7_countRises_21 {k r : Nat} (hI : am_Inv g) (hs : am_SH k = (0, 7)) (hk : k < 134) (hr : am_HRf k 0 = some r) (hn : k ≠ 39) (h : AP M_X7_countRises b 24 [x0, x1, x2, x3, x4, x5, x6] (.ref r :: st) hi g Φ) : AP M_X7_countRises b 21 [x0, x1, x2, x3, x4, x5, x6] (.ref k :: st) hi g Φ := AP.getR (j := 0) (q := (RX7, TX7, 7)) d_X7_countRises_21 hs (hI.lt hk) rfl (by decide) (by decide) w_226 (hI.r hn hr) h
theorem d_X7_countRises_24 : decode cX7_countRises 24 = .ok (.iload 4, 2) := by decide +kernel
theorem s_X7_countRises_24 {n : Int32} (h : AP M_X7_countRises b 26 [x0, x1, x2, x3, .int n, x5, x6] (.int n :: st) hi g Φ) : AP M_X7_countRises b 24 [x0, x1, x2, x3, .int n, x5, x6] (st) hi g Φ := AP.iload (x := n) (i := 4) d_X7_countRises_24 rfl h
theorem d_X7_countRises_26 : decode cX7_countRises 26 = .ok (.iload_n 1, 1) := by decide +kernel
theorem s_X7_countRises_26 {n : Int32} (h : AP M_X7_countRises b 27 [x0, .int n, x2, x3, x4, x5, x6] (.int n :: st) hi g Φ) : AP M_X7_countRises b 26 [x0, .int n, x2, x3, x4, x5, x6] (st) hi g Φ := AP.iload_n (x := n) (i := 1) d_X7_countRises_26 rfl rfl h
theorem d_X7_countRises_27 : decode cX7_countRises 27 = .ok (.isub, 1) := by decide +kernel
theorem s_X7_countRises_27 {x y : Int32} (h : AP M_X7_countRises b 28 [x0, x1, x2, x3, x4, x5, x6] (.int (x - y) :: st) hi g Φ) : AP M_X7_countRises b 27 [x0, x1, x2, x3, x4, x5, x6] (.int y :: .int x :: st) hi g Φ := AP.isub d_X7_countRises_27 h
theorem d_X7_countRises_28 : decode cX7_countRises 28 = .ok (.invokevirtual 66, 3) := by decide +kernel
theorem s_X7_countRises_28 {a0 : Int32} {k : Nat} {r0 : Int32} {P : am_HI → Prop} (hI : am_Inv g) (hs : am_SH k = (0, 6)) (hk : k < 134) (hst : (st.map Value.category).sum ≤ 8) (hc : am_Cr M_X6_soundAt [.ref k, .int a0] hi g (some (.int r0)) P) (h : ∀ hi' : am_HI, P hi' → AP M_X7_countRises b 31 [x0, x1, x2, x3, x4, x5, x6] (.int r0 :: st) hi' g Φ) : AP M_X7_countRises b 28 [x0, x1, x2, x3, x4, x5, x6] (.int a0 :: .ref k :: st) hi g Φ := AP.callVr (As := [.int a0]) (q := (RX6, TX6, 8)) hI hc k_X7_countRises_66 d_X7_countRises_28 rfl hs hk rfl rfl hst h
theorem d_X7_countRises_31 : decode cX7_countRises 31 = .ok (.istore 6, 2) := by decide +kernel
theorem s_X7_countRises_31 {n : Int32} (hc : x5.category = 1) (h : AP M_X7_countRises b 33 [x0, x1, x2, x3, x4, x5, .int n] (st) hi g Φ) : AP M_X7_countRises b 31 [x0, x1, x2, x3, x4, x5, x6] (.int n :: st) hi g Φ := AP.istore (x := n) (i := 6) d_X7_countRises_31 (by decide) (by simp [am_st, am_ci, am_cr, am_cl, am_cd, hc]) h
theorem d_X7_countRises_33 : decode cX7_countRises 33 = .ok (.iload 5, 2) := by decide +kernel
theorem s_X7_countRises_33 {n : Int32} (h : AP M_X7_countRises b 35 [x0, x1, x2, x3, x4, .int n, x6] (.int n :: st) hi g Φ) : AP M_X7_countRises b 33 [x0, x1, x2, x3, x4, .int n, x6] (st) hi g Φ := AP.iload (x := n) (i := 5) d_X7_countRises_33 rfl h
theorem d_X7_countRises_35 : decode cX7_countRises 35 = .ok (.ifCond .eq 26, 3) := by decide +kernel
theorem s_X7_countRises_35 {x : Int32} (h1 : x = 0 → AP M_X7_countRises b 61 [x0, x1, x2, x3, x4, x5, x6] st hi g Φ) (h2 : ¬ x = 0 → AP M_X7_countRises b 38 [x0, x1, x2, x3, x4, x5, x6] st hi g Φ) : AP M_X7_countRises b 35 [x0, x1, x2, x3, x4, x5, x6] (.int x :: st) hi g Φ := AP.if_eq d_X7_countRises_35 (by decide) h1 h2
theorem d_X7_countRises_38 : decode cX7_countRises 38 = .ok (.iload 6, 2) := by decide +kernel
theorem s_X7_countRises_38 {n : Int32} (h : AP M_X7_countRises b 40 [x0, x1, x2, x3, x4, x5, .int n] (.int n :: st) hi g Φ) : AP M_X7_countRises b 38 [x0, x1, x2, x3, x4, x5, .int n] (st) hi g Φ := AP.iload (x := n) (i := 6) d_X7_countRises_38 rfl h
theorem d_X7_countRises_40 : decode cX7_countRises 40 = .ok (.ifCond .eq 21, 3) := by decide +kernel
theorem s_X7_countRises_40 {x : Int32} (h1 : x = 0 → AP M_X7_countRises b 61 [x0, x1, x2, x3, x4, x5, x6] st hi g Φ) (h2 : ¬ x = 0 → AP M_X7_countRises b 43 [x0, x1, x2, x3, x4, x5, x6] st hi g Φ) : AP M_X7_countRises b 40 [x0, x1, x2, x3, x4, x5, x6] (.int x :: st) hi g Φ := AP.if_eq d_X7_countRises_40 (by decide) h1 h2
theorem d_X7_countRises_43 : decode cX7_countRises 43 = .ok (.iload_n 3, 1) := by decide +kernel
theorem s_X7_countRises_43 {n : Int32} (h : AP M_X7_countRises b 44 [x0, x1, x2, .int n, x4, x5, x6] (.int n :: st) hi g Φ) : AP M_X7_countRises b 43 [x0, x1, x2, .int n, x4, x5, x6] (st) hi g Φ := AP.iload_n (x := n) (i := 3) d_X7_countRises_43 rfl rfl h
theorem d_X7_countRises_44 : decode cX7_countRises 44 = .ok (.iload 5, 2) := by decide +kernel
theorem s_X7_countRises_44 {n : Int32} (h : AP M_X7_countRises b 46 [x0, x1, x2, x3, x4, .int n, x6] (.int n :: st) hi g Φ) : AP M_X7_countRises b 44 [x0, x1, x2, x3, x4, .int n, x6] (st) hi g Φ := AP.iload (x := n) (i := 5) d_X7_countRises_44 rfl h
theorem d_X7_countRises_46 : decode cX7_countRises 46 = .ok (.iload 6, 2) := by decide +kernel
theorem s_X7_countRises_46 {n : Int32} (h : AP M_X7_countRises b 48 [x0, x1, x2, x3, x4, x5, .int n] (.int n :: st) hi g Φ) : AP M_X7_countRises b 46 [x0, x1, x2, x3, x4, x5, .int n] (st) hi g Φ := AP.iload (x := n) (i := 6) d_X7_countRises_46 rfl h
theorem d_X7_countRises_48 : decode cX7_countRises 48 = .ok (.invokestatic 80, 3) := by decide +kernel
theorem s_X7_countRises_48 {a0 : Int32} {a1 : Int32} {r0 : Int32} {P : am_HI → Prop} (hI : am_Inv g) (hst : (st.map Value.category).sum ≤ 8) (hc : am_Cr M_X9_haveSameSign [.int a0, .int a1] hi g (some (.int r0)) P) (h : ∀ hi' : am_HI, P hi' → AP M_X7_countRises b 51 [x0, x1, x2, x3, x4, x5, x6] (.int r0 :: st) hi' g Φ) : AP M_X7_countRises b 48 [x0, x1, x2, x3, x4, x5, x6] (.int a1 :: .int a0 :: st) hi g Φ := AP.callNr (As := [.int a0, .int a1]) hI hc k_X7_countRises_80 d_X7_countRises_48 rfl hst h
theorem d_X7_countRises_51 : decode cX7_countRises 51 = .ok (.ifCond .eq 7, 3) := by decide +kernel
theorem s_X7_countRises_51 {x : Int32} (h1 : x = 0 → AP M_X7_countRises b 58 [x0, x1, x2, x3, x4, x5, x6] st hi g Φ) (h2 : ¬ x = 0 → AP M_X7_countRises b 54 [x0, x1, x2, x3, x4, x5, x6] st hi g Φ) : AP M_X7_countRises b 51 [x0, x1, x2, x3, x4, x5, x6] (.int x :: st) hi g Φ := AP.if_eq d_X7_countRises_51 (by decide) h1 h2
theorem d_X7_countRises_54 : decode cX7_countRises 54 = .ok (.iconst 1, 1) := by decide +kernel
theorem s_X7_countRises_54 (h : AP M_X7_countRises b 55 [x0, x1, x2, x3, x4, x5, x6] (.int 1 :: st) hi g Φ) : AP M_X7_countRises b 54 [x0, x1, x2, x3, x4, x5, x6] (st) hi g Φ := AP.iconst (x := 1) d_X7_countRises_54 (by decide) h
theorem d_X7_countRises_55 : decode cX7_countRises 55 = .ok (.goto 4, 3) := by decide +kernel
theorem s_X7_countRises_55 (h : AP M_X7_countRises b 59 [x0, x1, x2, x3, x4, x5, x6] st hi g Φ) : AP M_X7_countRises b 55 [x0, x1, x2, x3, x4, x5, x6] st hi g Φ := AP.goto d_X7_countRises_55 (by decide) h
theorem d_X7_countRises_58 : decode cX7_countRises 58 = .ok (.iconst (-1), 1) := by decide +kernel
theorem s_X7_countRises_58 (h : AP M_X7_countRises b 59 [x0, x1, x2, x3, x4, x5, x6] (.int (-1) :: st) hi g Φ) : AP M_X7_countRises b 58 [x0, x1, x2, x3, x4, x5, x6] (st) hi g Φ := AP.iconst (x := (-1)) d_X7_countRises_58 (by decide) h
theorem d_X7_countRises_59 : decode cX7_countRises 59 = .ok (.iadd, 1) := by decide +kernel
theorem s_X7_countRises_59 {x y : Int32} (h : AP M_X7_countRises b 60 [x0, x1, x2, x3, x4, x5, x6] (.int (x + y) :: st) hi g Φ) : AP M_X7_countRises b 59 [x0, x1, x2, x3, x4, x5, x6] (.int y :: .int x :: st) hi g Φ := AP.iadd d_X7_countRises_59 h
theorem d_X7_countRises_60 : decode cX7_countRises 60 = .ok (.istore_n 3, 1) := by decide +kernel
theorem s_X7_countRises_60 {n : Int32} (hc : x2.category = 1) (h : AP M_X7_countRises b 61 [x0, x1, x2, .int n, x4, x5, x6] (st) hi g Φ) : AP M_X7_countRises b 60 [x0, x1, x2, x3, x4, x5, x6] (.int n :: st) hi g Φ := AP.istore_n (x := n) (i := 3) d_X7_countRises_60 rfl (by decide) (by simp [am_st, am_ci, am_cr, am_cl, am_cd, hc]) h
theorem d_X7_countRises_61 : decode cX7_countRises 61 = .ok (.iinc 4 1, 3) := by decide +kernel
theorem s_X7_countRises_61 {n : Int32} (hc : x3.category = 1) (h : AP M_X7_countRises b 64 [x0, x1, x2, x3, .int (n + 1), x5, x6] (st) hi g Φ) : AP M_X7_countRises b 61 [x0, x1, x2, x3, .int n, x5, x6] (st) hi g Φ := AP.iinc (i := 4) (x := n) (y := n + 1) d_X7_countRises_61 rfl rfl (by decide) (by simp [am_st, am_ci, am_cr, am_cl, am_cd, hc]) h
theorem d_X7_countRises_64 : decode cX7_countRises 64 = .ok (.goto (-59), 3) := by decide +kernel
theorem s_X7_countRises_64 (h : AP M_X7_countRises b 5 [x0, x1, x2, x3, x4, x5, x6] st hi g Φ) : AP M_X7_countRises b 64 [x0, x1, x2, x3, x4, x5, x6] st hi g Φ := AP.goto d_X7_countRises_64 (by decide) h
theorem d_X7_countRises_67 : decode cX7_countRises 67 = .ok (.iload_n 3, 1) := by decide +kernel
theorem s_X7_countRises_67 {n : Int32} (h : AP M_X7_countRises b 68 [x0, x1, x2, .int n, x4, x5, x6] (.int n :: st) hi g Φ) : AP M_X7_countRises b 67 [x0, x1, x2, .int n, x4, x5, x6] (st) hi g Φ := AP.iload_n (x := n) (i := 3) d_X7_countRises_67 rfl rfl h
theorem d_X7_countRises_68 : decode cX7_countRises 68 = .ok (.ireturn, 1) := by decide +kernel
theorem s_X7_countRises_68 {x : Int32} (h : Φ (.ok (some (.int x))) hi g) : AP M_X7_countRises b 68 [x0, x1, x2, x3, x4, x5, x6] [.int x] hi g Φ := AP.iret d_X7_countRises_68 rfl h
end
section
variable {b : Nat × Nat} {st : List Value} {hi : am_HI} {g : am_G} {Φ : am_P} {x0 x1 x2 x3 x4 : Value}
theorem d_X7_kindFor_0 : decode cX7_kindFor 0 = .ok (.iconst 0, 1) := by decide +kernel
theorem s_X7_kindFor_0 (h : AP M_X7_kindFor b 1 [x0, x1, x2, x3, x4] (.int 0 :: st) hi g Φ) : AP M_X7_kindFor b 0 [x0, x1, x2, x3, x4] (st) hi g Φ := AP.iconst (x := 0) d_X7_kindFor_0 (by decide) h
theorem d_X7_kindFor_1 : decode cX7_kindFor 1 = .ok (.istore_n 2, 1) := by decide +kernel
theorem s_X7_kindFor_1 {n : Int32} (hc : x1.category = 1) (h : AP M_X7_kindFor b 2 [x0, x1, .int n, x3, x4] (st) hi g Φ) : AP M_X7_kindFor b 1 [x0, x1, x2, x3, x4] (.int n :: st) hi g Φ := AP.istore_n (x := n) (i := 2) d_X7_kindFor_1 rfl (by decide) (by simp [am_st, am_ci, am_cr, am_cl, am_cd, hc]) h
theorem d_X7_kindFor_2 : decode cX7_kindFor 2 = .ok (.ldc 93, 2) := by decide +kernel
theorem s_X7_kindFor_2 (h : AP M_X7_kindFor b 4 [x0, x1, x2, x3, x4] (.int 1000000 :: st) hi g Φ) : AP M_X7_kindFor b 2 [x0, x1, x2, x3, x4] (st) hi g Φ := AP.ldc (x := 1000000) d_X7_kindFor_2 w_433 h
theorem d_X7_kindFor_4 : decode cX7_kindFor 4 = .ok (.istore_n 3, 1) := by decide +kernel
theorem s_X7_kindFor_4 {n : Int32} (hc : x2.category = 1) (h : AP M_X7_kindFor b 5 [x0, x1, x2, .int n, x4] (st) hi g Φ) : AP M_X7_kindFor b 4 [x0, x1, x2, x3, x4] (.int n :: st) hi g Φ := AP.istore_n (x := n) (i := 3) d_X7_kindFor_4 rfl (by decide) (by simp [am_st, am_ci, am_cr, am_cl, am_cd, hc]) h
theorem d_X7_kindFor_5 : decode cX7_kindFor 5 = .ok (.iconst 0, 1) := by decide +kernel
theorem s_X7_kindFor_5 (h : AP M_X7_kindFor b 6 [x0, x1, x2, x3, x4] (.int 0 :: st) hi g Φ) : AP M_X7_kindFor b 5 [x0, x1, x2, x3, x4] (st) hi g Φ := AP.iconst (x := 0) d_X7_kindFor_5 (by decide) h
theorem d_X7_kindFor_6 : decode cX7_kindFor 6 = .ok (.istore 4, 2) := by decide +kernel
theorem s_X7_kindFor_6 {n : Int32} (hc : x3.category = 1) (h : AP M_X7_kindFor b 8 [x0, x1, x2, x3, .int n] (st) hi g Φ) : AP M_X7_kindFor b 6 [x0, x1, x2, x3, x4] (.int n :: st) hi g Φ := AP.istore (x := n) (i := 4) d_X7_kindFor_6 (by decide) (by simp [am_st, am_ci, am_cr, am_cl, am_cd, hc]) h
theorem d_X7_kindFor_8 : decode cX7_kindFor 8 = .ok (.iload 4, 2) := by decide +kernel
theorem s_X7_kindFor_8 {n : Int32} (h : AP M_X7_kindFor b 10 [x0, x1, x2, x3, .int n] (.int n :: st) hi g Φ) : AP M_X7_kindFor b 8 [x0, x1, x2, x3, .int n] (st) hi g Φ := AP.iload (x := n) (i := 4) d_X7_kindFor_8 rfl h
theorem d_X7_kindFor_10 : decode cX7_kindFor 10 = .ok (.iconst 5, 1) := by decide +kernel
theorem s_X7_kindFor_10 (h : AP M_X7_kindFor b 11 [x0, x1, x2, x3, x4] (.int 5 :: st) hi g Φ) : AP M_X7_kindFor b 10 [x0, x1, x2, x3, x4] (st) hi g Φ := AP.iconst (x := 5) d_X7_kindFor_10 (by decide) h
theorem d_X7_kindFor_11 : decode cX7_kindFor 11 = .ok (.if_icmp .ge 47, 3) := by decide +kernel
theorem s_X7_kindFor_11 {x y : Int32} (h1 : y ≤ x → AP M_X7_kindFor b 58 [x0, x1, x2, x3, x4] st hi g Φ) (h2 : ¬ y ≤ x → AP M_X7_kindFor b 14 [x0, x1, x2, x3, x4] st hi g Φ) : AP M_X7_kindFor b 11 [x0, x1, x2, x3, x4] (.int y :: .int x :: st) hi g Φ := AP.icmp_ge d_X7_kindFor_11 (by decide) h1 h2
theorem d_X7_kindFor_14 : decode cX7_kindFor 14 = .ok (.aload_n 0, 1) := by decide +kernel
theorem s_X7_kindFor_14 {n : Nat} (h : AP M_X7_kindFor b 15 [.ref n, x1, x2, x3, x4] (.ref n :: st) hi g Φ) : AP M_X7_kindFor b 14 [.ref n, x1, x2, x3, x4] (st) hi g Φ := AP.aload_n (x := n) (i := 0) d_X7_kindFor_14 rfl rfl h
theorem d_X7_kindFor_15 : decode cX7_kindFor 15 = .ok (.getfield 12, 3) := by decide +kernel
theorem s_X7_kindFor_15 {k r : Nat} (hI : am_Inv g) (hs : am_SH k = (0, 7)) (hk : k < 134) (hr : am_HRf k 0 = some r) (hn : k ≠ 39) (h : AP M_X7_kindFor b 18 [x0, x1, x2, x3, x4] (.ref r :: st) hi g Φ) : AP M_X7_kindFor b 15 [x0, x1, x2, x3, x4] (.ref k :: st) hi g Φ := AP.getR (j := 0) (q := (RX7, TX7, 7)) d_X7_kindFor_15 hs (hI.lt hk) rfl (by decide) (by decide) w_226 (hI.r hn hr) h
theorem d_X7_kindFor_18 : decode cX7_kindFor 18 = .ok (.iload 4, 2) := by decide +kernel
theorem s_X7_kindFor_18 {n : Int32} (h : AP M_X7_kindFor b 20 [x0, x1, x2, x3, .int n] (.int n :: st) hi g Φ) : AP M_X7_kindFor b 18 [x0, x1, x2, x3, .int n] (st) hi g Φ := AP.iload (x := n) (i := 4) d_X7_kindFor_18 rfl h
theorem d_X7_kindFor_20 : decode cX7_kindFor 20 = .ok (.invokevirtual 126, 3) := by decide +kernel
theorem s_X7_kindFor_20 {a0 : Int32} {k : Nat} {r0 : Int32} {P : am_HI → Prop} (hI : am_Inv g) (hs : am_SH k = (0, 6)) (hk : k < 134) (hst : (st.map Value.category).sum ≤ 8) (hc : am_Cr M_X6_allows [.ref k, .int a0] hi g (some (.int r0)) P) (h : ∀ hi' : am_HI, P hi' → AP M_X7_kindFor b 23 [x0, x1, x2, x3, x4] (.int r0 :: st) hi' g Φ) : AP M_X7_kindFor b 20 [x0, x1, x2, x3, x4] (.int a0 :: .ref k :: st) hi g Φ := AP.callVr (As := [.int a0]) (q := (RX6, TX6, 8)) hI hc k_X7_kindFor_126 d_X7_kindFor_20 rfl hs hk rfl rfl hst h
theorem d_X7_kindFor_23 : decode cX7_kindFor 23 = .ok (.ifCond .eq 29, 3) := by decide +kernel
theorem s_X7_kindFor_23 {x : Int32} (h1 : x = 0 → AP M_X7_kindFor b 52 [x0, x1, x2, x3, x4] st hi g Φ) (h2 : ¬ x = 0 → AP M_X7_kindFor b 26 [x0, x1, x2, x3, x4] st hi g Φ) : AP M_X7_kindFor b 23 [x0, x1, x2, x3, x4] (.int x :: st) hi g Φ := AP.if_eq d_X7_kindFor_23 (by decide) h1 h2
theorem d_X7_kindFor_26 : decode cX7_kindFor 26 = .ok (.aload_n 0, 1) := by decide +kernel
theorem s_X7_kindFor_26 {n : Nat} (h : AP M_X7_kindFor b 27 [.ref n, x1, x2, x3, x4] (.ref n :: st) hi g Φ) : AP M_X7_kindFor b 26 [.ref n, x1, x2, x3, x4] (st) hi g Φ := AP.aload_n (x := n) (i := 0) d_X7_kindFor_26 rfl rfl h
theorem d_X7_kindFor_27 : decode cX7_kindFor 27 = .ok (.getfield 40, 3) := by decide +kernel
theorem s_X7_kindFor_27 {k r : Nat} (hI : am_Inv g) (hs : am_SH k = (0, 7)) (hk : k < 134) (hr : am_HRf k 6 = some r) (hn : k ≠ 39) (h : AP M_X7_kindFor b 30 [x0, x1, x2, x3, x4] (.ref r :: st) hi g Φ) : AP M_X7_kindFor b 27 [x0, x1, x2, x3, x4] (.ref k :: st) hi g Φ := AP.getR (j := 6) (q := (RX7, TX7, 7)) d_X7_kindFor_27 hs (hI.lt hk) rfl (by decide) (by decide) w_236 (hI.r hn hr) h
theorem d_X7_kindFor_30 : decode cX7_kindFor 30 = .ok (.iload 4, 2) := by decide +kernel
theorem s_X7_kindFor_30 {n : Int32} (h : AP M_X7_kindFor b 32 [x0, x1, x2, x3, .int n] (.int n :: st) hi g Φ) : AP M_X7_kindFor b 30 [x0, x1, x2, x3, .int n] (st) hi g Φ := AP.iload (x := n) (i := 4) d_X7_kindFor_30 rfl h
theorem d_X7_kindFor_32 : decode cX7_kindFor 32 = .ok (.aaload, 1) := by decide +kernel
theorem s_X7_kindFor_32 {k n j r : Nat} {i : Int32} (hI : am_Inv g) (hs : am_SH k = (6, n)) (hk : k < 134) (hn : n < 2 ^ 31) (hx : i = nI j) (hj : j < n) (hr : g.2.1 k j = some r) (h : AP M_X7_kindFor b 33 [x0, x1, x2, x3, x4] (.ref r :: st) hi g Φ) : AP M_X7_kindFor b 32 [x0, x1, x2, x3, x4] (.int i :: .ref k :: st) hi g Φ := AP.rald d_X7_kindFor_32 hs (hI.lt hk) hn hx hj hr h
theorem s_X7_kindFor_32a {k n j r : Nat} {i : Int32} (hI : am_Inv g) (hs : am_SH k = (5, n)) (hk : k < 134) (hn : n < 2 ^ 31) (hx : i = nI j) (hj : j < n) (hr : g.2.1 k j = some r) (h : AP M_X7_kindFor b 33 [x0, x1, x2, x3, x4] (.ref r :: st) hi g Φ) : AP M_X7_kindFor b 32 [x0, x1, x2, x3, x4] (.int i :: .ref k :: st) hi g Φ := AP.aald d_X7_kindFor_32 hs (hI.lt hk) hn hx hj hr h
theorem d_X7_kindFor_33 : decode cX7_kindFor 33 = .ok (.iload_n 1, 1) := by decide +kernel
theorem s_X7_kindFor_33 {n : Int32} (h : AP M_X7_kindFor b 34 [x0, .int n, x2, x3, x4] (.int n :: st) hi g Φ) : AP M_X7_kindFor b 33 [x0, .int n, x2, x3, x4] (st) hi g Φ := AP.iload_n (x := n) (i := 1) d_X7_kindFor_33 rfl rfl h
theorem d_X7_kindFor_34 : decode cX7_kindFor 34 = .ok (.iaload, 1) := by decide +kernel
theorem s_X7_kindFor_34 {k n j : Nat} {i : Int32} (hI : am_Inv g) (hs : am_SH k = (1, n)) (hk : k < 134) (hn : n < 2 ^ 31) (hx : i = nI j) (hj : j < n) (h : AP M_X7_kindFor b 35 [x0, x1, x2, x3, x4] (.int (hi k j) :: st) hi g Φ) : AP M_X7_kindFor b 34 [x0, x1, x2, x3, x4] (.int i :: .ref k :: st) hi g Φ := AP.iald d_X7_kindFor_34 hs (hI.lt hk) hn hx hj h
theorem d_X7_kindFor_35 : decode cX7_kindFor 35 = .ok (.iload_n 3, 1) := by decide +kernel
theorem s_X7_kindFor_35 {n : Int32} (h : AP M_X7_kindFor b 36 [x0, x1, x2, .int n, x4] (.int n :: st) hi g Φ) : AP M_X7_kindFor b 35 [x0, x1, x2, .int n, x4] (st) hi g Φ := AP.iload_n (x := n) (i := 3) d_X7_kindFor_35 rfl rfl h
theorem d_X7_kindFor_36 : decode cX7_kindFor 36 = .ok (.if_icmp .ge 16, 3) := by decide +kernel
theorem s_X7_kindFor_36 {x y : Int32} (h1 : y ≤ x → AP M_X7_kindFor b 52 [x0, x1, x2, x3, x4] st hi g Φ) (h2 : ¬ y ≤ x → AP M_X7_kindFor b 39 [x0, x1, x2, x3, x4] st hi g Φ) : AP M_X7_kindFor b 36 [x0, x1, x2, x3, x4] (.int y :: .int x :: st) hi g Φ := AP.icmp_ge d_X7_kindFor_36 (by decide) h1 h2
theorem d_X7_kindFor_39 : decode cX7_kindFor 39 = .ok (.aload_n 0, 1) := by decide +kernel
theorem s_X7_kindFor_39 {n : Nat} (h : AP M_X7_kindFor b 40 [.ref n, x1, x2, x3, x4] (.ref n :: st) hi g Φ) : AP M_X7_kindFor b 39 [.ref n, x1, x2, x3, x4] (st) hi g Φ := AP.aload_n (x := n) (i := 0) d_X7_kindFor_39 rfl rfl h
theorem d_X7_kindFor_40 : decode cX7_kindFor 40 = .ok (.getfield 40, 3) := by decide +kernel
theorem s_X7_kindFor_40 {k r : Nat} (hI : am_Inv g) (hs : am_SH k = (0, 7)) (hk : k < 134) (hr : am_HRf k 6 = some r) (hn : k ≠ 39) (h : AP M_X7_kindFor b 43 [x0, x1, x2, x3, x4] (.ref r :: st) hi g Φ) : AP M_X7_kindFor b 40 [x0, x1, x2, x3, x4] (.ref k :: st) hi g Φ := AP.getR (j := 6) (q := (RX7, TX7, 7)) d_X7_kindFor_40 hs (hI.lt hk) rfl (by decide) (by decide) w_236 (hI.r hn hr) h
theorem d_X7_kindFor_43 : decode cX7_kindFor 43 = .ok (.iload 4, 2) := by decide +kernel
theorem s_X7_kindFor_43 {n : Int32} (h : AP M_X7_kindFor b 45 [x0, x1, x2, x3, .int n] (.int n :: st) hi g Φ) : AP M_X7_kindFor b 43 [x0, x1, x2, x3, .int n] (st) hi g Φ := AP.iload (x := n) (i := 4) d_X7_kindFor_43 rfl h
theorem d_X7_kindFor_45 : decode cX7_kindFor 45 = .ok (.aaload, 1) := by decide +kernel
theorem s_X7_kindFor_45 {k n j r : Nat} {i : Int32} (hI : am_Inv g) (hs : am_SH k = (6, n)) (hk : k < 134) (hn : n < 2 ^ 31) (hx : i = nI j) (hj : j < n) (hr : g.2.1 k j = some r) (h : AP M_X7_kindFor b 46 [x0, x1, x2, x3, x4] (.ref r :: st) hi g Φ) : AP M_X7_kindFor b 45 [x0, x1, x2, x3, x4] (.int i :: .ref k :: st) hi g Φ := AP.rald d_X7_kindFor_45 hs (hI.lt hk) hn hx hj hr h
theorem s_X7_kindFor_45a {k n j r : Nat} {i : Int32} (hI : am_Inv g) (hs : am_SH k = (5, n)) (hk : k < 134) (hn : n < 2 ^ 31) (hx : i = nI j) (hj : j < n) (hr : g.2.1 k j = some r) (h : AP M_X7_kindFor b 46 [x0, x1, x2, x3, x4] (.ref r :: st) hi g Φ) : AP M_X7_kindFor b 45 [x0, x1, x2, x3, x4] (.int i :: .ref k :: st) hi g Φ := AP.aald d_X7_kindFor_45 hs (hI.lt hk) hn hx hj hr h
theorem d_X7_kindFor_46 : decode cX7_kindFor 46 = .ok (.iload_n 1, 1) := by decide +kernel
theorem s_X7_kindFor_46 {n : Int32} (h : AP M_X7_kindFor b 47 [x0, .int n, x2, x3, x4] (.int n :: st) hi g Φ) : AP M_X7_kindFor b 46 [x0, .int n, x2, x3, x4] (st) hi g Φ := AP.iload_n (x := n) (i := 1) d_X7_kindFor_46 rfl rfl h
theorem d_X7_kindFor_47 : decode cX7_kindFor 47 = .ok (.iaload, 1) := by decide +kernel
theorem s_X7_kindFor_47 {k n j : Nat} {i : Int32} (hI : am_Inv g) (hs : am_SH k = (1, n)) (hk : k < 134) (hn : n < 2 ^ 31) (hx : i = nI j) (hj : j < n) (h : AP M_X7_kindFor b 48 [x0, x1, x2, x3, x4] (.int (hi k j) :: st) hi g Φ) : AP M_X7_kindFor b 47 [x0, x1, x2, x3, x4] (.int i :: .ref k :: st) hi g Φ := AP.iald d_X7_kindFor_47 hs (hI.lt hk) hn hx hj h
theorem d_X7_kindFor_48 : decode cX7_kindFor 48 = .ok (.istore_n 3, 1) := by decide +kernel
theorem s_X7_kindFor_48 {n : Int32} (hc : x2.category = 1) (h : AP M_X7_kindFor b 49 [x0, x1, x2, .int n, x4] (st) hi g Φ) : AP M_X7_kindFor b 48 [x0, x1, x2, x3, x4] (.int n :: st) hi g Φ := AP.istore_n (x := n) (i := 3) d_X7_kindFor_48 rfl (by decide) (by simp [am_st, am_ci, am_cr, am_cl, am_cd, hc]) h
theorem d_X7_kindFor_49 : decode cX7_kindFor 49 = .ok (.iload 4, 2) := by decide +kernel
theorem s_X7_kindFor_49 {n : Int32} (h : AP M_X7_kindFor b 51 [x0, x1, x2, x3, .int n] (.int n :: st) hi g Φ) : AP M_X7_kindFor b 49 [x0, x1, x2, x3, .int n] (st) hi g Φ := AP.iload (x := n) (i := 4) d_X7_kindFor_49 rfl h
theorem d_X7_kindFor_51 : decode cX7_kindFor 51 = .ok (.istore_n 2, 1) := by decide +kernel
theorem s_X7_kindFor_51 {n : Int32} (hc : x1.category = 1) (h : AP M_X7_kindFor b 52 [x0, x1, .int n, x3, x4] (st) hi g Φ) : AP M_X7_kindFor b 51 [x0, x1, x2, x3, x4] (.int n :: st) hi g Φ := AP.istore_n (x := n) (i := 2) d_X7_kindFor_51 rfl (by decide) (by simp [am_st, am_ci, am_cr, am_cl, am_cd, hc]) h
theorem d_X7_kindFor_52 : decode cX7_kindFor 52 = .ok (.iinc 4 1, 3) := by decide +kernel
theorem s_X7_kindFor_52 {n : Int32} (hc : x3.category = 1) (h : AP M_X7_kindFor b 55 [x0, x1, x2, x3, .int (n + 1)] (st) hi g Φ) : AP M_X7_kindFor b 52 [x0, x1, x2, x3, .int n] (st) hi g Φ := AP.iinc (i := 4) (x := n) (y := n + 1) d_X7_kindFor_52 rfl rfl (by decide) (by simp [am_st, am_ci, am_cr, am_cl, am_cd, hc]) h
theorem d_X7_kindFor_55 : decode cX7_kindFor 55 = .ok (.goto (-47), 3) := by decide +kernel
theorem s_X7_kindFor_55 (h : AP M_X7_kindFor b 8 [x0, x1, x2, x3, x4] st hi g Φ) : AP M_X7_kindFor b 55 [x0, x1, x2, x3, x4] st hi g Φ := AP.goto d_X7_kindFor_55 (by decide) h
theorem d_X7_kindFor_58 : decode cX7_kindFor 58 = .ok (.iload_n 2, 1) := by decide +kernel
theorem s_X7_kindFor_58 {n : Int32} (h : AP M_X7_kindFor b 59 [x0, x1, .int n, x3, x4] (.int n :: st) hi g Φ) : AP M_X7_kindFor b 58 [x0, x1, .int n, x3, x4] (st) hi g Φ := AP.iload_n (x := n) (i := 2) d_X7_kindFor_58 rfl rfl h
theorem d_X7_kindFor_59 : decode cX7_kindFor 59 = .ok (.ireturn, 1) := by decide +kernel
theorem s_X7_kindFor_59 {x : Int32} (h : Φ (.ok (some (.int x))) hi g) : AP M_X7_kindFor b 59 [x0, x1, x2, x3, x4] [.int x] hi g Φ := AP.iret d_X7_kindFor_59 rfl h
end
section
variable {b : Nat × Nat} {st : List Value} {hi : am_HI} {g : am_G} {Φ : am_P} {x0 x1 x2 x3 : Value}
theorem d_X7_sumIfOnly_0 : decode cX7_sumIfOnly 0 = .ok (.iconst 0, 1) := by decide +kernel
theorem s_X7_sumIfOnly_0 (h : AP M_X7_sumIfOnly b 1 [x0, x1, x2, x3] (.int 0 :: st) hi g Φ) : AP M_X7_sumIfOnly b 0 [x0, x1, x2, x3] (st) hi g Φ := AP.iconst (x := 0) d_X7_sumIfOnly_0 (by decide) h
theorem d_X7_sumIfOnly_1 : decode cX7_sumIfOnly 1 = .ok (.istore_n 2, 1) := by decide +kernel
theorem s_X7_sumIfOnly_1 {n : Int32} (hc : x1.category = 1) (h : AP M_X7_sumIfOnly b 2 [x0, x1, .int n, x3] (st) hi g Φ) : AP M_X7_sumIfOnly b 1 [x0, x1, x2, x3] (.int n :: st) hi g Φ := AP.istore_n (x := n) (i := 2) d_X7_sumIfOnly_1 rfl (by decide) (by simp [am_st, am_ci, am_cr, am_cl, am_cd, hc]) h
theorem d_X7_sumIfOnly_2 : decode cX7_sumIfOnly 2 = .ok (.iconst 0, 1) := by decide +kernel
theorem s_X7_sumIfOnly_2 (h : AP M_X7_sumIfOnly b 3 [x0, x1, x2, x3] (.int 0 :: st) hi g Φ) : AP M_X7_sumIfOnly b 2 [x0, x1, x2, x3] (st) hi g Φ := AP.iconst (x := 0) d_X7_sumIfOnly_2 (by decide) h
theorem d_X7_sumIfOnly_3 : decode cX7_sumIfOnly 3 = .ok (.istore_n 3, 1) := by decide +kernel
theorem s_X7_sumIfOnly_3 {n : Int32} (hc : x2.category = 1) (h : AP M_X7_sumIfOnly b 4 [x0, x1, x2, .int n] (st) hi g Φ) : AP M_X7_sumIfOnly b 3 [x0, x1, x2, x3] (.int n :: st) hi g Φ := AP.istore_n (x := n) (i := 3) d_X7_sumIfOnly_3 rfl (by decide) (by simp [am_st, am_ci, am_cr, am_cl, am_cd, hc]) h
theorem d_X7_sumIfOnly_4 : decode cX7_sumIfOnly 4 = .ok (.iload_n 3, 1) := by decide +kernel
theorem s_X7_sumIfOnly_4 {n : Int32} (h : AP M_X7_sumIfOnly b 5 [x0, x1, x2, .int n] (.int n :: st) hi g Φ) : AP M_X7_sumIfOnly b 4 [x0, x1, x2, .int n] (st) hi g Φ := AP.iload_n (x := n) (i := 3) d_X7_sumIfOnly_4 rfl rfl h
theorem d_X7_sumIfOnly_5 : decode cX7_sumIfOnly 5 = .ok (.aload_n 0, 1) := by decide +kernel
theorem s_X7_sumIfOnly_5 {n : Nat} (h : AP M_X7_sumIfOnly b 6 [.ref n, x1, x2, x3] (.ref n :: st) hi g Φ) : AP M_X7_sumIfOnly b 5 [.ref n, x1, x2, x3] (st) hi g Φ := AP.aload_n (x := n) (i := 0) d_X7_sumIfOnly_5 rfl rfl h
theorem d_X7_sumIfOnly_6 : decode cX7_sumIfOnly 6 = .ok (.getfield 12, 3) := by decide +kernel
theorem s_X7_sumIfOnly_6 {k r : Nat} (hI : am_Inv g) (hs : am_SH k = (0, 7)) (hk : k < 134) (hr : am_HRf k 0 = some r) (hn : k ≠ 39) (h : AP M_X7_sumIfOnly b 9 [x0, x1, x2, x3] (.ref r :: st) hi g Φ) : AP M_X7_sumIfOnly b 6 [x0, x1, x2, x3] (.ref k :: st) hi g Φ := AP.getR (j := 0) (q := (RX7, TX7, 7)) d_X7_sumIfOnly_6 hs (hI.lt hk) rfl (by decide) (by decide) w_226 (hI.r hn hr) h
theorem d_X7_sumIfOnly_9 : decode cX7_sumIfOnly 9 = .ok (.getfield 57, 3) := by decide +kernel
theorem s_X7_sumIfOnly_9 {k : Nat} (hI : am_Inv g) (hs : am_SH k = (0, 6)) (hk : k < 134) (h : AP M_X7_sumIfOnly b 12 [x0, x1, x2, x3] (.int (hi k 3) :: st) hi g Φ) : AP M_X7_sumIfOnly b 9 [x0, x1, x2, x3] (.ref k :: st) hi g Φ := AP.getI (j := 3) (q := (RX6, TX6, 8)) d_X7_sumIfOnly_9 hs (hI.lt hk) rfl (by decide) (by decide) w_167 h
theorem d_X7_sumIfOnly_12 : decode cX7_sumIfOnly 12 = .ok (.invokestatic 106, 3) := by decide +kernel
theorem s_X7_sumIfOnly_12 {a0 : Int32} {r0 : Int32} {P : am_HI → Prop} (hI : am_Inv g) (hst : (st.map Value.category).sum ≤ 8) (hc : am_Cr M_X9_blocksOf [.int a0] hi g (some (.int r0)) P) (h : ∀ hi' : am_HI, P hi' → AP M_X7_sumIfOnly b 15 [x0, x1, x2, x3] (.int r0 :: st) hi' g Φ) : AP M_X7_sumIfOnly b 12 [x0, x1, x2, x3] (.int a0 :: st) hi g Φ := AP.callNr (As := [.int a0]) hI hc k_X7_sumIfOnly_106 d_X7_sumIfOnly_12 rfl hst h
theorem d_X7_sumIfOnly_15 : decode cX7_sumIfOnly 15 = .ok (.if_icmp .ge 20, 3) := by decide +kernel
theorem s_X7_sumIfOnly_15 {x y : Int32} (h1 : y ≤ x → AP M_X7_sumIfOnly b 35 [x0, x1, x2, x3] st hi g Φ) (h2 : ¬ y ≤ x → AP M_X7_sumIfOnly b 18 [x0, x1, x2, x3] st hi g Φ) : AP M_X7_sumIfOnly b 15 [x0, x1, x2, x3] (.int y :: .int x :: st) hi g Φ := AP.icmp_ge d_X7_sumIfOnly_15 (by decide) h1 h2
theorem d_X7_sumIfOnly_18 : decode cX7_sumIfOnly 18 = .ok (.iload_n 2, 1) := by decide +kernel
theorem s_X7_sumIfOnly_18 {n : Int32} (h : AP M_X7_sumIfOnly b 19 [x0, x1, .int n, x3] (.int n :: st) hi g Φ) : AP M_X7_sumIfOnly b 18 [x0, x1, .int n, x3] (st) hi g Φ := AP.iload_n (x := n) (i := 2) d_X7_sumIfOnly_18 rfl rfl h
theorem d_X7_sumIfOnly_19 : decode cX7_sumIfOnly 19 = .ok (.aload_n 0, 1) := by decide +kernel
theorem s_X7_sumIfOnly_19 {n : Nat} (h : AP M_X7_sumIfOnly b 20 [.ref n, x1, x2, x3] (.ref n :: st) hi g Φ) : AP M_X7_sumIfOnly b 19 [.ref n, x1, x2, x3] (st) hi g Φ := AP.aload_n (x := n) (i := 0) d_X7_sumIfOnly_19 rfl rfl h
theorem d_X7_sumIfOnly_20 : decode cX7_sumIfOnly 20 = .ok (.getfield 40, 3) := by decide +kernel
theorem s_X7_sumIfOnly_20 {k r : Nat} (hI : am_Inv g) (hs : am_SH k = (0, 7)) (hk : k < 134) (hr : am_HRf k 6 = some r) (hn : k ≠ 39) (h : AP M_X7_sumIfOnly b 23 [x0, x1, x2, x3] (.ref r :: st) hi g Φ) : AP M_X7_sumIfOnly b 20 [x0, x1, x2, x3] (.ref k :: st) hi g Φ := AP.getR (j := 6) (q := (RX7, TX7, 7)) d_X7_sumIfOnly_20 hs (hI.lt hk) rfl (by decide) (by decide) w_236 (hI.r hn hr) h
theorem d_X7_sumIfOnly_23 : decode cX7_sumIfOnly 23 = .ok (.iload_n 1, 1) := by decide +kernel
theorem s_X7_sumIfOnly_23 {n : Int32} (h : AP M_X7_sumIfOnly b 24 [x0, .int n, x2, x3] (.int n :: st) hi g Φ) : AP M_X7_sumIfOnly b 23 [x0, .int n, x2, x3] (st) hi g Φ := AP.iload_n (x := n) (i := 1) d_X7_sumIfOnly_23 rfl rfl h
theorem d_X7_sumIfOnly_24 : decode cX7_sumIfOnly 24 = .ok (.aaload, 1) := by decide +kernel
theorem s_X7_sumIfOnly_24 {k n j r : Nat} {i : Int32} (hI : am_Inv g) (hs : am_SH k = (6, n)) (hk : k < 134) (hn : n < 2 ^ 31) (hx : i = nI j) (hj : j < n) (hr : g.2.1 k j = some r) (h : AP M_X7_sumIfOnly b 25 [x0, x1, x2, x3] (.ref r :: st) hi g Φ) : AP M_X7_sumIfOnly b 24 [x0, x1, x2, x3] (.int i :: .ref k :: st) hi g Φ := AP.rald d_X7_sumIfOnly_24 hs (hI.lt hk) hn hx hj hr h
theorem s_X7_sumIfOnly_24a {k n j r : Nat} {i : Int32} (hI : am_Inv g) (hs : am_SH k = (5, n)) (hk : k < 134) (hn : n < 2 ^ 31) (hx : i = nI j) (hj : j < n) (hr : g.2.1 k j = some r) (h : AP M_X7_sumIfOnly b 25 [x0, x1, x2, x3] (.ref r :: st) hi g Φ) : AP M_X7_sumIfOnly b 24 [x0, x1, x2, x3] (.int i :: .ref k :: st) hi g Φ := AP.aald d_X7_sumIfOnly_24 hs (hI.lt hk) hn hx hj hr h
theorem d_X7_sumIfOnly_25 : decode cX7_sumIfOnly 25 = .ok (.iload_n 3, 1) := by decide +kernel
theorem s_X7_sumIfOnly_25 {n : Int32} (h : AP M_X7_sumIfOnly b 26 [x0, x1, x2, .int n] (.int n :: st) hi g Φ) : AP M_X7_sumIfOnly b 25 [x0, x1, x2, .int n] (st) hi g Φ := AP.iload_n (x := n) (i := 3) d_X7_sumIfOnly_25 rfl rfl h
theorem d_X7_sumIfOnly_26 : decode cX7_sumIfOnly 26 = .ok (.iaload, 1) := by decide +kernel
theorem s_X7_sumIfOnly_26 {k n j : Nat} {i : Int32} (hI : am_Inv g) (hs : am_SH k = (1, n)) (hk : k < 134) (hn : n < 2 ^ 31) (hx : i = nI j) (hj : j < n) (h : AP M_X7_sumIfOnly b 27 [x0, x1, x2, x3] (.int (hi k j) :: st) hi g Φ) : AP M_X7_sumIfOnly b 26 [x0, x1, x2, x3] (.int i :: .ref k :: st) hi g Φ := AP.iald d_X7_sumIfOnly_26 hs (hI.lt hk) hn hx hj h
theorem d_X7_sumIfOnly_27 : decode cX7_sumIfOnly 27 = .ok (.iadd, 1) := by decide +kernel
theorem s_X7_sumIfOnly_27 {x y : Int32} (h : AP M_X7_sumIfOnly b 28 [x0, x1, x2, x3] (.int (x + y) :: st) hi g Φ) : AP M_X7_sumIfOnly b 27 [x0, x1, x2, x3] (.int y :: .int x :: st) hi g Φ := AP.iadd d_X7_sumIfOnly_27 h
theorem d_X7_sumIfOnly_28 : decode cX7_sumIfOnly 28 = .ok (.istore_n 2, 1) := by decide +kernel
theorem s_X7_sumIfOnly_28 {n : Int32} (hc : x1.category = 1) (h : AP M_X7_sumIfOnly b 29 [x0, x1, .int n, x3] (st) hi g Φ) : AP M_X7_sumIfOnly b 28 [x0, x1, x2, x3] (.int n :: st) hi g Φ := AP.istore_n (x := n) (i := 2) d_X7_sumIfOnly_28 rfl (by decide) (by simp [am_st, am_ci, am_cr, am_cl, am_cd, hc]) h
theorem d_X7_sumIfOnly_29 : decode cX7_sumIfOnly 29 = .ok (.iinc 3 1, 3) := by decide +kernel
theorem s_X7_sumIfOnly_29 {n : Int32} (hc : x2.category = 1) (h : AP M_X7_sumIfOnly b 32 [x0, x1, x2, .int (n + 1)] (st) hi g Φ) : AP M_X7_sumIfOnly b 29 [x0, x1, x2, .int n] (st) hi g Φ := AP.iinc (i := 3) (x := n) (y := n + 1) d_X7_sumIfOnly_29 rfl rfl (by decide) (by simp [am_st, am_ci, am_cr, am_cl, am_cd, hc]) h
theorem d_X7_sumIfOnly_32 : decode cX7_sumIfOnly 32 = .ok (.goto (-28), 3) := by decide +kernel
theorem s_X7_sumIfOnly_32 (h : AP M_X7_sumIfOnly b 4 [x0, x1, x2, x3] st hi g Φ) : AP M_X7_sumIfOnly b 32 [x0, x1, x2, x3] st hi g Φ := AP.goto d_X7_sumIfOnly_32 (by decide) h
theorem d_X7_sumIfOnly_35 : decode cX7_sumIfOnly 35 = .ok (.iload_n 2, 1) := by decide +kernel
theorem s_X7_sumIfOnly_35 {n : Int32} (h : AP M_X7_sumIfOnly b 36 [x0, x1, .int n, x3] (.int n :: st) hi g Φ) : AP M_X7_sumIfOnly b 35 [x0, x1, .int n, x3] (st) hi g Φ := AP.iload_n (x := n) (i := 2) d_X7_sumIfOnly_35 rfl rfl h
theorem d_X7_sumIfOnly_36 : decode cX7_sumIfOnly 36 = .ok (.ireturn, 1) := by decide +kernel
theorem s_X7_sumIfOnly_36 {x : Int32} (h : Φ (.ok (some (.int x))) hi g) : AP M_X7_sumIfOnly b 36 [x0, x1, x2, x3] [.int x] hi g Φ := AP.iret d_X7_sumIfOnly_36 rfl h
end
section
variable {b : Nat × Nat} {st : List Value} {hi : am_HI} {g : am_G} {Φ : am_P} {x0 x1 x2 x3 : Value}
theorem d_X7_countBlocksWith_0 : decode cX7_countBlocksWith 0 = .ok (.iconst 0, 1) := by decide +kernel
theorem s_X7_countBlocksWith_0 (h : AP M_X7_countBlocksWith b 1 [x0, x1, x2, x3] (.int 0 :: st) hi g Φ) : AP M_X7_countBlocksWith b 0 [x0, x1, x2, x3] (st) hi g Φ := AP.iconst (x := 0) d_X7_countBlocksWith_0 (by decide) h
theorem d_X7_countBlocksWith_1 : decode cX7_countBlocksWith 1 = .ok (.istore_n 2, 1) := by decide +kernel
theorem s_X7_countBlocksWith_1 {n : Int32} (hc : x1.category = 1) (h : AP M_X7_countBlocksWith b 2 [x0, x1, .int n, x3] (st) hi g Φ) : AP M_X7_countBlocksWith b 1 [x0, x1, x2, x3] (.int n :: st) hi g Φ := AP.istore_n (x := n) (i := 2) d_X7_countBlocksWith_1 rfl (by decide) (by simp [am_st, am_ci, am_cr, am_cl, am_cd, hc]) h
theorem d_X7_countBlocksWith_2 : decode cX7_countBlocksWith 2 = .ok (.iconst 0, 1) := by decide +kernel
theorem s_X7_countBlocksWith_2 (h : AP M_X7_countBlocksWith b 3 [x0, x1, x2, x3] (.int 0 :: st) hi g Φ) : AP M_X7_countBlocksWith b 2 [x0, x1, x2, x3] (st) hi g Φ := AP.iconst (x := 0) d_X7_countBlocksWith_2 (by decide) h
theorem d_X7_countBlocksWith_3 : decode cX7_countBlocksWith 3 = .ok (.istore_n 3, 1) := by decide +kernel
theorem s_X7_countBlocksWith_3 {n : Int32} (hc : x2.category = 1) (h : AP M_X7_countBlocksWith b 4 [x0, x1, x2, .int n] (st) hi g Φ) : AP M_X7_countBlocksWith b 3 [x0, x1, x2, x3] (.int n :: st) hi g Φ := AP.istore_n (x := n) (i := 3) d_X7_countBlocksWith_3 rfl (by decide) (by simp [am_st, am_ci, am_cr, am_cl, am_cd, hc]) h
theorem d_X7_countBlocksWith_4 : decode cX7_countBlocksWith 4 = .ok (.iload_n 3, 1) := by decide +kernel
theorem s_X7_countBlocksWith_4 {n : Int32} (h : AP M_X7_countBlocksWith b 5 [x0, x1, x2, .int n] (.int n :: st) hi g Φ) : AP M_X7_countBlocksWith b 4 [x0, x1, x2, .int n] (st) hi g Φ := AP.iload_n (x := n) (i := 3) d_X7_countBlocksWith_4 rfl rfl h
theorem d_X7_countBlocksWith_5 : decode cX7_countBlocksWith 5 = .ok (.aload_n 0, 1) := by decide +kernel
theorem s_X7_countBlocksWith_5 {n : Nat} (h : AP M_X7_countBlocksWith b 6 [.ref n, x1, x2, x3] (.ref n :: st) hi g Φ) : AP M_X7_countBlocksWith b 5 [.ref n, x1, x2, x3] (st) hi g Φ := AP.aload_n (x := n) (i := 0) d_X7_countBlocksWith_5 rfl rfl h
theorem d_X7_countBlocksWith_6 : decode cX7_countBlocksWith 6 = .ok (.getfield 12, 3) := by decide +kernel
theorem s_X7_countBlocksWith_6 {k r : Nat} (hI : am_Inv g) (hs : am_SH k = (0, 7)) (hk : k < 134) (hr : am_HRf k 0 = some r) (hn : k ≠ 39) (h : AP M_X7_countBlocksWith b 9 [x0, x1, x2, x3] (.ref r :: st) hi g Φ) : AP M_X7_countBlocksWith b 6 [x0, x1, x2, x3] (.ref k :: st) hi g Φ := AP.getR (j := 0) (q := (RX7, TX7, 7)) d_X7_countBlocksWith_6 hs (hI.lt hk) rfl (by decide) (by decide) w_226 (hI.r hn hr) h
theorem d_X7_countBlocksWith_9 : decode cX7_countBlocksWith 9 = .ok (.getfield 57, 3) := by decide +kernel
theorem s_X7_countBlocksWith_9 {k : Nat} (hI : am_Inv g) (hs : am_SH k = (0, 6)) (hk : k < 134) (h : AP M_X7_countBlocksWith b 12 [x0, x1, x2, x3] (.int (hi k 3) :: st) hi g Φ) : AP M_X7_countBlocksWith b 9 [x0, x1, x2, x3] (.ref k :: st) hi g Φ := AP.getI (j := 3) (q := (RX6, TX6, 8)) d_X7_countBlocksWith_9 hs (hI.lt hk) rfl (by decide) (by decide) w_167 h
theorem d_X7_countBlocksWith_12 : decode cX7_countBlocksWith 12 = .ok (.invokestatic 106, 3) := by decide +kernel
theorem s_X7_countBlocksWith_12 {a0 : Int32} {r0 : Int32} {P : am_HI → Prop} (hI : am_Inv g) (hst : (st.map Value.category).sum ≤ 8) (hc : am_Cr M_X9_blocksOf [.int a0] hi g (some (.int r0)) P) (h : ∀ hi' : am_HI, P hi' → AP M_X7_countBlocksWith b 15 [x0, x1, x2, x3] (.int r0 :: st) hi' g Φ) : AP M_X7_countBlocksWith b 12 [x0, x1, x2, x3] (.int a0 :: st) hi g Φ := AP.callNr (As := [.int a0]) hI hc k_X7_countBlocksWith_106 d_X7_countBlocksWith_12 rfl hst h
theorem d_X7_countBlocksWith_15 : decode cX7_countBlocksWith 15 = .ok (.if_icmp .ge 26, 3) := by decide +kernel
theorem s_X7_countBlocksWith_15 {x y : Int32} (h1 : y ≤ x → AP M_X7_countBlocksWith b 41 [x0, x1, x2, x3] st hi g Φ) (h2 : ¬ y ≤ x → AP M_X7_countBlocksWith b 18 [x0, x1, x2, x3] st hi g Φ) : AP M_X7_countBlocksWith b 15 [x0, x1, x2, x3] (.int y :: .int x :: st) hi g Φ := AP.icmp_ge d_X7_countBlocksWith_15 (by decide) h1 h2
theorem d_X7_countBlocksWith_18 : decode cX7_countBlocksWith 18 = .ok (.iload_n 2, 1) := by decide +kernel
theorem s_X7_countBlocksWith_18 {n : Int32} (h : AP M_X7_countBlocksWith b 19 [x0, x1, .int n, x3] (.int n :: st) hi g Φ) : AP M_X7_countBlocksWith b 18 [x0, x1, .int n, x3] (st) hi g Φ := AP.iload_n (x := n) (i := 2) d_X7_countBlocksWith_18 rfl rfl h
theorem d_X7_countBlocksWith_19 : decode cX7_countBlocksWith 19 = .ok (.aload_n 0, 1) := by decide +kernel
theorem s_X7_countBlocksWith_19 {n : Nat} (h : AP M_X7_countBlocksWith b 20 [.ref n, x1, x2, x3] (.ref n :: st) hi g Φ) : AP M_X7_countBlocksWith b 19 [.ref n, x1, x2, x3] (st) hi g Φ := AP.aload_n (x := n) (i := 0) d_X7_countBlocksWith_19 rfl rfl h
theorem d_X7_countBlocksWith_20 : decode cX7_countBlocksWith 20 = .ok (.iload_n 3, 1) := by decide +kernel
theorem s_X7_countBlocksWith_20 {n : Int32} (h : AP M_X7_countBlocksWith b 21 [x0, x1, x2, .int n] (.int n :: st) hi g Φ) : AP M_X7_countBlocksWith b 20 [x0, x1, x2, .int n] (st) hi g Φ := AP.iload_n (x := n) (i := 3) d_X7_countBlocksWith_20 rfl rfl h
theorem d_X7_countBlocksWith_21 : decode cX7_countBlocksWith 21 = .ok (.invokevirtual 130, 3) := by decide +kernel
theorem s_X7_countBlocksWith_21 {a0 : Int32} {k : Nat} {r0 : Int32} {P : am_HI → Prop} (hI : am_Inv g) (hs : am_SH k = (0, 7)) (hk : k < 134) (hst : (st.map Value.category).sum ≤ 8) (hc : am_Cr M_X7_kindFor [.ref k, .int a0] hi g (some (.int r0)) P) (h : ∀ hi' : am_HI, P hi' → AP M_X7_countBlocksWith b 24 [x0, x1, x2, x3] (.int r0 :: st) hi' g Φ) : AP M_X7_countBlocksWith b 21 [x0, x1, x2, x3] (.int a0 :: .ref k :: st) hi g Φ := AP.callVr (As := [.int a0]) (q := (RX7, TX7, 7)) hI hc k_X7_countBlocksWith_130 d_X7_countBlocksWith_21 rfl hs hk rfl rfl hst h
theorem d_X7_countBlocksWith_24 : decode cX7_countBlocksWith 24 = .ok (.iload_n 1, 1) := by decide +kernel
theorem s_X7_countBlocksWith_24 {n : Int32} (h : AP M_X7_countBlocksWith b 25 [x0, .int n, x2, x3] (.int n :: st) hi g Φ) : AP M_X7_countBlocksWith b 24 [x0, .int n, x2, x3] (st) hi g Φ := AP.iload_n (x := n) (i := 1) d_X7_countBlocksWith_24 rfl rfl h
theorem d_X7_countBlocksWith_25 : decode cX7_countBlocksWith 25 = .ok (.if_icmp .ne 7, 3) := by decide +kernel
theorem s_X7_countBlocksWith_25 {x y : Int32} (h1 : ¬ x = y → AP M_X7_countBlocksWith b 32 [x0, x1, x2, x3] st hi g Φ) (h2 : x = y → AP M_X7_countBlocksWith b 28 [x0, x1, x2, x3] st hi g Φ) : AP M_X7_countBlocksWith b 25 [x0, x1, x2, x3] (.int y :: .int x :: st) hi g Φ := AP.icmp_ne d_X7_countBlocksWith_25 (by decide) h1 h2
theorem d_X7_countBlocksWith_28 : decode cX7_countBlocksWith 28 = .ok (.iconst 1, 1) := by decide +kernel
theorem s_X7_countBlocksWith_28 (h : AP M_X7_countBlocksWith b 29 [x0, x1, x2, x3] (.int 1 :: st) hi g Φ) : AP M_X7_countBlocksWith b 28 [x0, x1, x2, x3] (st) hi g Φ := AP.iconst (x := 1) d_X7_countBlocksWith_28 (by decide) h
theorem d_X7_countBlocksWith_29 : decode cX7_countBlocksWith 29 = .ok (.goto 4, 3) := by decide +kernel
theorem s_X7_countBlocksWith_29 (h : AP M_X7_countBlocksWith b 33 [x0, x1, x2, x3] st hi g Φ) : AP M_X7_countBlocksWith b 29 [x0, x1, x2, x3] st hi g Φ := AP.goto d_X7_countBlocksWith_29 (by decide) h
theorem d_X7_countBlocksWith_32 : decode cX7_countBlocksWith 32 = .ok (.iconst 0, 1) := by decide +kernel
theorem s_X7_countBlocksWith_32 (h : AP M_X7_countBlocksWith b 33 [x0, x1, x2, x3] (.int 0 :: st) hi g Φ) : AP M_X7_countBlocksWith b 32 [x0, x1, x2, x3] (st) hi g Φ := AP.iconst (x := 0) d_X7_countBlocksWith_32 (by decide) h
theorem d_X7_countBlocksWith_33 : decode cX7_countBlocksWith 33 = .ok (.iadd, 1) := by decide +kernel
theorem s_X7_countBlocksWith_33 {x y : Int32} (h : AP M_X7_countBlocksWith b 34 [x0, x1, x2, x3] (.int (x + y) :: st) hi g Φ) : AP M_X7_countBlocksWith b 33 [x0, x1, x2, x3] (.int y :: .int x :: st) hi g Φ := AP.iadd d_X7_countBlocksWith_33 h
theorem d_X7_countBlocksWith_34 : decode cX7_countBlocksWith 34 = .ok (.istore_n 2, 1) := by decide +kernel
theorem s_X7_countBlocksWith_34 {n : Int32} (hc : x1.category = 1) (h : AP M_X7_countBlocksWith b 35 [x0, x1, .int n, x3] (st) hi g Φ) : AP M_X7_countBlocksWith b 34 [x0, x1, x2, x3] (.int n :: st) hi g Φ := AP.istore_n (x := n) (i := 2) d_X7_countBlocksWith_34 rfl (by decide) (by simp [am_st, am_ci, am_cr, am_cl, am_cd, hc]) h
theorem d_X7_countBlocksWith_35 : decode cX7_countBlocksWith 35 = .ok (.iinc 3 1, 3) := by decide +kernel
theorem s_X7_countBlocksWith_35 {n : Int32} (hc : x2.category = 1) (h : AP M_X7_countBlocksWith b 38 [x0, x1, x2, .int (n + 1)] (st) hi g Φ) : AP M_X7_countBlocksWith b 35 [x0, x1, x2, .int n] (st) hi g Φ := AP.iinc (i := 3) (x := n) (y := n + 1) d_X7_countBlocksWith_35 rfl rfl (by decide) (by simp [am_st, am_ci, am_cr, am_cl, am_cd, hc]) h
theorem d_X7_countBlocksWith_38 : decode cX7_countBlocksWith 38 = .ok (.goto (-34), 3) := by decide +kernel
theorem s_X7_countBlocksWith_38 (h : AP M_X7_countBlocksWith b 4 [x0, x1, x2, x3] st hi g Φ) : AP M_X7_countBlocksWith b 38 [x0, x1, x2, x3] st hi g Φ := AP.goto d_X7_countBlocksWith_38 (by decide) h
theorem d_X7_countBlocksWith_41 : decode cX7_countBlocksWith 41 = .ok (.iload_n 2, 1) := by decide +kernel
theorem s_X7_countBlocksWith_41 {n : Int32} (h : AP M_X7_countBlocksWith b 42 [x0, x1, .int n, x3] (.int n :: st) hi g Φ) : AP M_X7_countBlocksWith b 41 [x0, x1, .int n, x3] (st) hi g Φ := AP.iload_n (x := n) (i := 2) d_X7_countBlocksWith_41 rfl rfl h
theorem d_X7_countBlocksWith_42 : decode cX7_countBlocksWith 42 = .ok (.ireturn, 1) := by decide +kernel
theorem s_X7_countBlocksWith_42 {x : Int32} (h : Φ (.ok (some (.int x))) hi g) : AP M_X7_countBlocksWith b 42 [x0, x1, x2, x3] [.int x] hi g Φ := AP.iret d_X7_countBlocksWith_42 rfl h
end
section
variable {b : Nat × Nat} {st : List Value} {hi : am_HI} {g : am_G} {Φ : am_P} {x0 x1 x2 x3 x4 : Value}
theorem d_X7_findParameter_0 : decode cX7_findParameter 0 = .ok (.aload_n 0, 1) := by decide +kernel
theorem s_X7_findParameter_0 {n : Nat} (h : AP M_X7_findParameter b 1 [.ref n, x1, x2, x3, x4] (.ref n :: st) hi g Φ) : AP M_X7_findParameter b 0 [.ref n, x1, x2, x3, x4] (st) hi g Φ := AP.aload_n (x := n) (i := 0) d_X7_findParameter_0 rfl rfl h
theorem d_X7_findParameter_1 : decode cX7_findParameter 1 = .ok (.getfield 37, 3) := by decide +kernel
theorem s_X7_findParameter_1 {k r : Nat} (hI : am_Inv g) (hs : am_SH k = (0, 7)) (hk : k < 134) (hr : am_HRf k 5 = some r) (hn : k ≠ 39) (h : AP M_X7_findParameter b 4 [x0, x1, x2, x3, x4] (.ref r :: st) hi g Φ) : AP M_X7_findParameter b 1 [x0, x1, x2, x3, x4] (.ref k :: st) hi g Φ := AP.getR (j := 5) (q := (RX7, TX7, 7)) d_X7_findParameter_1 hs (hI.lt hk) rfl (by decide) (by decide) w_234 (hI.r hn hr) h
theorem d_X7_findParameter_4 : decode cX7_findParameter 4 = .ok (.iload_n 2, 1) := by decide +kernel
theorem s_X7_findParameter_4 {n : Int32} (h : AP M_X7_findParameter b 5 [x0, x1, .int n, x3, x4] (.int n :: st) hi g Φ) : AP M_X7_findParameter b 4 [x0, x1, .int n, x3, x4] (st) hi g Φ := AP.iload_n (x := n) (i := 2) d_X7_findParameter_4 rfl rfl h
theorem d_X7_findParameter_5 : decode cX7_findParameter 5 = .ok (.aaload, 1) := by decide +kernel
theorem s_X7_findParameter_5 {k n j r : Nat} {i : Int32} (hI : am_Inv g) (hs : am_SH k = (6, n)) (hk : k < 134) (hn : n < 2 ^ 31) (hx : i = nI j) (hj : j < n) (hr : g.2.1 k j = some r) (h : AP M_X7_findParameter b 6 [x0, x1, x2, x3, x4] (.ref r :: st) hi g Φ) : AP M_X7_findParameter b 5 [x0, x1, x2, x3, x4] (.int i :: .ref k :: st) hi g Φ := AP.rald d_X7_findParameter_5 hs (hI.lt hk) hn hx hj hr h
theorem s_X7_findParameter_5a {k n j r : Nat} {i : Int32} (hI : am_Inv g) (hs : am_SH k = (5, n)) (hk : k < 134) (hn : n < 2 ^ 31) (hx : i = nI j) (hj : j < n) (hr : g.2.1 k j = some r) (h : AP M_X7_findParameter b 6 [x0, x1, x2, x3, x4] (.ref r :: st) hi g Φ) : AP M_X7_findParameter b 5 [x0, x1, x2, x3, x4] (.int i :: .ref k :: st) hi g Φ := AP.aald d_X7_findParameter_5 hs (hI.lt hk) hn hx hj hr h
theorem d_X7_findParameter_6 : decode cX7_findParameter 6 = .ok (.iload_n 1, 1) := by decide +kernel
theorem s_X7_findParameter_6 {n : Int32} (h : AP M_X7_findParameter b 7 [x0, .int n, x2, x3, x4] (.int n :: st) hi g Φ) : AP M_X7_findParameter b 6 [x0, .int n, x2, x3, x4] (st) hi g Φ := AP.iload_n (x := n) (i := 1) d_X7_findParameter_6 rfl rfl h
theorem d_X7_findParameter_7 : decode cX7_findParameter 7 = .ok (.iconst 0, 1) := by decide +kernel
theorem s_X7_findParameter_7 (h : AP M_X7_findParameter b 8 [x0, x1, x2, x3, x4] (.int 0 :: st) hi g Φ) : AP M_X7_findParameter b 7 [x0, x1, x2, x3, x4] (st) hi g Φ := AP.iconst (x := 0) d_X7_findParameter_7 (by decide) h
theorem d_X7_findParameter_8 : decode cX7_findParameter 8 = .ok (.iastore, 1) := by decide +kernel
theorem s_X7_findParameter_8 {k n j : Nat} {i x : Int32} (hI : am_Inv g) (hs : am_SH k = (1, n)) (hk : k < 134) (hn : n < 2 ^ 31) (hx : i = nI j) (hj : j < n) (h : AP M_X7_findParameter b 9 [x0, x1, x2, x3, x4] (st) (am_up hi k j x) g Φ) : AP M_X7_findParameter b 8 [x0, x1, x2, x3, x4] (.int x :: .int i :: .ref k :: st) hi g Φ := AP.iast d_X7_findParameter_8 hs (hI.lt hk) hn hx hj h
theorem d_X7_findParameter_9 : decode cX7_findParameter 9 = .ok (.aload_n 0, 1) := by decide +kernel
theorem s_X7_findParameter_9 {n : Nat} (h : AP M_X7_findParameter b 10 [.ref n, x1, x2, x3, x4] (.ref n :: st) hi g Φ) : AP M_X7_findParameter b 9 [.ref n, x1, x2, x3, x4] (st) hi g Φ := AP.aload_n (x := n) (i := 0) d_X7_findParameter_9 rfl rfl h
theorem d_X7_findParameter_10 : decode cX7_findParameter 10 = .ok (.getfield 40, 3) := by decide +kernel
theorem s_X7_findParameter_10 {k r : Nat} (hI : am_Inv g) (hs : am_SH k = (0, 7)) (hk : k < 134) (hr : am_HRf k 6 = some r) (hn : k ≠ 39) (h : AP M_X7_findParameter b 13 [x0, x1, x2, x3, x4] (.ref r :: st) hi g Φ) : AP M_X7_findParameter b 10 [x0, x1, x2, x3, x4] (.ref k :: st) hi g Φ := AP.getR (j := 6) (q := (RX7, TX7, 7)) d_X7_findParameter_10 hs (hI.lt hk) rfl (by decide) (by decide) w_236 (hI.r hn hr) h
theorem d_X7_findParameter_13 : decode cX7_findParameter 13 = .ok (.iload_n 2, 1) := by decide +kernel
theorem s_X7_findParameter_13 {n : Int32} (h : AP M_X7_findParameter b 14 [x0, x1, .int n, x3, x4] (.int n :: st) hi g Φ) : AP M_X7_findParameter b 13 [x0, x1, .int n, x3, x4] (st) hi g Φ := AP.iload_n (x := n) (i := 2) d_X7_findParameter_13 rfl rfl h
theorem d_X7_findParameter_14 : decode cX7_findParameter 14 = .ok (.aaload, 1) := by decide +kernel
theorem s_X7_findParameter_14 {k n j r : Nat} {i : Int32} (hI : am_Inv g) (hs : am_SH k = (6, n)) (hk : k < 134) (hn : n < 2 ^ 31) (hx : i = nI j) (hj : j < n) (hr : g.2.1 k j = some r) (h : AP M_X7_findParameter b 15 [x0, x1, x2, x3, x4] (.ref r :: st) hi g Φ) : AP M_X7_findParameter b 14 [x0, x1, x2, x3, x4] (.int i :: .ref k :: st) hi g Φ := AP.rald d_X7_findParameter_14 hs (hI.lt hk) hn hx hj hr h
theorem s_X7_findParameter_14a {k n j r : Nat} {i : Int32} (hI : am_Inv g) (hs : am_SH k = (5, n)) (hk : k < 134) (hn : n < 2 ^ 31) (hx : i = nI j) (hj : j < n) (hr : g.2.1 k j = some r) (h : AP M_X7_findParameter b 15 [x0, x1, x2, x3, x4] (.ref r :: st) hi g Φ) : AP M_X7_findParameter b 14 [x0, x1, x2, x3, x4] (.int i :: .ref k :: st) hi g Φ := AP.aald d_X7_findParameter_14 hs (hI.lt hk) hn hx hj hr h
theorem d_X7_findParameter_15 : decode cX7_findParameter 15 = .ok (.iload_n 1, 1) := by decide +kernel
theorem s_X7_findParameter_15 {n : Int32} (h : AP M_X7_findParameter b 16 [x0, .int n, x2, x3, x4] (.int n :: st) hi g Φ) : AP M_X7_findParameter b 15 [x0, .int n, x2, x3, x4] (st) hi g Φ := AP.iload_n (x := n) (i := 1) d_X7_findParameter_15 rfl rfl h
theorem d_X7_findParameter_16 : decode cX7_findParameter 16 = .ok (.aload_n 0, 1) := by decide +kernel
theorem s_X7_findParameter_16 {n : Nat} (h : AP M_X7_findParameter b 17 [.ref n, x1, x2, x3, x4] (.ref n :: st) hi g Φ) : AP M_X7_findParameter b 16 [.ref n, x1, x2, x3, x4] (st) hi g Φ := AP.aload_n (x := n) (i := 0) d_X7_findParameter_16 rfl rfl h
theorem d_X7_findParameter_17 : decode cX7_findParameter 17 = .ok (.iload_n 1, 1) := by decide +kernel
theorem s_X7_findParameter_17 {n : Int32} (h : AP M_X7_findParameter b 18 [x0, .int n, x2, x3, x4] (.int n :: st) hi g Φ) : AP M_X7_findParameter b 17 [x0, .int n, x2, x3, x4] (st) hi g Φ := AP.iload_n (x := n) (i := 1) d_X7_findParameter_17 rfl rfl h
theorem d_X7_findParameter_18 : decode cX7_findParameter 18 = .ok (.iload_n 2, 1) := by decide +kernel
theorem s_X7_findParameter_18 {n : Int32} (h : AP M_X7_findParameter b 19 [x0, x1, .int n, x3, x4] (.int n :: st) hi g Φ) : AP M_X7_findParameter b 18 [x0, x1, .int n, x3, x4] (st) hi g Φ := AP.iload_n (x := n) (i := 2) d_X7_findParameter_18 rfl rfl h
theorem d_X7_findParameter_19 : decode cX7_findParameter 19 = .ok (.iconst 0, 1) := by decide +kernel
theorem s_X7_findParameter_19 (h : AP M_X7_findParameter b 20 [x0, x1, x2, x3, x4] (.int 0 :: st) hi g Φ) : AP M_X7_findParameter b 19 [x0, x1, x2, x3, x4] (st) hi g Φ := AP.iconst (x := 0) d_X7_findParameter_19 (by decide) h
theorem d_X7_findParameter_20 : decode cX7_findParameter 20 = .ok (.invokevirtual 113, 3) := by decide +kernel
theorem s_X7_findParameter_20 {a0 : Int32} {a1 : Int32} {a2 : Int32} {k : Nat} {r0 : Int32} {P : am_HI → Prop} (hI : am_Inv g) (hs : am_SH k = (0, 7)) (hk : k < 134) (hst : (st.map Value.category).sum ≤ 8) (hc : am_Cr M_X7_countBits [.ref k, .int a0, .int a1, .int a2] hi g (some (.int r0)) P) (h : ∀ hi' : am_HI, P hi' → AP M_X7_findParameter b 23 [x0, x1, x2, x3, x4] (.int r0 :: st) hi' g Φ) : AP M_X7_findParameter b 20 [x0, x1, x2, x3, x4] (.int a2 :: .int a1 :: .int a0 :: .ref k :: st) hi g Φ := AP.callVr (As := [.int a0, .int a1, .int a2]) (q := (RX7, TX7, 7)) hI hc k_X7_findParameter_113 d_X7_findParameter_20 rfl hs hk rfl rfl hst h
theorem d_X7_findParameter_23 : decode cX7_findParameter 23 = .ok (.iastore, 1) := by decide +kernel
theorem s_X7_findParameter_23 {k n j : Nat} {i x : Int32} (hI : am_Inv g) (hs : am_SH k = (1, n)) (hk : k < 134) (hn : n < 2 ^ 31) (hx : i = nI j) (hj : j < n) (h : AP M_X7_findParameter b 24 [x0, x1, x2, x3, x4] (st) (am_up hi k j x) g Φ) : AP M_X7_findParameter b 23 [x0, x1, x2, x3, x4] (.int x :: .int i :: .ref k :: st) hi g Φ := AP.iast d_X7_findParameter_23 hs (hI.lt hk) hn hx hj h
theorem d_X7_findParameter_24 : decode cX7_findParameter 24 = .ok (.iconst 1, 1) := by decide +kernel
theorem s_X7_findParameter_24 (h : AP M_X7_findParameter b 25 [x0, x1, x2, x3, x4] (.int 1 :: st) hi g Φ) : AP M_X7_findParameter b 24 [x0, x1, x2, x3, x4] (st) hi g Φ := AP.iconst (x := 1) d_X7_findParameter_24 (by decide) h
theorem d_X7_findParameter_25 : decode cX7_findParameter 25 = .ok (.istore_n 3, 1) := by decide +kernel
theorem s_X7_findParameter_25 {n : Int32} (hc : x2.category = 1) (h : AP M_X7_findParameter b 26 [x0, x1, x2, .int n, x4] (st) hi g Φ) : AP M_X7_findParameter b 25 [x0, x1, x2, x3, x4] (.int n :: st) hi g Φ := AP.istore_n (x := n) (i := 3) d_X7_findParameter_25 rfl (by decide) (by simp [am_st, am_ci, am_cr, am_cl, am_cd, hc]) h
theorem d_X7_findParameter_26 : decode cX7_findParameter 26 = .ok (.iload_n 3, 1) := by decide +kernel
theorem s_X7_findParameter_26 {n : Int32} (h : AP M_X7_findParameter b 27 [x0, x1, x2, .int n, x4] (.int n :: st) hi g Φ) : AP M_X7_findParameter b 26 [x0, x1, x2, .int n, x4] (st) hi g Φ := AP.iload_n (x := n) (i := 3) d_X7_findParameter_26 rfl rfl h
theorem d_X7_findParameter_27 : decode cX7_findParameter 27 = .ok (.bipush 7, 2) := by decide +kernel
theorem s_X7_findParameter_27 (h : AP M_X7_findParameter b 29 [x0, x1, x2, x3, x4] (.int 7 :: st) hi g Φ) : AP M_X7_findParameter b 27 [x0, x1, x2, x3, x4] (st) hi g Φ := AP.bipush (x := 7) d_X7_findParameter_27 (by decide) h
theorem d_X7_findParameter_29 : decode cX7_findParameter 29 = .ok (.if_icmp .gt 50, 3) := by decide +kernel
theorem s_X7_findParameter_29 {x y : Int32} (h1 : y < x → AP M_X7_findParameter b 79 [x0, x1, x2, x3, x4] st hi g Φ) (h2 : ¬ y < x → AP M_X7_findParameter b 32 [x0, x1, x2, x3, x4] st hi g Φ) : AP M_X7_findParameter b 29 [x0, x1, x2, x3, x4] (.int y :: .int x :: st) hi g Φ := AP.icmp_gt d_X7_findParameter_29 (by decide) h1 h2
theorem d_X7_findParameter_32 : decode cX7_findParameter 32 = .ok (.aload_n 0, 1) := by decide +kernel
theorem s_X7_findParameter_32 {n : Nat} (h : AP M_X7_findParameter b 33 [.ref n, x1, x2, x3, x4] (.ref n :: st) hi g Φ) : AP M_X7_findParameter b 32 [.ref n, x1, x2, x3, x4] (st) hi g Φ := AP.aload_n (x := n) (i := 0) d_X7_findParameter_32 rfl rfl h
theorem d_X7_findParameter_33 : decode cX7_findParameter 33 = .ok (.iload_n 1, 1) := by decide +kernel
theorem s_X7_findParameter_33 {n : Int32} (h : AP M_X7_findParameter b 34 [x0, .int n, x2, x3, x4] (.int n :: st) hi g Φ) : AP M_X7_findParameter b 33 [x0, .int n, x2, x3, x4] (st) hi g Φ := AP.iload_n (x := n) (i := 1) d_X7_findParameter_33 rfl rfl h
theorem d_X7_findParameter_34 : decode cX7_findParameter 34 = .ok (.iload_n 2, 1) := by decide +kernel
theorem s_X7_findParameter_34 {n : Int32} (h : AP M_X7_findParameter b 35 [x0, x1, .int n, x3, x4] (.int n :: st) hi g Φ) : AP M_X7_findParameter b 34 [x0, x1, .int n, x3, x4] (st) hi g Φ := AP.iload_n (x := n) (i := 2) d_X7_findParameter_34 rfl rfl h
theorem d_X7_findParameter_35 : decode cX7_findParameter 35 = .ok (.iload_n 3, 1) := by decide +kernel
theorem s_X7_findParameter_35 {n : Int32} (h : AP M_X7_findParameter b 36 [x0, x1, x2, .int n, x4] (.int n :: st) hi g Φ) : AP M_X7_findParameter b 35 [x0, x1, x2, .int n, x4] (st) hi g Φ := AP.iload_n (x := n) (i := 3) d_X7_findParameter_35 rfl rfl h
theorem d_X7_findParameter_36 : decode cX7_findParameter 36 = .ok (.invokevirtual 113, 3) := by decide +kernel
theorem s_X7_findParameter_36 {a0 : Int32} {a1 : Int32} {a2 : Int32} {k : Nat} {r0 : Int32} {P : am_HI → Prop} (hI : am_Inv g) (hs : am_SH k = (0, 7)) (hk : k < 134) (hst : (st.map Value.category).sum ≤ 8) (hc : am_Cr M_X7_countBits [.ref k, .int a0, .int a1, .int a2] hi g (some (.int r0)) P) (h : ∀ hi' : am_HI, P hi' → AP M_X7_findParameter b 39 [x0, x1, x2, x3, x4] (.int r0 :: st) hi' g Φ) : AP M_X7_findParameter b 36 [x0, x1, x2, x3, x4] (.int a2 :: .int a1 :: .int a0 :: .ref k :: st) hi g Φ := AP.callVr (As := [.int a0, .int a1, .int a2]) (q := (RX7, TX7, 7)) hI hc k_X7_findParameter_113 d_X7_findParameter_36 rfl hs hk rfl rfl hst h
theorem d_X7_findParameter_39 : decode cX7_findParameter 39 = .ok (.istore 4, 2) := by decide +kernel
theorem s_X7_findParameter_39 {n : Int32} (hc : x3.category = 1) (h : AP M_X7_findParameter b 41 [x0, x1, x2, x3, .int n] (st) hi g Φ) : AP M_X7_findParameter b 39 [x0, x1, x2, x3, x4] (.int n :: st) hi g Φ := AP.istore (x := n) (i := 4) d_X7_findParameter_39 (by decide) (by simp [am_st, am_ci, am_cr, am_cl, am_cd, hc]) h
theorem d_X7_findParameter_41 : decode cX7_findParameter 41 = .ok (.iload 4, 2) := by decide +kernel
theorem s_X7_findParameter_41 {n : Int32} (h : AP M_X7_findParameter b 43 [x0, x1, x2, x3, .int n] (.int n :: st) hi g Φ) : AP M_X7_findParameter b 41 [x0, x1, x2, x3, .int n] (st) hi g Φ := AP.iload (x := n) (i := 4) d_X7_findParameter_41 rfl h
theorem d_X7_findParameter_43 : decode cX7_findParameter 43 = .ok (.aload_n 0, 1) := by decide +kernel
theorem s_X7_findParameter_43 {n : Nat} (h : AP M_X7_findParameter b 44 [.ref n, x1, x2, x3, x4] (.ref n :: st) hi g Φ) : AP M_X7_findParameter b 43 [.ref n, x1, x2, x3, x4] (st) hi g Φ := AP.aload_n (x := n) (i := 0) d_X7_findParameter_43 rfl rfl h
theorem d_X7_findParameter_44 : decode cX7_findParameter 44 = .ok (.getfield 40, 3) := by decide +kernel
theorem s_X7_findParameter_44 {k r : Nat} (hI : am_Inv g) (hs : am_SH k = (0, 7)) (hk : k < 134) (hr : am_HRf k 6 = some r) (hn : k ≠ 39) (h : AP M_X7_findParameter b 47 [x0, x1, x2, x3, x4] (.ref r :: st) hi g Φ) : AP M_X7_findParameter b 44 [x0, x1, x2, x3, x4] (.ref k :: st) hi g Φ := AP.getR (j := 6) (q := (RX7, TX7, 7)) d_X7_findParameter_44 hs (hI.lt hk) rfl (by decide) (by decide) w_236 (hI.r hn hr) h
theorem d_X7_findParameter_47 : decode cX7_findParameter 47 = .ok (.iload_n 2, 1) := by decide +kernel
theorem s_X7_findParameter_47 {n : Int32} (h : AP M_X7_findParameter b 48 [x0, x1, .int n, x3, x4] (.int n :: st) hi g Φ) : AP M_X7_findParameter b 47 [x0, x1, .int n, x3, x4] (st) hi g Φ := AP.iload_n (x := n) (i := 2) d_X7_findParameter_47 rfl rfl h
theorem d_X7_findParameter_48 : decode cX7_findParameter 48 = .ok (.aaload, 1) := by decide +kernel
theorem s_X7_findParameter_48 {k n j r : Nat} {i : Int32} (hI : am_Inv g) (hs : am_SH k = (6, n)) (hk : k < 134) (hn : n < 2 ^ 31) (hx : i = nI j) (hj : j < n) (hr : g.2.1 k j = some r) (h : AP M_X7_findParameter b 49 [x0, x1, x2, x3, x4] (.ref r :: st) hi g Φ) : AP M_X7_findParameter b 48 [x0, x1, x2, x3, x4] (.int i :: .ref k :: st) hi g Φ := AP.rald d_X7_findParameter_48 hs (hI.lt hk) hn hx hj hr h
theorem s_X7_findParameter_48a {k n j r : Nat} {i : Int32} (hI : am_Inv g) (hs : am_SH k = (5, n)) (hk : k < 134) (hn : n < 2 ^ 31) (hx : i = nI j) (hj : j < n) (hr : g.2.1 k j = some r) (h : AP M_X7_findParameter b 49 [x0, x1, x2, x3, x4] (.ref r :: st) hi g Φ) : AP M_X7_findParameter b 48 [x0, x1, x2, x3, x4] (.int i :: .ref k :: st) hi g Φ := AP.aald d_X7_findParameter_48 hs (hI.lt hk) hn hx hj hr h
theorem d_X7_findParameter_49 : decode cX7_findParameter 49 = .ok (.iload_n 1, 1) := by decide +kernel
theorem s_X7_findParameter_49 {n : Int32} (h : AP M_X7_findParameter b 50 [x0, .int n, x2, x3, x4] (.int n :: st) hi g Φ) : AP M_X7_findParameter b 49 [x0, .int n, x2, x3, x4] (st) hi g Φ := AP.iload_n (x := n) (i := 1) d_X7_findParameter_49 rfl rfl h
theorem d_X7_findParameter_50 : decode cX7_findParameter 50 = .ok (.iaload, 1) := by decide +kernel
theorem s_X7_findParameter_50 {k n j : Nat} {i : Int32} (hI : am_Inv g) (hs : am_SH k = (1, n)) (hk : k < 134) (hn : n < 2 ^ 31) (hx : i = nI j) (hj : j < n) (h : AP M_X7_findParameter b 51 [x0, x1, x2, x3, x4] (.int (hi k j) :: st) hi g Φ) : AP M_X7_findParameter b 50 [x0, x1, x2, x3, x4] (.int i :: .ref k :: st) hi g Φ := AP.iald d_X7_findParameter_50 hs (hI.lt hk) hn hx hj h
theorem d_X7_findParameter_51 : decode cX7_findParameter 51 = .ok (.if_icmp .ge 22, 3) := by decide +kernel
theorem s_X7_findParameter_51 {x y : Int32} (h1 : y ≤ x → AP M_X7_findParameter b 73 [x0, x1, x2, x3, x4] st hi g Φ) (h2 : ¬ y ≤ x → AP M_X7_findParameter b 54 [x0, x1, x2, x3, x4] st hi g Φ) : AP M_X7_findParameter b 51 [x0, x1, x2, x3, x4] (.int y :: .int x :: st) hi g Φ := AP.icmp_ge d_X7_findParameter_51 (by decide) h1 h2
theorem d_X7_findParameter_54 : decode cX7_findParameter 54 = .ok (.aload_n 0, 1) := by decide +kernel
theorem s_X7_findParameter_54 {n : Nat} (h : AP M_X7_findParameter b 55 [.ref n, x1, x2, x3, x4] (.ref n :: st) hi g Φ) : AP M_X7_findParameter b 54 [.ref n, x1, x2, x3, x4] (st) hi g Φ := AP.aload_n (x := n) (i := 0) d_X7_findParameter_54 rfl rfl h
theorem d_X7_findParameter_55 : decode cX7_findParameter 55 = .ok (.getfield 40, 3) := by decide +kernel
theorem s_X7_findParameter_55 {k r : Nat} (hI : am_Inv g) (hs : am_SH k = (0, 7)) (hk : k < 134) (hr : am_HRf k 6 = some r) (hn : k ≠ 39) (h : AP M_X7_findParameter b 58 [x0, x1, x2, x3, x4] (.ref r :: st) hi g Φ) : AP M_X7_findParameter b 55 [x0, x1, x2, x3, x4] (.ref k :: st) hi g Φ := AP.getR (j := 6) (q := (RX7, TX7, 7)) d_X7_findParameter_55 hs (hI.lt hk) rfl (by decide) (by decide) w_236 (hI.r hn hr) h
theorem d_X7_findParameter_58 : decode cX7_findParameter 58 = .ok (.iload_n 2, 1) := by decide +kernel
theorem s_X7_findParameter_58 {n : Int32} (h : AP M_X7_findParameter b 59 [x0, x1, .int n, x3, x4] (.int n :: st) hi g Φ) : AP M_X7_findParameter b 58 [x0, x1, .int n, x3, x4] (st) hi g Φ := AP.iload_n (x := n) (i := 2) d_X7_findParameter_58 rfl rfl h
theorem d_X7_findParameter_59 : decode cX7_findParameter 59 = .ok (.aaload, 1) := by decide +kernel
theorem s_X7_findParameter_59 {k n j r : Nat} {i : Int32} (hI : am_Inv g) (hs : am_SH k = (6, n)) (hk : k < 134) (hn : n < 2 ^ 31) (hx : i = nI j) (hj : j < n) (hr : g.2.1 k j = some r) (h : AP M_X7_findParameter b 60 [x0, x1, x2, x3, x4] (.ref r :: st) hi g Φ) : AP M_X7_findParameter b 59 [x0, x1, x2, x3, x4] (.int i :: .ref k :: st) hi g Φ := AP.rald d_X7_findParameter_59 hs (hI.lt hk) hn hx hj hr h
theorem s_X7_findParameter_59a {k n j r : Nat} {i : Int32} (hI : am_Inv g) (hs : am_SH k = (5, n)) (hk : k < 134) (hn : n < 2 ^ 31) (hx : i = nI j) (hj : j < n) (hr : g.2.1 k j = some r) (h : AP M_X7_findParameter b 60 [x0, x1, x2, x3, x4] (.ref r :: st) hi g Φ) : AP M_X7_findParameter b 59 [x0, x1, x2, x3, x4] (.int i :: .ref k :: st) hi g Φ := AP.aald d_X7_findParameter_59 hs (hI.lt hk) hn hx hj hr h
theorem d_X7_findParameter_60 : decode cX7_findParameter 60 = .ok (.iload_n 1, 1) := by decide +kernel
theorem s_X7_findParameter_60 {n : Int32} (h : AP M_X7_findParameter b 61 [x0, .int n, x2, x3, x4] (.int n :: st) hi g Φ) : AP M_X7_findParameter b 60 [x0, .int n, x2, x3, x4] (st) hi g Φ := AP.iload_n (x := n) (i := 1) d_X7_findParameter_60 rfl rfl h
theorem d_X7_findParameter_61 : decode cX7_findParameter 61 = .ok (.iload 4, 2) := by decide +kernel
theorem s_X7_findParameter_61 {n : Int32} (h : AP M_X7_findParameter b 63 [x0, x1, x2, x3, .int n] (.int n :: st) hi g Φ) : AP M_X7_findParameter b 61 [x0, x1, x2, x3, .int n] (st) hi g Φ := AP.iload (x := n) (i := 4) d_X7_findParameter_61 rfl h
theorem d_X7_findParameter_63 : decode cX7_findParameter 63 = .ok (.iastore, 1) := by decide +kernel
theorem s_X7_findParameter_63 {k n j : Nat} {i x : Int32} (hI : am_Inv g) (hs : am_SH k = (1, n)) (hk : k < 134) (hn : n < 2 ^ 31) (hx : i = nI j) (hj : j < n) (h : AP M_X7_findParameter b 64 [x0, x1, x2, x3, x4] (st) (am_up hi k j x) g Φ) : AP M_X7_findParameter b 63 [x0, x1, x2, x3, x4] (.int x :: .int i :: .ref k :: st) hi g Φ := AP.iast d_X7_findParameter_63 hs (hI.lt hk) hn hx hj h
theorem d_X7_findParameter_64 : decode cX7_findParameter 64 = .ok (.aload_n 0, 1) := by decide +kernel
theorem s_X7_findParameter_64 {n : Nat} (h : AP M_X7_findParameter b 65 [.ref n, x1, x2, x3, x4] (.ref n :: st) hi g Φ) : AP M_X7_findParameter b 64 [.ref n, x1, x2, x3, x4] (st) hi g Φ := AP.aload_n (x := n) (i := 0) d_X7_findParameter_64 rfl rfl h
theorem d_X7_findParameter_65 : decode cX7_findParameter 65 = .ok (.getfield 37, 3) := by decide +kernel
theorem s_X7_findParameter_65 {k r : Nat} (hI : am_Inv g) (hs : am_SH k = (0, 7)) (hk : k < 134) (hr : am_HRf k 5 = some r) (hn : k ≠ 39) (h : AP M_X7_findParameter b 68 [x0, x1, x2, x3, x4] (.ref r :: st) hi g Φ) : AP M_X7_findParameter b 65 [x0, x1, x2, x3, x4] (.ref k :: st) hi g Φ := AP.getR (j := 5) (q := (RX7, TX7, 7)) d_X7_findParameter_65 hs (hI.lt hk) rfl (by decide) (by decide) w_234 (hI.r hn hr) h
theorem d_X7_findParameter_68 : decode cX7_findParameter 68 = .ok (.iload_n 2, 1) := by decide +kernel
theorem s_X7_findParameter_68 {n : Int32} (h : AP M_X7_findParameter b 69 [x0, x1, .int n, x3, x4] (.int n :: st) hi g Φ) : AP M_X7_findParameter b 68 [x0, x1, .int n, x3, x4] (st) hi g Φ := AP.iload_n (x := n) (i := 2) d_X7_findParameter_68 rfl rfl h
theorem d_X7_findParameter_69 : decode cX7_findParameter 69 = .ok (.aaload, 1) := by decide +kernel
theorem s_X7_findParameter_69 {k n j r : Nat} {i : Int32} (hI : am_Inv g) (hs : am_SH k = (6, n)) (hk : k < 134) (hn : n < 2 ^ 31) (hx : i = nI j) (hj : j < n) (hr : g.2.1 k j = some r) (h : AP M_X7_findParameter b 70 [x0, x1, x2, x3, x4] (.ref r :: st) hi g Φ) : AP M_X7_findParameter b 69 [x0, x1, x2, x3, x4] (.int i :: .ref k :: st) hi g Φ := AP.rald d_X7_findParameter_69 hs (hI.lt hk) hn hx hj hr h
theorem s_X7_findParameter_69a {k n j r : Nat} {i : Int32} (hI : am_Inv g) (hs : am_SH k = (5, n)) (hk : k < 134) (hn : n < 2 ^ 31) (hx : i = nI j) (hj : j < n) (hr : g.2.1 k j = some r) (h : AP M_X7_findParameter b 70 [x0, x1, x2, x3, x4] (.ref r :: st) hi g Φ) : AP M_X7_findParameter b 69 [x0, x1, x2, x3, x4] (.int i :: .ref k :: st) hi g Φ := AP.aald d_X7_findParameter_69 hs (hI.lt hk) hn hx hj hr h
theorem d_X7_findParameter_70 : decode cX7_findParameter 70 = .ok (.iload_n 1, 1) := by decide +kernel
theorem s_X7_findParameter_70 {n : Int32} (h : AP M_X7_findParameter b 71 [x0, .int n, x2, x3, x4] (.int n :: st) hi g Φ) : AP M_X7_findParameter b 70 [x0, .int n, x2, x3, x4] (st) hi g Φ := AP.iload_n (x := n) (i := 1) d_X7_findParameter_70 rfl rfl h
theorem d_X7_findParameter_71 : decode cX7_findParameter 71 = .ok (.iload_n 3, 1) := by decide +kernel
theorem s_X7_findParameter_71 {n : Int32} (h : AP M_X7_findParameter b 72 [x0, x1, x2, .int n, x4] (.int n :: st) hi g Φ) : AP M_X7_findParameter b 71 [x0, x1, x2, .int n, x4] (st) hi g Φ := AP.iload_n (x := n) (i := 3) d_X7_findParameter_71 rfl rfl h
theorem d_X7_findParameter_72 : decode cX7_findParameter 72 = .ok (.iastore, 1) := by decide +kernel
theorem s_X7_findParameter_72 {k n j : Nat} {i x : Int32} (hI : am_Inv g) (hs : am_SH k = (1, n)) (hk : k < 134) (hn : n < 2 ^ 31) (hx : i = nI j) (hj : j < n) (h : AP M_X7_findParameter b 73 [x0, x1, x2, x3, x4] (st) (am_up hi k j x) g Φ) : AP M_X7_findParameter b 72 [x0, x1, x2, x3, x4] (.int x :: .int i :: .ref k :: st) hi g Φ := AP.iast d_X7_findParameter_72 hs (hI.lt hk) hn hx hj h
theorem d_X7_findParameter_73 : decode cX7_findParameter 73 = .ok (.iinc 3 1, 3) := by decide +kernel
theorem s_X7_findParameter_73 {n : Int32} (hc : x2.category = 1) (h : AP M_X7_findParameter b 76 [x0, x1, x2, .int (n + 1), x4] (st) hi g Φ) : AP M_X7_findParameter b 73 [x0, x1, x2, .int n, x4] (st) hi g Φ := AP.iinc (i := 3) (x := n) (y := n + 1) d_X7_findParameter_73 rfl rfl (by decide) (by simp [am_st, am_ci, am_cr, am_cl, am_cd, hc]) h
theorem d_X7_findParameter_76 : decode cX7_findParameter 76 = .ok (.goto (-50), 3) := by decide +kernel
theorem s_X7_findParameter_76 (h : AP M_X7_findParameter b 26 [x0, x1, x2, x3, x4] st hi g Φ) : AP M_X7_findParameter b 76 [x0, x1, x2, x3, x4] st hi g Φ := AP.goto d_X7_findParameter_76 (by decide) h
theorem d_X7_findParameter_79 : decode cX7_findParameter 79 = .ok (.return_, 1) := by decide +kernel
theorem s_X7_findParameter_79 (h : Φ (.ok none) hi g) : AP M_X7_findParameter b 79 [x0, x1, x2, x3, x4] [] hi g Φ := AP.vret d_X7_findParameter_79 rfl h
end
section
variable {b : Nat × Nat} {st : List Value} {hi : am_HI} {g : am_G} {Φ : am_P} {x0 x1 x2 x3 x4 x5 : Value}
theorem d_X7_reasonFor_0 : decode cX7_reasonFor 0 = .ok (.aload_n 0, 1) := by decide +kernel
theorem s_X7_reasonFor_0 {n : Nat} (h : AP M_X7_reasonFor b 1 [.ref n, x1, x2, x3, x4, x5] (.ref n :: st) hi g Φ) : AP M_X7_reasonFor b 0 [.ref n, x1, x2, x3, x4, x5] (st) hi g Φ := AP.aload_n (x := n) (i := 0) d_X7_reasonFor_0 rfl rfl h
theorem d_X7_reasonFor_1 : decode cX7_reasonFor 1 = .ok (.iload_n 1, 1) := by decide +kernel
theorem s_X7_reasonFor_1 {n : Int32} (h : AP M_X7_reasonFor b 2 [x0, .int n, x2, x3, x4, x5] (.int n :: st) hi g Φ) : AP M_X7_reasonFor b 1 [x0, .int n, x2, x3, x4, x5] (st) hi g Φ := AP.iload_n (x := n) (i := 1) d_X7_reasonFor_1 rfl rfl h
theorem d_X7_reasonFor_2 : decode cX7_reasonFor 2 = .ok (.invokevirtual 130, 3) := by decide +kernel
theorem s_X7_reasonFor_2 {a0 : Int32} {k : Nat} {r0 : Int32} {P : am_HI → Prop} (hI : am_Inv g) (hs : am_SH k = (0, 7)) (hk : k < 134) (hst : (st.map Value.category).sum ≤ 8) (hc : am_Cr M_X7_kindFor [.ref k, .int a0] hi g (some (.int r0)) P) (h : ∀ hi' : am_HI, P hi' → AP M_X7_reasonFor b 5 [x0, x1, x2, x3, x4, x5] (.int r0 :: st) hi' g Φ) : AP M_X7_reasonFor b 2 [x0, x1, x2, x3, x4, x5] (.int a0 :: .ref k :: st) hi g Φ := AP.callVr (As := [.int a0]) (q := (RX7, TX7, 7)) hI hc k_X7_reasonFor_130 d_X7_reasonFor_2 rfl hs hk rfl rfl hst h
theorem d_X7_reasonFor_5 : decode cX7_reasonFor 5 = .ok (.istore_n 2, 1) := by decide +kernel
theorem s_X7_reasonFor_5 {n : Int32} (hc : x1.category = 1) (h : AP M_X7_reasonFor b 6 [x0, x1, .int n, x3, x4, x5] (st) hi g Φ) : AP M_X7_reasonFor b 5 [x0, x1, x2, x3, x4, x5] (.int n :: st) hi g Φ := AP.istore_n (x := n) (i := 2) d_X7_reasonFor_5 rfl (by decide) (by simp [am_st, am_ci, am_cr, am_cl, am_cd, hc]) h
theorem d_X7_reasonFor_6 : decode cX7_reasonFor 6 = .ok (.iconst 1, 1) := by decide +kernel
theorem s_X7_reasonFor_6 (h : AP M_X7_reasonFor b 7 [x0, x1, x2, x3, x4, x5] (.int 1 :: st) hi g Φ) : AP M_X7_reasonFor b 6 [x0, x1, x2, x3, x4, x5] (st) hi g Φ := AP.iconst (x := 1) d_X7_reasonFor_6 (by decide) h
theorem d_X7_reasonFor_7 : decode cX7_reasonFor 7 = .ok (.istore_n 3, 1) := by decide +kernel
theorem s_X7_reasonFor_7 {n : Int32} (hc : x2.category = 1) (h : AP M_X7_reasonFor b 8 [x0, x1, x2, .int n, x4, x5] (st) hi g Φ) : AP M_X7_reasonFor b 7 [x0, x1, x2, x3, x4, x5] (.int n :: st) hi g Φ := AP.istore_n (x := n) (i := 3) d_X7_reasonFor_7 rfl (by decide) (by simp [am_st, am_ci, am_cr, am_cl, am_cd, hc]) h
theorem d_X7_reasonFor_8 : decode cX7_reasonFor 8 = .ok (.iconst 1, 1) := by decide +kernel
theorem s_X7_reasonFor_8 (h : AP M_X7_reasonFor b 9 [x0, x1, x2, x3, x4, x5] (.int 1 :: st) hi g Φ) : AP M_X7_reasonFor b 8 [x0, x1, x2, x3, x4, x5] (st) hi g Φ := AP.iconst (x := 1) d_X7_reasonFor_8 (by decide) h
theorem d_X7_reasonFor_9 : decode cX7_reasonFor 9 = .ok (.istore 4, 2) := by decide +kernel
theorem s_X7_reasonFor_9 {n : Int32} (hc : x3.category = 1) (h : AP M_X7_reasonFor b 11 [x0, x1, x2, x3, .int n, x5] (st) hi g Φ) : AP M_X7_reasonFor b 9 [x0, x1, x2, x3, x4, x5] (.int n :: st) hi g Φ := AP.istore (x := n) (i := 4) d_X7_reasonFor_9 (by decide) (by simp [am_st, am_ci, am_cr, am_cl, am_cd, hc]) h
theorem d_X7_reasonFor_11 : decode cX7_reasonFor 11 = .ok (.iconst 0, 1) := by decide +kernel
theorem s_X7_reasonFor_11 (h : AP M_X7_reasonFor b 12 [x0, x1, x2, x3, x4, x5] (.int 0 :: st) hi g Φ) : AP M_X7_reasonFor b 11 [x0, x1, x2, x3, x4, x5] (st) hi g Φ := AP.iconst (x := 0) d_X7_reasonFor_11 (by decide) h
theorem d_X7_reasonFor_12 : decode cX7_reasonFor 12 = .ok (.istore 5, 2) := by decide +kernel
theorem s_X7_reasonFor_12 {n : Int32} (hc : x4.category = 1) (h : AP M_X7_reasonFor b 14 [x0, x1, x2, x3, x4, .int n] (st) hi g Φ) : AP M_X7_reasonFor b 12 [x0, x1, x2, x3, x4, x5] (.int n :: st) hi g Φ := AP.istore (x := n) (i := 5) d_X7_reasonFor_12 (by decide) (by simp [am_st, am_ci, am_cr, am_cl, am_cd, hc]) h
theorem d_X7_reasonFor_14 : decode cX7_reasonFor 14 = .ok (.iload 5, 2) := by decide +kernel
theorem s_X7_reasonFor_14 {n : Int32} (h : AP M_X7_reasonFor b 16 [x0, x1, x2, x3, x4, .int n] (.int n :: st) hi g Φ) : AP M_X7_reasonFor b 14 [x0, x1, x2, x3, x4, .int n] (st) hi g Φ := AP.iload (x := n) (i := 5) d_X7_reasonFor_14 rfl h
theorem d_X7_reasonFor_16 : decode cX7_reasonFor 16 = .ok (.iconst 5, 1) := by decide +kernel
theorem s_X7_reasonFor_16 (h : AP M_X7_reasonFor b 17 [x0, x1, x2, x3, x4, x5] (.int 5 :: st) hi g Φ) : AP M_X7_reasonFor b 16 [x0, x1, x2, x3, x4, x5] (st) hi g Φ := AP.iconst (x := 5) d_X7_reasonFor_16 (by decide) h
theorem d_X7_reasonFor_17 : decode cX7_reasonFor 17 = .ok (.if_icmp .ge 61, 3) := by decide +kernel
theorem s_X7_reasonFor_17 {x y : Int32} (h1 : y ≤ x → AP M_X7_reasonFor b 78 [x0, x1, x2, x3, x4, x5] st hi g Φ) (h2 : ¬ y ≤ x → AP M_X7_reasonFor b 20 [x0, x1, x2, x3, x4, x5] st hi g Φ) : AP M_X7_reasonFor b 17 [x0, x1, x2, x3, x4, x5] (.int y :: .int x :: st) hi g Φ := AP.icmp_ge d_X7_reasonFor_17 (by decide) h1 h2
theorem d_X7_reasonFor_20 : decode cX7_reasonFor 20 = .ok (.iload 5, 2) := by decide +kernel
theorem s_X7_reasonFor_20 {n : Int32} (h : AP M_X7_reasonFor b 22 [x0, x1, x2, x3, x4, .int n] (.int n :: st) hi g Φ) : AP M_X7_reasonFor b 20 [x0, x1, x2, x3, x4, .int n] (st) hi g Φ := AP.iload (x := n) (i := 5) d_X7_reasonFor_20 rfl h
theorem d_X7_reasonFor_22 : decode cX7_reasonFor 22 = .ok (.iload_n 2, 1) := by decide +kernel
theorem s_X7_reasonFor_22 {n : Int32} (h : AP M_X7_reasonFor b 23 [x0, x1, .int n, x3, x4, x5] (.int n :: st) hi g Φ) : AP M_X7_reasonFor b 22 [x0, x1, .int n, x3, x4, x5] (st) hi g Φ := AP.iload_n (x := n) (i := 2) d_X7_reasonFor_22 rfl rfl h
theorem d_X7_reasonFor_23 : decode cX7_reasonFor 23 = .ok (.if_icmp .eq 49, 3) := by decide +kernel
theorem s_X7_reasonFor_23 {x y : Int32} (h1 : x = y → AP M_X7_reasonFor b 72 [x0, x1, x2, x3, x4, x5] st hi g Φ) (h2 : ¬ x = y → AP M_X7_reasonFor b 26 [x0, x1, x2, x3, x4, x5] st hi g Φ) : AP M_X7_reasonFor b 23 [x0, x1, x2, x3, x4, x5] (.int y :: .int x :: st) hi g Φ := AP.icmp_eq d_X7_reasonFor_23 (by decide) h1 h2
theorem d_X7_reasonFor_26 : decode cX7_reasonFor 26 = .ok (.aload_n 0, 1) := by decide +kernel
theorem s_X7_reasonFor_26 {n : Nat} (h : AP M_X7_reasonFor b 27 [.ref n, x1, x2, x3, x4, x5] (.ref n :: st) hi g Φ) : AP M_X7_reasonFor b 26 [.ref n, x1, x2, x3, x4, x5] (st) hi g Φ := AP.aload_n (x := n) (i := 0) d_X7_reasonFor_26 rfl rfl h
theorem d_X7_reasonFor_27 : decode cX7_reasonFor 27 = .ok (.getfield 12, 3) := by decide +kernel
theorem s_X7_reasonFor_27 {k r : Nat} (hI : am_Inv g) (hs : am_SH k = (0, 7)) (hk : k < 134) (hr : am_HRf k 0 = some r) (hn : k ≠ 39) (h : AP M_X7_reasonFor b 30 [x0, x1, x2, x3, x4, x5] (.ref r :: st) hi g Φ) : AP M_X7_reasonFor b 27 [x0, x1, x2, x3, x4, x5] (.ref k :: st) hi g Φ := AP.getR (j := 0) (q := (RX7, TX7, 7)) d_X7_reasonFor_27 hs (hI.lt hk) rfl (by decide) (by decide) w_226 (hI.r hn hr) h
theorem d_X7_reasonFor_30 : decode cX7_reasonFor 30 = .ok (.iload 5, 2) := by decide +kernel
theorem s_X7_reasonFor_30 {n : Int32} (h : AP M_X7_reasonFor b 32 [x0, x1, x2, x3, x4, .int n] (.int n :: st) hi g Φ) : AP M_X7_reasonFor b 30 [x0, x1, x2, x3, x4, .int n] (st) hi g Φ := AP.iload (x := n) (i := 5) d_X7_reasonFor_30 rfl h
theorem d_X7_reasonFor_32 : decode cX7_reasonFor 32 = .ok (.invokevirtual 126, 3) := by decide +kernel
theorem s_X7_reasonFor_32 {a0 : Int32} {k : Nat} {r0 : Int32} {P : am_HI → Prop} (hI : am_Inv g) (hs : am_SH k = (0, 6)) (hk : k < 134) (hst : (st.map Value.category).sum ≤ 8) (hc : am_Cr M_X6_allows [.ref k, .int a0] hi g (some (.int r0)) P) (h : ∀ hi' : am_HI, P hi' → AP M_X7_reasonFor b 35 [x0, x1, x2, x3, x4, x5] (.int r0 :: st) hi' g Φ) : AP M_X7_reasonFor b 32 [x0, x1, x2, x3, x4, x5] (.int a0 :: .ref k :: st) hi g Φ := AP.callVr (As := [.int a0]) (q := (RX6, TX6, 8)) hI hc k_X7_reasonFor_126 d_X7_reasonFor_32 rfl hs hk rfl rfl hst h
theorem d_X7_reasonFor_35 : decode cX7_reasonFor 35 = .ok (.ifCond .eq 37, 3) := by decide +kernel
theorem s_X7_reasonFor_35 {x : Int32} (h1 : x = 0 → AP M_X7_reasonFor b 72 [x0, x1, x2, x3, x4, x5] st hi g Φ) (h2 : ¬ x = 0 → AP M_X7_reasonFor b 38 [x0, x1, x2, x3, x4, x5] st hi g Φ) : AP M_X7_reasonFor b 35 [x0, x1, x2, x3, x4, x5] (.int x :: st) hi g Φ := AP.if_eq d_X7_reasonFor_35 (by decide) h1 h2
theorem d_X7_reasonFor_38 : decode cX7_reasonFor 38 = .ok (.iconst 0, 1) := by decide +kernel
theorem s_X7_reasonFor_38 (h : AP M_X7_reasonFor b 39 [x0, x1, x2, x3, x4, x5] (.int 0 :: st) hi g Φ) : AP M_X7_reasonFor b 38 [x0, x1, x2, x3, x4, x5] (st) hi g Φ := AP.iconst (x := 0) d_X7_reasonFor_38 (by decide) h
theorem d_X7_reasonFor_39 : decode cX7_reasonFor 39 = .ok (.istore_n 3, 1) := by decide +kernel
theorem s_X7_reasonFor_39 {n : Int32} (hc : x2.category = 1) (h : AP M_X7_reasonFor b 40 [x0, x1, x2, .int n, x4, x5] (st) hi g Φ) : AP M_X7_reasonFor b 39 [x0, x1, x2, x3, x4, x5] (.int n :: st) hi g Φ := AP.istore_n (x := n) (i := 3) d_X7_reasonFor_39 rfl (by decide) (by simp [am_st, am_ci, am_cr, am_cl, am_cd, hc]) h
theorem d_X7_reasonFor_40 : decode cX7_reasonFor 40 = .ok (.iload 4, 2) := by decide +kernel
theorem s_X7_reasonFor_40 {n : Int32} (h : AP M_X7_reasonFor b 42 [x0, x1, x2, x3, .int n, x5] (.int n :: st) hi g Φ) : AP M_X7_reasonFor b 40 [x0, x1, x2, x3, .int n, x5] (st) hi g Φ := AP.iload (x := n) (i := 4) d_X7_reasonFor_40 rfl h
theorem d_X7_reasonFor_42 : decode cX7_reasonFor 42 = .ok (.ifCond .eq 27, 3) := by decide +kernel
theorem s_X7_reasonFor_42 {x : Int32} (h1 : x = 0 → AP M_X7_reasonFor b 69 [x0, x1, x2, x3, x4, x5] st hi g Φ) (h2 : ¬ x = 0 → AP M_X7_reasonFor b 45 [x0, x1, x2, x3, x4, x5] st hi g Φ) : AP M_X7_reasonFor b 42 [x0, x1, x2, x3, x4, x5] (.int x :: st) hi g Φ := AP.if_eq d_X7_reasonFor_42 (by decide) h1 h2
theorem d_X7_reasonFor_45 : decode cX7_reasonFor 45 = .ok (.aload_n 0, 1) := by decide +kernel
theorem s_X7_reasonFor_45 {n : Nat} (h : AP M_X7_reasonFor b 46 [.ref n, x1, x2, x3, x4, x5] (.ref n :: st) hi g Φ) : AP M_X7_reasonFor b 45 [.ref n, x1, x2, x3, x4, x5] (st) hi g Φ := AP.aload_n (x := n) (i := 0) d_X7_reasonFor_45 rfl rfl h
theorem d_X7_reasonFor_46 : decode cX7_reasonFor 46 = .ok (.getfield 40, 3) := by decide +kernel
theorem s_X7_reasonFor_46 {k r : Nat} (hI : am_Inv g) (hs : am_SH k = (0, 7)) (hk : k < 134) (hr : am_HRf k 6 = some r) (hn : k ≠ 39) (h : AP M_X7_reasonFor b 49 [x0, x1, x2, x3, x4, x5] (.ref r :: st) hi g Φ) : AP M_X7_reasonFor b 46 [x0, x1, x2, x3, x4, x5] (.ref k :: st) hi g Φ := AP.getR (j := 6) (q := (RX7, TX7, 7)) d_X7_reasonFor_46 hs (hI.lt hk) rfl (by decide) (by decide) w_236 (hI.r hn hr) h
theorem d_X7_reasonFor_49 : decode cX7_reasonFor 49 = .ok (.iload 5, 2) := by decide +kernel
theorem s_X7_reasonFor_49 {n : Int32} (h : AP M_X7_reasonFor b 51 [x0, x1, x2, x3, x4, .int n] (.int n :: st) hi g Φ) : AP M_X7_reasonFor b 49 [x0, x1, x2, x3, x4, .int n] (st) hi g Φ := AP.iload (x := n) (i := 5) d_X7_reasonFor_49 rfl h
theorem d_X7_reasonFor_51 : decode cX7_reasonFor 51 = .ok (.aaload, 1) := by decide +kernel
theorem s_X7_reasonFor_51 {k n j r : Nat} {i : Int32} (hI : am_Inv g) (hs : am_SH k = (6, n)) (hk : k < 134) (hn : n < 2 ^ 31) (hx : i = nI j) (hj : j < n) (hr : g.2.1 k j = some r) (h : AP M_X7_reasonFor b 52 [x0, x1, x2, x3, x4, x5] (.ref r :: st) hi g Φ) : AP M_X7_reasonFor b 51 [x0, x1, x2, x3, x4, x5] (.int i :: .ref k :: st) hi g Φ := AP.rald d_X7_reasonFor_51 hs (hI.lt hk) hn hx hj hr h
theorem s_X7_reasonFor_51a {k n j r : Nat} {i : Int32} (hI : am_Inv g) (hs : am_SH k = (5, n)) (hk : k < 134) (hn : n < 2 ^ 31) (hx : i = nI j) (hj : j < n) (hr : g.2.1 k j = some r) (h : AP M_X7_reasonFor b 52 [x0, x1, x2, x3, x4, x5] (.ref r :: st) hi g Φ) : AP M_X7_reasonFor b 51 [x0, x1, x2, x3, x4, x5] (.int i :: .ref k :: st) hi g Φ := AP.aald d_X7_reasonFor_51 hs (hI.lt hk) hn hx hj hr h
theorem d_X7_reasonFor_52 : decode cX7_reasonFor 52 = .ok (.iload_n 1, 1) := by decide +kernel
theorem s_X7_reasonFor_52 {n : Int32} (h : AP M_X7_reasonFor b 53 [x0, .int n, x2, x3, x4, x5] (.int n :: st) hi g Φ) : AP M_X7_reasonFor b 52 [x0, .int n, x2, x3, x4, x5] (st) hi g Φ := AP.iload_n (x := n) (i := 1) d_X7_reasonFor_52 rfl rfl h
theorem d_X7_reasonFor_53 : decode cX7_reasonFor 53 = .ok (.iaload, 1) := by decide +kernel
theorem s_X7_reasonFor_53 {k n j : Nat} {i : Int32} (hI : am_Inv g) (hs : am_SH k = (1, n)) (hk : k < 134) (hn : n < 2 ^ 31) (hx : i = nI j) (hj : j < n) (h : AP M_X7_reasonFor b 54 [x0, x1, x2, x3, x4, x5] (.int (hi k j) :: st) hi g Φ) : AP M_X7_reasonFor b 53 [x0, x1, x2, x3, x4, x5] (.int i :: .ref k :: st) hi g Φ := AP.iald d_X7_reasonFor_53 hs (hI.lt hk) hn hx hj h
theorem d_X7_reasonFor_54 : decode cX7_reasonFor 54 = .ok (.aload_n 0, 1) := by decide +kernel
theorem s_X7_reasonFor_54 {n : Nat} (h : AP M_X7_reasonFor b 55 [.ref n, x1, x2, x3, x4, x5] (.ref n :: st) hi g Φ) : AP M_X7_reasonFor b 54 [.ref n, x1, x2, x3, x4, x5] (st) hi g Φ := AP.aload_n (x := n) (i := 0) d_X7_reasonFor_54 rfl rfl h
theorem d_X7_reasonFor_55 : decode cX7_reasonFor 55 = .ok (.getfield 40, 3) := by decide +kernel
theorem s_X7_reasonFor_55 {k r : Nat} (hI : am_Inv g) (hs : am_SH k = (0, 7)) (hk : k < 134) (hr : am_HRf k 6 = some r) (hn : k ≠ 39) (h : AP M_X7_reasonFor b 58 [x0, x1, x2, x3, x4, x5] (.ref r :: st) hi g Φ) : AP M_X7_reasonFor b 55 [x0, x1, x2, x3, x4, x5] (.ref k :: st) hi g Φ := AP.getR (j := 6) (q := (RX7, TX7, 7)) d_X7_reasonFor_55 hs (hI.lt hk) rfl (by decide) (by decide) w_236 (hI.r hn hr) h
theorem d_X7_reasonFor_58 : decode cX7_reasonFor 58 = .ok (.iload_n 2, 1) := by decide +kernel
theorem s_X7_reasonFor_58 {n : Int32} (h : AP M_X7_reasonFor b 59 [x0, x1, .int n, x3, x4, x5] (.int n :: st) hi g Φ) : AP M_X7_reasonFor b 58 [x0, x1, .int n, x3, x4, x5] (st) hi g Φ := AP.iload_n (x := n) (i := 2) d_X7_reasonFor_58 rfl rfl h
theorem d_X7_reasonFor_59 : decode cX7_reasonFor 59 = .ok (.aaload, 1) := by decide +kernel
theorem s_X7_reasonFor_59 {k n j r : Nat} {i : Int32} (hI : am_Inv g) (hs : am_SH k = (6, n)) (hk : k < 134) (hn : n < 2 ^ 31) (hx : i = nI j) (hj : j < n) (hr : g.2.1 k j = some r) (h : AP M_X7_reasonFor b 60 [x0, x1, x2, x3, x4, x5] (.ref r :: st) hi g Φ) : AP M_X7_reasonFor b 59 [x0, x1, x2, x3, x4, x5] (.int i :: .ref k :: st) hi g Φ := AP.rald d_X7_reasonFor_59 hs (hI.lt hk) hn hx hj hr h
theorem s_X7_reasonFor_59a {k n j r : Nat} {i : Int32} (hI : am_Inv g) (hs : am_SH k = (5, n)) (hk : k < 134) (hn : n < 2 ^ 31) (hx : i = nI j) (hj : j < n) (hr : g.2.1 k j = some r) (h : AP M_X7_reasonFor b 60 [x0, x1, x2, x3, x4, x5] (.ref r :: st) hi g Φ) : AP M_X7_reasonFor b 59 [x0, x1, x2, x3, x4, x5] (.int i :: .ref k :: st) hi g Φ := AP.aald d_X7_reasonFor_59 hs (hI.lt hk) hn hx hj hr h
theorem d_X7_reasonFor_60 : decode cX7_reasonFor 60 = .ok (.iload_n 1, 1) := by decide +kernel
theorem s_X7_reasonFor_60 {n : Int32} (h : AP M_X7_reasonFor b 61 [x0, .int n, x2, x3, x4, x5] (.int n :: st) hi g Φ) : AP M_X7_reasonFor b 60 [x0, .int n, x2, x3, x4, x5] (st) hi g Φ := AP.iload_n (x := n) (i := 1) d_X7_reasonFor_60 rfl rfl h
theorem d_X7_reasonFor_61 : decode cX7_reasonFor 61 = .ok (.iaload, 1) := by decide +kernel
theorem s_X7_reasonFor_61 {k n j : Nat} {i : Int32} (hI : am_Inv g) (hs : am_SH k = (1, n)) (hk : k < 134) (hn : n < 2 ^ 31) (hx : i = nI j) (hj : j < n) (h : AP M_X7_reasonFor b 62 [x0, x1, x2, x3, x4, x5] (.int (hi k j) :: st) hi g Φ) : AP M_X7_reasonFor b 61 [x0, x1, x2, x3, x4, x5] (.int i :: .ref k :: st) hi g Φ := AP.iald d_X7_reasonFor_61 hs (hI.lt hk) hn hx hj h
theorem d_X7_reasonFor_62 : decode cX7_reasonFor 62 = .ok (.if_icmp .le 7, 3) := by decide +kernel
theorem s_X7_reasonFor_62 {x y : Int32} (h1 : x ≤ y → AP M_X7_reasonFor b 69 [x0, x1, x2, x3, x4, x5] st hi g Φ) (h2 : ¬ x ≤ y → AP M_X7_reasonFor b 65 [x0, x1, x2, x3, x4, x5] st hi g Φ) : AP M_X7_reasonFor b 62 [x0, x1, x2, x3, x4, x5] (.int y :: .int x :: st) hi g Φ := AP.icmp_le d_X7_reasonFor_62 (by decide) h1 h2
theorem d_X7_reasonFor_65 : decode cX7_reasonFor 65 = .ok (.iconst 1, 1) := by decide +kernel
theorem s_X7_reasonFor_65 (h : AP M_X7_reasonFor b 66 [x0, x1, x2, x3, x4, x5] (.int 1 :: st) hi g Φ) : AP M_X7_reasonFor b 65 [x0, x1, x2, x3, x4, x5] (st) hi g Φ := AP.iconst (x := 1) d_X7_reasonFor_65 (by decide) h
theorem d_X7_reasonFor_66 : decode cX7_reasonFor 66 = .ok (.goto 4, 3) := by decide +kernel
theorem s_X7_reasonFor_66 (h : AP M_X7_reasonFor b 70 [x0, x1, x2, x3, x4, x5] st hi g Φ) : AP M_X7_reasonFor b 66 [x0, x1, x2, x3, x4, x5] st hi g Φ := AP.goto d_X7_reasonFor_66 (by decide) h
theorem d_X7_reasonFor_69 : decode cX7_reasonFor 69 = .ok (.iconst 0, 1) := by decide +kernel
theorem s_X7_reasonFor_69 (h : AP M_X7_reasonFor b 70 [x0, x1, x2, x3, x4, x5] (.int 0 :: st) hi g Φ) : AP M_X7_reasonFor b 69 [x0, x1, x2, x3, x4, x5] (st) hi g Φ := AP.iconst (x := 0) d_X7_reasonFor_69 (by decide) h
theorem d_X7_reasonFor_70 : decode cX7_reasonFor 70 = .ok (.istore 4, 2) := by decide +kernel
theorem s_X7_reasonFor_70 {n : Int32} (hc : x3.category = 1) (h : AP M_X7_reasonFor b 72 [x0, x1, x2, x3, .int n, x5] (st) hi g Φ) : AP M_X7_reasonFor b 70 [x0, x1, x2, x3, x4, x5] (.int n :: st) hi g Φ := AP.istore (x := n) (i := 4) d_X7_reasonFor_70 (by decide) (by simp [am_st, am_ci, am_cr, am_cl, am_cd, hc]) h
theorem d_X7_reasonFor_72 : decode cX7_reasonFor 72 = .ok (.iinc 5 1, 3) := by decide +kernel
theorem s_X7_reasonFor_72 {n : Int32} (hc : x4.category = 1) (h : AP M_X7_reasonFor b 75 [x0, x1, x2, x3, x4, .int (n + 1)] (st) hi g Φ) : AP M_X7_reasonFor b 72 [x0, x1, x2, x3, x4, .int n] (st) hi g Φ := AP.iinc (i := 5) (x := n) (y := n + 1) d_X7_reasonFor_72 rfl rfl (by decide) (by simp [am_st, am_ci, am_cr, am_cl, am_cd, hc]) h
theorem d_X7_reasonFor_75 : decode cX7_reasonFor 75 = .ok (.goto (-61), 3) := by decide +kernel
theorem s_X7_reasonFor_75 (h : AP M_X7_reasonFor b 14 [x0, x1, x2, x3, x4, x5] st hi g Φ) : AP M_X7_reasonFor b 75 [x0, x1, x2, x3, x4, x5] st hi g Φ := AP.goto d_X7_reasonFor_75 (by decide) h
theorem d_X7_reasonFor_78 : decode cX7_reasonFor 78 = .ok (.iload_n 3, 1) := by decide +kernel
theorem s_X7_reasonFor_78 {n : Int32} (h : AP M_X7_reasonFor b 79 [x0, x1, x2, .int n, x4, x5] (.int n :: st) hi g Φ) : AP M_X7_reasonFor b 78 [x0, x1, x2, .int n, x4, x5] (st) hi g Φ := AP.iload_n (x := n) (i := 3) d_X7_reasonFor_78 rfl rfl h
theorem d_X7_reasonFor_79 : decode cX7_reasonFor 79 = .ok (.ifCond .eq 7, 3) := by decide +kernel
theorem s_X7_reasonFor_79 {x : Int32} (h1 : x = 0 → AP M_X7_reasonFor b 86 [x0, x1, x2, x3, x4, x5] st hi g Φ) (h2 : ¬ x = 0 → AP M_X7_reasonFor b 82 [x0, x1, x2, x3, x4, x5] st hi g Φ) : AP M_X7_reasonFor b 79 [x0, x1, x2, x3, x4, x5] (.int x :: st) hi g Φ := AP.if_eq d_X7_reasonFor_79 (by decide) h1 h2
theorem d_X7_reasonFor_82 : decode cX7_reasonFor 82 = .ok (.iconst 1, 1) := by decide +kernel
theorem s_X7_reasonFor_82 (h : AP M_X7_reasonFor b 83 [x0, x1, x2, x3, x4, x5] (.int 1 :: st) hi g Φ) : AP M_X7_reasonFor b 82 [x0, x1, x2, x3, x4, x5] (st) hi g Φ := AP.iconst (x := 1) d_X7_reasonFor_82 (by decide) h
theorem d_X7_reasonFor_83 : decode cX7_reasonFor 83 = .ok (.goto 13, 3) := by decide +kernel
theorem s_X7_reasonFor_83 (h : AP M_X7_reasonFor b 96 [x0, x1, x2, x3, x4, x5] st hi g Φ) : AP M_X7_reasonFor b 83 [x0, x1, x2, x3, x4, x5] st hi g Φ := AP.goto d_X7_reasonFor_83 (by decide) h
theorem d_X7_reasonFor_86 : decode cX7_reasonFor 86 = .ok (.iload 4, 2) := by decide +kernel
theorem s_X7_reasonFor_86 {n : Int32} (h : AP M_X7_reasonFor b 88 [x0, x1, x2, x3, .int n, x5] (.int n :: st) hi g Φ) : AP M_X7_reasonFor b 86 [x0, x1, x2, x3, .int n, x5] (st) hi g Φ := AP.iload (x := n) (i := 4) d_X7_reasonFor_86 rfl h
theorem d_X7_reasonFor_88 : decode cX7_reasonFor 88 = .ok (.ifCond .eq 7, 3) := by decide +kernel
theorem s_X7_reasonFor_88 {x : Int32} (h1 : x = 0 → AP M_X7_reasonFor b 95 [x0, x1, x2, x3, x4, x5] st hi g Φ) (h2 : ¬ x = 0 → AP M_X7_reasonFor b 91 [x0, x1, x2, x3, x4, x5] st hi g Φ) : AP M_X7_reasonFor b 88 [x0, x1, x2, x3, x4, x5] (.int x :: st) hi g Φ := AP.if_eq d_X7_reasonFor_88 (by decide) h1 h2
theorem d_X7_reasonFor_91 : decode cX7_reasonFor 91 = .ok (.iconst 2, 1) := by decide +kernel
theorem s_X7_reasonFor_91 (h : AP M_X7_reasonFor b 92 [x0, x1, x2, x3, x4, x5] (.int 2 :: st) hi g Φ) : AP M_X7_reasonFor b 91 [x0, x1, x2, x3, x4, x5] (st) hi g Φ := AP.iconst (x := 2) d_X7_reasonFor_91 (by decide) h
theorem d_X7_reasonFor_92 : decode cX7_reasonFor 92 = .ok (.goto 4, 3) := by decide +kernel
theorem s_X7_reasonFor_92 (h : AP M_X7_reasonFor b 96 [x0, x1, x2, x3, x4, x5] st hi g Φ) : AP M_X7_reasonFor b 92 [x0, x1, x2, x3, x4, x5] st hi g Φ := AP.goto d_X7_reasonFor_92 (by decide) h
theorem d_X7_reasonFor_95 : decode cX7_reasonFor 95 = .ok (.iconst 3, 1) := by decide +kernel
theorem s_X7_reasonFor_95 (h : AP M_X7_reasonFor b 96 [x0, x1, x2, x3, x4, x5] (.int 3 :: st) hi g Φ) : AP M_X7_reasonFor b 95 [x0, x1, x2, x3, x4, x5] (st) hi g Φ := AP.iconst (x := 3) d_X7_reasonFor_95 (by decide) h
theorem d_X7_reasonFor_96 : decode cX7_reasonFor 96 = .ok (.ireturn, 1) := by decide +kernel
theorem s_X7_reasonFor_96 {x : Int32} (h : Φ (.ok (some (.int x))) hi g) : AP M_X7_reasonFor b 96 [x0, x1, x2, x3, x4, x5] [.int x] hi g Φ := AP.iret d_X7_reasonFor_96 rfl h
end
section
variable {b : Nat × Nat} {st : List Value} {hi : am_HI} {g : am_G} {Φ : am_P} {x0 x1 x2 : Value}
theorem d_X7_sumOfBlocks_0 : decode cX7_sumOfBlocks 0 = .ok (.iconst 0, 1) := by decide +kernel
theorem s_X7_sumOfBlocks_0 (h : AP M_X7_sumOfBlocks b 1 [x0, x1, x2] (.int 0 :: st) hi g Φ) : AP M_X7_sumOfBlocks b 0 [x0, x1, x2] (st) hi g Φ := AP.iconst (x := 0) d_X7_sumOfBlocks_0 (by decide) h
theorem d_X7_sumOfBlocks_1 : decode cX7_sumOfBlocks 1 = .ok (.istore_n 1, 1) := by decide +kernel
theorem s_X7_sumOfBlocks_1 {n : Int32} (hc : x0.category = 1) (h : AP M_X7_sumOfBlocks b 2 [x0, .int n, x2] (st) hi g Φ) : AP M_X7_sumOfBlocks b 1 [x0, x1, x2] (.int n :: st) hi g Φ := AP.istore_n (x := n) (i := 1) d_X7_sumOfBlocks_1 rfl (by decide) (by simp [am_st, am_ci, am_cr, am_cl, am_cd, hc]) h
theorem d_X7_sumOfBlocks_2 : decode cX7_sumOfBlocks 2 = .ok (.iconst 0, 1) := by decide +kernel
theorem s_X7_sumOfBlocks_2 (h : AP M_X7_sumOfBlocks b 3 [x0, x1, x2] (.int 0 :: st) hi g Φ) : AP M_X7_sumOfBlocks b 2 [x0, x1, x2] (st) hi g Φ := AP.iconst (x := 0) d_X7_sumOfBlocks_2 (by decide) h
theorem d_X7_sumOfBlocks_3 : decode cX7_sumOfBlocks 3 = .ok (.istore_n 2, 1) := by decide +kernel
theorem s_X7_sumOfBlocks_3 {n : Int32} (hc : x1.category = 1) (h : AP M_X7_sumOfBlocks b 4 [x0, x1, .int n] (st) hi g Φ) : AP M_X7_sumOfBlocks b 3 [x0, x1, x2] (.int n :: st) hi g Φ := AP.istore_n (x := n) (i := 2) d_X7_sumOfBlocks_3 rfl (by decide) (by simp [am_st, am_ci, am_cr, am_cl, am_cd, hc]) h
theorem d_X7_sumOfBlocks_4 : decode cX7_sumOfBlocks 4 = .ok (.iload_n 2, 1) := by decide +kernel
theorem s_X7_sumOfBlocks_4 {n : Int32} (h : AP M_X7_sumOfBlocks b 5 [x0, x1, .int n] (.int n :: st) hi g Φ) : AP M_X7_sumOfBlocks b 4 [x0, x1, .int n] (st) hi g Φ := AP.iload_n (x := n) (i := 2) d_X7_sumOfBlocks_4 rfl rfl h
theorem d_X7_sumOfBlocks_5 : decode cX7_sumOfBlocks 5 = .ok (.aload_n 0, 1) := by decide +kernel
theorem s_X7_sumOfBlocks_5 {n : Nat} (h : AP M_X7_sumOfBlocks b 6 [.ref n, x1, x2] (.ref n :: st) hi g Φ) : AP M_X7_sumOfBlocks b 5 [.ref n, x1, x2] (st) hi g Φ := AP.aload_n (x := n) (i := 0) d_X7_sumOfBlocks_5 rfl rfl h
theorem d_X7_sumOfBlocks_6 : decode cX7_sumOfBlocks 6 = .ok (.getfield 12, 3) := by decide +kernel
theorem s_X7_sumOfBlocks_6 {k r : Nat} (hI : am_Inv g) (hs : am_SH k = (0, 7)) (hk : k < 134) (hr : am_HRf k 0 = some r) (hn : k ≠ 39) (h : AP M_X7_sumOfBlocks b 9 [x0, x1, x2] (.ref r :: st) hi g Φ) : AP M_X7_sumOfBlocks b 6 [x0, x1, x2] (.ref k :: st) hi g Φ := AP.getR (j := 0) (q := (RX7, TX7, 7)) d_X7_sumOfBlocks_6 hs (hI.lt hk) rfl (by decide) (by decide) w_226 (hI.r hn hr) h
theorem d_X7_sumOfBlocks_9 : decode cX7_sumOfBlocks 9 = .ok (.getfield 57, 3) := by decide +kernel
theorem s_X7_sumOfBlocks_9 {k : Nat} (hI : am_Inv g) (hs : am_SH k = (0, 6)) (hk : k < 134) (h : AP M_X7_sumOfBlocks b 12 [x0, x1, x2] (.int (hi k 3) :: st) hi g Φ) : AP M_X7_sumOfBlocks b 9 [x0, x1, x2] (.ref k :: st) hi g Φ := AP.getI (j := 3) (q := (RX6, TX6, 8)) d_X7_sumOfBlocks_9 hs (hI.lt hk) rfl (by decide) (by decide) w_167 h
theorem d_X7_sumOfBlocks_12 : decode cX7_sumOfBlocks 12 = .ok (.invokestatic 106, 3) := by decide +kernel
theorem s_X7_sumOfBlocks_12 {a0 : Int32} {r0 : Int32} {P : am_HI → Prop} (hI : am_Inv g) (hst : (st.map Value.category).sum ≤ 8) (hc : am_Cr M_X9_blocksOf [.int a0] hi g (some (.int r0)) P) (h : ∀ hi' : am_HI, P hi' → AP M_X7_sumOfBlocks b 15 [x0, x1, x2] (.int r0 :: st) hi' g Φ) : AP M_X7_sumOfBlocks b 12 [x0, x1, x2] (.int a0 :: st) hi g Φ := AP.callNr (As := [.int a0]) hI hc k_X7_sumOfBlocks_106 d_X7_sumOfBlocks_12 rfl hst h
theorem d_X7_sumOfBlocks_15 : decode cX7_sumOfBlocks 15 = .ok (.if_icmp .ge 24, 3) := by decide +kernel
theorem s_X7_sumOfBlocks_15 {x y : Int32} (h1 : y ≤ x → AP M_X7_sumOfBlocks b 39 [x0, x1, x2] st hi g Φ) (h2 : ¬ y ≤ x → AP M_X7_sumOfBlocks b 18 [x0, x1, x2] st hi g Φ) : AP M_X7_sumOfBlocks b 15 [x0, x1, x2] (.int y :: .int x :: st) hi g Φ := AP.icmp_ge d_X7_sumOfBlocks_15 (by decide) h1 h2
theorem d_X7_sumOfBlocks_18 : decode cX7_sumOfBlocks 18 = .ok (.iload_n 1, 1) := by decide +kernel
theorem s_X7_sumOfBlocks_18 {n : Int32} (h : AP M_X7_sumOfBlocks b 19 [x0, .int n, x2] (.int n :: st) hi g Φ) : AP M_X7_sumOfBlocks b 18 [x0, .int n, x2] (st) hi g Φ := AP.iload_n (x := n) (i := 1) d_X7_sumOfBlocks_18 rfl rfl h
theorem d_X7_sumOfBlocks_19 : decode cX7_sumOfBlocks 19 = .ok (.aload_n 0, 1) := by decide +kernel
theorem s_X7_sumOfBlocks_19 {n : Nat} (h : AP M_X7_sumOfBlocks b 20 [.ref n, x1, x2] (.ref n :: st) hi g Φ) : AP M_X7_sumOfBlocks b 19 [.ref n, x1, x2] (st) hi g Φ := AP.aload_n (x := n) (i := 0) d_X7_sumOfBlocks_19 rfl rfl h
theorem d_X7_sumOfBlocks_20 : decode cX7_sumOfBlocks 20 = .ok (.getfield 40, 3) := by decide +kernel
theorem s_X7_sumOfBlocks_20 {k r : Nat} (hI : am_Inv g) (hs : am_SH k = (0, 7)) (hk : k < 134) (hr : am_HRf k 6 = some r) (hn : k ≠ 39) (h : AP M_X7_sumOfBlocks b 23 [x0, x1, x2] (.ref r :: st) hi g Φ) : AP M_X7_sumOfBlocks b 20 [x0, x1, x2] (.ref k :: st) hi g Φ := AP.getR (j := 6) (q := (RX7, TX7, 7)) d_X7_sumOfBlocks_20 hs (hI.lt hk) rfl (by decide) (by decide) w_236 (hI.r hn hr) h
theorem d_X7_sumOfBlocks_23 : decode cX7_sumOfBlocks 23 = .ok (.aload_n 0, 1) := by decide +kernel
theorem s_X7_sumOfBlocks_23 {n : Nat} (h : AP M_X7_sumOfBlocks b 24 [.ref n, x1, x2] (.ref n :: st) hi g Φ) : AP M_X7_sumOfBlocks b 23 [.ref n, x1, x2] (st) hi g Φ := AP.aload_n (x := n) (i := 0) d_X7_sumOfBlocks_23 rfl rfl h
theorem d_X7_sumOfBlocks_24 : decode cX7_sumOfBlocks 24 = .ok (.iload_n 2, 1) := by decide +kernel
theorem s_X7_sumOfBlocks_24 {n : Int32} (h : AP M_X7_sumOfBlocks b 25 [x0, x1, .int n] (.int n :: st) hi g Φ) : AP M_X7_sumOfBlocks b 24 [x0, x1, .int n] (st) hi g Φ := AP.iload_n (x := n) (i := 2) d_X7_sumOfBlocks_24 rfl rfl h
theorem d_X7_sumOfBlocks_25 : decode cX7_sumOfBlocks 25 = .ok (.invokevirtual 130, 3) := by decide +kernel
theorem s_X7_sumOfBlocks_25 {a0 : Int32} {k : Nat} {r0 : Int32} {P : am_HI → Prop} (hI : am_Inv g) (hs : am_SH k = (0, 7)) (hk : k < 134) (hst : (st.map Value.category).sum ≤ 8) (hc : am_Cr M_X7_kindFor [.ref k, .int a0] hi g (some (.int r0)) P) (h : ∀ hi' : am_HI, P hi' → AP M_X7_sumOfBlocks b 28 [x0, x1, x2] (.int r0 :: st) hi' g Φ) : AP M_X7_sumOfBlocks b 25 [x0, x1, x2] (.int a0 :: .ref k :: st) hi g Φ := AP.callVr (As := [.int a0]) (q := (RX7, TX7, 7)) hI hc k_X7_sumOfBlocks_130 d_X7_sumOfBlocks_25 rfl hs hk rfl rfl hst h
theorem d_X7_sumOfBlocks_28 : decode cX7_sumOfBlocks 28 = .ok (.aaload, 1) := by decide +kernel
theorem s_X7_sumOfBlocks_28 {k n j r : Nat} {i : Int32} (hI : am_Inv g) (hs : am_SH k = (6, n)) (hk : k < 134) (hn : n < 2 ^ 31) (hx : i = nI j) (hj : j < n) (hr : g.2.1 k j = some r) (h : AP M_X7_sumOfBlocks b 29 [x0, x1, x2] (.ref r :: st) hi g Φ) : AP M_X7_sumOfBlocks b 28 [x0, x1, x2] (.int i :: .ref k :: st) hi g Φ := AP.rald d_X7_sumOfBlocks_28 hs (hI.lt hk) hn hx hj hr h
theorem s_X7_sumOfBlocks_28a {k n j r : Nat} {i : Int32} (hI : am_Inv g) (hs : am_SH k = (5, n)) (hk : k < 134) (hn : n < 2 ^ 31) (hx : i = nI j) (hj : j < n) (hr : g.2.1 k j = some r) (h : AP M_X7_sumOfBlocks b 29 [x0, x1, x2] (.ref r :: st) hi g Φ) : AP M_X7_sumOfBlocks b 28 [x0, x1, x2] (.int i :: .ref k :: st) hi g Φ := AP.aald d_X7_sumOfBlocks_28 hs (hI.lt hk) hn hx hj hr h
theorem d_X7_sumOfBlocks_29 : decode cX7_sumOfBlocks 29 = .ok (.iload_n 2, 1) := by decide +kernel
theorem s_X7_sumOfBlocks_29 {n : Int32} (h : AP M_X7_sumOfBlocks b 30 [x0, x1, .int n] (.int n :: st) hi g Φ) : AP M_X7_sumOfBlocks b 29 [x0, x1, .int n] (st) hi g Φ := AP.iload_n (x := n) (i := 2) d_X7_sumOfBlocks_29 rfl rfl h
theorem d_X7_sumOfBlocks_30 : decode cX7_sumOfBlocks 30 = .ok (.iaload, 1) := by decide +kernel
theorem s_X7_sumOfBlocks_30 {k n j : Nat} {i : Int32} (hI : am_Inv g) (hs : am_SH k = (1, n)) (hk : k < 134) (hn : n < 2 ^ 31) (hx : i = nI j) (hj : j < n) (h : AP M_X7_sumOfBlocks b 31 [x0, x1, x2] (.int (hi k j) :: st) hi g Φ) : AP M_X7_sumOfBlocks b 30 [x0, x1, x2] (.int i :: .ref k :: st) hi g Φ := AP.iald d_X7_sumOfBlocks_30 hs (hI.lt hk) hn hx hj h
theorem d_X7_sumOfBlocks_31 : decode cX7_sumOfBlocks 31 = .ok (.iadd, 1) := by decide +kernel
theorem s_X7_sumOfBlocks_31 {x y : Int32} (h : AP M_X7_sumOfBlocks b 32 [x0, x1, x2] (.int (x + y) :: st) hi g Φ) : AP M_X7_sumOfBlocks b 31 [x0, x1, x2] (.int y :: .int x :: st) hi g Φ := AP.iadd d_X7_sumOfBlocks_31 h
theorem d_X7_sumOfBlocks_32 : decode cX7_sumOfBlocks 32 = .ok (.istore_n 1, 1) := by decide +kernel
theorem s_X7_sumOfBlocks_32 {n : Int32} (hc : x0.category = 1) (h : AP M_X7_sumOfBlocks b 33 [x0, .int n, x2] (st) hi g Φ) : AP M_X7_sumOfBlocks b 32 [x0, x1, x2] (.int n :: st) hi g Φ := AP.istore_n (x := n) (i := 1) d_X7_sumOfBlocks_32 rfl (by decide) (by simp [am_st, am_ci, am_cr, am_cl, am_cd, hc]) h
theorem d_X7_sumOfBlocks_33 : decode cX7_sumOfBlocks 33 = .ok (.iinc 2 1, 3) := by decide +kernel
theorem s_X7_sumOfBlocks_33 {n : Int32} (hc : x1.category = 1) (h : AP M_X7_sumOfBlocks b 36 [x0, x1, .int (n + 1)] (st) hi g Φ) : AP M_X7_sumOfBlocks b 33 [x0, x1, .int n] (st) hi g Φ := AP.iinc (i := 2) (x := n) (y := n + 1) d_X7_sumOfBlocks_33 rfl rfl (by decide) (by simp [am_st, am_ci, am_cr, am_cl, am_cd, hc]) h
theorem d_X7_sumOfBlocks_36 : decode cX7_sumOfBlocks 36 = .ok (.goto (-32), 3) := by decide +kernel
theorem s_X7_sumOfBlocks_36 (h : AP M_X7_sumOfBlocks b 4 [x0, x1, x2] st hi g Φ) : AP M_X7_sumOfBlocks b 36 [x0, x1, x2] st hi g Φ := AP.goto d_X7_sumOfBlocks_36 (by decide) h
theorem d_X7_sumOfBlocks_39 : decode cX7_sumOfBlocks 39 = .ok (.iload_n 1, 1) := by decide +kernel
theorem s_X7_sumOfBlocks_39 {n : Int32} (h : AP M_X7_sumOfBlocks b 40 [x0, .int n, x2] (.int n :: st) hi g Φ) : AP M_X7_sumOfBlocks b 39 [x0, .int n, x2] (st) hi g Φ := AP.iload_n (x := n) (i := 1) d_X7_sumOfBlocks_39 rfl rfl h
theorem d_X7_sumOfBlocks_40 : decode cX7_sumOfBlocks 40 = .ok (.ireturn, 1) := by decide +kernel
theorem s_X7_sumOfBlocks_40 {x : Int32} (h : Φ (.ok (some (.int x))) hi g) : AP M_X7_sumOfBlocks b 40 [x0, x1, x2] [.int x] hi g Φ := AP.iret d_X7_sumOfBlocks_40 rfl h
end
section
variable {b : Nat × Nat} {st : List Value} {hi : am_HI} {g : am_G} {Φ : am_P} {x0 x1 x2 x3 : Value}
theorem d_X7_sumOfBlocksWith_0 : decode cX7_sumOfBlocksWith 0 = .ok (.iconst 0, 1) := by decide +kernel
theorem s_X7_sumOfBlocksWith_0 (h : AP M_X7_sumOfBlocksWith b 1 [x0, x1, x2, x3] (.int 0 :: st) hi g Φ) : AP M_X7_sumOfBlocksWith b 0 [x0, x1, x2, x3] (st) hi g Φ := AP.iconst (x := 0) d_X7_sumOfBlocksWith_0 (by decide) h
theorem d_X7_sumOfBlocksWith_1 : decode cX7_sumOfBlocksWith 1 = .ok (.istore_n 2, 1) := by decide +kernel
theorem s_X7_sumOfBlocksWith_1 {n : Int32} (hc : x1.category = 1) (h : AP M_X7_sumOfBlocksWith b 2 [x0, x1, .int n, x3] (st) hi g Φ) : AP M_X7_sumOfBlocksWith b 1 [x0, x1, x2, x3] (.int n :: st) hi g Φ := AP.istore_n (x := n) (i := 2) d_X7_sumOfBlocksWith_1 rfl (by decide) (by simp [am_st, am_ci, am_cr, am_cl, am_cd, hc]) h
theorem d_X7_sumOfBlocksWith_2 : decode cX7_sumOfBlocksWith 2 = .ok (.iconst 0, 1) := by decide +kernel
theorem s_X7_sumOfBlocksWith_2 (h : AP M_X7_sumOfBlocksWith b 3 [x0, x1, x2, x3] (.int 0 :: st) hi g Φ) : AP M_X7_sumOfBlocksWith b 2 [x0, x1, x2, x3] (st) hi g Φ := AP.iconst (x := 0) d_X7_sumOfBlocksWith_2 (by decide) h
theorem d_X7_sumOfBlocksWith_3 : decode cX7_sumOfBlocksWith 3 = .ok (.istore_n 3, 1) := by decide +kernel
theorem s_X7_sumOfBlocksWith_3 {n : Int32} (hc : x2.category = 1) (h : AP M_X7_sumOfBlocksWith b 4 [x0, x1, x2, .int n] (st) hi g Φ) : AP M_X7_sumOfBlocksWith b 3 [x0, x1, x2, x3] (.int n :: st) hi g Φ := AP.istore_n (x := n) (i := 3) d_X7_sumOfBlocksWith_3 rfl (by decide) (by simp [am_st, am_ci, am_cr, am_cl, am_cd, hc]) h
theorem d_X7_sumOfBlocksWith_4 : decode cX7_sumOfBlocksWith 4 = .ok (.iload_n 3, 1) := by decide +kernel
theorem s_X7_sumOfBlocksWith_4 {n : Int32} (h : AP M_X7_sumOfBlocksWith b 5 [x0, x1, x2, .int n] (.int n :: st) hi g Φ) : AP M_X7_sumOfBlocksWith b 4 [x0, x1, x2, .int n] (st) hi g Φ := AP.iload_n (x := n) (i := 3) d_X7_sumOfBlocksWith_4 rfl rfl h
theorem d_X7_sumOfBlocksWith_5 : decode cX7_sumOfBlocksWith 5 = .ok (.aload_n 0, 1) := by decide +kernel
theorem s_X7_sumOfBlocksWith_5 {n : Nat} (h : AP M_X7_sumOfBlocksWith b 6 [.ref n, x1, x2, x3] (.ref n :: st) hi g Φ) : AP M_X7_sumOfBlocksWith b 5 [.ref n, x1, x2, x3] (st) hi g Φ := AP.aload_n (x := n) (i := 0) d_X7_sumOfBlocksWith_5 rfl rfl h
theorem d_X7_sumOfBlocksWith_6 : decode cX7_sumOfBlocksWith 6 = .ok (.getfield 12, 3) := by decide +kernel
theorem s_X7_sumOfBlocksWith_6 {k r : Nat} (hI : am_Inv g) (hs : am_SH k = (0, 7)) (hk : k < 134) (hr : am_HRf k 0 = some r) (hn : k ≠ 39) (h : AP M_X7_sumOfBlocksWith b 9 [x0, x1, x2, x3] (.ref r :: st) hi g Φ) : AP M_X7_sumOfBlocksWith b 6 [x0, x1, x2, x3] (.ref k :: st) hi g Φ := AP.getR (j := 0) (q := (RX7, TX7, 7)) d_X7_sumOfBlocksWith_6 hs (hI.lt hk) rfl (by decide) (by decide) w_226 (hI.r hn hr) h
theorem d_X7_sumOfBlocksWith_9 : decode cX7_sumOfBlocksWith 9 = .ok (.getfield 57, 3) := by decide +kernel
theorem s_X7_sumOfBlocksWith_9 {k : Nat} (hI : am_Inv g) (hs : am_SH k = (0, 6)) (hk : k < 134) (h : AP M_X7_sumOfBlocksWith b 12 [x0, x1, x2, x3] (.int (hi k 3) :: st) hi g Φ) : AP M_X7_sumOfBlocksWith b 9 [x0, x1, x2, x3] (.ref k :: st) hi g Φ := AP.getI (j := 3) (q := (RX6, TX6, 8)) d_X7_sumOfBlocksWith_9 hs (hI.lt hk) rfl (by decide) (by decide) w_167 h
theorem d_X7_sumOfBlocksWith_12 : decode cX7_sumOfBlocksWith 12 = .ok (.invokestatic 106, 3) := by decide +kernel
theorem s_X7_sumOfBlocksWith_12 {a0 : Int32} {r0 : Int32} {P : am_HI → Prop} (hI : am_Inv g) (hst : (st.map Value.category).sum ≤ 8) (hc : am_Cr M_X9_blocksOf [.int a0] hi g (some (.int r0)) P) (h : ∀ hi' : am_HI, P hi' → AP M_X7_sumOfBlocksWith b 15 [x0, x1, x2, x3] (.int r0 :: st) hi' g Φ) : AP M_X7_sumOfBlocksWith b 12 [x0, x1, x2, x3] (.int a0 :: st) hi g Φ := AP.callNr (As := [.int a0]) hI hc k_X7_sumOfBlocksWith_106 d_X7_sumOfBlocksWith_12 rfl hst h
theorem d_X7_sumOfBlocksWith_15 : decode cX7_sumOfBlocksWith 15 = .ok (.if_icmp .ge 33, 3) := by decide +kernel
theorem s_X7_sumOfBlocksWith_15 {x y : Int32} (h1 : y ≤ x → AP M_X7_sumOfBlocksWith b 48 [x0, x1, x2, x3] st hi g Φ) (h2 : ¬ y ≤ x → AP M_X7_sumOfBlocksWith b 18 [x0, x1, x2, x3] st hi g Φ) : AP M_X7_sumOfBlocksWith b 15 [x0, x1, x2, x3] (.int y :: .int x :: st) hi g Φ := AP.icmp_ge d_X7_sumOfBlocksWith_15 (by decide) h1 h2
theorem d_X7_sumOfBlocksWith_18 : decode cX7_sumOfBlocksWith 18 = .ok (.iload_n 2, 1) := by decide +kernel
theorem s_X7_sumOfBlocksWith_18 {n : Int32} (h : AP M_X7_sumOfBlocksWith b 19 [x0, x1, .int n, x3] (.int n :: st) hi g Φ) : AP M_X7_sumOfBlocksWith b 18 [x0, x1, .int n, x3] (st) hi g Φ := AP.iload_n (x := n) (i := 2) d_X7_sumOfBlocksWith_18 rfl rfl h
theorem d_X7_sumOfBlocksWith_19 : decode cX7_sumOfBlocksWith 19 = .ok (.aload_n 0, 1) := by decide +kernel
theorem s_X7_sumOfBlocksWith_19 {n : Nat} (h : AP M_X7_sumOfBlocksWith b 20 [.ref n, x1, x2, x3] (.ref n :: st) hi g Φ) : AP M_X7_sumOfBlocksWith b 19 [.ref n, x1, x2, x3] (st) hi g Φ := AP.aload_n (x := n) (i := 0) d_X7_sumOfBlocksWith_19 rfl rfl h
theorem d_X7_sumOfBlocksWith_20 : decode cX7_sumOfBlocksWith 20 = .ok (.iload_n 3, 1) := by decide +kernel
theorem s_X7_sumOfBlocksWith_20 {n : Int32} (h : AP M_X7_sumOfBlocksWith b 21 [x0, x1, x2, .int n] (.int n :: st) hi g Φ) : AP M_X7_sumOfBlocksWith b 20 [x0, x1, x2, .int n] (st) hi g Φ := AP.iload_n (x := n) (i := 3) d_X7_sumOfBlocksWith_20 rfl rfl h
theorem d_X7_sumOfBlocksWith_21 : decode cX7_sumOfBlocksWith 21 = .ok (.invokevirtual 130, 3) := by decide +kernel
theorem s_X7_sumOfBlocksWith_21 {a0 : Int32} {k : Nat} {r0 : Int32} {P : am_HI → Prop} (hI : am_Inv g) (hs : am_SH k = (0, 7)) (hk : k < 134) (hst : (st.map Value.category).sum ≤ 8) (hc : am_Cr M_X7_kindFor [.ref k, .int a0] hi g (some (.int r0)) P) (h : ∀ hi' : am_HI, P hi' → AP M_X7_sumOfBlocksWith b 24 [x0, x1, x2, x3] (.int r0 :: st) hi' g Φ) : AP M_X7_sumOfBlocksWith b 21 [x0, x1, x2, x3] (.int a0 :: .ref k :: st) hi g Φ := AP.callVr (As := [.int a0]) (q := (RX7, TX7, 7)) hI hc k_X7_sumOfBlocksWith_130 d_X7_sumOfBlocksWith_21 rfl hs hk rfl rfl hst h
theorem d_X7_sumOfBlocksWith_24 : decode cX7_sumOfBlocksWith 24 = .ok (.iload_n 1, 1) := by decide +kernel
theorem s_X7_sumOfBlocksWith_24 {n : Int32} (h : AP M_X7_sumOfBlocksWith b 25 [x0, .int n, x2, x3] (.int n :: st) hi g Φ) : AP M_X7_sumOfBlocksWith b 24 [x0, .int n, x2, x3] (st) hi g Φ := AP.iload_n (x := n) (i := 1) d_X7_sumOfBlocksWith_24 rfl rfl h
theorem d_X7_sumOfBlocksWith_25 : decode cX7_sumOfBlocksWith 25 = .ok (.if_icmp .ne 14, 3) := by decide +kernel
theorem s_X7_sumOfBlocksWith_25 {x y : Int32} (h1 : ¬ x = y → AP M_X7_sumOfBlocksWith b 39 [x0, x1, x2, x3] st hi g Φ) (h2 : x = y → AP M_X7_sumOfBlocksWith b 28 [x0, x1, x2, x3] st hi g Φ) : AP M_X7_sumOfBlocksWith b 25 [x0, x1, x2, x3] (.int y :: .int x :: st) hi g Φ := AP.icmp_ne d_X7_sumOfBlocksWith_25 (by decide) h1 h2
theorem d_X7_sumOfBlocksWith_28 : decode cX7_sumOfBlocksWith 28 = .ok (.aload_n 0, 1) := by decide +kernel
theorem s_X7_sumOfBlocksWith_28 {n : Nat} (h : AP M_X7_sumOfBlocksWith b 29 [.ref n, x1, x2, x3] (.ref n :: st) hi g Φ) : AP M_X7_sumOfBlocksWith b 28 [.ref n, x1, x2, x3] (st) hi g Φ := AP.aload_n (x := n) (i := 0) d_X7_sumOfBlocksWith_28 rfl rfl h
theorem d_X7_sumOfBlocksWith_29 : decode cX7_sumOfBlocksWith 29 = .ok (.getfield 40, 3) := by decide +kernel
theorem s_X7_sumOfBlocksWith_29 {k r : Nat} (hI : am_Inv g) (hs : am_SH k = (0, 7)) (hk : k < 134) (hr : am_HRf k 6 = some r) (hn : k ≠ 39) (h : AP M_X7_sumOfBlocksWith b 32 [x0, x1, x2, x3] (.ref r :: st) hi g Φ) : AP M_X7_sumOfBlocksWith b 29 [x0, x1, x2, x3] (.ref k :: st) hi g Φ := AP.getR (j := 6) (q := (RX7, TX7, 7)) d_X7_sumOfBlocksWith_29 hs (hI.lt hk) rfl (by decide) (by decide) w_236 (hI.r hn hr) h
theorem d_X7_sumOfBlocksWith_32 : decode cX7_sumOfBlocksWith 32 = .ok (.iload_n 1, 1) := by decide +kernel
theorem s_X7_sumOfBlocksWith_32 {n : Int32} (h : AP M_X7_sumOfBlocksWith b 33 [x0, .int n, x2, x3] (.int n :: st) hi g Φ) : AP M_X7_sumOfBlocksWith b 32 [x0, .int n, x2, x3] (st) hi g Φ := AP.iload_n (x := n) (i := 1) d_X7_sumOfBlocksWith_32 rfl rfl h
theorem d_X7_sumOfBlocksWith_33 : decode cX7_sumOfBlocksWith 33 = .ok (.aaload, 1) := by decide +kernel
theorem s_X7_sumOfBlocksWith_33 {k n j r : Nat} {i : Int32} (hI : am_Inv g) (hs : am_SH k = (6, n)) (hk : k < 134) (hn : n < 2 ^ 31) (hx : i = nI j) (hj : j < n) (hr : g.2.1 k j = some r) (h : AP M_X7_sumOfBlocksWith b 34 [x0, x1, x2, x3] (.ref r :: st) hi g Φ) : AP M_X7_sumOfBlocksWith b 33 [x0, x1, x2, x3] (.int i :: .ref k :: st) hi g Φ := AP.rald d_X7_sumOfBlocksWith_33 hs (hI.lt hk) hn hx hj hr h
theorem s_X7_sumOfBlocksWith_33a {k n j r : Nat} {i : Int32} (hI : am_Inv g) (hs : am_SH k = (5, n)) (hk : k < 134) (hn : n < 2 ^ 31) (hx : i = nI j) (hj : j < n) (hr : g.2.1 k j = some r) (h : AP M_X7_sumOfBlocksWith b 34 [x0, x1, x2, x3] (.ref r :: st) hi g Φ) : AP M_X7_sumOfBlocksWith b 33 [x0, x1, x2, x3] (.int i :: .ref k :: st) hi g Φ := AP.aald d_X7_sumOfBlocksWith_33 hs (hI.lt hk) hn hx hj hr h
theorem d_X7_sumOfBlocksWith_34 : decode cX7_sumOfBlocksWith 34 = .ok (.iload_n 3, 1) := by decide +kernel
theorem s_X7_sumOfBlocksWith_34 {n : Int32} (h : AP M_X7_sumOfBlocksWith b 35 [x0, x1, x2, .int n] (.int n :: st) hi g Φ) : AP M_X7_sumOfBlocksWith b 34 [x0, x1, x2, .int n] (st) hi g Φ := AP.iload_n (x := n) (i := 3) d_X7_sumOfBlocksWith_34 rfl rfl h
theorem d_X7_sumOfBlocksWith_35 : decode cX7_sumOfBlocksWith 35 = .ok (.iaload, 1) := by decide +kernel
theorem s_X7_sumOfBlocksWith_35 {k n j : Nat} {i : Int32} (hI : am_Inv g) (hs : am_SH k = (1, n)) (hk : k < 134) (hn : n < 2 ^ 31) (hx : i = nI j) (hj : j < n) (h : AP M_X7_sumOfBlocksWith b 36 [x0, x1, x2, x3] (.int (hi k j) :: st) hi g Φ) : AP M_X7_sumOfBlocksWith b 35 [x0, x1, x2, x3] (.int i :: .ref k :: st) hi g Φ := AP.iald d_X7_sumOfBlocksWith_35 hs (hI.lt hk) hn hx hj h
theorem d_X7_sumOfBlocksWith_36 : decode cX7_sumOfBlocksWith 36 = .ok (.goto 4, 3) := by decide +kernel
theorem s_X7_sumOfBlocksWith_36 (h : AP M_X7_sumOfBlocksWith b 40 [x0, x1, x2, x3] st hi g Φ) : AP M_X7_sumOfBlocksWith b 36 [x0, x1, x2, x3] st hi g Φ := AP.goto d_X7_sumOfBlocksWith_36 (by decide) h
theorem d_X7_sumOfBlocksWith_39 : decode cX7_sumOfBlocksWith 39 = .ok (.iconst 0, 1) := by decide +kernel
theorem s_X7_sumOfBlocksWith_39 (h : AP M_X7_sumOfBlocksWith b 40 [x0, x1, x2, x3] (.int 0 :: st) hi g Φ) : AP M_X7_sumOfBlocksWith b 39 [x0, x1, x2, x3] (st) hi g Φ := AP.iconst (x := 0) d_X7_sumOfBlocksWith_39 (by decide) h
theorem d_X7_sumOfBlocksWith_40 : decode cX7_sumOfBlocksWith 40 = .ok (.iadd, 1) := by decide +kernel
theorem s_X7_sumOfBlocksWith_40 {x y : Int32} (h : AP M_X7_sumOfBlocksWith b 41 [x0, x1, x2, x3] (.int (x + y) :: st) hi g Φ) : AP M_X7_sumOfBlocksWith b 40 [x0, x1, x2, x3] (.int y :: .int x :: st) hi g Φ := AP.iadd d_X7_sumOfBlocksWith_40 h
theorem d_X7_sumOfBlocksWith_41 : decode cX7_sumOfBlocksWith 41 = .ok (.istore_n 2, 1) := by decide +kernel
theorem s_X7_sumOfBlocksWith_41 {n : Int32} (hc : x1.category = 1) (h : AP M_X7_sumOfBlocksWith b 42 [x0, x1, .int n, x3] (st) hi g Φ) : AP M_X7_sumOfBlocksWith b 41 [x0, x1, x2, x3] (.int n :: st) hi g Φ := AP.istore_n (x := n) (i := 2) d_X7_sumOfBlocksWith_41 rfl (by decide) (by simp [am_st, am_ci, am_cr, am_cl, am_cd, hc]) h
theorem d_X7_sumOfBlocksWith_42 : decode cX7_sumOfBlocksWith 42 = .ok (.iinc 3 1, 3) := by decide +kernel
theorem s_X7_sumOfBlocksWith_42 {n : Int32} (hc : x2.category = 1) (h : AP M_X7_sumOfBlocksWith b 45 [x0, x1, x2, .int (n + 1)] (st) hi g Φ) : AP M_X7_sumOfBlocksWith b 42 [x0, x1, x2, .int n] (st) hi g Φ := AP.iinc (i := 3) (x := n) (y := n + 1) d_X7_sumOfBlocksWith_42 rfl rfl (by decide) (by simp [am_st, am_ci, am_cr, am_cl, am_cd, hc]) h
theorem d_X7_sumOfBlocksWith_45 : decode cX7_sumOfBlocksWith 45 = .ok (.goto (-41), 3) := by decide +kernel
theorem s_X7_sumOfBlocksWith_45 (h : AP M_X7_sumOfBlocksWith b 4 [x0, x1, x2, x3] st hi g Φ) : AP M_X7_sumOfBlocksWith b 45 [x0, x1, x2, x3] st hi g Φ := AP.goto d_X7_sumOfBlocksWith_45 (by decide) h
theorem d_X7_sumOfBlocksWith_48 : decode cX7_sumOfBlocksWith 48 = .ok (.iload_n 2, 1) := by decide +kernel
theorem s_X7_sumOfBlocksWith_48 {n : Int32} (h : AP M_X7_sumOfBlocksWith b 49 [x0, x1, .int n, x3] (.int n :: st) hi g Φ) : AP M_X7_sumOfBlocksWith b 48 [x0, x1, .int n, x3] (st) hi g Φ := AP.iload_n (x := n) (i := 2) d_X7_sumOfBlocksWith_48 rfl rfl h
theorem d_X7_sumOfBlocksWith_49 : decode cX7_sumOfBlocksWith 49 = .ok (.ireturn, 1) := by decide +kernel
theorem s_X7_sumOfBlocksWith_49 {x : Int32} (h : Φ (.ok (some (.int x))) hi g) : AP M_X7_sumOfBlocksWith b 49 [x0, x1, x2, x3] [.int x] hi g Φ := AP.iret d_X7_sumOfBlocksWith_49 rfl h
end
section
variable {b : Nat × Nat} {st : List Value} {hi : am_HI} {g : am_G} {Φ : am_P} {x0 x1 x2 : Value}
theorem d_X7_findParameters_0 : decode cX7_findParameters 0 = .ok (.iconst 0, 1) := by decide +kernel
theorem s_X7_findParameters_0 (h : AP M_X7_findParameters b 1 [x0, x1, x2] (.int 0 :: st) hi g Φ) : AP M_X7_findParameters b 0 [x0, x1, x2] (st) hi g Φ := AP.iconst (x := 0) d_X7_findParameters_0 (by decide) h
theorem d_X7_findParameters_1 : decode cX7_findParameters 1 = .ok (.istore_n 1, 1) := by decide +kernel
theorem s_X7_findParameters_1 {n : Int32} (hc : x0.category = 1) (h : AP M_X7_findParameters b 2 [x0, .int n, x2] (st) hi g Φ) : AP M_X7_findParameters b 1 [x0, x1, x2] (.int n :: st) hi g Φ := AP.istore_n (x := n) (i := 1) d_X7_findParameters_1 rfl (by decide) (by simp [am_st, am_ci, am_cr, am_cl, am_cd, hc]) h
theorem d_X7_findParameters_2 : decode cX7_findParameters 2 = .ok (.iload_n 1, 1) := by decide +kernel
theorem s_X7_findParameters_2 {n : Int32} (h : AP M_X7_findParameters b 3 [x0, .int n, x2] (.int n :: st) hi g Φ) : AP M_X7_findParameters b 2 [x0, .int n, x2] (st) hi g Φ := AP.iload_n (x := n) (i := 1) d_X7_findParameters_2 rfl rfl h
theorem d_X7_findParameters_3 : decode cX7_findParameters 3 = .ok (.aload_n 0, 1) := by decide +kernel
theorem s_X7_findParameters_3 {n : Nat} (h : AP M_X7_findParameters b 4 [.ref n, x1, x2] (.ref n :: st) hi g Φ) : AP M_X7_findParameters b 3 [.ref n, x1, x2] (st) hi g Φ := AP.aload_n (x := n) (i := 0) d_X7_findParameters_3 rfl rfl h
theorem d_X7_findParameters_4 : decode cX7_findParameters 4 = .ok (.getfield 12, 3) := by decide +kernel
theorem s_X7_findParameters_4 {k r : Nat} (hI : am_Inv g) (hs : am_SH k = (0, 7)) (hk : k < 134) (hr : am_HRf k 0 = some r) (hn : k ≠ 39) (h : AP M_X7_findParameters b 7 [x0, x1, x2] (.ref r :: st) hi g Φ) : AP M_X7_findParameters b 4 [x0, x1, x2] (.ref k :: st) hi g Φ := AP.getR (j := 0) (q := (RX7, TX7, 7)) d_X7_findParameters_4 hs (hI.lt hk) rfl (by decide) (by decide) w_226 (hI.r hn hr) h
theorem d_X7_findParameters_7 : decode cX7_findParameters 7 = .ok (.getfield 57, 3) := by decide +kernel
theorem s_X7_findParameters_7 {k : Nat} (hI : am_Inv g) (hs : am_SH k = (0, 6)) (hk : k < 134) (h : AP M_X7_findParameters b 10 [x0, x1, x2] (.int (hi k 3) :: st) hi g Φ) : AP M_X7_findParameters b 7 [x0, x1, x2] (.ref k :: st) hi g Φ := AP.getI (j := 3) (q := (RX6, TX6, 8)) d_X7_findParameters_7 hs (hI.lt hk) rfl (by decide) (by decide) w_167 h
theorem d_X7_findParameters_10 : decode cX7_findParameters 10 = .ok (.invokestatic 106, 3) := by decide +kernel
theorem s_X7_findParameters_10 {a0 : Int32} {r0 : Int32} {P : am_HI → Prop} (hI : am_Inv g) (hst : (st.map Value.category).sum ≤ 8) (hc : am_Cr M_X9_blocksOf [.int a0] hi g (some (.int r0)) P) (h : ∀ hi' : am_HI, P hi' → AP M_X7_findParameters b 13 [x0, x1, x2] (.int r0 :: st) hi' g Φ) : AP M_X7_findParameters b 10 [x0, x1, x2] (.int a0 :: st) hi g Φ := AP.callNr (As := [.int a0]) hI hc k_X7_findParameters_106 d_X7_findParameters_10 rfl hst h
theorem d_X7_findParameters_13 : decode cX7_findParameters 13 = .ok (.if_icmp .ge 28, 3) := by decide +kernel
theorem s_X7_findParameters_13 {x y : Int32} (h1 : y ≤ x → AP M_X7_findParameters b 41 [x0, x1, x2] st hi g Φ) (h2 : ¬ y ≤ x → AP M_X7_findParameters b 16 [x0, x1, x2] st hi g Φ) : AP M_X7_findParameters b 13 [x0, x1, x2] (.int y :: .int x :: st) hi g Φ := AP.icmp_ge d_X7_findParameters_13 (by decide) h1 h2
theorem d_X7_findParameters_16 : decode cX7_findParameters 16 = .ok (.iconst 0, 1) := by decide +kernel
theorem s_X7_findParameters_16 (h : AP M_X7_findParameters b 17 [x0, x1, x2] (.int 0 :: st) hi g Φ) : AP M_X7_findParameters b 16 [x0, x1, x2] (st) hi g Φ := AP.iconst (x := 0) d_X7_findParameters_16 (by decide) h
theorem d_X7_findParameters_17 : decode cX7_findParameters 17 = .ok (.istore_n 2, 1) := by decide +kernel
theorem s_X7_findParameters_17 {n : Int32} (hc : x1.category = 1) (h : AP M_X7_findParameters b 18 [x0, x1, .int n] (st) hi g Φ) : AP M_X7_findParameters b 17 [x0, x1, x2] (.int n :: st) hi g Φ := AP.istore_n (x := n) (i := 2) d_X7_findParameters_17 rfl (by decide) (by simp [am_st, am_ci, am_cr, am_cl, am_cd, hc]) h
theorem d_X7_findParameters_18 : decode cX7_findParameters 18 = .ok (.iload_n 2, 1) := by decide +kernel
theorem s_X7_findParameters_18 {n : Int32} (h : AP M_X7_findParameters b 19 [x0, x1, .int n] (.int n :: st) hi g Φ) : AP M_X7_findParameters b 18 [x0, x1, .int n] (st) hi g Φ := AP.iload_n (x := n) (i := 2) d_X7_findParameters_18 rfl rfl h
theorem d_X7_findParameters_19 : decode cX7_findParameters 19 = .ok (.iconst 5, 1) := by decide +kernel
theorem s_X7_findParameters_19 (h : AP M_X7_findParameters b 20 [x0, x1, x2] (.int 5 :: st) hi g Φ) : AP M_X7_findParameters b 19 [x0, x1, x2] (st) hi g Φ := AP.iconst (x := 5) d_X7_findParameters_19 (by decide) h
theorem d_X7_findParameters_20 : decode cX7_findParameters 20 = .ok (.if_icmp .ge 15, 3) := by decide +kernel
theorem s_X7_findParameters_20 {x y : Int32} (h1 : y ≤ x → AP M_X7_findParameters b 35 [x0, x1, x2] st hi g Φ) (h2 : ¬ y ≤ x → AP M_X7_findParameters b 23 [x0, x1, x2] st hi g Φ) : AP M_X7_findParameters b 20 [x0, x1, x2] (.int y :: .int x :: st) hi g Φ := AP.icmp_ge d_X7_findParameters_20 (by decide) h1 h2
theorem d_X7_findParameters_23 : decode cX7_findParameters 23 = .ok (.aload_n 0, 1) := by decide +kernel
theorem s_X7_findParameters_23 {n : Nat} (h : AP M_X7_findParameters b 24 [.ref n, x1, x2] (.ref n :: st) hi g Φ) : AP M_X7_findParameters b 23 [.ref n, x1, x2] (st) hi g Φ := AP.aload_n (x := n) (i := 0) d_X7_findParameters_23 rfl rfl h
theorem d_X7_findParameters_24 : decode cX7_findParameters 24 = .ok (.iload_n 1, 1) := by decide +kernel
theorem s_X7_findParameters_24 {n : Int32} (h : AP M_X7_findParameters b 25 [x0, .int n, x2] (.int n :: st) hi g Φ) : AP M_X7_findParameters b 24 [x0, .int n, x2] (st) hi g Φ := AP.iload_n (x := n) (i := 1) d_X7_findParameters_24 rfl rfl h
theorem d_X7_findParameters_25 : decode cX7_findParameters 25 = .ok (.iload_n 2, 1) := by decide +kernel
theorem s_X7_findParameters_25 {n : Int32} (h : AP M_X7_findParameters b 26 [x0, x1, .int n] (.int n :: st) hi g Φ) : AP M_X7_findParameters b 25 [x0, x1, .int n] (st) hi g Φ := AP.iload_n (x := n) (i := 2) d_X7_findParameters_25 rfl rfl h
theorem d_X7_findParameters_26 : decode cX7_findParameters 26 = .ok (.invokevirtual 109, 3) := by decide +kernel
theorem s_X7_findParameters_26 {a0 : Int32} {a1 : Int32} {k : Nat} {P : am_HI → Prop} (hI : am_Inv g) (hs : am_SH k = (0, 7)) (hk : k < 134) (hst : (st.map Value.category).sum ≤ 8) (hc : am_Cr M_X7_findParameter [.ref k, .int a0, .int a1] hi g none P) (h : ∀ hi' : am_HI, P hi' → AP M_X7_findParameters b 29 [x0, x1, x2] (st) hi' g Φ) : AP M_X7_findParameters b 26 [x0, x1, x2] (.int a1 :: .int a0 :: .ref k :: st) hi g Φ := AP.callVr (As := [.int a0, .int a1]) (q := (RX7, TX7, 7)) hI hc k_X7_findParameters_109 d_X7_findParameters_26 rfl hs hk rfl rfl hst h
theorem d_X7_findParameters_29 : decode cX7_findParameters 29 = .ok (.iinc 2 1, 3) := by decide +kernel
theorem s_X7_findParameters_29 {n : Int32} (hc : x1.category = 1) (h : AP M_X7_findParameters b 32 [x0, x1, .int (n + 1)] (st) hi g Φ) : AP M_X7_findParameters b 29 [x0, x1, .int n] (st) hi g Φ := AP.iinc (i := 2) (x := n) (y := n + 1) d_X7_findParameters_29 rfl rfl (by decide) (by simp [am_st, am_ci, am_cr, am_cl, am_cd, hc]) h
theorem d_X7_findParameters_32 : decode cX7_findParameters 32 = .ok (.goto (-14), 3) := by decide +kernel
theorem s_X7_findParameters_32 (h : AP M_X7_findParameters b 18 [x0, x1, x2] st hi g Φ) : AP M_X7_findParameters b 32 [x0, x1, x2] st hi g Φ := AP.goto d_X7_findParameters_32 (by decide) h
theorem d_X7_findParameters_35 : decode cX7_findParameters 35 = .ok (.iinc 1 1, 3) := by decide +kernel
theorem s_X7_findParameters_35 {n : Int32} (hc : x0.category = 1) (h : AP M_X7_findParameters b 38 [x0, .int (n + 1), x2] (st) hi g Φ) : AP M_X7_findParameters b 35 [x0, .int n, x2] (st) hi g Φ := AP.iinc (i := 1) (x := n) (y := n + 1) d_X7_findParameters_35 rfl rfl (by decide) (by simp [am_st, am_ci, am_cr, am_cl, am_cd, hc]) h
theorem d_X7_findParameters_38 : decode cX7_findParameters 38 = .ok (.goto (-36), 3) := by decide +kernel
theorem s_X7_findParameters_38 (h : AP M_X7_findParameters b 2 [x0, x1, x2] st hi g Φ) : AP M_X7_findParameters b 38 [x0, x1, x2] st hi g Φ := AP.goto d_X7_findParameters_38 (by decide) h
theorem d_X7_findParameters_41 : decode cX7_findParameters 41 = .ok (.return_, 1) := by decide +kernel
theorem s_X7_findParameters_41 (h : Φ (.ok none) hi g) : AP M_X7_findParameters b 41 [x0, x1, x2] [] hi g Φ := AP.vret d_X7_findParameters_41 rfl h
end
section
variable {b : Nat × Nat} {st : List Value} {hi : am_HI} {g : am_G} {Φ : am_P} {x0 x1 x2 : Value}
theorem d_X7_follow_0 : decode cX7_follow 0 = .ok (.aload_n 0, 1) := by decide +kernel
theorem s_X7_follow_0 {n : Nat} (h : AP M_X7_follow b 1 [.ref n, x1, x2] (.ref n :: st) hi g Φ) : AP M_X7_follow b 0 [.ref n, x1, x2] (st) hi g Φ := AP.aload_n (x := n) (i := 0) d_X7_follow_0 rfl rfl h
theorem d_X7_follow_1 : decode cX7_follow 1 = .ok (.getfield 21, 3) := by decide +kernel
theorem s_X7_follow_1 {k r : Nat} (hI : am_Inv g) (hs : am_SH k = (0, 7)) (hk : k < 134) (hr : am_HRf k 1 = some r) (hn : k ≠ 39) (h : AP M_X7_follow b 4 [x0, x1, x2] (.ref r :: st) hi g Φ) : AP M_X7_follow b 1 [x0, x1, x2] (.ref k :: st) hi g Φ := AP.getR (j := 1) (q := (RX7, TX7, 7)) d_X7_follow_1 hs (hI.lt hk) rfl (by decide) (by decide) w_228 (hI.r hn hr) h
theorem d_X7_follow_4 : decode cX7_follow 4 = .ok (.aload_n 0, 1) := by decide +kernel
theorem s_X7_follow_4 {n : Nat} (h : AP M_X7_follow b 5 [.ref n, x1, x2] (.ref n :: st) hi g Φ) : AP M_X7_follow b 4 [.ref n, x1, x2] (st) hi g Φ := AP.aload_n (x := n) (i := 0) d_X7_follow_4 rfl rfl h
theorem d_X7_follow_5 : decode cX7_follow 5 = .ok (.getfield 12, 3) := by decide +kernel
theorem s_X7_follow_5 {k r : Nat} (hI : am_Inv g) (hs : am_SH k = (0, 7)) (hk : k < 134) (hr : am_HRf k 0 = some r) (hn : k ≠ 39) (h : AP M_X7_follow b 8 [x0, x1, x2] (.ref r :: st) hi g Φ) : AP M_X7_follow b 5 [x0, x1, x2] (.ref k :: st) hi g Φ := AP.getR (j := 0) (q := (RX7, TX7, 7)) d_X7_follow_5 hs (hI.lt hk) rfl (by decide) (by decide) w_226 (hI.r hn hr) h
theorem d_X7_follow_8 : decode cX7_follow 8 = .ok (.getfield 43, 3) := by decide +kernel
theorem s_X7_follow_8 {k : Nat} (hI : am_Inv g) (hs : am_SH k = (0, 6)) (hk : k < 134) (h : AP M_X7_follow b 11 [x0, x1, x2] (.int (hi k 4) :: st) hi g Φ) : AP M_X7_follow b 8 [x0, x1, x2] (.ref k :: st) hi g Φ := AP.getI (j := 4) (q := (RX6, TX6, 8)) d_X7_follow_8 hs (hI.lt hk) rfl (by decide) (by decide) w_170 h
theorem d_X7_follow_11 : decode cX7_follow 11 = .ok (.aload_n 0, 1) := by decide +kernel
theorem s_X7_follow_11 {n : Nat} (h : AP M_X7_follow b 12 [.ref n, x1, x2] (.ref n :: st) hi g Φ) : AP M_X7_follow b 11 [.ref n, x1, x2] (st) hi g Φ := AP.aload_n (x := n) (i := 0) d_X7_follow_11 rfl rfl h
theorem d_X7_follow_12 : decode cX7_follow 12 = .ok (.getfield 12, 3) := by decide +kernel
theorem s_X7_follow_12 {k r : Nat} (hI : am_Inv g) (hs : am_SH k = (0, 7)) (hk : k < 134) (hr : am_HRf k 0 = some r) (hn : k ≠ 39) (h : AP M_X7_follow b 15 [x0, x1, x2] (.ref r :: st) hi g Φ) : AP M_X7_follow b 12 [x0, x1, x2] (.ref k :: st) hi g Φ := AP.getR (j := 0) (q := (RX7, TX7, 7)) d_X7_follow_12 hs (hI.lt hk) rfl (by decide) (by decide) w_226 (hI.r hn hr) h
theorem d_X7_follow_15 : decode cX7_follow 15 = .ok (.getfield 47, 3) := by decide +kernel
theorem s_X7_follow_15 {k : Nat} (hI : am_Inv g) (hs : am_SH k = (0, 6)) (hk : k < 134) (h : AP M_X7_follow b 18 [x0, x1, x2] (.int (hi k 5) :: st) hi g Φ) : AP M_X7_follow b 15 [x0, x1, x2] (.ref k :: st) hi g Φ := AP.getI (j := 5) (q := (RX6, TX6, 8)) d_X7_follow_15 hs (hI.lt hk) rfl (by decide) (by decide) w_173 h
theorem d_X7_follow_18 : decode cX7_follow 18 = .ok (.aload_n 0, 1) := by decide +kernel
theorem s_X7_follow_18 {n : Nat} (h : AP M_X7_follow b 19 [.ref n, x1, x2] (.ref n :: st) hi g Φ) : AP M_X7_follow b 18 [.ref n, x1, x2] (st) hi g Φ := AP.aload_n (x := n) (i := 0) d_X7_follow_18 rfl rfl h
theorem d_X7_follow_19 : decode cX7_follow 19 = .ok (.getfield 12, 3) := by decide +kernel
theorem s_X7_follow_19 {k r : Nat} (hI : am_Inv g) (hs : am_SH k = (0, 7)) (hk : k < 134) (hr : am_HRf k 0 = some r) (hn : k ≠ 39) (h : AP M_X7_follow b 22 [x0, x1, x2] (.ref r :: st) hi g Φ) : AP M_X7_follow b 19 [x0, x1, x2] (.ref k :: st) hi g Φ := AP.getR (j := 0) (q := (RX7, TX7, 7)) d_X7_follow_19 hs (hI.lt hk) rfl (by decide) (by decide) w_226 (hI.r hn hr) h
theorem d_X7_follow_22 : decode cX7_follow 22 = .ok (.getfield 50, 3) := by decide +kernel
theorem s_X7_follow_22 {k r : Nat} (hI : am_Inv g) (hs : am_SH k = (0, 6)) (hk : k < 134) (hr : am_HRf k 1 = some r) (hn : k ≠ 39) (h : AP M_X7_follow b 25 [x0, x1, x2] (.ref r :: st) hi g Φ) : AP M_X7_follow b 22 [x0, x1, x2] (.ref k :: st) hi g Φ := AP.getR (j := 1) (q := (RX6, TX6, 8)) d_X7_follow_22 hs (hI.lt hk) rfl (by decide) (by decide) w_162 (hI.r hn hr) h
theorem d_X7_follow_25 : decode cX7_follow 25 = .ok (.invokevirtual 53, 3) := by decide +kernel
theorem s_X7_follow_25 {a0 : Int32} {a1 : Int32} {a2 : Nat} {k : Nat} {P : am_HI → Prop} (hI : am_Inv g) (hs : am_SH k = (0, 0)) (hk : k < 134) (hst : (st.map Value.category).sum ≤ 8) (hc : am_Cr M_X0_begin [.ref k, .int a0, .int a1, .ref a2] hi g none P) (h : ∀ hi' : am_HI, P hi' → AP M_X7_follow b 28 [x0, x1, x2] (st) hi' g Φ) : AP M_X7_follow b 25 [x0, x1, x2] (.ref a2 :: .int a1 :: .int a0 :: .ref k :: st) hi g Φ := AP.callVr (As := [.int a0, .int a1, .ref a2]) (q := (RX0, TX0, 6)) hI hc k_X7_follow_53 d_X7_follow_25 rfl hs hk rfl rfl hst h
theorem d_X7_follow_28 : decode cX7_follow 28 = .ok (.iconst 0, 1) := by decide +kernel
theorem s_X7_follow_28 (h : AP M_X7_follow b 29 [x0, x1, x2] (.int 0 :: st) hi g Φ) : AP M_X7_follow b 28 [x0, x1, x2] (st) hi g Φ := AP.iconst (x := 0) d_X7_follow_28 (by decide) h
theorem d_X7_follow_29 : decode cX7_follow 29 = .ok (.istore_n 1, 1) := by decide +kernel
theorem s_X7_follow_29 {n : Int32} (hc : x0.category = 1) (h : AP M_X7_follow b 30 [x0, .int n, x2] (st) hi g Φ) : AP M_X7_follow b 29 [x0, x1, x2] (.int n :: st) hi g Φ := AP.istore_n (x := n) (i := 1) d_X7_follow_29 rfl (by decide) (by simp [am_st, am_ci, am_cr, am_cl, am_cd, hc]) h
theorem d_X7_follow_30 : decode cX7_follow 30 = .ok (.iload_n 1, 1) := by decide +kernel
theorem s_X7_follow_30 {n : Int32} (h : AP M_X7_follow b 31 [x0, .int n, x2] (.int n :: st) hi g Φ) : AP M_X7_follow b 30 [x0, .int n, x2] (st) hi g Φ := AP.iload_n (x := n) (i := 1) d_X7_follow_30 rfl rfl h
theorem d_X7_follow_31 : decode cX7_follow 31 = .ok (.aload_n 0, 1) := by decide +kernel
theorem s_X7_follow_31 {n : Nat} (h : AP M_X7_follow b 32 [.ref n, x1, x2] (.ref n :: st) hi g Φ) : AP M_X7_follow b 31 [.ref n, x1, x2] (st) hi g Φ := AP.aload_n (x := n) (i := 0) d_X7_follow_31 rfl rfl h
theorem d_X7_follow_32 : decode cX7_follow 32 = .ok (.getfield 12, 3) := by decide +kernel
theorem s_X7_follow_32 {k r : Nat} (hI : am_Inv g) (hs : am_SH k = (0, 7)) (hk : k < 134) (hr : am_HRf k 0 = some r) (hn : k ≠ 39) (h : AP M_X7_follow b 35 [x0, x1, x2] (.ref r :: st) hi g Φ) : AP M_X7_follow b 32 [x0, x1, x2] (.ref k :: st) hi g Φ := AP.getR (j := 0) (q := (RX7, TX7, 7)) d_X7_follow_32 hs (hI.lt hk) rfl (by decide) (by decide) w_226 (hI.r hn hr) h
theorem d_X7_follow_35 : decode cX7_follow 35 = .ok (.getfield 57, 3) := by decide +kernel
theorem s_X7_follow_35 {k : Nat} (hI : am_Inv g) (hs : am_SH k = (0, 6)) (hk : k < 134) (h : AP M_X7_follow b 38 [x0, x1, x2] (.int (hi k 3) :: st) hi g Φ) : AP M_X7_follow b 35 [x0, x1, x2] (.ref k :: st) hi g Φ := AP.getI (j := 3) (q := (RX6, TX6, 8)) d_X7_follow_35 hs (hI.lt hk) rfl (by decide) (by decide) w_167 h
theorem d_X7_follow_38 : decode cX7_follow 38 = .ok (.if_icmp .gt 87, 3) := by decide +kernel
theorem s_X7_follow_38 {x y : Int32} (h1 : y < x → AP M_X7_follow b 125 [x0, x1, x2] st hi g Φ) (h2 : ¬ y < x → AP M_X7_follow b 41 [x0, x1, x2] st hi g Φ) : AP M_X7_follow b 38 [x0, x1, x2] (.int y :: .int x :: st) hi g Φ := AP.icmp_gt d_X7_follow_38 (by decide) h1 h2
theorem d_X7_follow_41 : decode cX7_follow 41 = .ok (.iconst 0, 1) := by decide +kernel
theorem s_X7_follow_41 (h : AP M_X7_follow b 42 [x0, x1, x2] (.int 0 :: st) hi g Φ) : AP M_X7_follow b 41 [x0, x1, x2] (st) hi g Φ := AP.iconst (x := 0) d_X7_follow_41 (by decide) h
theorem d_X7_follow_42 : decode cX7_follow 42 = .ok (.istore_n 2, 1) := by decide +kernel
theorem s_X7_follow_42 {n : Int32} (hc : x1.category = 1) (h : AP M_X7_follow b 43 [x0, x1, .int n] (st) hi g Φ) : AP M_X7_follow b 42 [x0, x1, x2] (.int n :: st) hi g Φ := AP.istore_n (x := n) (i := 2) d_X7_follow_42 rfl (by decide) (by simp [am_st, am_ci, am_cr, am_cl, am_cd, hc]) h
theorem d_X7_follow_43 : decode cX7_follow 43 = .ok (.iload_n 2, 1) := by decide +kernel
theorem s_X7_follow_43 {n : Int32} (h : AP M_X7_follow b 44 [x0, x1, .int n] (.int n :: st) hi g Φ) : AP M_X7_follow b 43 [x0, x1, .int n] (st) hi g Φ := AP.iload_n (x := n) (i := 2) d_X7_follow_43 rfl rfl h
theorem d_X7_follow_44 : decode cX7_follow 44 = .ok (.iconst 5, 1) := by decide +kernel
theorem s_X7_follow_44 (h : AP M_X7_follow b 45 [x0, x1, x2] (.int 5 :: st) hi g Φ) : AP M_X7_follow b 44 [x0, x1, x2] (st) hi g Φ := AP.iconst (x := 5) d_X7_follow_44 (by decide) h
theorem d_X7_follow_45 : decode cX7_follow 45 = .ok (.if_icmp .ge 25, 3) := by decide +kernel
theorem s_X7_follow_45 {x y : Int32} (h1 : y ≤ x → AP M_X7_follow b 70 [x0, x1, x2] st hi g Φ) (h2 : ¬ y ≤ x → AP M_X7_follow b 48 [x0, x1, x2] st hi g Φ) : AP M_X7_follow b 45 [x0, x1, x2] (.int y :: .int x :: st) hi g Φ := AP.icmp_ge d_X7_follow_45 (by decide) h1 h2
theorem d_X7_follow_48 : decode cX7_follow 48 = .ok (.aload_n 0, 1) := by decide +kernel
theorem s_X7_follow_48 {n : Nat} (h : AP M_X7_follow b 49 [.ref n, x1, x2] (.ref n :: st) hi g Φ) : AP M_X7_follow b 48 [.ref n, x1, x2] (st) hi g Φ := AP.aload_n (x := n) (i := 0) d_X7_follow_48 rfl rfl h
theorem d_X7_follow_49 : decode cX7_follow 49 = .ok (.getfield 31, 3) := by decide +kernel
theorem s_X7_follow_49 {k r : Nat} (hI : am_Inv g) (hs : am_SH k = (0, 7)) (hk : k < 134) (hr : am_HRf k 3 = some r) (hn : k ≠ 39) (h : AP M_X7_follow b 52 [x0, x1, x2] (.ref r :: st) hi g Φ) : AP M_X7_follow b 49 [x0, x1, x2] (.ref k :: st) hi g Φ := AP.getR (j := 3) (q := (RX7, TX7, 7)) d_X7_follow_49 hs (hI.lt hk) rfl (by decide) (by decide) w_230 (hI.r hn hr) h
theorem d_X7_follow_52 : decode cX7_follow 52 = .ok (.iload_n 2, 1) := by decide +kernel
theorem s_X7_follow_52 {n : Int32} (h : AP M_X7_follow b 53 [x0, x1, .int n] (.int n :: st) hi g Φ) : AP M_X7_follow b 52 [x0, x1, .int n] (st) hi g Φ := AP.iload_n (x := n) (i := 2) d_X7_follow_52 rfl rfl h
theorem d_X7_follow_53 : decode cX7_follow 53 = .ok (.aaload, 1) := by decide +kernel
theorem s_X7_follow_53 {k n j r : Nat} {i : Int32} (hI : am_Inv g) (hs : am_SH k = (6, n)) (hk : k < 134) (hn : n < 2 ^ 31) (hx : i = nI j) (hj : j < n) (hr : g.2.1 k j = some r) (h : AP M_X7_follow b 54 [x0, x1, x2] (.ref r :: st) hi g Φ) : AP M_X7_follow b 53 [x0, x1, x2] (.int i :: .ref k :: st) hi g Φ := AP.rald d_X7_follow_53 hs (hI.lt hk) hn hx hj hr h
theorem s_X7_follow_53a {k n j r : Nat} {i : Int32} (hI : am_Inv g) (hs : am_SH k = (5, n)) (hk : k < 134) (hn : n < 2 ^ 31) (hx : i = nI j) (hj : j < n) (hr : g.2.1 k j = some r) (h : AP M_X7_follow b 54 [x0, x1, x2] (.ref r :: st) hi g Φ) : AP M_X7_follow b 53 [x0, x1, x2] (.int i :: .ref k :: st) hi g Φ := AP.aald d_X7_follow_53 hs (hI.lt hk) hn hx hj hr h
theorem d_X7_follow_54 : decode cX7_follow 54 = .ok (.iload_n 1, 1) := by decide +kernel
theorem s_X7_follow_54 {n : Int32} (h : AP M_X7_follow b 55 [x0, .int n, x2] (.int n :: st) hi g Φ) : AP M_X7_follow b 54 [x0, .int n, x2] (st) hi g Φ := AP.iload_n (x := n) (i := 1) d_X7_follow_54 rfl rfl h
theorem d_X7_follow_55 : decode cX7_follow 55 = .ok (.aload_n 0, 1) := by decide +kernel
theorem s_X7_follow_55 {n : Nat} (h : AP M_X7_follow b 56 [.ref n, x1, x2] (.ref n :: st) hi g Φ) : AP M_X7_follow b 55 [.ref n, x1, x2] (st) hi g Φ := AP.aload_n (x := n) (i := 0) d_X7_follow_55 rfl rfl h
theorem d_X7_follow_56 : decode cX7_follow 56 = .ok (.getfield 21, 3) := by decide +kernel
theorem s_X7_follow_56 {k r : Nat} (hI : am_Inv g) (hs : am_SH k = (0, 7)) (hk : k < 134) (hr : am_HRf k 1 = some r) (hn : k ≠ 39) (h : AP M_X7_follow b 59 [x0, x1, x2] (.ref r :: st) hi g Φ) : AP M_X7_follow b 56 [x0, x1, x2] (.ref k :: st) hi g Φ := AP.getR (j := 1) (q := (RX7, TX7, 7)) d_X7_follow_56 hs (hI.lt hk) rfl (by decide) (by decide) w_228 (hI.r hn hr) h
theorem d_X7_follow_59 : decode cX7_follow 59 = .ok (.iload_n 2, 1) := by decide +kernel
theorem s_X7_follow_59 {n : Int32} (h : AP M_X7_follow b 60 [x0, x1, .int n] (.int n :: st) hi g Φ) : AP M_X7_follow b 59 [x0, x1, .int n] (st) hi g Φ := AP.iload_n (x := n) (i := 2) d_X7_follow_59 rfl rfl h
theorem d_X7_follow_60 : decode cX7_follow 60 = .ok (.invokevirtual 60, 3) := by decide +kernel
theorem s_X7_follow_60 {a0 : Int32} {k : Nat} {r0 : Int32} {P : am_HI → Prop} (hI : am_Inv g) (hs : am_SH k = (0, 0)) (hk : k < 134) (hst : (st.map Value.category).sum ≤ 8) (hc : am_Cr M_X0_foretell [.ref k, .int a0] hi g (some (.int r0)) P) (h : ∀ hi' : am_HI, P hi' → AP M_X7_follow b 63 [x0, x1, x2] (.int r0 :: st) hi' g Φ) : AP M_X7_follow b 60 [x0, x1, x2] (.int a0 :: .ref k :: st) hi g Φ := AP.callVr (As := [.int a0]) (q := (RX0, TX0, 6)) hI hc k_X7_follow_60 d_X7_follow_60 rfl hs hk rfl rfl hst h
theorem d_X7_follow_63 : decode cX7_follow 63 = .ok (.iastore, 1) := by decide +kernel
theorem s_X7_follow_63 {k n j : Nat} {i x : Int32} (hI : am_Inv g) (hs : am_SH k = (1, n)) (hk : k < 134) (hn : n < 2 ^ 31) (hx : i = nI j) (hj : j < n) (h : AP M_X7_follow b 64 [x0, x1, x2] (st) (am_up hi k j x) g Φ) : AP M_X7_follow b 63 [x0, x1, x2] (.int x :: .int i :: .ref k :: st) hi g Φ := AP.iast d_X7_follow_63 hs (hI.lt hk) hn hx hj h
theorem d_X7_follow_64 : decode cX7_follow 64 = .ok (.iinc 2 1, 3) := by decide +kernel
theorem s_X7_follow_64 {n : Int32} (hc : x1.category = 1) (h : AP M_X7_follow b 67 [x0, x1, .int (n + 1)] (st) hi g Φ) : AP M_X7_follow b 64 [x0, x1, .int n] (st) hi g Φ := AP.iinc (i := 2) (x := n) (y := n + 1) d_X7_follow_64 rfl rfl (by decide) (by simp [am_st, am_ci, am_cr, am_cl, am_cd, hc]) h
theorem d_X7_follow_67 : decode cX7_follow 67 = .ok (.goto (-24), 3) := by decide +kernel
theorem s_X7_follow_67 (h : AP M_X7_follow b 43 [x0, x1, x2] st hi g Φ) : AP M_X7_follow b 67 [x0, x1, x2] st hi g Φ := AP.goto d_X7_follow_67 (by decide) h
theorem d_X7_follow_70 : decode cX7_follow 70 = .ok (.iconst 1, 1) := by decide +kernel
theorem s_X7_follow_70 (h : AP M_X7_follow b 71 [x0, x1, x2] (.int 1 :: st) hi g Φ) : AP M_X7_follow b 70 [x0, x1, x2] (st) hi g Φ := AP.iconst (x := 1) d_X7_follow_70 (by decide) h
theorem d_X7_follow_71 : decode cX7_follow 71 = .ok (.istore_n 2, 1) := by decide +kernel
theorem s_X7_follow_71 {n : Int32} (hc : x1.category = 1) (h : AP M_X7_follow b 72 [x0, x1, .int n] (st) hi g Φ) : AP M_X7_follow b 71 [x0, x1, x2] (.int n :: st) hi g Φ := AP.istore_n (x := n) (i := 2) d_X7_follow_71 rfl (by decide) (by simp [am_st, am_ci, am_cr, am_cl, am_cd, hc]) h
theorem d_X7_follow_72 : decode cX7_follow 72 = .ok (.iload_n 2, 1) := by decide +kernel
theorem s_X7_follow_72 {n : Int32} (h : AP M_X7_follow b 73 [x0, x1, .int n] (.int n :: st) hi g Φ) : AP M_X7_follow b 72 [x0, x1, .int n] (st) hi g Φ := AP.iload_n (x := n) (i := 2) d_X7_follow_72 rfl rfl h
theorem d_X7_follow_73 : decode cX7_follow 73 = .ok (.iconst 4, 1) := by decide +kernel
theorem s_X7_follow_73 (h : AP M_X7_follow b 74 [x0, x1, x2] (.int 4 :: st) hi g Φ) : AP M_X7_follow b 73 [x0, x1, x2] (st) hi g Φ := AP.iconst (x := 4) d_X7_follow_73 (by decide) h
theorem d_X7_follow_74 : decode cX7_follow 74 = .ok (.if_icmp .gt 30, 3) := by decide +kernel
theorem s_X7_follow_74 {x y : Int32} (h1 : y < x → AP M_X7_follow b 104 [x0, x1, x2] st hi g Φ) (h2 : ¬ y < x → AP M_X7_follow b 77 [x0, x1, x2] st hi g Φ) : AP M_X7_follow b 74 [x0, x1, x2] (.int y :: .int x :: st) hi g Φ := AP.icmp_gt d_X7_follow_74 (by decide) h1 h2
theorem d_X7_follow_77 : decode cX7_follow 77 = .ok (.aload_n 0, 1) := by decide +kernel
theorem s_X7_follow_77 {n : Nat} (h : AP M_X7_follow b 78 [.ref n, x1, x2] (.ref n :: st) hi g Φ) : AP M_X7_follow b 77 [.ref n, x1, x2] (st) hi g Φ := AP.aload_n (x := n) (i := 0) d_X7_follow_77 rfl rfl h
theorem d_X7_follow_78 : decode cX7_follow 78 = .ok (.getfield 34, 3) := by decide +kernel
theorem s_X7_follow_78 {k r : Nat} (hI : am_Inv g) (hs : am_SH k = (0, 7)) (hk : k < 134) (hr : am_HRf k 4 = some r) (hn : k ≠ 39) (h : AP M_X7_follow b 81 [x0, x1, x2] (.ref r :: st) hi g Φ) : AP M_X7_follow b 78 [x0, x1, x2] (.ref k :: st) hi g Φ := AP.getR (j := 4) (q := (RX7, TX7, 7)) d_X7_follow_78 hs (hI.lt hk) rfl (by decide) (by decide) w_232 (hI.r hn hr) h
theorem d_X7_follow_81 : decode cX7_follow 81 = .ok (.iload_n 2, 1) := by decide +kernel
theorem s_X7_follow_81 {n : Int32} (h : AP M_X7_follow b 82 [x0, x1, .int n] (.int n :: st) hi g Φ) : AP M_X7_follow b 81 [x0, x1, .int n] (st) hi g Φ := AP.iload_n (x := n) (i := 2) d_X7_follow_81 rfl rfl h
theorem d_X7_follow_82 : decode cX7_follow 82 = .ok (.iconst 1, 1) := by decide +kernel
theorem s_X7_follow_82 (h : AP M_X7_follow b 83 [x0, x1, x2] (.int 1 :: st) hi g Φ) : AP M_X7_follow b 82 [x0, x1, x2] (st) hi g Φ := AP.iconst (x := 1) d_X7_follow_82 (by decide) h
theorem d_X7_follow_83 : decode cX7_follow 83 = .ok (.isub, 1) := by decide +kernel
theorem s_X7_follow_83 {x y : Int32} (h : AP M_X7_follow b 84 [x0, x1, x2] (.int (x - y) :: st) hi g Φ) : AP M_X7_follow b 83 [x0, x1, x2] (.int y :: .int x :: st) hi g Φ := AP.isub d_X7_follow_83 h
theorem d_X7_follow_84 : decode cX7_follow 84 = .ok (.aaload, 1) := by decide +kernel
theorem s_X7_follow_84 {k n j r : Nat} {i : Int32} (hI : am_Inv g) (hs : am_SH k = (6, n)) (hk : k < 134) (hn : n < 2 ^ 31) (hx : i = nI j) (hj : j < n) (hr : g.2.1 k j = some r) (h : AP M_X7_follow b 85 [x0, x1, x2] (.ref r :: st) hi g Φ) : AP M_X7_follow b 84 [x0, x1, x2] (.int i :: .ref k :: st) hi g Φ := AP.rald d_X7_follow_84 hs (hI.lt hk) hn hx hj hr h
theorem s_X7_follow_84a {k n j r : Nat} {i : Int32} (hI : am_Inv g) (hs : am_SH k = (5, n)) (hk : k < 134) (hn : n < 2 ^ 31) (hx : i = nI j) (hj : j < n) (hr : g.2.1 k j = some r) (h : AP M_X7_follow b 85 [x0, x1, x2] (.ref r :: st) hi g Φ) : AP M_X7_follow b 84 [x0, x1, x2] (.int i :: .ref k :: st) hi g Φ := AP.aald d_X7_follow_84 hs (hI.lt hk) hn hx hj hr h
theorem d_X7_follow_85 : decode cX7_follow 85 = .ok (.iload_n 1, 1) := by decide +kernel
theorem s_X7_follow_85 {n : Int32} (h : AP M_X7_follow b 86 [x0, .int n, x2] (.int n :: st) hi g Φ) : AP M_X7_follow b 85 [x0, .int n, x2] (st) hi g Φ := AP.iload_n (x := n) (i := 1) d_X7_follow_85 rfl rfl h
theorem d_X7_follow_86 : decode cX7_follow 86 = .ok (.aload_n 0, 1) := by decide +kernel
theorem s_X7_follow_86 {n : Nat} (h : AP M_X7_follow b 87 [.ref n, x1, x2] (.ref n :: st) hi g Φ) : AP M_X7_follow b 86 [.ref n, x1, x2] (st) hi g Φ := AP.aload_n (x := n) (i := 0) d_X7_follow_86 rfl rfl h
theorem d_X7_follow_87 : decode cX7_follow 87 = .ok (.getfield 21, 3) := by decide +kernel
theorem s_X7_follow_87 {k r : Nat} (hI : am_Inv g) (hs : am_SH k = (0, 7)) (hk : k < 134) (hr : am_HRf k 1 = some r) (hn : k ≠ 39) (h : AP M_X7_follow b 90 [x0, x1, x2] (.ref r :: st) hi g Φ) : AP M_X7_follow b 87 [x0, x1, x2] (.ref k :: st) hi g Φ := AP.getR (j := 1) (q := (RX7, TX7, 7)) d_X7_follow_87 hs (hI.lt hk) rfl (by decide) (by decide) w_228 (hI.r hn hr) h
theorem d_X7_follow_90 : decode cX7_follow 90 = .ok (.getfield 64, 3) := by decide +kernel
theorem s_X7_follow_90 {k r : Nat} (hI : am_Inv g) (hs : am_SH k = (0, 0)) (hk : k < 134) (hr : am_HRf k 1 = some r) (hn : k ≠ 39) (h : AP M_X7_follow b 93 [x0, x1, x2] (.ref r :: st) hi g Φ) : AP M_X7_follow b 90 [x0, x1, x2] (.ref k :: st) hi g Φ := AP.getR (j := 1) (q := (RX0, TX0, 6)) d_X7_follow_90 hs (hI.lt hk) rfl (by decide) (by decide) w_205 (hI.r hn hr) h
theorem d_X7_follow_93 : decode cX7_follow 93 = .ok (.iload_n 2, 1) := by decide +kernel
theorem s_X7_follow_93 {n : Int32} (h : AP M_X7_follow b 94 [x0, x1, .int n] (.int n :: st) hi g Φ) : AP M_X7_follow b 93 [x0, x1, .int n] (st) hi g Φ := AP.iload_n (x := n) (i := 2) d_X7_follow_93 rfl rfl h
theorem d_X7_follow_94 : decode cX7_follow 94 = .ok (.iconst 1, 1) := by decide +kernel
theorem s_X7_follow_94 (h : AP M_X7_follow b 95 [x0, x1, x2] (.int 1 :: st) hi g Φ) : AP M_X7_follow b 94 [x0, x1, x2] (st) hi g Φ := AP.iconst (x := 1) d_X7_follow_94 (by decide) h
theorem d_X7_follow_95 : decode cX7_follow 95 = .ok (.isub, 1) := by decide +kernel
theorem s_X7_follow_95 {x y : Int32} (h : AP M_X7_follow b 96 [x0, x1, x2] (.int (x - y) :: st) hi g Φ) : AP M_X7_follow b 95 [x0, x1, x2] (.int y :: .int x :: st) hi g Φ := AP.isub d_X7_follow_95 h
theorem d_X7_follow_96 : decode cX7_follow 96 = .ok (.iaload, 1) := by decide +kernel
theorem s_X7_follow_96 {k n j : Nat} {i : Int32} (hI : am_Inv g) (hs : am_SH k = (1, n)) (hk : k < 134) (hn : n < 2 ^ 31) (hx : i = nI j) (hj : j < n) (h : AP M_X7_follow b 97 [x0, x1, x2] (.int (hi k j) :: st) hi g Φ) : AP M_X7_follow b 96 [x0, x1, x2] (.int i :: .ref k :: st) hi g Φ := AP.iald d_X7_follow_96 hs (hI.lt hk) hn hx hj h
theorem d_X7_follow_97 : decode cX7_follow 97 = .ok (.iastore, 1) := by decide +kernel
theorem s_X7_follow_97 {k n j : Nat} {i x : Int32} (hI : am_Inv g) (hs : am_SH k = (1, n)) (hk : k < 134) (hn : n < 2 ^ 31) (hx : i = nI j) (hj : j < n) (h : AP M_X7_follow b 98 [x0, x1, x2] (st) (am_up hi k j x) g Φ) : AP M_X7_follow b 97 [x0, x1, x2] (.int x :: .int i :: .ref k :: st) hi g Φ := AP.iast d_X7_follow_97 hs (hI.lt hk) hn hx hj h
theorem d_X7_follow_98 : decode cX7_follow 98 = .ok (.iinc 2 1, 3) := by decide +kernel
theorem s_X7_follow_98 {n : Int32} (hc : x1.category = 1) (h : AP M_X7_follow b 101 [x0, x1, .int (n + 1)] (st) hi g Φ) : AP M_X7_follow b 98 [x0, x1, .int n] (st) hi g Φ := AP.iinc (i := 2) (x := n) (y := n + 1) d_X7_follow_98 rfl rfl (by decide) (by simp [am_st, am_ci, am_cr, am_cl, am_cd, hc]) h
theorem d_X7_follow_101 : decode cX7_follow 101 = .ok (.goto (-29), 3) := by decide +kernel
theorem s_X7_follow_101 (h : AP M_X7_follow b 72 [x0, x1, x2] st hi g Φ) : AP M_X7_follow b 101 [x0, x1, x2] st hi g Φ := AP.goto d_X7_follow_101 (by decide) h
theorem d_X7_follow_104 : decode cX7_follow 104 = .ok (.aload_n 0, 1) := by decide +kernel
theorem s_X7_follow_104 {n : Nat} (h : AP M_X7_follow b 105 [.ref n, x1, x2] (.ref n :: st) hi g Φ) : AP M_X7_follow b 104 [.ref n, x1, x2] (st) hi g Φ := AP.aload_n (x := n) (i := 0) d_X7_follow_104 rfl rfl h
theorem d_X7_follow_105 : decode cX7_follow 105 = .ok (.getfield 21, 3) := by decide +kernel
theorem s_X7_follow_105 {k r : Nat} (hI : am_Inv g) (hs : am_SH k = (0, 7)) (hk : k < 134) (hr : am_HRf k 1 = some r) (hn : k ≠ 39) (h : AP M_X7_follow b 108 [x0, x1, x2] (.ref r :: st) hi g Φ) : AP M_X7_follow b 105 [x0, x1, x2] (.ref k :: st) hi g Φ := AP.getR (j := 1) (q := (RX7, TX7, 7)) d_X7_follow_105 hs (hI.lt hk) rfl (by decide) (by decide) w_228 (hI.r hn hr) h
theorem d_X7_follow_108 : decode cX7_follow 108 = .ok (.aload_n 0, 1) := by decide +kernel
theorem s_X7_follow_108 {n : Nat} (h : AP M_X7_follow b 109 [.ref n, x1, x2] (.ref n :: st) hi g Φ) : AP M_X7_follow b 108 [.ref n, x1, x2] (st) hi g Φ := AP.aload_n (x := n) (i := 0) d_X7_follow_108 rfl rfl h
theorem d_X7_follow_109 : decode cX7_follow 109 = .ok (.getfield 12, 3) := by decide +kernel
theorem s_X7_follow_109 {k r : Nat} (hI : am_Inv g) (hs : am_SH k = (0, 7)) (hk : k < 134) (hr : am_HRf k 0 = some r) (hn : k ≠ 39) (h : AP M_X7_follow b 112 [x0, x1, x2] (.ref r :: st) hi g Φ) : AP M_X7_follow b 109 [x0, x1, x2] (.ref k :: st) hi g Φ := AP.getR (j := 0) (q := (RX7, TX7, 7)) d_X7_follow_109 hs (hI.lt hk) rfl (by decide) (by decide) w_226 (hI.r hn hr) h
theorem d_X7_follow_112 : decode cX7_follow 112 = .ok (.iload_n 1, 1) := by decide +kernel
theorem s_X7_follow_112 {n : Int32} (h : AP M_X7_follow b 113 [x0, .int n, x2] (.int n :: st) hi g Φ) : AP M_X7_follow b 112 [x0, .int n, x2] (st) hi g Φ := AP.iload_n (x := n) (i := 1) d_X7_follow_112 rfl rfl h
theorem d_X7_follow_113 : decode cX7_follow 113 = .ok (.invokevirtual 66, 3) := by decide +kernel
theorem s_X7_follow_113 {a0 : Int32} {k : Nat} {r0 : Int32} {P : am_HI → Prop} (hI : am_Inv g) (hs : am_SH k = (0, 6)) (hk : k < 134) (hst : (st.map Value.category).sum ≤ 8) (hc : am_Cr M_X6_soundAt [.ref k, .int a0] hi g (some (.int r0)) P) (h : ∀ hi' : am_HI, P hi' → AP M_X7_follow b 116 [x0, x1, x2] (.int r0 :: st) hi' g Φ) : AP M_X7_follow b 113 [x0, x1, x2] (.int a0 :: .ref k :: st) hi g Φ := AP.callVr (As := [.int a0]) (q := (RX6, TX6, 8)) hI hc k_X7_follow_66 d_X7_follow_113 rfl hs hk rfl rfl hst h
theorem d_X7_follow_116 : decode cX7_follow 116 = .ok (.invokevirtual 69, 3) := by decide +kernel
theorem s_X7_follow_116 {a0 : Int32} {k : Nat} {P : am_HI → Prop} (hI : am_Inv g) (hs : am_SH k = (0, 0)) (hk : k < 134) (hst : (st.map Value.category).sum ≤ 8) (hc : am_Cr M_X0_show [.ref k, .int a0] hi g none P) (h : ∀ hi' : am_HI, P hi' → AP M_X7_follow b 119 [x0, x1, x2] (st) hi' g Φ) : AP M_X7_follow b 116 [x0, x1, x2] (.int a0 :: .ref k :: st) hi g Φ := AP.callVr (As := [.int a0]) (q := (RX0, TX0, 6)) hI hc k_X7_follow_69 d_X7_follow_116 rfl hs hk rfl rfl hst h
theorem d_X7_follow_119 : decode cX7_follow 119 = .ok (.iinc 1 1, 3) := by decide +kernel
theorem s_X7_follow_119 {n : Int32} (hc : x0.category = 1) (h : AP M_X7_follow b 122 [x0, .int (n + 1), x2] (st) hi g Φ) : AP M_X7_follow b 119 [x0, .int n, x2] (st) hi g Φ := AP.iinc (i := 1) (x := n) (y := n + 1) d_X7_follow_119 rfl rfl (by decide) (by simp [am_st, am_ci, am_cr, am_cl, am_cd, hc]) h
theorem d_X7_follow_122 : decode cX7_follow 122 = .ok (.goto (-92), 3) := by decide +kernel
theorem s_X7_follow_122 (h : AP M_X7_follow b 30 [x0, x1, x2] st hi g Φ) : AP M_X7_follow b 122 [x0, x1, x2] st hi g Φ := AP.goto d_X7_follow_122 (by decide) h
theorem d_X7_follow_125 : decode cX7_follow 125 = .ok (.return_, 1) := by decide +kernel
theorem s_X7_follow_125 (h : Φ (.ok none) hi g) : AP M_X7_follow b 125 [x0, x1, x2] [] hi g Φ := AP.vret d_X7_follow_125 rfl h
end
section
variable {b : Nat × Nat} {st : List Value} {hi : am_HI} {g : am_G} {Φ : am_P} {x0 x1 x2 x3 x4 x5 x6 x7 : Value}
theorem d_X7_sumIf_0 : decode cX7_sumIf 0 = .ok (.aload_n 0, 1) := by decide +kernel
theorem s_X7_sumIf_0 {n : Nat} (h : AP M_X7_sumIf b 1 [.ref n, x1, x2, x3, x4, x5, x6, x7] (.ref n :: st) hi g Φ) : AP M_X7_sumIf b 0 [.ref n, x1, x2, x3, x4, x5, x6, x7] (st) hi g Φ := AP.aload_n (x := n) (i := 0) d_X7_sumIf_0 rfl rfl h
theorem d_X7_sumIf_1 : decode cX7_sumIf 1 = .ok (.getfield 21, 3) := by decide +kernel
theorem s_X7_sumIf_1 {k r : Nat} (hI : am_Inv g) (hs : am_SH k = (0, 7)) (hk : k < 134) (hr : am_HRf k 1 = some r) (hn : k ≠ 39) (h : AP M_X7_sumIf b 4 [x0, x1, x2, x3, x4, x5, x6, x7] (.ref r :: st) hi g Φ) : AP M_X7_sumIf b 1 [x0, x1, x2, x3, x4, x5, x6, x7] (.ref k :: st) hi g Φ := AP.getR (j := 1) (q := (RX7, TX7, 7)) d_X7_sumIf_1 hs (hI.lt hk) rfl (by decide) (by decide) w_228 (hI.r hn hr) h
theorem d_X7_sumIf_4 : decode cX7_sumIf 4 = .ok (.iload_n 2, 1) := by decide +kernel
theorem s_X7_sumIf_4 {n : Int32} (h : AP M_X7_sumIf b 5 [x0, x1, .int n, x3, x4, x5, x6, x7] (.int n :: st) hi g Φ) : AP M_X7_sumIf b 4 [x0, x1, .int n, x3, x4, x5, x6, x7] (st) hi g Φ := AP.iload_n (x := n) (i := 2) d_X7_sumIf_4 rfl rfl h
theorem d_X7_sumIf_5 : decode cX7_sumIf 5 = .ok (.iload_n 3, 1) := by decide +kernel
theorem s_X7_sumIf_5 {n : Int32} (h : AP M_X7_sumIf b 6 [x0, x1, x2, .int n, x4, x5, x6, x7] (.int n :: st) hi g Φ) : AP M_X7_sumIf b 5 [x0, x1, x2, .int n, x4, x5, x6, x7] (st) hi g Φ := AP.iload_n (x := n) (i := 3) d_X7_sumIf_5 rfl rfl h
theorem d_X7_sumIf_6 : decode cX7_sumIf 6 = .ok (.aload 4, 2) := by decide +kernel
theorem s_X7_sumIf_6 {n : Nat} (h : AP M_X7_sumIf b 8 [x0, x1, x2, x3, .ref n, x5, x6, x7] (.ref n :: st) hi g Φ) : AP M_X7_sumIf b 6 [x0, x1, x2, x3, .ref n, x5, x6, x7] (st) hi g Φ := AP.aload (x := n) (i := 4) d_X7_sumIf_6 rfl h
theorem d_X7_sumIf_8 : decode cX7_sumIf 8 = .ok (.invokevirtual 53, 3) := by decide +kernel
theorem s_X7_sumIf_8 {a0 : Int32} {a1 : Int32} {a2 : Nat} {k : Nat} {P : am_HI → Prop} (hI : am_Inv g) (hs : am_SH k = (0, 0)) (hk : k < 134) (hst : (st.map Value.category).sum ≤ 8) (hc : am_Cr M_X0_begin [.ref k, .int a0, .int a1, .ref a2] hi g none P) (h : ∀ hi' : am_HI, P hi' → AP M_X7_sumIf b 11 [x0, x1, x2, x3, x4, x5, x6, x7] (st) hi' g Φ) : AP M_X7_sumIf b 8 [x0, x1, x2, x3, x4, x5, x6, x7] (.ref a2 :: .int a1 :: .int a0 :: .ref k :: st) hi g Φ := AP.callVr (As := [.int a0, .int a1, .ref a2]) (q := (RX0, TX0, 6)) hI hc k_X7_sumIf_53 d_X7_sumIf_8 rfl hs hk rfl rfl hst h
theorem d_X7_sumIf_11 : decode cX7_sumIf 11 = .ok (.iconst 0, 1) := by decide +kernel
theorem s_X7_sumIf_11 (h : AP M_X7_sumIf b 12 [x0, x1, x2, x3, x4, x5, x6, x7] (.int 0 :: st) hi g Φ) : AP M_X7_sumIf b 11 [x0, x1, x2, x3, x4, x5, x6, x7] (st) hi g Φ := AP.iconst (x := 0) d_X7_sumIf_11 (by decide) h
theorem d_X7_sumIf_12 : decode cX7_sumIf 12 = .ok (.istore 5, 2) := by decide +kernel
theorem s_X7_sumIf_12 {n : Int32} (hc : x4.category = 1) (h : AP M_X7_sumIf b 14 [x0, x1, x2, x3, x4, .int n, x6, x7] (st) hi g Φ) : AP M_X7_sumIf b 12 [x0, x1, x2, x3, x4, x5, x6, x7] (.int n :: st) hi g Φ := AP.istore (x := n) (i := 5) d_X7_sumIf_12 (by decide) (by simp [am_st, am_ci, am_cr, am_cl, am_cd, hc]) h
theorem d_X7_sumIf_14 : decode cX7_sumIf 14 = .ok (.iconst 0, 1) := by decide +kernel
theorem s_X7_sumIf_14 (h : AP M_X7_sumIf b 15 [x0, x1, x2, x3, x4, x5, x6, x7] (.int 0 :: st) hi g Φ) : AP M_X7_sumIf b 14 [x0, x1, x2, x3, x4, x5, x6, x7] (st) hi g Φ := AP.iconst (x := 0) d_X7_sumIf_14 (by decide) h
theorem d_X7_sumIf_15 : decode cX7_sumIf 15 = .ok (.istore 6, 2) := by decide +kernel
theorem s_X7_sumIf_15 {n : Int32} (hc : x5.category = 1) (h : AP M_X7_sumIf b 17 [x0, x1, x2, x3, x4, x5, .int n, x7] (st) hi g Φ) : AP M_X7_sumIf b 15 [x0, x1, x2, x3, x4, x5, x6, x7] (.int n :: st) hi g Φ := AP.istore (x := n) (i := 6) d_X7_sumIf_15 (by decide) (by simp [am_st, am_ci, am_cr, am_cl, am_cd, hc]) h
theorem d_X7_sumIf_17 : decode cX7_sumIf 17 = .ok (.iload 6, 2) := by decide +kernel
theorem s_X7_sumIf_17 {n : Int32} (h : AP M_X7_sumIf b 19 [x0, x1, x2, x3, x4, x5, .int n, x7] (.int n :: st) hi g Φ) : AP M_X7_sumIf b 17 [x0, x1, x2, x3, x4, x5, .int n, x7] (st) hi g Φ := AP.iload (x := n) (i := 6) d_X7_sumIf_17 rfl h
theorem d_X7_sumIf_19 : decode cX7_sumIf 19 = .ok (.aload_n 0, 1) := by decide +kernel
theorem s_X7_sumIf_19 {n : Nat} (h : AP M_X7_sumIf b 20 [.ref n, x1, x2, x3, x4, x5, x6, x7] (.ref n :: st) hi g Φ) : AP M_X7_sumIf b 19 [.ref n, x1, x2, x3, x4, x5, x6, x7] (st) hi g Φ := AP.aload_n (x := n) (i := 0) d_X7_sumIf_19 rfl rfl h
theorem d_X7_sumIf_20 : decode cX7_sumIf 20 = .ok (.getfield 12, 3) := by decide +kernel
theorem s_X7_sumIf_20 {k r : Nat} (hI : am_Inv g) (hs : am_SH k = (0, 7)) (hk : k < 134) (hr : am_HRf k 0 = some r) (hn : k ≠ 39) (h : AP M_X7_sumIf b 23 [x0, x1, x2, x3, x4, x5, x6, x7] (.ref r :: st) hi g Φ) : AP M_X7_sumIf b 20 [x0, x1, x2, x3, x4, x5, x6, x7] (.ref k :: st) hi g Φ := AP.getR (j := 0) (q := (RX7, TX7, 7)) d_X7_sumIf_20 hs (hI.lt hk) rfl (by decide) (by decide) w_226 (hI.r hn hr) h
theorem d_X7_sumIf_23 : decode cX7_sumIf 23 = .ok (.getfield 57, 3) := by decide +kernel
theorem s_X7_sumIf_23 {k : Nat} (hI : am_Inv g) (hs : am_SH k = (0, 6)) (hk : k < 134) (h : AP M_X7_sumIf b 26 [x0, x1, x2, x3, x4, x5, x6, x7] (.int (hi k 3) :: st) hi g Φ) : AP M_X7_sumIf b 23 [x0, x1, x2, x3, x4, x5, x6, x7] (.ref k :: st) hi g Φ := AP.getI (j := 3) (q := (RX6, TX6, 8)) d_X7_sumIf_23 hs (hI.lt hk) rfl (by decide) (by decide) w_167 h
theorem d_X7_sumIf_26 : decode cX7_sumIf 26 = .ok (.if_icmp .ge 48, 3) := by decide +kernel
theorem s_X7_sumIf_26 {x y : Int32} (h1 : y ≤ x → AP M_X7_sumIf b 74 [x0, x1, x2, x3, x4, x5, x6, x7] st hi g Φ) (h2 : ¬ y ≤ x → AP M_X7_sumIf b 29 [x0, x1, x2, x3, x4, x5, x6, x7] st hi g Φ) : AP M_X7_sumIf b 26 [x0, x1, x2, x3, x4, x5, x6, x7] (.int y :: .int x :: st) hi g Φ := AP.icmp_ge d_X7_sumIf_26 (by decide) h1 h2
theorem d_X7_sumIf_29 : decode cX7_sumIf 29 = .ok (.aload_n 0, 1) := by decide +kernel
theorem s_X7_sumIf_29 {n : Nat} (h : AP M_X7_sumIf b 30 [.ref n, x1, x2, x3, x4, x5, x6, x7] (.ref n :: st) hi g Φ) : AP M_X7_sumIf b 29 [.ref n, x1, x2, x3, x4, x5, x6, x7] (st) hi g Φ := AP.aload_n (x := n) (i := 0) d_X7_sumIf_29 rfl rfl h
theorem d_X7_sumIf_30 : decode cX7_sumIf 30 = .ok (.getfield 12, 3) := by decide +kernel
theorem s_X7_sumIf_30 {k r : Nat} (hI : am_Inv g) (hs : am_SH k = (0, 7)) (hk : k < 134) (hr : am_HRf k 0 = some r) (hn : k ≠ 39) (h : AP M_X7_sumIf b 33 [x0, x1, x2, x3, x4, x5, x6, x7] (.ref r :: st) hi g Φ) : AP M_X7_sumIf b 30 [x0, x1, x2, x3, x4, x5, x6, x7] (.ref k :: st) hi g Φ := AP.getR (j := 0) (q := (RX7, TX7, 7)) d_X7_sumIf_30 hs (hI.lt hk) rfl (by decide) (by decide) w_226 (hI.r hn hr) h
theorem d_X7_sumIf_33 : decode cX7_sumIf 33 = .ok (.iload 6, 2) := by decide +kernel
theorem s_X7_sumIf_33 {n : Int32} (h : AP M_X7_sumIf b 35 [x0, x1, x2, x3, x4, x5, .int n, x7] (.int n :: st) hi g Φ) : AP M_X7_sumIf b 33 [x0, x1, x2, x3, x4, x5, .int n, x7] (st) hi g Φ := AP.iload (x := n) (i := 6) d_X7_sumIf_33 rfl h
theorem d_X7_sumIf_35 : decode cX7_sumIf 35 = .ok (.invokevirtual 66, 3) := by decide +kernel
theorem s_X7_sumIf_35 {a0 : Int32} {k : Nat} {r0 : Int32} {P : am_HI → Prop} (hI : am_Inv g) (hs : am_SH k = (0, 6)) (hk : k < 134) (hst : (st.map Value.category).sum ≤ 8) (hc : am_Cr M_X6_soundAt [.ref k, .int a0] hi g (some (.int r0)) P) (h : ∀ hi' : am_HI, P hi' → AP M_X7_sumIf b 38 [x0, x1, x2, x3, x4, x5, x6, x7] (.int r0 :: st) hi' g Φ) : AP M_X7_sumIf b 35 [x0, x1, x2, x3, x4, x5, x6, x7] (.int a0 :: .ref k :: st) hi g Φ := AP.callVr (As := [.int a0]) (q := (RX6, TX6, 8)) hI hc k_X7_sumIf_66 d_X7_sumIf_35 rfl hs hk rfl rfl hst h
theorem d_X7_sumIf_38 : decode cX7_sumIf 38 = .ok (.istore 7, 2) := by decide +kernel
theorem s_X7_sumIf_38 {n : Int32} (hc : x6.category = 1) (h : AP M_X7_sumIf b 40 [x0, x1, x2, x3, x4, x5, x6, .int n] (st) hi g Φ) : AP M_X7_sumIf b 38 [x0, x1, x2, x3, x4, x5, x6, x7] (.int n :: st) hi g Φ := AP.istore (x := n) (i := 7) d_X7_sumIf_38 (by decide) (by simp [am_st, am_ci, am_cr, am_cl, am_cd, hc]) h
theorem d_X7_sumIf_40 : decode cX7_sumIf 40 = .ok (.iload 5, 2) := by decide +kernel
theorem s_X7_sumIf_40 {n : Int32} (h : AP M_X7_sumIf b 42 [x0, x1, x2, x3, x4, .int n, x6, x7] (.int n :: st) hi g Φ) : AP M_X7_sumIf b 40 [x0, x1, x2, x3, x4, .int n, x6, x7] (st) hi g Φ := AP.iload (x := n) (i := 5) d_X7_sumIf_40 rfl h
theorem d_X7_sumIf_42 : decode cX7_sumIf 42 = .ok (.iload 7, 2) := by decide +kernel
theorem s_X7_sumIf_42 {n : Int32} (h : AP M_X7_sumIf b 44 [x0, x1, x2, x3, x4, x5, x6, .int n] (.int n :: st) hi g Φ) : AP M_X7_sumIf b 42 [x0, x1, x2, x3, x4, x5, x6, .int n] (st) hi g Φ := AP.iload (x := n) (i := 7) d_X7_sumIf_42 rfl h
theorem d_X7_sumIf_44 : decode cX7_sumIf 44 = .ok (.aload_n 0, 1) := by decide +kernel
theorem s_X7_sumIf_44 {n : Nat} (h : AP M_X7_sumIf b 45 [.ref n, x1, x2, x3, x4, x5, x6, x7] (.ref n :: st) hi g Φ) : AP M_X7_sumIf b 44 [.ref n, x1, x2, x3, x4, x5, x6, x7] (st) hi g Φ := AP.aload_n (x := n) (i := 0) d_X7_sumIf_44 rfl rfl h
theorem d_X7_sumIf_45 : decode cX7_sumIf 45 = .ok (.getfield 21, 3) := by decide +kernel
theorem s_X7_sumIf_45 {k r : Nat} (hI : am_Inv g) (hs : am_SH k = (0, 7)) (hk : k < 134) (hr : am_HRf k 1 = some r) (hn : k ≠ 39) (h : AP M_X7_sumIf b 48 [x0, x1, x2, x3, x4, x5, x6, x7] (.ref r :: st) hi g Φ) : AP M_X7_sumIf b 45 [x0, x1, x2, x3, x4, x5, x6, x7] (.ref k :: st) hi g Φ := AP.getR (j := 1) (q := (RX7, TX7, 7)) d_X7_sumIf_45 hs (hI.lt hk) rfl (by decide) (by decide) w_228 (hI.r hn hr) h
theorem d_X7_sumIf_48 : decode cX7_sumIf 48 = .ok (.iload_n 1, 1) := by decide +kernel
theorem s_X7_sumIf_48 {n : Int32} (h : AP M_X7_sumIf b 49 [x0, .int n, x2, x3, x4, x5, x6, x7] (.int n :: st) hi g Φ) : AP M_X7_sumIf b 48 [x0, .int n, x2, x3, x4, x5, x6, x7] (st) hi g Φ := AP.iload_n (x := n) (i := 1) d_X7_sumIf_48 rfl rfl h
theorem d_X7_sumIf_49 : decode cX7_sumIf 49 = .ok (.invokevirtual 60, 3) := by decide +kernel
theorem s_X7_sumIf_49 {a0 : Int32} {k : Nat} {r0 : Int32} {P : am_HI → Prop} (hI : am_Inv g) (hs : am_SH k = (0, 0)) (hk : k < 134) (hst : (st.map Value.category).sum ≤ 8) (hc : am_Cr M_X0_foretell [.ref k, .int a0] hi g (some (.int r0)) P) (h : ∀ hi' : am_HI, P hi' → AP M_X7_sumIf b 52 [x0, x1, x2, x3, x4, x5, x6, x7] (.int r0 :: st) hi' g Φ) : AP M_X7_sumIf b 49 [x0, x1, x2, x3, x4, x5, x6, x7] (.int a0 :: .ref k :: st) hi g Φ := AP.callVr (As := [.int a0]) (q := (RX0, TX0, 6)) hI hc k_X7_sumIf_60 d_X7_sumIf_49 rfl hs hk rfl rfl hst h
theorem d_X7_sumIf_52 : decode cX7_sumIf 52 = .ok (.isub, 1) := by decide +kernel
theorem s_X7_sumIf_52 {x y : Int32} (h : AP M_X7_sumIf b 53 [x0, x1, x2, x3, x4, x5, x6, x7] (.int (x - y) :: st) hi g Φ) : AP M_X7_sumIf b 52 [x0, x1, x2, x3, x4, x5, x6, x7] (.int y :: .int x :: st) hi g Φ := AP.isub d_X7_sumIf_52 h
theorem d_X7_sumIf_53 : decode cX7_sumIf 53 = .ok (.invokestatic 88, 3) := by decide +kernel
theorem s_X7_sumIf_53 {a0 : Int32} {r0 : Int32} {P : am_HI → Prop} (hI : am_Inv g) (hst : (st.map Value.category).sum ≤ 8) (hc : am_Cr M_J9_abs_0f7a4 [.int a0] hi g (some (.int r0)) P) (h : ∀ hi' : am_HI, P hi' → AP M_X7_sumIf b 56 [x0, x1, x2, x3, x4, x5, x6, x7] (.int r0 :: st) hi' g Φ) : AP M_X7_sumIf b 53 [x0, x1, x2, x3, x4, x5, x6, x7] (.int a0 :: st) hi g Φ := AP.callSr (As := [.int a0]) hI hc k_X7_sumIf_88 d_X7_sumIf_53 rfl hst h
theorem d_X7_sumIf_56 : decode cX7_sumIf 56 = .ok (.iadd, 1) := by decide +kernel
theorem s_X7_sumIf_56 {x y : Int32} (h : AP M_X7_sumIf b 57 [x0, x1, x2, x3, x4, x5, x6, x7] (.int (x + y) :: st) hi g Φ) : AP M_X7_sumIf b 56 [x0, x1, x2, x3, x4, x5, x6, x7] (.int y :: .int x :: st) hi g Φ := AP.iadd d_X7_sumIf_56 h
theorem d_X7_sumIf_57 : decode cX7_sumIf 57 = .ok (.istore 5, 2) := by decide +kernel
theorem s_X7_sumIf_57 {n : Int32} (hc : x4.category = 1) (h : AP M_X7_sumIf b 59 [x0, x1, x2, x3, x4, .int n, x6, x7] (st) hi g Φ) : AP M_X7_sumIf b 57 [x0, x1, x2, x3, x4, x5, x6, x7] (.int n :: st) hi g Φ := AP.istore (x := n) (i := 5) d_X7_sumIf_57 (by decide) (by simp [am_st, am_ci, am_cr, am_cl, am_cd, hc]) h
theorem d_X7_sumIf_59 : decode cX7_sumIf 59 = .ok (.aload_n 0, 1) := by decide +kernel
theorem s_X7_sumIf_59 {n : Nat} (h : AP M_X7_sumIf b 60 [.ref n, x1, x2, x3, x4, x5, x6, x7] (.ref n :: st) hi g Φ) : AP M_X7_sumIf b 59 [.ref n, x1, x2, x3, x4, x5, x6, x7] (st) hi g Φ := AP.aload_n (x := n) (i := 0) d_X7_sumIf_59 rfl rfl h
theorem d_X7_sumIf_60 : decode cX7_sumIf 60 = .ok (.getfield 21, 3) := by decide +kernel
theorem s_X7_sumIf_60 {k r : Nat} (hI : am_Inv g) (hs : am_SH k = (0, 7)) (hk : k < 134) (hr : am_HRf k 1 = some r) (hn : k ≠ 39) (h : AP M_X7_sumIf b 63 [x0, x1, x2, x3, x4, x5, x6, x7] (.ref r :: st) hi g Φ) : AP M_X7_sumIf b 60 [x0, x1, x2, x3, x4, x5, x6, x7] (.ref k :: st) hi g Φ := AP.getR (j := 1) (q := (RX7, TX7, 7)) d_X7_sumIf_60 hs (hI.lt hk) rfl (by decide) (by decide) w_228 (hI.r hn hr) h
theorem d_X7_sumIf_63 : decode cX7_sumIf 63 = .ok (.iload 7, 2) := by decide +kernel
theorem s_X7_sumIf_63 {n : Int32} (h : AP M_X7_sumIf b 65 [x0, x1, x2, x3, x4, x5, x6, .int n] (.int n :: st) hi g Φ) : AP M_X7_sumIf b 63 [x0, x1, x2, x3, x4, x5, x6, .int n] (st) hi g Φ := AP.iload (x := n) (i := 7) d_X7_sumIf_63 rfl h
theorem d_X7_sumIf_65 : decode cX7_sumIf 65 = .ok (.invokevirtual 69, 3) := by decide +kernel
theorem s_X7_sumIf_65 {a0 : Int32} {k : Nat} {P : am_HI → Prop} (hI : am_Inv g) (hs : am_SH k = (0, 0)) (hk : k < 134) (hst : (st.map Value.category).sum ≤ 8) (hc : am_Cr M_X0_show [.ref k, .int a0] hi g none P) (h : ∀ hi' : am_HI, P hi' → AP M_X7_sumIf b 68 [x0, x1, x2, x3, x4, x5, x6, x7] (st) hi' g Φ) : AP M_X7_sumIf b 65 [x0, x1, x2, x3, x4, x5, x6, x7] (.int a0 :: .ref k :: st) hi g Φ := AP.callVr (As := [.int a0]) (q := (RX0, TX0, 6)) hI hc k_X7_sumIf_69 d_X7_sumIf_65 rfl hs hk rfl rfl hst h
theorem d_X7_sumIf_68 : decode cX7_sumIf 68 = .ok (.iinc 6 1, 3) := by decide +kernel
theorem s_X7_sumIf_68 {n : Int32} (hc : x5.category = 1) (h : AP M_X7_sumIf b 71 [x0, x1, x2, x3, x4, x5, .int (n + 1), x7] (st) hi g Φ) : AP M_X7_sumIf b 68 [x0, x1, x2, x3, x4, x5, .int n, x7] (st) hi g Φ := AP.iinc (i := 6) (x := n) (y := n + 1) d_X7_sumIf_68 rfl rfl (by decide) (by simp [am_st, am_ci, am_cr, am_cl, am_cd, hc]) h
theorem d_X7_sumIf_71 : decode cX7_sumIf 71 = .ok (.goto (-54), 3) := by decide +kernel
theorem s_X7_sumIf_71 (h : AP M_X7_sumIf b 17 [x0, x1, x2, x3, x4, x5, x6, x7] st hi g Φ) : AP M_X7_sumIf b 71 [x0, x1, x2, x3, x4, x5, x6, x7] st hi g Φ := AP.goto d_X7_sumIf_71 (by decide) h
theorem d_X7_sumIf_74 : decode cX7_sumIf 74 = .ok (.iload 5, 2) := by decide +kernel
theorem s_X7_sumIf_74 {n : Int32} (h : AP M_X7_sumIf b 76 [x0, x1, x2, x3, x4, .int n, x6, x7] (.int n :: st) hi g Φ) : AP M_X7_sumIf b 74 [x0, x1, x2, x3, x4, .int n, x6, x7] (st) hi g Φ := AP.iload (x := n) (i := 5) d_X7_sumIf_74 rfl h
theorem d_X7_sumIf_76 : decode cX7_sumIf 76 = .ok (.ireturn, 1) := by decide +kernel
theorem s_X7_sumIf_76 {x : Int32} (h : Φ (.ok (some (.int x))) hi g) : AP M_X7_sumIf b 76 [x0, x1, x2, x3, x4, x5, x6, x7] [.int x] hi g Φ := AP.iret d_X7_sumIf_76 rfl h
end
section
variable {b : Nat × Nat} {st : List Value} {hi : am_HI} {g : am_G} {Φ : am_P} {x0 x1 x2 x3 x4 : Value}
theorem d_X7_findDelay_0 : decode cX7_findDelay 0 = .ok (.iconst 1, 1) := by decide +kernel
theorem s_X7_findDelay_0 (h : AP M_X7_findDelay b 1 [x0, x1, x2, x3, x4] (.int 1 :: st) hi g Φ) : AP M_X7_findDelay b 0 [x0, x1, x2, x3, x4] (st) hi g Φ := AP.iconst (x := 1) d_X7_findDelay_0 (by decide) h
theorem d_X7_findDelay_1 : decode cX7_findDelay 1 = .ok (.istore_n 1, 1) := by decide +kernel
theorem s_X7_findDelay_1 {n : Int32} (hc : x0.category = 1) (h : AP M_X7_findDelay b 2 [x0, .int n, x2, x3, x4] (st) hi g Φ) : AP M_X7_findDelay b 1 [x0, x1, x2, x3, x4] (.int n :: st) hi g Φ := AP.istore_n (x := n) (i := 1) d_X7_findDelay_1 rfl (by decide) (by simp [am_st, am_ci, am_cr, am_cl, am_cd, hc]) h
theorem d_X7_findDelay_2 : decode cX7_findDelay 2 = .ok (.ldc 93, 2) := by decide +kernel
theorem s_X7_findDelay_2 (h : AP M_X7_findDelay b 4 [x0, x1, x2, x3, x4] (.int 1000000 :: st) hi g Φ) : AP M_X7_findDelay b 2 [x0, x1, x2, x3, x4] (st) hi g Φ := AP.ldc (x := 1000000) d_X7_findDelay_2 w_433 h
theorem d_X7_findDelay_4 : decode cX7_findDelay 4 = .ok (.istore_n 2, 1) := by decide +kernel
theorem s_X7_findDelay_4 {n : Int32} (hc : x1.category = 1) (h : AP M_X7_findDelay b 5 [x0, x1, .int n, x3, x4] (st) hi g Φ) : AP M_X7_findDelay b 4 [x0, x1, x2, x3, x4] (.int n :: st) hi g Φ := AP.istore_n (x := n) (i := 2) d_X7_findDelay_4 rfl (by decide) (by simp [am_st, am_ci, am_cr, am_cl, am_cd, hc]) h
theorem d_X7_findDelay_5 : decode cX7_findDelay 5 = .ok (.iconst 1, 1) := by decide +kernel
theorem s_X7_findDelay_5 (h : AP M_X7_findDelay b 6 [x0, x1, x2, x3, x4] (.int 1 :: st) hi g Φ) : AP M_X7_findDelay b 5 [x0, x1, x2, x3, x4] (st) hi g Φ := AP.iconst (x := 1) d_X7_findDelay_5 (by decide) h
theorem d_X7_findDelay_6 : decode cX7_findDelay 6 = .ok (.istore_n 3, 1) := by decide +kernel
theorem s_X7_findDelay_6 {n : Int32} (hc : x2.category = 1) (h : AP M_X7_findDelay b 7 [x0, x1, x2, .int n, x4] (st) hi g Φ) : AP M_X7_findDelay b 6 [x0, x1, x2, x3, x4] (.int n :: st) hi g Φ := AP.istore_n (x := n) (i := 3) d_X7_findDelay_6 rfl (by decide) (by simp [am_st, am_ci, am_cr, am_cl, am_cd, hc]) h
theorem d_X7_findDelay_7 : decode cX7_findDelay 7 = .ok (.iload_n 3, 1) := by decide +kernel
theorem s_X7_findDelay_7 {n : Int32} (h : AP M_X7_findDelay b 8 [x0, x1, x2, .int n, x4] (.int n :: st) hi g Φ) : AP M_X7_findDelay b 7 [x0, x1, x2, .int n, x4] (st) hi g Φ := AP.iload_n (x := n) (i := 3) d_X7_findDelay_7 rfl rfl h
theorem d_X7_findDelay_8 : decode cX7_findDelay 8 = .ok (.bipush 12, 2) := by decide +kernel
theorem s_X7_findDelay_8 (h : AP M_X7_findDelay b 10 [x0, x1, x2, x3, x4] (.int 12 :: st) hi g Φ) : AP M_X7_findDelay b 8 [x0, x1, x2, x3, x4] (st) hi g Φ := AP.bipush (x := 12) d_X7_findDelay_8 (by decide) h
theorem d_X7_findDelay_10 : decode cX7_findDelay 10 = .ok (.if_icmp .gt 42, 3) := by decide +kernel
theorem s_X7_findDelay_10 {x y : Int32} (h1 : y < x → AP M_X7_findDelay b 52 [x0, x1, x2, x3, x4] st hi g Φ) (h2 : ¬ y < x → AP M_X7_findDelay b 13 [x0, x1, x2, x3, x4] st hi g Φ) : AP M_X7_findDelay b 10 [x0, x1, x2, x3, x4] (.int y :: .int x :: st) hi g Φ := AP.icmp_gt d_X7_findDelay_10 (by decide) h1 h2
theorem d_X7_findDelay_13 : decode cX7_findDelay 13 = .ok (.aload_n 0, 1) := by decide +kernel
theorem s_X7_findDelay_13 {n : Nat} (h : AP M_X7_findDelay b 14 [.ref n, x1, x2, x3, x4] (.ref n :: st) hi g Φ) : AP M_X7_findDelay b 13 [.ref n, x1, x2, x3, x4] (st) hi g Φ := AP.aload_n (x := n) (i := 0) d_X7_findDelay_13 rfl rfl h
theorem d_X7_findDelay_14 : decode cX7_findDelay 14 = .ok (.iconst 3, 1) := by decide +kernel
theorem s_X7_findDelay_14 (h : AP M_X7_findDelay b 15 [x0, x1, x2, x3, x4] (.int 3 :: st) hi g Φ) : AP M_X7_findDelay b 14 [x0, x1, x2, x3, x4] (st) hi g Φ := AP.iconst (x := 3) d_X7_findDelay_14 (by decide) h
theorem d_X7_findDelay_15 : decode cX7_findDelay 15 = .ok (.iload_n 3, 1) := by decide +kernel
theorem s_X7_findDelay_15 {n : Int32} (h : AP M_X7_findDelay b 16 [x0, x1, x2, .int n, x4] (.int n :: st) hi g Φ) : AP M_X7_findDelay b 15 [x0, x1, x2, .int n, x4] (st) hi g Φ := AP.iload_n (x := n) (i := 3) d_X7_findDelay_15 rfl rfl h
theorem d_X7_findDelay_16 : decode cX7_findDelay 16 = .ok (.aload_n 0, 1) := by decide +kernel
theorem s_X7_findDelay_16 {n : Nat} (h : AP M_X7_findDelay b 17 [.ref n, x1, x2, x3, x4] (.ref n :: st) hi g Φ) : AP M_X7_findDelay b 16 [.ref n, x1, x2, x3, x4] (st) hi g Φ := AP.aload_n (x := n) (i := 0) d_X7_findDelay_16 rfl rfl h
theorem d_X7_findDelay_17 : decode cX7_findDelay 17 = .ok (.getfield 12, 3) := by decide +kernel
theorem s_X7_findDelay_17 {k r : Nat} (hI : am_Inv g) (hs : am_SH k = (0, 7)) (hk : k < 134) (hr : am_HRf k 0 = some r) (hn : k ≠ 39) (h : AP M_X7_findDelay b 20 [x0, x1, x2, x3, x4] (.ref r :: st) hi g Φ) : AP M_X7_findDelay b 17 [x0, x1, x2, x3, x4] (.ref k :: st) hi g Φ := AP.getR (j := 0) (q := (RX7, TX7, 7)) d_X7_findDelay_17 hs (hI.lt hk) rfl (by decide) (by decide) w_226 (hI.r hn hr) h
theorem d_X7_findDelay_20 : decode cX7_findDelay 20 = .ok (.getfield 47, 3) := by decide +kernel
theorem s_X7_findDelay_20 {k : Nat} (hI : am_Inv g) (hs : am_SH k = (0, 6)) (hk : k < 134) (h : AP M_X7_findDelay b 23 [x0, x1, x2, x3, x4] (.int (hi k 5) :: st) hi g Φ) : AP M_X7_findDelay b 20 [x0, x1, x2, x3, x4] (.ref k :: st) hi g Φ := AP.getI (j := 5) (q := (RX6, TX6, 8)) d_X7_findDelay_20 hs (hI.lt hk) rfl (by decide) (by decide) w_173 h
theorem d_X7_findDelay_23 : decode cX7_findDelay 23 = .ok (.aload_n 0, 1) := by decide +kernel
theorem s_X7_findDelay_23 {n : Nat} (h : AP M_X7_findDelay b 24 [.ref n, x1, x2, x3, x4] (.ref n :: st) hi g Φ) : AP M_X7_findDelay b 23 [.ref n, x1, x2, x3, x4] (st) hi g Φ := AP.aload_n (x := n) (i := 0) d_X7_findDelay_23 rfl rfl h
theorem d_X7_findDelay_24 : decode cX7_findDelay 24 = .ok (.getfield 12, 3) := by decide +kernel
theorem s_X7_findDelay_24 {k r : Nat} (hI : am_Inv g) (hs : am_SH k = (0, 7)) (hk : k < 134) (hr : am_HRf k 0 = some r) (hn : k ≠ 39) (h : AP M_X7_findDelay b 27 [x0, x1, x2, x3, x4] (.ref r :: st) hi g Φ) : AP M_X7_findDelay b 24 [x0, x1, x2, x3, x4] (.ref k :: st) hi g Φ := AP.getR (j := 0) (q := (RX7, TX7, 7)) d_X7_findDelay_24 hs (hI.lt hk) rfl (by decide) (by decide) w_226 (hI.r hn hr) h
theorem d_X7_findDelay_27 : decode cX7_findDelay 27 = .ok (.getfield 50, 3) := by decide +kernel
theorem s_X7_findDelay_27 {k r : Nat} (hI : am_Inv g) (hs : am_SH k = (0, 6)) (hk : k < 134) (hr : am_HRf k 1 = some r) (hn : k ≠ 39) (h : AP M_X7_findDelay b 30 [x0, x1, x2, x3, x4] (.ref r :: st) hi g Φ) : AP M_X7_findDelay b 27 [x0, x1, x2, x3, x4] (.ref k :: st) hi g Φ := AP.getR (j := 1) (q := (RX6, TX6, 8)) d_X7_findDelay_27 hs (hI.lt hk) rfl (by decide) (by decide) w_162 (hI.r hn hr) h
theorem d_X7_findDelay_30 : decode cX7_findDelay 30 = .ok (.invokevirtual 84, 3) := by decide +kernel
theorem s_X7_findDelay_30 {a0 : Int32} {a1 : Int32} {a2 : Int32} {a3 : Nat} {k : Nat} {r0 : Int32} {P : am_HI → Prop} (hI : am_Inv g) (hs : am_SH k = (0, 7)) (hk : k < 134) (hst : (st.map Value.category).sum ≤ 8) (hc : am_Cr M_X7_sumIf [.ref k, .int a0, .int a1, .int a2, .ref a3] hi g (some (.int r0)) P) (h : ∀ hi' : am_HI, P hi' → AP M_X7_findDelay b 33 [x0, x1, x2, x3, x4] (.int r0 :: st) hi' g Φ) : AP M_X7_findDelay b 30 [x0, x1, x2, x3, x4] (.ref a3 :: .int a2 :: .int a1 :: .int a0 :: .ref k :: st) hi g Φ := AP.callVr (As := [.int a0, .int a1, .int a2, .ref a3]) (q := (RX7, TX7, 7)) hI hc k_X7_findDelay_84 d_X7_findDelay_30 rfl hs hk rfl rfl hst h
theorem d_X7_findDelay_33 : decode cX7_findDelay 33 = .ok (.istore 4, 2) := by decide +kernel
theorem s_X7_findDelay_33 {n : Int32} (hc : x3.category = 1) (h : AP M_X7_findDelay b 35 [x0, x1, x2, x3, .int n] (st) hi g Φ) : AP M_X7_findDelay b 33 [x0, x1, x2, x3, x4] (.int n :: st) hi g Φ := AP.istore (x := n) (i := 4) d_X7_findDelay_33 (by decide) (by simp [am_st, am_ci, am_cr, am_cl, am_cd, hc]) h
theorem d_X7_findDelay_35 : decode cX7_findDelay 35 = .ok (.iload 4, 2) := by decide +kernel
theorem s_X7_findDelay_35 {n : Int32} (h : AP M_X7_findDelay b 37 [x0, x1, x2, x3, .int n] (.int n :: st) hi g Φ) : AP M_X7_findDelay b 35 [x0, x1, x2, x3, .int n] (st) hi g Φ := AP.iload (x := n) (i := 4) d_X7_findDelay_35 rfl h
theorem d_X7_findDelay_37 : decode cX7_findDelay 37 = .ok (.iload_n 2, 1) := by decide +kernel
theorem s_X7_findDelay_37 {n : Int32} (h : AP M_X7_findDelay b 38 [x0, x1, .int n, x3, x4] (.int n :: st) hi g Φ) : AP M_X7_findDelay b 37 [x0, x1, .int n, x3, x4] (st) hi g Φ := AP.iload_n (x := n) (i := 2) d_X7_findDelay_37 rfl rfl h
theorem d_X7_findDelay_38 : decode cX7_findDelay 38 = .ok (.if_icmp .ge 8, 3) := by decide +kernel
theorem s_X7_findDelay_38 {x y : Int32} (h1 : y ≤ x → AP M_X7_findDelay b 46 [x0, x1, x2, x3, x4] st hi g Φ) (h2 : ¬ y ≤ x → AP M_X7_findDelay b 41 [x0, x1, x2, x3, x4] st hi g Φ) : AP M_X7_findDelay b 38 [x0, x1, x2, x3, x4] (.int y :: .int x :: st) hi g Φ := AP.icmp_ge d_X7_findDelay_38 (by decide) h1 h2
theorem d_X7_findDelay_41 : decode cX7_findDelay 41 = .ok (.iload 4, 2) := by decide +kernel
theorem s_X7_findDelay_41 {n : Int32} (h : AP M_X7_findDelay b 43 [x0, x1, x2, x3, .int n] (.int n :: st) hi g Φ) : AP M_X7_findDelay b 41 [x0, x1, x2, x3, .int n] (st) hi g Φ := AP.iload (x := n) (i := 4) d_X7_findDelay_41 rfl h
theorem d_X7_findDelay_43 : decode cX7_findDelay 43 = .ok (.istore_n 2, 1) := by decide +kernel
theorem s_X7_findDelay_43 {n : Int32} (hc : x1.category = 1) (h : AP M_X7_findDelay b 44 [x0, x1, .int n, x3, x4] (st) hi g Φ) : AP M_X7_findDelay b 43 [x0, x1, x2, x3, x4] (.int n :: st) hi g Φ := AP.istore_n (x := n) (i := 2) d_X7_findDelay_43 rfl (by decide) (by simp [am_st, am_ci, am_cr, am_cl, am_cd, hc]) h
theorem d_X7_findDelay_44 : decode cX7_findDelay 44 = .ok (.iload_n 3, 1) := by decide +kernel
theorem s_X7_findDelay_44 {n : Int32} (h : AP M_X7_findDelay b 45 [x0, x1, x2, .int n, x4] (.int n :: st) hi g Φ) : AP M_X7_findDelay b 44 [x0, x1, x2, .int n, x4] (st) hi g Φ := AP.iload_n (x := n) (i := 3) d_X7_findDelay_44 rfl rfl h
theorem d_X7_findDelay_45 : decode cX7_findDelay 45 = .ok (.istore_n 1, 1) := by decide +kernel
theorem s_X7_findDelay_45 {n : Int32} (hc : x0.category = 1) (h : AP M_X7_findDelay b 46 [x0, .int n, x2, x3, x4] (st) hi g Φ) : AP M_X7_findDelay b 45 [x0, x1, x2, x3, x4] (.int n :: st) hi g Φ := AP.istore_n (x := n) (i := 1) d_X7_findDelay_45 rfl (by decide) (by simp [am_st, am_ci, am_cr, am_cl, am_cd, hc]) h
theorem d_X7_findDelay_46 : decode cX7_findDelay 46 = .ok (.iinc 3 1, 3) := by decide +kernel
theorem s_X7_findDelay_46 {n : Int32} (hc : x2.category = 1) (h : AP M_X7_findDelay b 49 [x0, x1, x2, .int (n + 1), x4] (st) hi g Φ) : AP M_X7_findDelay b 46 [x0, x1, x2, .int n, x4] (st) hi g Φ := AP.iinc (i := 3) (x := n) (y := n + 1) d_X7_findDelay_46 rfl rfl (by decide) (by simp [am_st, am_ci, am_cr, am_cl, am_cd, hc]) h
theorem d_X7_findDelay_49 : decode cX7_findDelay 49 = .ok (.goto (-42), 3) := by decide +kernel
theorem s_X7_findDelay_49 (h : AP M_X7_findDelay b 7 [x0, x1, x2, x3, x4] st hi g Φ) : AP M_X7_findDelay b 49 [x0, x1, x2, x3, x4] st hi g Φ := AP.goto d_X7_findDelay_49 (by decide) h
theorem d_X7_findDelay_52 : decode cX7_findDelay 52 = .ok (.iload_n 1, 1) := by decide +kernel
theorem s_X7_findDelay_52 {n : Int32} (h : AP M_X7_findDelay b 53 [x0, .int n, x2, x3, x4] (.int n :: st) hi g Φ) : AP M_X7_findDelay b 52 [x0, .int n, x2, x3, x4] (st) hi g Φ := AP.iload_n (x := n) (i := 1) d_X7_findDelay_52 rfl rfl h
theorem d_X7_findDelay_53 : decode cX7_findDelay 53 = .ok (.ireturn, 1) := by decide +kernel
theorem s_X7_findDelay_53 {x : Int32} (h : Φ (.ok (some (.int x))) hi g) : AP M_X7_findDelay b 53 [x0, x1, x2, x3, x4] [.int x] hi g Φ := AP.iret d_X7_findDelay_53 rfl h
end
section
variable {b : Nat × Nat} {st : List Value} {hi : am_HI} {g : am_G} {Φ : am_P} {x0 x1 x2 x3 x4 x5 : Value}
theorem d_X7_findFirst_0 : decode cX7_findFirst 0 = .ok (.aload_n 0, 1) := by decide +kernel
theorem s_X7_findFirst_0 {n : Nat} (h : AP M_X7_findFirst b 1 [.ref n, x1, x2, x3, x4, x5] (.ref n :: st) hi g Φ) : AP M_X7_findFirst b 0 [.ref n, x1, x2, x3, x4, x5] (st) hi g Φ := AP.aload_n (x := n) (i := 0) d_X7_findFirst_0 rfl rfl h
theorem d_X7_findFirst_1 : decode cX7_findFirst 1 = .ok (.getfield 12, 3) := by decide +kernel
theorem s_X7_findFirst_1 {k r : Nat} (hI : am_Inv g) (hs : am_SH k = (0, 7)) (hk : k < 134) (hr : am_HRf k 0 = some r) (hn : k ≠ 39) (h : AP M_X7_findFirst b 4 [x0, x1, x2, x3, x4, x5] (.ref r :: st) hi g Φ) : AP M_X7_findFirst b 1 [x0, x1, x2, x3, x4, x5] (.ref k :: st) hi g Φ := AP.getR (j := 0) (q := (RX7, TX7, 7)) d_X7_findFirst_1 hs (hI.lt hk) rfl (by decide) (by decide) w_226 (hI.r hn hr) h
theorem d_X7_findFirst_4 : decode cX7_findFirst 4 = .ok (.getfield 50, 3) := by decide +kernel
theorem s_X7_findFirst_4 {k r : Nat} (hI : am_Inv g) (hs : am_SH k = (0, 6)) (hk : k < 134) (hr : am_HRf k 1 = some r) (hn : k ≠ 39) (h : AP M_X7_findFirst b 7 [x0, x1, x2, x3, x4, x5] (.ref r :: st) hi g Φ) : AP M_X7_findFirst b 4 [x0, x1, x2, x3, x4, x5] (.ref k :: st) hi g Φ := AP.getR (j := 1) (q := (RX6, TX6, 8)) d_X7_findFirst_4 hs (hI.lt hk) rfl (by decide) (by decide) w_162 (hI.r hn hr) h
theorem d_X7_findFirst_7 : decode cX7_findFirst 7 = .ok (.iconst 0, 1) := by decide +kernel
theorem s_X7_findFirst_7 (h : AP M_X7_findFirst b 8 [x0, x1, x2, x3, x4, x5] (.int 0 :: st) hi g Φ) : AP M_X7_findFirst b 7 [x0, x1, x2, x3, x4, x5] (st) hi g Φ := AP.iconst (x := 0) d_X7_findFirst_7 (by decide) h
theorem d_X7_findFirst_8 : decode cX7_findFirst 8 = .ok (.aload_n 0, 1) := by decide +kernel
theorem s_X7_findFirst_8 {n : Nat} (h : AP M_X7_findFirst b 9 [.ref n, x1, x2, x3, x4, x5] (.ref n :: st) hi g Φ) : AP M_X7_findFirst b 8 [.ref n, x1, x2, x3, x4, x5] (st) hi g Φ := AP.aload_n (x := n) (i := 0) d_X7_findFirst_8 rfl rfl h
theorem d_X7_findFirst_9 : decode cX7_findFirst 9 = .ok (.getfield 25, 3) := by decide +kernel
theorem s_X7_findFirst_9 {k r : Nat} (hI : am_Inv g) (hs : am_SH k = (0, 7)) (hk : k < 134) (hr : am_HRf k 2 = some r) (hn : k ≠ 39) (h : AP M_X7_findFirst b 12 [x0, x1, x2, x3, x4, x5] (.ref r :: st) hi g Φ) : AP M_X7_findFirst b 9 [x0, x1, x2, x3, x4, x5] (.ref k :: st) hi g Φ := AP.getR (j := 2) (q := (RX7, TX7, 7)) d_X7_findFirst_9 hs (hI.lt hk) rfl (by decide) (by decide) w_229 (hI.r hn hr) h
theorem d_X7_findFirst_12 : decode cX7_findFirst 12 = .ok (.iconst 0, 1) := by decide +kernel
theorem s_X7_findFirst_12 (h : AP M_X7_findFirst b 13 [x0, x1, x2, x3, x4, x5] (.int 0 :: st) hi g Φ) : AP M_X7_findFirst b 12 [x0, x1, x2, x3, x4, x5] (st) hi g Φ := AP.iconst (x := 0) d_X7_findFirst_12 (by decide) h
theorem d_X7_findFirst_13 : decode cX7_findFirst 13 = .ok (.iconst 4, 1) := by decide +kernel
theorem s_X7_findFirst_13 (h : AP M_X7_findFirst b 14 [x0, x1, x2, x3, x4, x5] (.int 4 :: st) hi g Φ) : AP M_X7_findFirst b 13 [x0, x1, x2, x3, x4, x5] (st) hi g Φ := AP.iconst (x := 4) d_X7_findFirst_13 (by decide) h
theorem d_X7_findFirst_14 : decode cX7_findFirst 14 = .ok (.invokestatic 94, 3) := by decide +kernel
-- s_X7_findFirst_14: a call apart
theorem d_X7_findFirst_17 : decode cX7_findFirst 17 = .ok (.bipush (-64), 2) := by decide +kernel
theorem s_X7_findFirst_17 (h : AP M_X7_findFirst b 19 [x0, x1, x2, x3, x4, x5] (.int (-64) :: st) hi g Φ) : AP M_X7_findFirst b 17 [x0, x1, x2, x3, x4, x5] (st) hi g Φ := AP.bipush (x := (-64)) d_X7_findFirst_17 (by decide) h
theorem d_X7_findFirst_19 : decode cX7_findFirst 19 = .ok (.istore_n 2, 1) := by decide +kernel
theorem s_X7_findFirst_19 {n : Int32} (hc : x1.category = 1) (h : AP M_X7_findFirst b 20 [x0, x1, .int n, x3, x4, x5] (st) hi g Φ) : AP M_X7_findFirst b 19 [x0, x1, x2, x3, x4, x5] (.int n :: st) hi g Φ := AP.istore_n (x := n) (i := 2) d_X7_findFirst_19 rfl (by decide) (by simp [am_st, am_ci, am_cr, am_cl, am_cd, hc]) h
theorem d_X7_findFirst_20 : decode cX7_findFirst 20 = .ok (.ldc 93, 2) := by decide +kernel
theorem s_X7_findFirst_20 (h : AP M_X7_findFirst b 22 [x0, x1, x2, x3, x4, x5] (.int 1000000 :: st) hi g Φ) : AP M_X7_findFirst b 20 [x0, x1, x2, x3, x4, x5] (st) hi g Φ := AP.ldc (x := 1000000) d_X7_findFirst_20 w_433 h
theorem d_X7_findFirst_22 : decode cX7_findFirst 22 = .ok (.istore_n 3, 1) := by decide +kernel
theorem s_X7_findFirst_22 {n : Int32} (hc : x2.category = 1) (h : AP M_X7_findFirst b 23 [x0, x1, x2, .int n, x4, x5] (st) hi g Φ) : AP M_X7_findFirst b 22 [x0, x1, x2, x3, x4, x5] (.int n :: st) hi g Φ := AP.istore_n (x := n) (i := 3) d_X7_findFirst_22 rfl (by decide) (by simp [am_st, am_ci, am_cr, am_cl, am_cd, hc]) h
theorem d_X7_findFirst_23 : decode cX7_findFirst 23 = .ok (.bipush (-64), 2) := by decide +kernel
theorem s_X7_findFirst_23 (h : AP M_X7_findFirst b 25 [x0, x1, x2, x3, x4, x5] (.int (-64) :: st) hi g Φ) : AP M_X7_findFirst b 23 [x0, x1, x2, x3, x4, x5] (st) hi g Φ := AP.bipush (x := (-64)) d_X7_findFirst_23 (by decide) h
theorem d_X7_findFirst_25 : decode cX7_findFirst 25 = .ok (.istore 4, 2) := by decide +kernel
theorem s_X7_findFirst_25 {n : Int32} (hc : x3.category = 1) (h : AP M_X7_findFirst b 27 [x0, x1, x2, x3, .int n, x5] (st) hi g Φ) : AP M_X7_findFirst b 25 [x0, x1, x2, x3, x4, x5] (.int n :: st) hi g Φ := AP.istore (x := n) (i := 4) d_X7_findFirst_25 (by decide) (by simp [am_st, am_ci, am_cr, am_cl, am_cd, hc]) h
theorem d_X7_findFirst_27 : decode cX7_findFirst 27 = .ok (.iload 4, 2) := by decide +kernel
theorem s_X7_findFirst_27 {n : Int32} (h : AP M_X7_findFirst b 29 [x0, x1, x2, x3, .int n, x5] (.int n :: st) hi g Φ) : AP M_X7_findFirst b 27 [x0, x1, x2, x3, .int n, x5] (st) hi g Φ := AP.iload (x := n) (i := 4) d_X7_findFirst_27 rfl h
theorem d_X7_findFirst_29 : decode cX7_findFirst 29 = .ok (.bipush 64, 2) := by decide +kernel
theorem s_X7_findFirst_29 (h : AP M_X7_findFirst b 31 [x0, x1, x2, x3, x4, x5] (.int 64 :: st) hi g Φ) : AP M_X7_findFirst b 29 [x0, x1, x2, x3, x4, x5] (st) hi g Φ := AP.bipush (x := 64) d_X7_findFirst_29 (by decide) h
theorem d_X7_findFirst_31 : decode cX7_findFirst 31 = .ok (.if_icmp .gt 56, 3) := by decide +kernel
theorem s_X7_findFirst_31 {x y : Int32} (h1 : y < x → AP M_X7_findFirst b 87 [x0, x1, x2, x3, x4, x5] st hi g Φ) (h2 : ¬ y < x → AP M_X7_findFirst b 34 [x0, x1, x2, x3, x4, x5] st hi g Φ) : AP M_X7_findFirst b 31 [x0, x1, x2, x3, x4, x5] (.int y :: .int x :: st) hi g Φ := AP.icmp_gt d_X7_findFirst_31 (by decide) h1 h2
theorem d_X7_findFirst_34 : decode cX7_findFirst 34 = .ok (.aload_n 0, 1) := by decide +kernel
theorem s_X7_findFirst_34 {n : Nat} (h : AP M_X7_findFirst b 35 [.ref n, x1, x2, x3, x4, x5] (.ref n :: st) hi g Φ) : AP M_X7_findFirst b 34 [.ref n, x1, x2, x3, x4, x5] (st) hi g Φ := AP.aload_n (x := n) (i := 0) d_X7_findFirst_34 rfl rfl h
theorem d_X7_findFirst_35 : decode cX7_findFirst 35 = .ok (.getfield 25, 3) := by decide +kernel
theorem s_X7_findFirst_35 {k r : Nat} (hI : am_Inv g) (hs : am_SH k = (0, 7)) (hk : k < 134) (hr : am_HRf k 2 = some r) (hn : k ≠ 39) (h : AP M_X7_findFirst b 38 [x0, x1, x2, x3, x4, x5] (.ref r :: st) hi g Φ) : AP M_X7_findFirst b 35 [x0, x1, x2, x3, x4, x5] (.ref k :: st) hi g Φ := AP.getR (j := 2) (q := (RX7, TX7, 7)) d_X7_findFirst_35 hs (hI.lt hk) rfl (by decide) (by decide) w_229 (hI.r hn hr) h
theorem d_X7_findFirst_38 : decode cX7_findFirst 38 = .ok (.iload_n 1, 1) := by decide +kernel
theorem s_X7_findFirst_38 {n : Int32} (h : AP M_X7_findFirst b 39 [x0, .int n, x2, x3, x4, x5] (.int n :: st) hi g Φ) : AP M_X7_findFirst b 38 [x0, .int n, x2, x3, x4, x5] (st) hi g Φ := AP.iload_n (x := n) (i := 1) d_X7_findFirst_38 rfl rfl h
theorem d_X7_findFirst_39 : decode cX7_findFirst 39 = .ok (.iconst 1, 1) := by decide +kernel
theorem s_X7_findFirst_39 (h : AP M_X7_findFirst b 40 [x0, x1, x2, x3, x4, x5] (.int 1 :: st) hi g Φ) : AP M_X7_findFirst b 39 [x0, x1, x2, x3, x4, x5] (st) hi g Φ := AP.iconst (x := 1) d_X7_findFirst_39 (by decide) h
theorem d_X7_findFirst_40 : decode cX7_findFirst 40 = .ok (.isub, 1) := by decide +kernel
theorem s_X7_findFirst_40 {x y : Int32} (h : AP M_X7_findFirst b 41 [x0, x1, x2, x3, x4, x5] (.int (x - y) :: st) hi g Φ) : AP M_X7_findFirst b 40 [x0, x1, x2, x3, x4, x5] (.int y :: .int x :: st) hi g Φ := AP.isub d_X7_findFirst_40 h
theorem d_X7_findFirst_41 : decode cX7_findFirst 41 = .ok (.iload 4, 2) := by decide +kernel
theorem s_X7_findFirst_41 {n : Int32} (h : AP M_X7_findFirst b 43 [x0, x1, x2, x3, .int n, x5] (.int n :: st) hi g Φ) : AP M_X7_findFirst b 41 [x0, x1, x2, x3, .int n, x5] (st) hi g Φ := AP.iload (x := n) (i := 4) d_X7_findFirst_41 rfl h
theorem d_X7_findFirst_43 : decode cX7_findFirst 43 = .ok (.iastore, 1) := by decide +kernel
theorem s_X7_findFirst_43 {k n j : Nat} {i x : Int32} (hI : am_Inv g) (hs : am_SH k = (1, n)) (hk : k < 134) (hn : n < 2 ^ 31) (hx : i = nI j) (hj : j < n) (h : AP M_X7_findFirst b 44 [x0, x1, x2, x3, x4, x5] (st) (am_up hi k j x) g Φ) : AP M_X7_findFirst b 43 [x0, x1, x2, x3, x4, x5] (.int x :: .int i :: .ref k :: st) hi g Φ := AP.iast d_X7_findFirst_43 hs (hI.lt hk) hn hx hj h
theorem d_X7_findFirst_44 : decode cX7_findFirst 44 = .ok (.aload_n 0, 1) := by decide +kernel
theorem s_X7_findFirst_44 {n : Nat} (h : AP M_X7_findFirst b 45 [.ref n, x1, x2, x3, x4, x5] (.ref n :: st) hi g Φ) : AP M_X7_findFirst b 44 [.ref n, x1, x2, x3, x4, x5] (st) hi g Φ := AP.aload_n (x := n) (i := 0) d_X7_findFirst_44 rfl rfl h
theorem d_X7_findFirst_45 : decode cX7_findFirst 45 = .ok (.iconst 4, 1) := by decide +kernel
theorem s_X7_findFirst_45 (h : AP M_X7_findFirst b 46 [x0, x1, x2, x3, x4, x5] (.int 4 :: st) hi g Φ) : AP M_X7_findFirst b 45 [x0, x1, x2, x3, x4, x5] (st) hi g Φ := AP.iconst (x := 4) d_X7_findFirst_45 (by decide) h
theorem d_X7_findFirst_46 : decode cX7_findFirst 46 = .ok (.aload_n 0, 1) := by decide +kernel
theorem s_X7_findFirst_46 {n : Nat} (h : AP M_X7_findFirst b 47 [.ref n, x1, x2, x3, x4, x5] (.ref n :: st) hi g Φ) : AP M_X7_findFirst b 46 [.ref n, x1, x2, x3, x4, x5] (st) hi g Φ := AP.aload_n (x := n) (i := 0) d_X7_findFirst_46 rfl rfl h
theorem d_X7_findFirst_47 : decode cX7_findFirst 47 = .ok (.getfield 12, 3) := by decide +kernel
theorem s_X7_findFirst_47 {k r : Nat} (hI : am_Inv g) (hs : am_SH k = (0, 7)) (hk : k < 134) (hr : am_HRf k 0 = some r) (hn : k ≠ 39) (h : AP M_X7_findFirst b 50 [x0, x1, x2, x3, x4, x5] (.ref r :: st) hi g Φ) : AP M_X7_findFirst b 47 [x0, x1, x2, x3, x4, x5] (.ref k :: st) hi g Φ := AP.getR (j := 0) (q := (RX7, TX7, 7)) d_X7_findFirst_47 hs (hI.lt hk) rfl (by decide) (by decide) w_226 (hI.r hn hr) h
theorem d_X7_findFirst_50 : decode cX7_findFirst 50 = .ok (.getfield 43, 3) := by decide +kernel
theorem s_X7_findFirst_50 {k : Nat} (hI : am_Inv g) (hs : am_SH k = (0, 6)) (hk : k < 134) (h : AP M_X7_findFirst b 53 [x0, x1, x2, x3, x4, x5] (.int (hi k 4) :: st) hi g Φ) : AP M_X7_findFirst b 50 [x0, x1, x2, x3, x4, x5] (.ref k :: st) hi g Φ := AP.getI (j := 4) (q := (RX6, TX6, 8)) d_X7_findFirst_50 hs (hI.lt hk) rfl (by decide) (by decide) w_170 h
theorem d_X7_findFirst_53 : decode cX7_findFirst 53 = .ok (.aload_n 0, 1) := by decide +kernel
theorem s_X7_findFirst_53 {n : Nat} (h : AP M_X7_findFirst b 54 [.ref n, x1, x2, x3, x4, x5] (.ref n :: st) hi g Φ) : AP M_X7_findFirst b 53 [.ref n, x1, x2, x3, x4, x5] (st) hi g Φ := AP.aload_n (x := n) (i := 0) d_X7_findFirst_53 rfl rfl h
theorem d_X7_findFirst_54 : decode cX7_findFirst 54 = .ok (.getfield 12, 3) := by decide +kernel
theorem s_X7_findFirst_54 {k r : Nat} (hI : am_Inv g) (hs : am_SH k = (0, 7)) (hk : k < 134) (hr : am_HRf k 0 = some r) (hn : k ≠ 39) (h : AP M_X7_findFirst b 57 [x0, x1, x2, x3, x4, x5] (.ref r :: st) hi g Φ) : AP M_X7_findFirst b 54 [x0, x1, x2, x3, x4, x5] (.ref k :: st) hi g Φ := AP.getR (j := 0) (q := (RX7, TX7, 7)) d_X7_findFirst_54 hs (hI.lt hk) rfl (by decide) (by decide) w_226 (hI.r hn hr) h
theorem d_X7_findFirst_57 : decode cX7_findFirst 57 = .ok (.getfield 47, 3) := by decide +kernel
theorem s_X7_findFirst_57 {k : Nat} (hI : am_Inv g) (hs : am_SH k = (0, 6)) (hk : k < 134) (h : AP M_X7_findFirst b 60 [x0, x1, x2, x3, x4, x5] (.int (hi k 5) :: st) hi g Φ) : AP M_X7_findFirst b 57 [x0, x1, x2, x3, x4, x5] (.ref k :: st) hi g Φ := AP.getI (j := 5) (q := (RX6, TX6, 8)) d_X7_findFirst_57 hs (hI.lt hk) rfl (by decide) (by decide) w_173 h
theorem d_X7_findFirst_60 : decode cX7_findFirst 60 = .ok (.aload_n 0, 1) := by decide +kernel
theorem s_X7_findFirst_60 {n : Nat} (h : AP M_X7_findFirst b 61 [.ref n, x1, x2, x3, x4, x5] (.ref n :: st) hi g Φ) : AP M_X7_findFirst b 60 [.ref n, x1, x2, x3, x4, x5] (st) hi g Φ := AP.aload_n (x := n) (i := 0) d_X7_findFirst_60 rfl rfl h
theorem d_X7_findFirst_61 : decode cX7_findFirst 61 = .ok (.getfield 25, 3) := by decide +kernel
theorem s_X7_findFirst_61 {k r : Nat} (hI : am_Inv g) (hs : am_SH k = (0, 7)) (hk : k < 134) (hr : am_HRf k 2 = some r) (hn : k ≠ 39) (h : AP M_X7_findFirst b 64 [x0, x1, x2, x3, x4, x5] (.ref r :: st) hi g Φ) : AP M_X7_findFirst b 61 [x0, x1, x2, x3, x4, x5] (.ref k :: st) hi g Φ := AP.getR (j := 2) (q := (RX7, TX7, 7)) d_X7_findFirst_61 hs (hI.lt hk) rfl (by decide) (by decide) w_229 (hI.r hn hr) h
theorem d_X7_findFirst_64 : decode cX7_findFirst 64 = .ok (.invokevirtual 84, 3) := by decide +kernel
theorem s_X7_findFirst_64 {a0 : Int32} {a1 : Int32} {a2 : Int32} {a3 : Nat} {k : Nat} {r0 : Int32} {P : am_HI → Prop} (hI : am_Inv g) (hs : am_SH k = (0, 7)) (hk : k < 134) (hst : (st.map Value.category).sum ≤ 8) (hc : am_Cr M_X7_sumIf [.ref k, .int a0, .int a1, .int a2, .ref a3] hi g (some (.int r0)) P) (h : ∀ hi' : am_HI, P hi' → AP M_X7_findFirst b 67 [x0, x1, x2, x3, x4, x5] (.int r0 :: st) hi' g Φ) : AP M_X7_findFirst b 64 [x0, x1, x2, x3, x4, x5] (.ref a3 :: .int a2 :: .int a1 :: .int a0 :: .ref k :: st) hi g Φ := AP.callVr (As := [.int a0, .int a1, .int a2, .ref a3]) (q := (RX7, TX7, 7)) hI hc k_X7_findFirst_84 d_X7_findFirst_64 rfl hs hk rfl rfl hst h
theorem d_X7_findFirst_67 : decode cX7_findFirst 67 = .ok (.istore 5, 2) := by decide +kernel
theorem s_X7_findFirst_67 {n : Int32} (hc : x4.category = 1) (h : AP M_X7_findFirst b 69 [x0, x1, x2, x3, x4, .int n] (st) hi g Φ) : AP M_X7_findFirst b 67 [x0, x1, x2, x3, x4, x5] (.int n :: st) hi g Φ := AP.istore (x := n) (i := 5) d_X7_findFirst_67 (by decide) (by simp [am_st, am_ci, am_cr, am_cl, am_cd, hc]) h
theorem d_X7_findFirst_69 : decode cX7_findFirst 69 = .ok (.iload 5, 2) := by decide +kernel
theorem s_X7_findFirst_69 {n : Int32} (h : AP M_X7_findFirst b 71 [x0, x1, x2, x3, x4, .int n] (.int n :: st) hi g Φ) : AP M_X7_findFirst b 69 [x0, x1, x2, x3, x4, .int n] (st) hi g Φ := AP.iload (x := n) (i := 5) d_X7_findFirst_69 rfl h
theorem d_X7_findFirst_71 : decode cX7_findFirst 71 = .ok (.iload_n 3, 1) := by decide +kernel
theorem s_X7_findFirst_71 {n : Int32} (h : AP M_X7_findFirst b 72 [x0, x1, x2, .int n, x4, x5] (.int n :: st) hi g Φ) : AP M_X7_findFirst b 71 [x0, x1, x2, .int n, x4, x5] (st) hi g Φ := AP.iload_n (x := n) (i := 3) d_X7_findFirst_71 rfl rfl h
theorem d_X7_findFirst_72 : decode cX7_findFirst 72 = .ok (.if_icmp .ge 9, 3) := by decide +kernel
theorem s_X7_findFirst_72 {x y : Int32} (h1 : y ≤ x → AP M_X7_findFirst b 81 [x0, x1, x2, x3, x4, x5] st hi g Φ) (h2 : ¬ y ≤ x → AP M_X7_findFirst b 75 [x0, x1, x2, x3, x4, x5] st hi g Φ) : AP M_X7_findFirst b 72 [x0, x1, x2, x3, x4, x5] (.int y :: .int x :: st) hi g Φ := AP.icmp_ge d_X7_findFirst_72 (by decide) h1 h2
theorem d_X7_findFirst_75 : decode cX7_findFirst 75 = .ok (.iload 5, 2) := by decide +kernel
theorem s_X7_findFirst_75 {n : Int32} (h : AP M_X7_findFirst b 77 [x0, x1, x2, x3, x4, .int n] (.int n :: st) hi g Φ) : AP M_X7_findFirst b 75 [x0, x1, x2, x3, x4, .int n] (st) hi g Φ := AP.iload (x := n) (i := 5) d_X7_findFirst_75 rfl h
theorem d_X7_findFirst_77 : decode cX7_findFirst 77 = .ok (.istore_n 3, 1) := by decide +kernel
theorem s_X7_findFirst_77 {n : Int32} (hc : x2.category = 1) (h : AP M_X7_findFirst b 78 [x0, x1, x2, .int n, x4, x5] (st) hi g Φ) : AP M_X7_findFirst b 77 [x0, x1, x2, x3, x4, x5] (.int n :: st) hi g Φ := AP.istore_n (x := n) (i := 3) d_X7_findFirst_77 rfl (by decide) (by simp [am_st, am_ci, am_cr, am_cl, am_cd, hc]) h
theorem d_X7_findFirst_78 : decode cX7_findFirst 78 = .ok (.iload 4, 2) := by decide +kernel
theorem s_X7_findFirst_78 {n : Int32} (h : AP M_X7_findFirst b 80 [x0, x1, x2, x3, .int n, x5] (.int n :: st) hi g Φ) : AP M_X7_findFirst b 78 [x0, x1, x2, x3, .int n, x5] (st) hi g Φ := AP.iload (x := n) (i := 4) d_X7_findFirst_78 rfl h
theorem d_X7_findFirst_80 : decode cX7_findFirst 80 = .ok (.istore_n 2, 1) := by decide +kernel
theorem s_X7_findFirst_80 {n : Int32} (hc : x1.category = 1) (h : AP M_X7_findFirst b 81 [x0, x1, .int n, x3, x4, x5] (st) hi g Φ) : AP M_X7_findFirst b 80 [x0, x1, x2, x3, x4, x5] (.int n :: st) hi g Φ := AP.istore_n (x := n) (i := 2) d_X7_findFirst_80 rfl (by decide) (by simp [am_st, am_ci, am_cr, am_cl, am_cd, hc]) h
theorem d_X7_findFirst_81 : decode cX7_findFirst 81 = .ok (.iinc 4 8, 3) := by decide +kernel
theorem s_X7_findFirst_81 {n : Int32} (hc : x3.category = 1) (h : AP M_X7_findFirst b 84 [x0, x1, x2, x3, .int (n + 8), x5] (st) hi g Φ) : AP M_X7_findFirst b 81 [x0, x1, x2, x3, .int n, x5] (st) hi g Φ := AP.iinc (i := 4) (x := n) (y := n + 8) d_X7_findFirst_81 rfl rfl (by decide) (by simp [am_st, am_ci, am_cr, am_cl, am_cd, hc]) h
theorem d_X7_findFirst_84 : decode cX7_findFirst 84 = .ok (.goto (-57), 3) := by decide +kernel
theorem s_X7_findFirst_84 (h : AP M_X7_findFirst b 27 [x0, x1, x2, x3, x4, x5] st hi g Φ) : AP M_X7_findFirst b 84 [x0, x1, x2, x3, x4, x5] st hi g Φ := AP.goto d_X7_findFirst_84 (by decide) h
theorem d_X7_findFirst_87 : decode cX7_findFirst 87 = .ok (.iload_n 2, 1) := by decide +kernel
theorem s_X7_findFirst_87 {n : Int32} (h : AP M_X7_findFirst b 88 [x0, x1, .int n, x3, x4, x5] (.int n :: st) hi g Φ) : AP M_X7_findFirst b 87 [x0, x1, .int n, x3, x4, x5] (st) hi g Φ := AP.iload_n (x := n) (i := 2) d_X7_findFirst_87 rfl rfl h
theorem d_X7_findFirst_88 : decode cX7_findFirst 88 = .ok (.ireturn, 1) := by decide +kernel
theorem s_X7_findFirst_88 {x : Int32} (h : Φ (.ok (some (.int x))) hi g) : AP M_X7_findFirst b 88 [x0, x1, x2, x3, x4, x5] [.int x] hi g Φ := AP.iret d_X7_findFirst_88 rfl h
end
section
variable {b : Nat × Nat} {st : List Value} {hi : am_HI} {g : am_G} {Φ : am_P} {x0 x1 x2 x3 x4 : Value}
theorem d_X7_findSpeed_0 : decode cX7_findSpeed 0 = .ok (.iconst 0, 1) := by decide +kernel
theorem s_X7_findSpeed_0 (h : AP M_X7_findSpeed b 1 [x0, x1, x2, x3, x4] (.int 0 :: st) hi g Φ) : AP M_X7_findSpeed b 0 [x0, x1, x2, x3, x4] (st) hi g Φ := AP.iconst (x := 0) d_X7_findSpeed_0 (by decide) h
theorem d_X7_findSpeed_1 : decode cX7_findSpeed 1 = .ok (.istore_n 1, 1) := by decide +kernel
theorem s_X7_findSpeed_1 {n : Int32} (hc : x0.category = 1) (h : AP M_X7_findSpeed b 2 [x0, .int n, x2, x3, x4] (st) hi g Φ) : AP M_X7_findSpeed b 1 [x0, x1, x2, x3, x4] (.int n :: st) hi g Φ := AP.istore_n (x := n) (i := 1) d_X7_findSpeed_1 rfl (by decide) (by simp [am_st, am_ci, am_cr, am_cl, am_cd, hc]) h
theorem d_X7_findSpeed_2 : decode cX7_findSpeed 2 = .ok (.ldc 93, 2) := by decide +kernel
theorem s_X7_findSpeed_2 (h : AP M_X7_findSpeed b 4 [x0, x1, x2, x3, x4] (.int 1000000 :: st) hi g Φ) : AP M_X7_findSpeed b 2 [x0, x1, x2, x3, x4] (st) hi g Φ := AP.ldc (x := 1000000) d_X7_findSpeed_2 w_433 h
theorem d_X7_findSpeed_4 : decode cX7_findSpeed 4 = .ok (.istore_n 2, 1) := by decide +kernel
theorem s_X7_findSpeed_4 {n : Int32} (hc : x1.category = 1) (h : AP M_X7_findSpeed b 5 [x0, x1, .int n, x3, x4] (st) hi g Φ) : AP M_X7_findSpeed b 4 [x0, x1, x2, x3, x4] (.int n :: st) hi g Φ := AP.istore_n (x := n) (i := 2) d_X7_findSpeed_4 rfl (by decide) (by simp [am_st, am_ci, am_cr, am_cl, am_cd, hc]) h
theorem d_X7_findSpeed_5 : decode cX7_findSpeed 5 = .ok (.iconst 0, 1) := by decide +kernel
theorem s_X7_findSpeed_5 (h : AP M_X7_findSpeed b 6 [x0, x1, x2, x3, x4] (.int 0 :: st) hi g Φ) : AP M_X7_findSpeed b 5 [x0, x1, x2, x3, x4] (st) hi g Φ := AP.iconst (x := 0) d_X7_findSpeed_5 (by decide) h
theorem d_X7_findSpeed_6 : decode cX7_findSpeed 6 = .ok (.istore_n 3, 1) := by decide +kernel
theorem s_X7_findSpeed_6 {n : Int32} (hc : x2.category = 1) (h : AP M_X7_findSpeed b 7 [x0, x1, x2, .int n, x4] (st) hi g Φ) : AP M_X7_findSpeed b 6 [x0, x1, x2, x3, x4] (.int n :: st) hi g Φ := AP.istore_n (x := n) (i := 3) d_X7_findSpeed_6 rfl (by decide) (by simp [am_st, am_ci, am_cr, am_cl, am_cd, hc]) h
theorem d_X7_findSpeed_7 : decode cX7_findSpeed 7 = .ok (.iload_n 3, 1) := by decide +kernel
theorem s_X7_findSpeed_7 {n : Int32} (h : AP M_X7_findSpeed b 8 [x0, x1, x2, .int n, x4] (.int n :: st) hi g Φ) : AP M_X7_findSpeed b 7 [x0, x1, x2, .int n, x4] (st) hi g Φ := AP.iload_n (x := n) (i := 3) d_X7_findSpeed_7 rfl rfl h
theorem d_X7_findSpeed_8 : decode cX7_findSpeed 8 = .ok (.iconst 3, 1) := by decide +kernel
theorem s_X7_findSpeed_8 (h : AP M_X7_findSpeed b 9 [x0, x1, x2, x3, x4] (.int 3 :: st) hi g Φ) : AP M_X7_findSpeed b 8 [x0, x1, x2, x3, x4] (st) hi g Φ := AP.iconst (x := 3) d_X7_findSpeed_8 (by decide) h
theorem d_X7_findSpeed_9 : decode cX7_findSpeed 9 = .ok (.if_icmp .gt 42, 3) := by decide +kernel
theorem s_X7_findSpeed_9 {x y : Int32} (h1 : y < x → AP M_X7_findSpeed b 51 [x0, x1, x2, x3, x4] st hi g Φ) (h2 : ¬ y < x → AP M_X7_findSpeed b 12 [x0, x1, x2, x3, x4] st hi g Φ) : AP M_X7_findSpeed b 9 [x0, x1, x2, x3, x4] (.int y :: .int x :: st) hi g Φ := AP.icmp_gt d_X7_findSpeed_9 (by decide) h1 h2
theorem d_X7_findSpeed_12 : decode cX7_findSpeed 12 = .ok (.aload_n 0, 1) := by decide +kernel
theorem s_X7_findSpeed_12 {n : Nat} (h : AP M_X7_findSpeed b 13 [.ref n, x1, x2, x3, x4] (.ref n :: st) hi g Φ) : AP M_X7_findSpeed b 12 [.ref n, x1, x2, x3, x4] (st) hi g Φ := AP.aload_n (x := n) (i := 0) d_X7_findSpeed_12 rfl rfl h
theorem d_X7_findSpeed_13 : decode cX7_findSpeed 13 = .ok (.iconst 4, 1) := by decide +kernel
theorem s_X7_findSpeed_13 (h : AP M_X7_findSpeed b 14 [x0, x1, x2, x3, x4] (.int 4 :: st) hi g Φ) : AP M_X7_findSpeed b 13 [x0, x1, x2, x3, x4] (st) hi g Φ := AP.iconst (x := 4) d_X7_findSpeed_13 (by decide) h
theorem d_X7_findSpeed_14 : decode cX7_findSpeed 14 = .ok (.aload_n 0, 1) := by decide +kernel
theorem s_X7_findSpeed_14 {n : Nat} (h : AP M_X7_findSpeed b 15 [.ref n, x1, x2, x3, x4] (.ref n :: st) hi g Φ) : AP M_X7_findSpeed b 14 [.ref n, x1, x2, x3, x4] (st) hi g Φ := AP.aload_n (x := n) (i := 0) d_X7_findSpeed_14 rfl rfl h
theorem d_X7_findSpeed_15 : decode cX7_findSpeed 15 = .ok (.getfield 12, 3) := by decide +kernel
theorem s_X7_findSpeed_15 {k r : Nat} (hI : am_Inv g) (hs : am_SH k = (0, 7)) (hk : k < 134) (hr : am_HRf k 0 = some r) (hn : k ≠ 39) (h : AP M_X7_findSpeed b 18 [x0, x1, x2, x3, x4] (.ref r :: st) hi g Φ) : AP M_X7_findSpeed b 15 [x0, x1, x2, x3, x4] (.ref k :: st) hi g Φ := AP.getR (j := 0) (q := (RX7, TX7, 7)) d_X7_findSpeed_15 hs (hI.lt hk) rfl (by decide) (by decide) w_226 (hI.r hn hr) h
theorem d_X7_findSpeed_18 : decode cX7_findSpeed 18 = .ok (.getfield 43, 3) := by decide +kernel
theorem s_X7_findSpeed_18 {k : Nat} (hI : am_Inv g) (hs : am_SH k = (0, 6)) (hk : k < 134) (h : AP M_X7_findSpeed b 21 [x0, x1, x2, x3, x4] (.int (hi k 4) :: st) hi g Φ) : AP M_X7_findSpeed b 18 [x0, x1, x2, x3, x4] (.ref k :: st) hi g Φ := AP.getI (j := 4) (q := (RX6, TX6, 8)) d_X7_findSpeed_18 hs (hI.lt hk) rfl (by decide) (by decide) w_170 h
theorem d_X7_findSpeed_21 : decode cX7_findSpeed 21 = .ok (.iload_n 3, 1) := by decide +kernel
theorem s_X7_findSpeed_21 {n : Int32} (h : AP M_X7_findSpeed b 22 [x0, x1, x2, .int n, x4] (.int n :: st) hi g Φ) : AP M_X7_findSpeed b 21 [x0, x1, x2, .int n, x4] (st) hi g Φ := AP.iload_n (x := n) (i := 3) d_X7_findSpeed_21 rfl rfl h
theorem d_X7_findSpeed_22 : decode cX7_findSpeed 22 = .ok (.aload_n 0, 1) := by decide +kernel
theorem s_X7_findSpeed_22 {n : Nat} (h : AP M_X7_findSpeed b 23 [.ref n, x1, x2, x3, x4] (.ref n :: st) hi g Φ) : AP M_X7_findSpeed b 22 [.ref n, x1, x2, x3, x4] (st) hi g Φ := AP.aload_n (x := n) (i := 0) d_X7_findSpeed_22 rfl rfl h
theorem d_X7_findSpeed_23 : decode cX7_findSpeed 23 = .ok (.getfield 12, 3) := by decide +kernel
theorem s_X7_findSpeed_23 {k r : Nat} (hI : am_Inv g) (hs : am_SH k = (0, 7)) (hk : k < 134) (hr : am_HRf k 0 = some r) (hn : k ≠ 39) (h : AP M_X7_findSpeed b 26 [x0, x1, x2, x3, x4] (.ref r :: st) hi g Φ) : AP M_X7_findSpeed b 23 [x0, x1, x2, x3, x4] (.ref k :: st) hi g Φ := AP.getR (j := 0) (q := (RX7, TX7, 7)) d_X7_findSpeed_23 hs (hI.lt hk) rfl (by decide) (by decide) w_226 (hI.r hn hr) h
theorem d_X7_findSpeed_26 : decode cX7_findSpeed 26 = .ok (.getfield 50, 3) := by decide +kernel
theorem s_X7_findSpeed_26 {k r : Nat} (hI : am_Inv g) (hs : am_SH k = (0, 6)) (hk : k < 134) (hr : am_HRf k 1 = some r) (hn : k ≠ 39) (h : AP M_X7_findSpeed b 29 [x0, x1, x2, x3, x4] (.ref r :: st) hi g Φ) : AP M_X7_findSpeed b 26 [x0, x1, x2, x3, x4] (.ref k :: st) hi g Φ := AP.getR (j := 1) (q := (RX6, TX6, 8)) d_X7_findSpeed_26 hs (hI.lt hk) rfl (by decide) (by decide) w_162 (hI.r hn hr) h
theorem d_X7_findSpeed_29 : decode cX7_findSpeed 29 = .ok (.invokevirtual 84, 3) := by decide +kernel
theorem s_X7_findSpeed_29 {a0 : Int32} {a1 : Int32} {a2 : Int32} {a3 : Nat} {k : Nat} {r0 : Int32} {P : am_HI → Prop} (hI : am_Inv g) (hs : am_SH k = (0, 7)) (hk : k < 134) (hst : (st.map Value.category).sum ≤ 8) (hc : am_Cr M_X7_sumIf [.ref k, .int a0, .int a1, .int a2, .ref a3] hi g (some (.int r0)) P) (h : ∀ hi' : am_HI, P hi' → AP M_X7_findSpeed b 32 [x0, x1, x2, x3, x4] (.int r0 :: st) hi' g Φ) : AP M_X7_findSpeed b 29 [x0, x1, x2, x3, x4] (.ref a3 :: .int a2 :: .int a1 :: .int a0 :: .ref k :: st) hi g Φ := AP.callVr (As := [.int a0, .int a1, .int a2, .ref a3]) (q := (RX7, TX7, 7)) hI hc k_X7_findSpeed_84 d_X7_findSpeed_29 rfl hs hk rfl rfl hst h
theorem d_X7_findSpeed_32 : decode cX7_findSpeed 32 = .ok (.istore 4, 2) := by decide +kernel
theorem s_X7_findSpeed_32 {n : Int32} (hc : x3.category = 1) (h : AP M_X7_findSpeed b 34 [x0, x1, x2, x3, .int n] (st) hi g Φ) : AP M_X7_findSpeed b 32 [x0, x1, x2, x3, x4] (.int n :: st) hi g Φ := AP.istore (x := n) (i := 4) d_X7_findSpeed_32 (by decide) (by simp [am_st, am_ci, am_cr, am_cl, am_cd, hc]) h
theorem d_X7_findSpeed_34 : decode cX7_findSpeed 34 = .ok (.iload 4, 2) := by decide +kernel
theorem s_X7_findSpeed_34 {n : Int32} (h : AP M_X7_findSpeed b 36 [x0, x1, x2, x3, .int n] (.int n :: st) hi g Φ) : AP M_X7_findSpeed b 34 [x0, x1, x2, x3, .int n] (st) hi g Φ := AP.iload (x := n) (i := 4) d_X7_findSpeed_34 rfl h
theorem d_X7_findSpeed_36 : decode cX7_findSpeed 36 = .ok (.iload_n 2, 1) := by decide +kernel
theorem s_X7_findSpeed_36 {n : Int32} (h : AP M_X7_findSpeed b 37 [x0, x1, .int n, x3, x4] (.int n :: st) hi g Φ) : AP M_X7_findSpeed b 36 [x0, x1, .int n, x3, x4] (st) hi g Φ := AP.iload_n (x := n) (i := 2) d_X7_findSpeed_36 rfl rfl h
theorem d_X7_findSpeed_37 : decode cX7_findSpeed 37 = .ok (.if_icmp .ge 8, 3) := by decide +kernel
theorem s_X7_findSpeed_37 {x y : Int32} (h1 : y ≤ x → AP M_X7_findSpeed b 45 [x0, x1, x2, x3, x4] st hi g Φ) (h2 : ¬ y ≤ x → AP M_X7_findSpeed b 40 [x0, x1, x2, x3, x4] st hi g Φ) : AP M_X7_findSpeed b 37 [x0, x1, x2, x3, x4] (.int y :: .int x :: st) hi g Φ := AP.icmp_ge d_X7_findSpeed_37 (by decide) h1 h2
theorem d_X7_findSpeed_40 : decode cX7_findSpeed 40 = .ok (.iload 4, 2) := by decide +kernel
theorem s_X7_findSpeed_40 {n : Int32} (h : AP M_X7_findSpeed b 42 [x0, x1, x2, x3, .int n] (.int n :: st) hi g Φ) : AP M_X7_findSpeed b 40 [x0, x1, x2, x3, .int n] (st) hi g Φ := AP.iload (x := n) (i := 4) d_X7_findSpeed_40 rfl h
theorem d_X7_findSpeed_42 : decode cX7_findSpeed 42 = .ok (.istore_n 2, 1) := by decide +kernel
theorem s_X7_findSpeed_42 {n : Int32} (hc : x1.category = 1) (h : AP M_X7_findSpeed b 43 [x0, x1, .int n, x3, x4] (st) hi g Φ) : AP M_X7_findSpeed b 42 [x0, x1, x2, x3, x4] (.int n :: st) hi g Φ := AP.istore_n (x := n) (i := 2) d_X7_findSpeed_42 rfl (by decide) (by simp [am_st, am_ci, am_cr, am_cl, am_cd, hc]) h
theorem d_X7_findSpeed_43 : decode cX7_findSpeed 43 = .ok (.iload_n 3, 1) := by decide +kernel
theorem s_X7_findSpeed_43 {n : Int32} (h : AP M_X7_findSpeed b 44 [x0, x1, x2, .int n, x4] (.int n :: st) hi g Φ) : AP M_X7_findSpeed b 43 [x0, x1, x2, .int n, x4] (st) hi g Φ := AP.iload_n (x := n) (i := 3) d_X7_findSpeed_43 rfl rfl h
theorem d_X7_findSpeed_44 : decode cX7_findSpeed 44 = .ok (.istore_n 1, 1) := by decide +kernel
theorem s_X7_findSpeed_44 {n : Int32} (hc : x0.category = 1) (h : AP M_X7_findSpeed b 45 [x0, .int n, x2, x3, x4] (st) hi g Φ) : AP M_X7_findSpeed b 44 [x0, x1, x2, x3, x4] (.int n :: st) hi g Φ := AP.istore_n (x := n) (i := 1) d_X7_findSpeed_44 rfl (by decide) (by simp [am_st, am_ci, am_cr, am_cl, am_cd, hc]) h
theorem d_X7_findSpeed_45 : decode cX7_findSpeed 45 = .ok (.iinc 3 1, 3) := by decide +kernel
theorem s_X7_findSpeed_45 {n : Int32} (hc : x2.category = 1) (h : AP M_X7_findSpeed b 48 [x0, x1, x2, .int (n + 1), x4] (st) hi g Φ) : AP M_X7_findSpeed b 45 [x0, x1, x2, .int n, x4] (st) hi g Φ := AP.iinc (i := 3) (x := n) (y := n + 1) d_X7_findSpeed_45 rfl rfl (by decide) (by simp [am_st, am_ci, am_cr, am_cl, am_cd, hc]) h
theorem d_X7_findSpeed_48 : decode cX7_findSpeed 48 = .ok (.goto (-41), 3) := by decide +kernel
theorem s_X7_findSpeed_48 (h : AP M_X7_findSpeed b 7 [x0, x1, x2, x3, x4] st hi g Φ) : AP M_X7_findSpeed b 48 [x0, x1, x2, x3, x4] st hi g Φ := AP.goto d_X7_findSpeed_48 (by decide) h
theorem d_X7_findSpeed_51 : decode cX7_findSpeed 51 = .ok (.iload_n 1, 1) := by decide +kernel
theorem s_X7_findSpeed_51 {n : Int32} (h : AP M_X7_findSpeed b 52 [x0, .int n, x2, x3, x4] (.int n :: st) hi g Φ) : AP M_X7_findSpeed b 51 [x0, .int n, x2, x3, x4] (st) hi g Φ := AP.iload_n (x := n) (i := 1) d_X7_findSpeed_51 rfl rfl h
theorem d_X7_findSpeed_52 : decode cX7_findSpeed 52 = .ok (.ireturn, 1) := by decide +kernel
theorem s_X7_findSpeed_52 {x : Int32} (h : Φ (.ok (some (.int x))) hi g) : AP M_X7_findSpeed b 52 [x0, x1, x2, x3, x4] [.int x] hi g Φ := AP.iret d_X7_findSpeed_52 rfl h
end
section
variable {b : Nat × Nat} {st : List Value} {hi : am_HI} {g : am_G} {Φ : am_P} {x0 x1 : Value}
theorem d_X7_sumBy_0 : decode cX7_sumBy 0 = .ok (.aload_n 0, 1) := by decide +kernel
theorem s_X7_sumBy_0 {n : Nat} (h : AP M_X7_sumBy b 1 [.ref n, x1] (.ref n :: st) hi g Φ) : AP M_X7_sumBy b 0 [.ref n, x1] (st) hi g Φ := AP.aload_n (x := n) (i := 0) d_X7_sumBy_0 rfl rfl h
theorem d_X7_sumBy_1 : decode cX7_sumBy 1 = .ok (.iload_n 1, 1) := by decide +kernel
theorem s_X7_sumBy_1 {n : Int32} (h : AP M_X7_sumBy b 2 [x0, .int n] (.int n :: st) hi g Φ) : AP M_X7_sumBy b 1 [x0, .int n] (st) hi g Φ := AP.iload_n (x := n) (i := 1) d_X7_sumBy_1 rfl rfl h
theorem d_X7_sumBy_2 : decode cX7_sumBy 2 = .ok (.aload_n 0, 1) := by decide +kernel
theorem s_X7_sumBy_2 {n : Nat} (h : AP M_X7_sumBy b 3 [.ref n, x1] (.ref n :: st) hi g Φ) : AP M_X7_sumBy b 2 [.ref n, x1] (st) hi g Φ := AP.aload_n (x := n) (i := 0) d_X7_sumBy_2 rfl rfl h
theorem d_X7_sumBy_3 : decode cX7_sumBy 3 = .ok (.getfield 12, 3) := by decide +kernel
theorem s_X7_sumBy_3 {k r : Nat} (hI : am_Inv g) (hs : am_SH k = (0, 7)) (hk : k < 134) (hr : am_HRf k 0 = some r) (hn : k ≠ 39) (h : AP M_X7_sumBy b 6 [x0, x1] (.ref r :: st) hi g Φ) : AP M_X7_sumBy b 3 [x0, x1] (.ref k :: st) hi g Φ := AP.getR (j := 0) (q := (RX7, TX7, 7)) d_X7_sumBy_3 hs (hI.lt hk) rfl (by decide) (by decide) w_226 (hI.r hn hr) h
theorem d_X7_sumBy_6 : decode cX7_sumBy 6 = .ok (.getfield 43, 3) := by decide +kernel
theorem s_X7_sumBy_6 {k : Nat} (hI : am_Inv g) (hs : am_SH k = (0, 6)) (hk : k < 134) (h : AP M_X7_sumBy b 9 [x0, x1] (.int (hi k 4) :: st) hi g Φ) : AP M_X7_sumBy b 6 [x0, x1] (.ref k :: st) hi g Φ := AP.getI (j := 4) (q := (RX6, TX6, 8)) d_X7_sumBy_6 hs (hI.lt hk) rfl (by decide) (by decide) w_170 h
theorem d_X7_sumBy_9 : decode cX7_sumBy 9 = .ok (.aload_n 0, 1) := by decide +kernel
theorem s_X7_sumBy_9 {n : Nat} (h : AP M_X7_sumBy b 10 [.ref n, x1] (.ref n :: st) hi g Φ) : AP M_X7_sumBy b 9 [.ref n, x1] (st) hi g Φ := AP.aload_n (x := n) (i := 0) d_X7_sumBy_9 rfl rfl h
theorem d_X7_sumBy_10 : decode cX7_sumBy 10 = .ok (.getfield 12, 3) := by decide +kernel
theorem s_X7_sumBy_10 {k r : Nat} (hI : am_Inv g) (hs : am_SH k = (0, 7)) (hk : k < 134) (hr : am_HRf k 0 = some r) (hn : k ≠ 39) (h : AP M_X7_sumBy b 13 [x0, x1] (.ref r :: st) hi g Φ) : AP M_X7_sumBy b 10 [x0, x1] (.ref k :: st) hi g Φ := AP.getR (j := 0) (q := (RX7, TX7, 7)) d_X7_sumBy_10 hs (hI.lt hk) rfl (by decide) (by decide) w_226 (hI.r hn hr) h
theorem d_X7_sumBy_13 : decode cX7_sumBy 13 = .ok (.getfield 47, 3) := by decide +kernel
theorem s_X7_sumBy_13 {k : Nat} (hI : am_Inv g) (hs : am_SH k = (0, 6)) (hk : k < 134) (h : AP M_X7_sumBy b 16 [x0, x1] (.int (hi k 5) :: st) hi g Φ) : AP M_X7_sumBy b 13 [x0, x1] (.ref k :: st) hi g Φ := AP.getI (j := 5) (q := (RX6, TX6, 8)) d_X7_sumBy_13 hs (hI.lt hk) rfl (by decide) (by decide) w_173 h
theorem d_X7_sumBy_16 : decode cX7_sumBy 16 = .ok (.aload_n 0, 1) := by decide +kernel
theorem s_X7_sumBy_16 {n : Nat} (h : AP M_X7_sumBy b 17 [.ref n, x1] (.ref n :: st) hi g Φ) : AP M_X7_sumBy b 16 [.ref n, x1] (st) hi g Φ := AP.aload_n (x := n) (i := 0) d_X7_sumBy_16 rfl rfl h
theorem d_X7_sumBy_17 : decode cX7_sumBy 17 = .ok (.getfield 12, 3) := by decide +kernel
theorem s_X7_sumBy_17 {k r : Nat} (hI : am_Inv g) (hs : am_SH k = (0, 7)) (hk : k < 134) (hr : am_HRf k 0 = some r) (hn : k ≠ 39) (h : AP M_X7_sumBy b 20 [x0, x1] (.ref r :: st) hi g Φ) : AP M_X7_sumBy b 17 [x0, x1] (.ref k :: st) hi g Φ := AP.getR (j := 0) (q := (RX7, TX7, 7)) d_X7_sumBy_17 hs (hI.lt hk) rfl (by decide) (by decide) w_226 (hI.r hn hr) h
theorem d_X7_sumBy_20 : decode cX7_sumBy 20 = .ok (.getfield 50, 3) := by decide +kernel
theorem s_X7_sumBy_20 {k r : Nat} (hI : am_Inv g) (hs : am_SH k = (0, 6)) (hk : k < 134) (hr : am_HRf k 1 = some r) (hn : k ≠ 39) (h : AP M_X7_sumBy b 23 [x0, x1] (.ref r :: st) hi g Φ) : AP M_X7_sumBy b 20 [x0, x1] (.ref k :: st) hi g Φ := AP.getR (j := 1) (q := (RX6, TX6, 8)) d_X7_sumBy_20 hs (hI.lt hk) rfl (by decide) (by decide) w_162 (hI.r hn hr) h
theorem d_X7_sumBy_23 : decode cX7_sumBy 23 = .ok (.invokevirtual 84, 3) := by decide +kernel
theorem s_X7_sumBy_23 {a0 : Int32} {a1 : Int32} {a2 : Int32} {a3 : Nat} {k : Nat} {r0 : Int32} {P : am_HI → Prop} (hI : am_Inv g) (hs : am_SH k = (0, 7)) (hk : k < 134) (hst : (st.map Value.category).sum ≤ 8) (hc : am_Cr M_X7_sumIf [.ref k, .int a0, .int a1, .int a2, .ref a3] hi g (some (.int r0)) P) (h : ∀ hi' : am_HI, P hi' → AP M_X7_sumBy b 26 [x0, x1] (.int r0 :: st) hi' g Φ) : AP M_X7_sumBy b 23 [x0, x1] (.ref a3 :: .int a2 :: .int a1 :: .int a0 :: .ref k :: st) hi g Φ := AP.callVr (As := [.int a0, .int a1, .int a2, .ref a3]) (q := (RX7, TX7, 7)) hI hc k_X7_sumBy_84 d_X7_sumBy_23 rfl hs hk rfl rfl hst h
theorem d_X7_sumBy_26 : decode cX7_sumBy 26 = .ok (.ireturn, 1) := by decide +kernel
theorem s_X7_sumBy_26 {x : Int32} (h : Φ (.ok (some (.int x))) hi g) : AP M_X7_sumBy b 26 [x0, x1] [.int x] hi g Φ := AP.iret d_X7_sumBy_26 rfl h
end
section
variable {b : Nat × Nat} {st : List Value} {hi : am_HI} {g : am_G} {Φ : am_P} {x0 : Value}
theorem d_X7_weighBlocks_0 : decode cX7_weighBlocks 0 = .ok (.aload_n 0, 1) := by decide +kernel
theorem s_X7_weighBlocks_0 {n : Nat} (h : AP M_X7_weighBlocks b 1 [.ref n] (.ref n :: st) hi g Φ) : AP M_X7_weighBlocks b 0 [.ref n] (st) hi g Φ := AP.aload_n (x := n) (i := 0) d_X7_weighBlocks_0 rfl rfl h
theorem d_X7_weighBlocks_1 : decode cX7_weighBlocks 1 = .ok (.invokevirtual 100, 3) := by decide +kernel
theorem s_X7_weighBlocks_1  {k : Nat} {P : am_HI → Prop} (hI : am_Inv g) (hs : am_SH k = (0, 7)) (hk : k < 134) (hst : (st.map Value.category).sum ≤ 8) (hc : am_Cr M_X7_follow [.ref k] hi g none P) (h : ∀ hi' : am_HI, P hi' → AP M_X7_weighBlocks b 4 [x0] (st) hi' g Φ) : AP M_X7_weighBlocks b 1 [x0] (.ref k :: st) hi g Φ := AP.callVr (As := []) (q := (RX7, TX7, 7)) hI hc k_X7_weighBlocks_100 d_X7_weighBlocks_1 rfl hs hk rfl rfl hst h
theorem d_X7_weighBlocks_4 : decode cX7_weighBlocks 4 = .ok (.aload_n 0, 1) := by decide +kernel
theorem s_X7_weighBlocks_4 {n : Nat} (h : AP M_X7_weighBlocks b 5 [.ref n] (.ref n :: st) hi g Φ) : AP M_X7_weighBlocks b 4 [.ref n] (st) hi g Φ := AP.aload_n (x := n) (i := 0) d_X7_weighBlocks_4 rfl rfl h
theorem d_X7_weighBlocks_5 : decode cX7_weighBlocks 5 = .ok (.invokevirtual 103, 3) := by decide +kernel
theorem s_X7_weighBlocks_5  {k : Nat} {P : am_HI → Prop} (hI : am_Inv g) (hs : am_SH k = (0, 7)) (hk : k < 134) (hst : (st.map Value.category).sum ≤ 8) (hc : am_Cr M_X7_findParameters [.ref k] hi g none P) (h : ∀ hi' : am_HI, P hi' → AP M_X7_weighBlocks b 8 [x0] (st) hi' g Φ) : AP M_X7_weighBlocks b 5 [x0] (.ref k :: st) hi g Φ := AP.callVr (As := []) (q := (RX7, TX7, 7)) hI hc k_X7_weighBlocks_103 d_X7_weighBlocks_5 rfl hs hk rfl rfl hst h
theorem d_X7_weighBlocks_8 : decode cX7_weighBlocks 8 = .ok (.return_, 1) := by decide +kernel
theorem s_X7_weighBlocks_8 (h : Φ (.ok none) hi g) : AP M_X7_weighBlocks b 8 [x0] [] hi g Φ := AP.vret d_X7_weighBlocks_8 rfl h
end
