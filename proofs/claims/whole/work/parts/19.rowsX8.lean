/-! ===== rows by program ===== -/
section
variable {b : Nat × Nat} {st : List Value} {hi : am_HI} {g : am_G} {Φ : am_P} {x0 : Value}
theorem d_X8_codeHere_0 : decode cX8_codeHere 0 = .ok (.aload_n 0, 1) := by decide +kernel
theorem s_X8_codeHere_0 {n : Nat} (h : AP M_X8_codeHere b 1 [.ref n] (.ref n :: st) hi g Φ) : AP M_X8_codeHere b 0 [.ref n] (st) hi g Φ := AP.aload_n (x := n) (i := 0) d_X8_codeHere_0 rfl rfl h
theorem d_X8_codeHere_1 : decode cX8_codeHere 1 = .ok (.getfield 19, 3) := by decide +kernel
theorem s_X8_codeHere_1 {k : Nat} (hI : am_Inv g) (hs : am_SH k = (0, 8)) (hk : k < 134) (h : AP M_X8_codeHere b 4 [x0] (.int (hi k 2) :: st) hi g Φ) : AP M_X8_codeHere b 1 [x0] (.ref k :: st) hi g Φ := AP.getI (j := 2) (q := (RX8, TX8, 6)) d_X8_codeHere_1 hs (hI.lt hk) rfl (by decide) (by decide) w_294 h
theorem d_X8_codeHere_4 : decode cX8_codeHere 4 = .ok (.ifCond .lt 35, 3) := by decide +kernel
theorem s_X8_codeHere_4 {x : Int32} (h1 : x < 0 → AP M_X8_codeHere b 39 [x0] st hi g Φ) (h2 : ¬ x < 0 → AP M_X8_codeHere b 7 [x0] st hi g Φ) : AP M_X8_codeHere b 4 [x0] (.int x :: st) hi g Φ := AP.if_lt d_X8_codeHere_4 (by decide) h1 h2
theorem d_X8_codeHere_7 : decode cX8_codeHere 7 = .ok (.aload_n 0, 1) := by decide +kernel
theorem s_X8_codeHere_7 {n : Nat} (h : AP M_X8_codeHere b 8 [.ref n] (.ref n :: st) hi g Φ) : AP M_X8_codeHere b 7 [.ref n] (st) hi g Φ := AP.aload_n (x := n) (i := 0) d_X8_codeHere_7 rfl rfl h
theorem d_X8_codeHere_8 : decode cX8_codeHere 8 = .ok (.getfield 19, 3) := by decide +kernel
theorem s_X8_codeHere_8 {k : Nat} (hI : am_Inv g) (hs : am_SH k = (0, 8)) (hk : k < 134) (h : AP M_X8_codeHere b 11 [x0] (.int (hi k 2) :: st) hi g Φ) : AP M_X8_codeHere b 8 [x0] (.ref k :: st) hi g Φ := AP.getI (j := 2) (q := (RX8, TX8, 6)) d_X8_codeHere_8 hs (hI.lt hk) rfl (by decide) (by decide) w_294 h
theorem d_X8_codeHere_11 : decode cX8_codeHere 11 = .ok (.aload_n 0, 1) := by decide +kernel
theorem s_X8_codeHere_11 {n : Nat} (h : AP M_X8_codeHere b 12 [.ref n] (.ref n :: st) hi g Φ) : AP M_X8_codeHere b 11 [.ref n] (st) hi g Φ := AP.aload_n (x := n) (i := 0) d_X8_codeHere_11 rfl rfl h
theorem d_X8_codeHere_12 : decode cX8_codeHere 12 = .ok (.getfield 15, 3) := by decide +kernel
theorem s_X8_codeHere_12 {k : Nat} (hI : am_Inv g) (hs : am_SH k = (0, 8)) (hk : k < 134) (h : AP M_X8_codeHere b 15 [x0] (.int (hi k 1) :: st) hi g Φ) : AP M_X8_codeHere b 12 [x0] (.ref k :: st) hi g Φ := AP.getI (j := 1) (q := (RX8, TX8, 6)) d_X8_codeHere_12 hs (hI.lt hk) rfl (by decide) (by decide) w_292 h
theorem d_X8_codeHere_15 : decode cX8_codeHere 15 = .ok (.if_icmp .ge 24, 3) := by decide +kernel
theorem s_X8_codeHere_15 {x y : Int32} (h1 : y ≤ x → AP M_X8_codeHere b 39 [x0] st hi g Φ) (h2 : ¬ y ≤ x → AP M_X8_codeHere b 18 [x0] st hi g Φ) : AP M_X8_codeHere b 15 [x0] (.int y :: .int x :: st) hi g Φ := AP.icmp_ge d_X8_codeHere_15 (by decide) h1 h2
theorem d_X8_codeHere_18 : decode cX8_codeHere 18 = .ok (.aload_n 0, 1) := by decide +kernel
theorem s_X8_codeHere_18 {n : Nat} (h : AP M_X8_codeHere b 19 [.ref n] (.ref n :: st) hi g Φ) : AP M_X8_codeHere b 18 [.ref n] (st) hi g Φ := AP.aload_n (x := n) (i := 0) d_X8_codeHere_18 rfl rfl h
theorem d_X8_codeHere_19 : decode cX8_codeHere 19 = .ok (.getfield 19, 3) := by decide +kernel
theorem s_X8_codeHere_19 {k : Nat} (hI : am_Inv g) (hs : am_SH k = (0, 8)) (hk : k < 134) (h : AP M_X8_codeHere b 22 [x0] (.int (hi k 2) :: st) hi g Φ) : AP M_X8_codeHere b 19 [x0] (.ref k :: st) hi g Φ := AP.getI (j := 2) (q := (RX8, TX8, 6)) d_X8_codeHere_19 hs (hI.lt hk) rfl (by decide) (by decide) w_294 h
theorem d_X8_codeHere_22 : decode cX8_codeHere 22 = .ok (.bipush 80, 2) := by decide +kernel
theorem s_X8_codeHere_22 (h : AP M_X8_codeHere b 24 [x0] (.int 80 :: st) hi g Φ) : AP M_X8_codeHere b 22 [x0] (st) hi g Φ := AP.bipush (x := 80) d_X8_codeHere_22 (by decide) h
theorem d_X8_codeHere_24 : decode cX8_codeHere 24 = .ok (.if_icmp .ge 15, 3) := by decide +kernel
theorem s_X8_codeHere_24 {x y : Int32} (h1 : y ≤ x → AP M_X8_codeHere b 39 [x0] st hi g Φ) (h2 : ¬ y ≤ x → AP M_X8_codeHere b 27 [x0] st hi g Φ) : AP M_X8_codeHere b 24 [x0] (.int y :: .int x :: st) hi g Φ := AP.icmp_ge d_X8_codeHere_24 (by decide) h1 h2
theorem d_X8_codeHere_27 : decode cX8_codeHere 27 = .ok (.aload_n 0, 1) := by decide +kernel
theorem s_X8_codeHere_27 {n : Nat} (h : AP M_X8_codeHere b 28 [.ref n] (.ref n :: st) hi g Φ) : AP M_X8_codeHere b 27 [.ref n] (st) hi g Φ := AP.aload_n (x := n) (i := 0) d_X8_codeHere_27 rfl rfl h
theorem d_X8_codeHere_28 : decode cX8_codeHere 28 = .ok (.getfield 9, 3) := by decide +kernel
theorem s_X8_codeHere_28 {k r : Nat} (hI : am_Inv g) (hs : am_SH k = (0, 8)) (hk : k < 134) (hr : am_HRf k 0 = some r) (hn : k ≠ 39) (h : AP M_X8_codeHere b 31 [x0] (.ref r :: st) hi g Φ) : AP M_X8_codeHere b 28 [x0] (.ref k :: st) hi g Φ := AP.getR (j := 0) (q := (RX8, TX8, 6)) d_X8_codeHere_28 hs (hI.lt hk) rfl (by decide) (by decide) w_291 (hI.r hn hr) h
theorem d_X8_codeHere_31 : decode cX8_codeHere 31 = .ok (.aload_n 0, 1) := by decide +kernel
theorem s_X8_codeHere_31 {n : Nat} (h : AP M_X8_codeHere b 32 [.ref n] (.ref n :: st) hi g Φ) : AP M_X8_codeHere b 31 [.ref n] (st) hi g Φ := AP.aload_n (x := n) (i := 0) d_X8_codeHere_31 rfl rfl h
theorem d_X8_codeHere_32 : decode cX8_codeHere 32 = .ok (.getfield 19, 3) := by decide +kernel
theorem s_X8_codeHere_32 {k : Nat} (hI : am_Inv g) (hs : am_SH k = (0, 8)) (hk : k < 134) (h : AP M_X8_codeHere b 35 [x0] (.int (hi k 2) :: st) hi g Φ) : AP M_X8_codeHere b 32 [x0] (.ref k :: st) hi g Φ := AP.getI (j := 2) (q := (RX8, TX8, 6)) d_X8_codeHere_32 hs (hI.lt hk) rfl (by decide) (by decide) w_294 h
theorem d_X8_codeHere_35 : decode cX8_codeHere 35 = .ok (.iaload, 1) := by decide +kernel
theorem s_X8_codeHere_35 {k n j : Nat} {i : Int32} (hI : am_Inv g) (hs : am_SH k = (1, n)) (hk : k < 134) (hn : n < 2 ^ 31) (hx : i = nI j) (hj : j < n) (h : AP M_X8_codeHere b 36 [x0] (.int (hi k j) :: st) hi g Φ) : AP M_X8_codeHere b 35 [x0] (.int i :: .ref k :: st) hi g Φ := AP.iald d_X8_codeHere_35 hs (hI.lt hk) hn hx hj h
theorem d_X8_codeHere_36 : decode cX8_codeHere 36 = .ok (.goto 4, 3) := by decide +kernel
theorem s_X8_codeHere_36 (h : AP M_X8_codeHere b 40 [x0] st hi g Φ) : AP M_X8_codeHere b 36 [x0] st hi g Φ := AP.goto d_X8_codeHere_36 (by decide) h
theorem d_X8_codeHere_39 : decode cX8_codeHere 39 = .ok (.iconst 0, 1) := by decide +kernel
theorem s_X8_codeHere_39 (h : AP M_X8_codeHere b 40 [x0] (.int 0 :: st) hi g Φ) : AP M_X8_codeHere b 39 [x0] (st) hi g Φ := AP.iconst (x := 0) d_X8_codeHere_39 (by decide) h
theorem d_X8_codeHere_40 : decode cX8_codeHere 40 = .ok (.ireturn, 1) := by decide +kernel
theorem s_X8_codeHere_40 {x : Int32} (h : Φ (.ok (some (.int x))) hi g) : AP M_X8_codeHere b 40 [x0] [.int x] hi g Φ := AP.iret d_X8_codeHere_40 rfl h
end
section
variable {b : Nat × Nat} {st : List Value} {hi : am_HI} {g : am_G} {Φ : am_P} {x0 x1 : Value}
theorem d_X8_put_0 : decode cX8_put 0 = .ok (.aload_n 0, 1) := by decide +kernel
theorem s_X8_put_0 {n : Nat} (h : AP M_X8_put b 1 [.ref n, x1] (.ref n :: st) hi g Φ) : AP M_X8_put b 0 [.ref n, x1] (st) hi g Φ := AP.aload_n (x := n) (i := 0) d_X8_put_0 rfl rfl h
theorem d_X8_put_1 : decode cX8_put 1 = .ok (.getfield 15, 3) := by decide +kernel
theorem s_X8_put_1 {k : Nat} (hI : am_Inv g) (hs : am_SH k = (0, 8)) (hk : k < 134) (h : AP M_X8_put b 4 [x0, x1] (.int (hi k 1) :: st) hi g Φ) : AP M_X8_put b 1 [x0, x1] (.ref k :: st) hi g Φ := AP.getI (j := 1) (q := (RX8, TX8, 6)) d_X8_put_1 hs (hI.lt hk) rfl (by decide) (by decide) w_292 h
theorem d_X8_put_4 : decode cX8_put 4 = .ok (.bipush 80, 2) := by decide +kernel
theorem s_X8_put_4 (h : AP M_X8_put b 6 [x0, x1] (.int 80 :: st) hi g Φ) : AP M_X8_put b 4 [x0, x1] (st) hi g Φ := AP.bipush (x := 80) d_X8_put_4 (by decide) h
theorem d_X8_put_6 : decode cX8_put 6 = .ok (.if_icmp .ge 23, 3) := by decide +kernel
theorem s_X8_put_6 {x y : Int32} (h1 : y ≤ x → AP M_X8_put b 29 [x0, x1] st hi g Φ) (h2 : ¬ y ≤ x → AP M_X8_put b 9 [x0, x1] st hi g Φ) : AP M_X8_put b 6 [x0, x1] (.int y :: .int x :: st) hi g Φ := AP.icmp_ge d_X8_put_6 (by decide) h1 h2
theorem d_X8_put_9 : decode cX8_put 9 = .ok (.aload_n 0, 1) := by decide +kernel
theorem s_X8_put_9 {n : Nat} (h : AP M_X8_put b 10 [.ref n, x1] (.ref n :: st) hi g Φ) : AP M_X8_put b 9 [.ref n, x1] (st) hi g Φ := AP.aload_n (x := n) (i := 0) d_X8_put_9 rfl rfl h
theorem d_X8_put_10 : decode cX8_put 10 = .ok (.getfield 9, 3) := by decide +kernel
theorem s_X8_put_10 {k r : Nat} (hI : am_Inv g) (hs : am_SH k = (0, 8)) (hk : k < 134) (hr : am_HRf k 0 = some r) (hn : k ≠ 39) (h : AP M_X8_put b 13 [x0, x1] (.ref r :: st) hi g Φ) : AP M_X8_put b 10 [x0, x1] (.ref k :: st) hi g Φ := AP.getR (j := 0) (q := (RX8, TX8, 6)) d_X8_put_10 hs (hI.lt hk) rfl (by decide) (by decide) w_291 (hI.r hn hr) h
theorem d_X8_put_13 : decode cX8_put 13 = .ok (.aload_n 0, 1) := by decide +kernel
theorem s_X8_put_13 {n : Nat} (h : AP M_X8_put b 14 [.ref n, x1] (.ref n :: st) hi g Φ) : AP M_X8_put b 13 [.ref n, x1] (st) hi g Φ := AP.aload_n (x := n) (i := 0) d_X8_put_13 rfl rfl h
theorem d_X8_put_14 : decode cX8_put 14 = .ok (.getfield 15, 3) := by decide +kernel
theorem s_X8_put_14 {k : Nat} (hI : am_Inv g) (hs : am_SH k = (0, 8)) (hk : k < 134) (h : AP M_X8_put b 17 [x0, x1] (.int (hi k 1) :: st) hi g Φ) : AP M_X8_put b 14 [x0, x1] (.ref k :: st) hi g Φ := AP.getI (j := 1) (q := (RX8, TX8, 6)) d_X8_put_14 hs (hI.lt hk) rfl (by decide) (by decide) w_292 h
theorem d_X8_put_17 : decode cX8_put 17 = .ok (.iload_n 1, 1) := by decide +kernel
theorem s_X8_put_17 {n : Int32} (h : AP M_X8_put b 18 [x0, .int n] (.int n :: st) hi g Φ) : AP M_X8_put b 17 [x0, .int n] (st) hi g Φ := AP.iload_n (x := n) (i := 1) d_X8_put_17 rfl rfl h
theorem d_X8_put_18 : decode cX8_put 18 = .ok (.iastore, 1) := by decide +kernel
theorem s_X8_put_18 {k n j : Nat} {i x : Int32} (hI : am_Inv g) (hs : am_SH k = (1, n)) (hk : k < 134) (hn : n < 2 ^ 31) (hx : i = nI j) (hj : j < n) (h : AP M_X8_put b 19 [x0, x1] (st) (am_up hi k j x) g Φ) : AP M_X8_put b 18 [x0, x1] (.int x :: .int i :: .ref k :: st) hi g Φ := AP.iast d_X8_put_18 hs (hI.lt hk) hn hx hj h
theorem d_X8_put_19 : decode cX8_put 19 = .ok (.aload_n 0, 1) := by decide +kernel
theorem s_X8_put_19 {n : Nat} (h : AP M_X8_put b 20 [.ref n, x1] (.ref n :: st) hi g Φ) : AP M_X8_put b 19 [.ref n, x1] (st) hi g Φ := AP.aload_n (x := n) (i := 0) d_X8_put_19 rfl rfl h
theorem d_X8_put_20 : decode cX8_put 20 = .ok (.dup, 1) := by decide +kernel
theorem s_X8_put_20 {u : Value} (hu : u.category = 1) (h : AP M_X8_put b 21 [x0, x1] (u :: u :: st) hi g Φ) : AP M_X8_put b 20 [x0, x1] (u :: st) hi g Φ := AP.dup d_X8_put_20 hu h
theorem d_X8_put_21 : decode cX8_put 21 = .ok (.getfield 15, 3) := by decide +kernel
theorem s_X8_put_21 {k : Nat} (hI : am_Inv g) (hs : am_SH k = (0, 8)) (hk : k < 134) (h : AP M_X8_put b 24 [x0, x1] (.int (hi k 1) :: st) hi g Φ) : AP M_X8_put b 21 [x0, x1] (.ref k :: st) hi g Φ := AP.getI (j := 1) (q := (RX8, TX8, 6)) d_X8_put_21 hs (hI.lt hk) rfl (by decide) (by decide) w_292 h
theorem d_X8_put_24 : decode cX8_put 24 = .ok (.iconst 1, 1) := by decide +kernel
theorem s_X8_put_24 (h : AP M_X8_put b 25 [x0, x1] (.int 1 :: st) hi g Φ) : AP M_X8_put b 24 [x0, x1] (st) hi g Φ := AP.iconst (x := 1) d_X8_put_24 (by decide) h
theorem d_X8_put_25 : decode cX8_put 25 = .ok (.iadd, 1) := by decide +kernel
theorem s_X8_put_25 {x y : Int32} (h : AP M_X8_put b 26 [x0, x1] (.int (x + y) :: st) hi g Φ) : AP M_X8_put b 25 [x0, x1] (.int y :: .int x :: st) hi g Φ := AP.iadd d_X8_put_25 h
theorem d_X8_put_26 : decode cX8_put 26 = .ok (.putfield 15, 3) := by decide +kernel
theorem s_X8_put_26 {k : Nat} {n : Int32} (hI : am_Inv g) (hs : am_SH k = (0, 8)) (hk : k < 134) (h : AP M_X8_put b 29 [x0, x1] (st) (am_up hi k 1 n) g Φ) : AP M_X8_put b 26 [x0, x1] (.int n :: .ref k :: st) hi g Φ := AP.putI (j := 1) (q := (RX8, TX8, 6)) d_X8_put_26 hs (hI.lt hk) rfl (by decide) rfl rfl w_292 h
theorem d_X8_put_29 : decode cX8_put 29 = .ok (.return_, 1) := by decide +kernel
theorem s_X8_put_29 (h : Φ (.ok none) hi g) : AP M_X8_put b 29 [x0, x1] [] hi g Φ := AP.vret d_X8_put_29 rfl h
end
section
variable {b : Nat × Nat} {st : List Value} {hi : am_HI} {g : am_G} {Φ : am_P} {x0 x1 : Value}
theorem d_X8_digitHere_0 : decode cX8_digitHere 0 = .ok (.aload_n 0, 1) := by decide +kernel
theorem s_X8_digitHere_0 {n : Nat} (h : AP M_X8_digitHere b 1 [.ref n, x1] (.ref n :: st) hi g Φ) : AP M_X8_digitHere b 0 [.ref n, x1] (st) hi g Φ := AP.aload_n (x := n) (i := 0) d_X8_digitHere_0 rfl rfl h
theorem d_X8_digitHere_1 : decode cX8_digitHere 1 = .ok (.invokevirtual 39, 3) := by decide +kernel
theorem s_X8_digitHere_1  {k : Nat} {r0 : Int32} {P : am_HI → Prop} (hI : am_Inv g) (hs : am_SH k = (0, 8)) (hk : k < 134) (hst : (st.map Value.category).sum ≤ 8) (hc : am_Cr M_X8_codeHere [.ref k] hi g (some (.int r0)) P) (h : ∀ hi' : am_HI, P hi' → AP M_X8_digitHere b 4 [x0, x1] (.int r0 :: st) hi' g Φ) : AP M_X8_digitHere b 1 [x0, x1] (.ref k :: st) hi g Φ := AP.callVr (As := []) (q := (RX8, TX8, 6)) hI hc k_X8_digitHere_39 d_X8_digitHere_1 rfl hs hk rfl rfl hst h
theorem d_X8_digitHere_4 : decode cX8_digitHere 4 = .ok (.istore_n 1, 1) := by decide +kernel
theorem s_X8_digitHere_4 {n : Int32} (hc : x0.category = 1) (h : AP M_X8_digitHere b 5 [x0, .int n] (st) hi g Φ) : AP M_X8_digitHere b 4 [x0, x1] (.int n :: st) hi g Φ := AP.istore_n (x := n) (i := 1) d_X8_digitHere_4 rfl (by decide) (by simp [am_st, am_ci, am_cr, am_cl, am_cd, hc]) h
theorem d_X8_digitHere_5 : decode cX8_digitHere 5 = .ok (.iload_n 1, 1) := by decide +kernel
theorem s_X8_digitHere_5 {n : Int32} (h : AP M_X8_digitHere b 6 [x0, .int n] (.int n :: st) hi g Φ) : AP M_X8_digitHere b 5 [x0, .int n] (st) hi g Φ := AP.iload_n (x := n) (i := 1) d_X8_digitHere_5 rfl rfl h
theorem d_X8_digitHere_6 : decode cX8_digitHere 6 = .ok (.bipush 48, 2) := by decide +kernel
theorem s_X8_digitHere_6 (h : AP M_X8_digitHere b 8 [x0, x1] (.int 48 :: st) hi g Φ) : AP M_X8_digitHere b 6 [x0, x1] (st) hi g Φ := AP.bipush (x := 48) d_X8_digitHere_6 (by decide) h
theorem d_X8_digitHere_8 : decode cX8_digitHere 8 = .ok (.if_icmp .lt 16, 3) := by decide +kernel
theorem s_X8_digitHere_8 {x y : Int32} (h1 : x < y → AP M_X8_digitHere b 24 [x0, x1] st hi g Φ) (h2 : ¬ x < y → AP M_X8_digitHere b 11 [x0, x1] st hi g Φ) : AP M_X8_digitHere b 8 [x0, x1] (.int y :: .int x :: st) hi g Φ := AP.icmp_lt d_X8_digitHere_8 (by decide) h1 h2
theorem d_X8_digitHere_11 : decode cX8_digitHere 11 = .ok (.iload_n 1, 1) := by decide +kernel
theorem s_X8_digitHere_11 {n : Int32} (h : AP M_X8_digitHere b 12 [x0, .int n] (.int n :: st) hi g Φ) : AP M_X8_digitHere b 11 [x0, .int n] (st) hi g Φ := AP.iload_n (x := n) (i := 1) d_X8_digitHere_11 rfl rfl h
theorem d_X8_digitHere_12 : decode cX8_digitHere 12 = .ok (.bipush 57, 2) := by decide +kernel
theorem s_X8_digitHere_12 (h : AP M_X8_digitHere b 14 [x0, x1] (.int 57 :: st) hi g Φ) : AP M_X8_digitHere b 12 [x0, x1] (st) hi g Φ := AP.bipush (x := 57) d_X8_digitHere_12 (by decide) h
theorem d_X8_digitHere_14 : decode cX8_digitHere 14 = .ok (.if_icmp .gt 10, 3) := by decide +kernel
theorem s_X8_digitHere_14 {x y : Int32} (h1 : y < x → AP M_X8_digitHere b 24 [x0, x1] st hi g Φ) (h2 : ¬ y < x → AP M_X8_digitHere b 17 [x0, x1] st hi g Φ) : AP M_X8_digitHere b 14 [x0, x1] (.int y :: .int x :: st) hi g Φ := AP.icmp_gt d_X8_digitHere_14 (by decide) h1 h2
theorem d_X8_digitHere_17 : decode cX8_digitHere 17 = .ok (.iload_n 1, 1) := by decide +kernel
theorem s_X8_digitHere_17 {n : Int32} (h : AP M_X8_digitHere b 18 [x0, .int n] (.int n :: st) hi g Φ) : AP M_X8_digitHere b 17 [x0, .int n] (st) hi g Φ := AP.iload_n (x := n) (i := 1) d_X8_digitHere_17 rfl rfl h
theorem d_X8_digitHere_18 : decode cX8_digitHere 18 = .ok (.bipush 48, 2) := by decide +kernel
theorem s_X8_digitHere_18 (h : AP M_X8_digitHere b 20 [x0, x1] (.int 48 :: st) hi g Φ) : AP M_X8_digitHere b 18 [x0, x1] (st) hi g Φ := AP.bipush (x := 48) d_X8_digitHere_18 (by decide) h
theorem d_X8_digitHere_20 : decode cX8_digitHere 20 = .ok (.isub, 1) := by decide +kernel
theorem s_X8_digitHere_20 {x y : Int32} (h : AP M_X8_digitHere b 21 [x0, x1] (.int (x - y) :: st) hi g Φ) : AP M_X8_digitHere b 20 [x0, x1] (.int y :: .int x :: st) hi g Φ := AP.isub d_X8_digitHere_20 h
theorem d_X8_digitHere_21 : decode cX8_digitHere 21 = .ok (.goto 4, 3) := by decide +kernel
theorem s_X8_digitHere_21 (h : AP M_X8_digitHere b 25 [x0, x1] st hi g Φ) : AP M_X8_digitHere b 21 [x0, x1] st hi g Φ := AP.goto d_X8_digitHere_21 (by decide) h
theorem d_X8_digitHere_24 : decode cX8_digitHere 24 = .ok (.iconst (-1), 1) := by decide +kernel
theorem s_X8_digitHere_24 (h : AP M_X8_digitHere b 25 [x0, x1] (.int (-1) :: st) hi g Φ) : AP M_X8_digitHere b 24 [x0, x1] (st) hi g Φ := AP.iconst (x := (-1)) d_X8_digitHere_24 (by decide) h
theorem d_X8_digitHere_25 : decode cX8_digitHere 25 = .ok (.ireturn, 1) := by decide +kernel
theorem s_X8_digitHere_25 {x : Int32} (h : Φ (.ok (some (.int x))) hi g) : AP M_X8_digitHere b 25 [x0, x1] [.int x] hi g Φ := AP.iret d_X8_digitHere_25 rfl h
end
section
variable {b : Nat × Nat} {st : List Value} {hi : am_HI} {g : am_G} {Φ : am_P} {x0 x1 x2 : Value}
theorem d_X8_take_0 : decode cX8_take 0 = .ok (.aload_n 0, 1) := by decide +kernel
theorem s_X8_take_0 {n : Nat} (h : AP M_X8_take b 1 [.ref n, x1, x2] (.ref n :: st) hi g Φ) : AP M_X8_take b 0 [.ref n, x1, x2] (st) hi g Φ := AP.aload_n (x := n) (i := 0) d_X8_take_0 rfl rfl h
theorem d_X8_take_1 : decode cX8_take 1 = .ok (.invokevirtual 39, 3) := by decide +kernel
theorem s_X8_take_1  {k : Nat} {r0 : Int32} {P : am_HI → Prop} (hI : am_Inv g) (hs : am_SH k = (0, 8)) (hk : k < 134) (hst : (st.map Value.category).sum ≤ 8) (hc : am_Cr M_X8_codeHere [.ref k] hi g (some (.int r0)) P) (h : ∀ hi' : am_HI, P hi' → AP M_X8_take b 4 [x0, x1, x2] (.int r0 :: st) hi' g Φ) : AP M_X8_take b 1 [x0, x1, x2] (.ref k :: st) hi g Φ := AP.callVr (As := []) (q := (RX8, TX8, 6)) hI hc k_X8_take_39 d_X8_take_1 rfl hs hk rfl rfl hst h
theorem d_X8_take_4 : decode cX8_take 4 = .ok (.iload_n 1, 1) := by decide +kernel
theorem s_X8_take_4 {n : Int32} (h : AP M_X8_take b 5 [x0, .int n, x2] (.int n :: st) hi g Φ) : AP M_X8_take b 4 [x0, .int n, x2] (st) hi g Φ := AP.iload_n (x := n) (i := 1) d_X8_take_4 rfl rfl h
theorem d_X8_take_5 : decode cX8_take 5 = .ok (.if_icmp .ne 7, 3) := by decide +kernel
theorem s_X8_take_5 {x y : Int32} (h1 : ¬ x = y → AP M_X8_take b 12 [x0, x1, x2] st hi g Φ) (h2 : x = y → AP M_X8_take b 8 [x0, x1, x2] st hi g Φ) : AP M_X8_take b 5 [x0, x1, x2] (.int y :: .int x :: st) hi g Φ := AP.icmp_ne d_X8_take_5 (by decide) h1 h2
theorem d_X8_take_8 : decode cX8_take 8 = .ok (.iconst 1, 1) := by decide +kernel
theorem s_X8_take_8 (h : AP M_X8_take b 9 [x0, x1, x2] (.int 1 :: st) hi g Φ) : AP M_X8_take b 8 [x0, x1, x2] (st) hi g Φ := AP.iconst (x := 1) d_X8_take_8 (by decide) h
theorem d_X8_take_9 : decode cX8_take 9 = .ok (.goto 4, 3) := by decide +kernel
theorem s_X8_take_9 (h : AP M_X8_take b 13 [x0, x1, x2] st hi g Φ) : AP M_X8_take b 9 [x0, x1, x2] st hi g Φ := AP.goto d_X8_take_9 (by decide) h
theorem d_X8_take_12 : decode cX8_take 12 = .ok (.iconst 0, 1) := by decide +kernel
theorem s_X8_take_12 (h : AP M_X8_take b 13 [x0, x1, x2] (.int 0 :: st) hi g Φ) : AP M_X8_take b 12 [x0, x1, x2] (st) hi g Φ := AP.iconst (x := 0) d_X8_take_12 (by decide) h
theorem d_X8_take_13 : decode cX8_take 13 = .ok (.istore_n 2, 1) := by decide +kernel
theorem s_X8_take_13 {n : Int32} (hc : x1.category = 1) (h : AP M_X8_take b 14 [x0, x1, .int n] (st) hi g Φ) : AP M_X8_take b 13 [x0, x1, x2] (.int n :: st) hi g Φ := AP.istore_n (x := n) (i := 2) d_X8_take_13 rfl (by decide) (by simp [am_st, am_ci, am_cr, am_cl, am_cd, hc]) h
theorem d_X8_take_14 : decode cX8_take 14 = .ok (.iload_n 2, 1) := by decide +kernel
theorem s_X8_take_14 {n : Int32} (h : AP M_X8_take b 15 [x0, x1, .int n] (.int n :: st) hi g Φ) : AP M_X8_take b 14 [x0, x1, .int n] (st) hi g Φ := AP.iload_n (x := n) (i := 2) d_X8_take_14 rfl rfl h
theorem d_X8_take_15 : decode cX8_take 15 = .ok (.ifCond .eq 13, 3) := by decide +kernel
theorem s_X8_take_15 {x : Int32} (h1 : x = 0 → AP M_X8_take b 28 [x0, x1, x2] st hi g Φ) (h2 : ¬ x = 0 → AP M_X8_take b 18 [x0, x1, x2] st hi g Φ) : AP M_X8_take b 15 [x0, x1, x2] (.int x :: st) hi g Φ := AP.if_eq d_X8_take_15 (by decide) h1 h2
theorem d_X8_take_18 : decode cX8_take 18 = .ok (.aload_n 0, 1) := by decide +kernel
theorem s_X8_take_18 {n : Nat} (h : AP M_X8_take b 19 [.ref n, x1, x2] (.ref n :: st) hi g Φ) : AP M_X8_take b 18 [.ref n, x1, x2] (st) hi g Φ := AP.aload_n (x := n) (i := 0) d_X8_take_18 rfl rfl h
theorem d_X8_take_19 : decode cX8_take 19 = .ok (.dup, 1) := by decide +kernel
theorem s_X8_take_19 {u : Value} (hu : u.category = 1) (h : AP M_X8_take b 20 [x0, x1, x2] (u :: u :: st) hi g Φ) : AP M_X8_take b 19 [x0, x1, x2] (u :: st) hi g Φ := AP.dup d_X8_take_19 hu h
theorem d_X8_take_20 : decode cX8_take 20 = .ok (.getfield 19, 3) := by decide +kernel
theorem s_X8_take_20 {k : Nat} (hI : am_Inv g) (hs : am_SH k = (0, 8)) (hk : k < 134) (h : AP M_X8_take b 23 [x0, x1, x2] (.int (hi k 2) :: st) hi g Φ) : AP M_X8_take b 20 [x0, x1, x2] (.ref k :: st) hi g Φ := AP.getI (j := 2) (q := (RX8, TX8, 6)) d_X8_take_20 hs (hI.lt hk) rfl (by decide) (by decide) w_294 h
theorem d_X8_take_23 : decode cX8_take 23 = .ok (.iconst 1, 1) := by decide +kernel
theorem s_X8_take_23 (h : AP M_X8_take b 24 [x0, x1, x2] (.int 1 :: st) hi g Φ) : AP M_X8_take b 23 [x0, x1, x2] (st) hi g Φ := AP.iconst (x := 1) d_X8_take_23 (by decide) h
theorem d_X8_take_24 : decode cX8_take 24 = .ok (.iadd, 1) := by decide +kernel
theorem s_X8_take_24 {x y : Int32} (h : AP M_X8_take b 25 [x0, x1, x2] (.int (x + y) :: st) hi g Φ) : AP M_X8_take b 24 [x0, x1, x2] (.int y :: .int x :: st) hi g Φ := AP.iadd d_X8_take_24 h
theorem d_X8_take_25 : decode cX8_take 25 = .ok (.putfield 19, 3) := by decide +kernel
theorem s_X8_take_25 {k : Nat} {n : Int32} (hI : am_Inv g) (hs : am_SH k = (0, 8)) (hk : k < 134) (h : AP M_X8_take b 28 [x0, x1, x2] (st) (am_up hi k 2 n) g Φ) : AP M_X8_take b 25 [x0, x1, x2] (.int n :: .ref k :: st) hi g Φ := AP.putI (j := 2) (q := (RX8, TX8, 6)) d_X8_take_25 hs (hI.lt hk) rfl (by decide) rfl rfl w_294 h
theorem d_X8_take_28 : decode cX8_take 28 = .ok (.iload_n 2, 1) := by decide +kernel
theorem s_X8_take_28 {n : Int32} (h : AP M_X8_take b 29 [x0, x1, .int n] (.int n :: st) hi g Φ) : AP M_X8_take b 28 [x0, x1, .int n] (st) hi g Φ := AP.iload_n (x := n) (i := 2) d_X8_take_28 rfl rfl h
theorem d_X8_take_29 : decode cX8_take 29 = .ok (.ireturn, 1) := by decide +kernel
theorem s_X8_take_29 {x : Int32} (hx : x = 0 ∨ x = 1) (h : Φ (.ok (some (.int x))) hi g) : AP M_X8_take b 29 [x0, x1, x2] [.int x] hi g Φ := AP.zret d_X8_take_29 rfl hx h
end
section
variable {b : Nat × Nat} {st : List Value} {hi : am_HI} {g : am_G} {Φ : am_P} {x0 x1 x2 x3 : Value}
theorem d_X8_readNumber_0 : decode cX8_readNumber 0 = .ok (.aload_n 0, 1) := by decide +kernel
theorem s_X8_readNumber_0 {n : Nat} (h : AP M_X8_readNumber b 1 [.ref n, x1, x2, x3] (.ref n :: st) hi g Φ) : AP M_X8_readNumber b 0 [.ref n, x1, x2, x3] (st) hi g Φ := AP.aload_n (x := n) (i := 0) d_X8_readNumber_0 rfl rfl h
theorem d_X8_readNumber_1 : decode cX8_readNumber 1 = .ok (.invokevirtual 57, 3) := by decide +kernel
theorem s_X8_readNumber_1  {k : Nat} {r0 : Int32} {P : am_HI → Prop} (hI : am_Inv g) (hs : am_SH k = (0, 8)) (hk : k < 134) (hst : (st.map Value.category).sum ≤ 8) (hc : am_Cr M_X8_digitHere [.ref k] hi g (some (.int r0)) P) (h : ∀ hi' : am_HI, P hi' → AP M_X8_readNumber b 4 [x0, x1, x2, x3] (.int r0 :: st) hi' g Φ) : AP M_X8_readNumber b 1 [x0, x1, x2, x3] (.ref k :: st) hi g Φ := AP.callVr (As := []) (q := (RX8, TX8, 6)) hI hc k_X8_readNumber_57 d_X8_readNumber_1 rfl hs hk rfl rfl hst h
theorem d_X8_readNumber_4 : decode cX8_readNumber 4 = .ok (.istore_n 3, 1) := by decide +kernel
theorem s_X8_readNumber_4 {n : Int32} (hc : x2.category = 1) (h : AP M_X8_readNumber b 5 [x0, x1, x2, .int n] (st) hi g Φ) : AP M_X8_readNumber b 4 [x0, x1, x2, x3] (.int n :: st) hi g Φ := AP.istore_n (x := n) (i := 3) d_X8_readNumber_4 rfl (by decide) (by simp [am_st, am_ci, am_cr, am_cl, am_cd, hc]) h
theorem d_X8_readNumber_5 : decode cX8_readNumber 5 = .ok (.iload_n 3, 1) := by decide +kernel
theorem s_X8_readNumber_5 {n : Int32} (h : AP M_X8_readNumber b 6 [x0, x1, x2, .int n] (.int n :: st) hi g Φ) : AP M_X8_readNumber b 5 [x0, x1, x2, .int n] (st) hi g Φ := AP.iload_n (x := n) (i := 3) d_X8_readNumber_5 rfl rfl h
theorem d_X8_readNumber_6 : decode cX8_readNumber 6 = .ok (.iload_n 1, 1) := by decide +kernel
theorem s_X8_readNumber_6 {n : Int32} (h : AP M_X8_readNumber b 7 [x0, .int n, x2, x3] (.int n :: st) hi g Φ) : AP M_X8_readNumber b 6 [x0, .int n, x2, x3] (st) hi g Φ := AP.iload_n (x := n) (i := 1) d_X8_readNumber_6 rfl rfl h
theorem d_X8_readNumber_7 : decode cX8_readNumber 7 = .ok (.if_icmp .lt 8, 3) := by decide +kernel
theorem s_X8_readNumber_7 {x y : Int32} (h1 : x < y → AP M_X8_readNumber b 15 [x0, x1, x2, x3] st hi g Φ) (h2 : ¬ x < y → AP M_X8_readNumber b 10 [x0, x1, x2, x3] st hi g Φ) : AP M_X8_readNumber b 7 [x0, x1, x2, x3] (.int y :: .int x :: st) hi g Φ := AP.icmp_lt d_X8_readNumber_7 (by decide) h1 h2
theorem d_X8_readNumber_10 : decode cX8_readNumber 10 = .ok (.iload_n 3, 1) := by decide +kernel
theorem s_X8_readNumber_10 {n : Int32} (h : AP M_X8_readNumber b 11 [x0, x1, x2, .int n] (.int n :: st) hi g Φ) : AP M_X8_readNumber b 10 [x0, x1, x2, .int n] (st) hi g Φ := AP.iload_n (x := n) (i := 3) d_X8_readNumber_10 rfl rfl h
theorem d_X8_readNumber_11 : decode cX8_readNumber 11 = .ok (.iload_n 2, 1) := by decide +kernel
theorem s_X8_readNumber_11 {n : Int32} (h : AP M_X8_readNumber b 12 [x0, x1, .int n, x3] (.int n :: st) hi g Φ) : AP M_X8_readNumber b 11 [x0, x1, .int n, x3] (st) hi g Φ := AP.iload_n (x := n) (i := 2) d_X8_readNumber_11 rfl rfl h
theorem d_X8_readNumber_12 : decode cX8_readNumber 12 = .ok (.if_icmp .le 5, 3) := by decide +kernel
theorem s_X8_readNumber_12 {x y : Int32} (h1 : x ≤ y → AP M_X8_readNumber b 17 [x0, x1, x2, x3] st hi g Φ) (h2 : ¬ x ≤ y → AP M_X8_readNumber b 15 [x0, x1, x2, x3] st hi g Φ) : AP M_X8_readNumber b 12 [x0, x1, x2, x3] (.int y :: .int x :: st) hi g Φ := AP.icmp_le d_X8_readNumber_12 (by decide) h1 h2
theorem d_X8_readNumber_15 : decode cX8_readNumber 15 = .ok (.iconst (-1), 1) := by decide +kernel
theorem s_X8_readNumber_15 (h : AP M_X8_readNumber b 16 [x0, x1, x2, x3] (.int (-1) :: st) hi g Φ) : AP M_X8_readNumber b 15 [x0, x1, x2, x3] (st) hi g Φ := AP.iconst (x := (-1)) d_X8_readNumber_15 (by decide) h
theorem d_X8_readNumber_16 : decode cX8_readNumber 16 = .ok (.ireturn, 1) := by decide +kernel
theorem s_X8_readNumber_16 {x : Int32} (h : Φ (.ok (some (.int x))) hi g) : AP M_X8_readNumber b 16 [x0, x1, x2, x3] [.int x] hi g Φ := AP.iret d_X8_readNumber_16 rfl h
theorem d_X8_readNumber_17 : decode cX8_readNumber 17 = .ok (.aload_n 0, 1) := by decide +kernel
theorem s_X8_readNumber_17 {n : Nat} (h : AP M_X8_readNumber b 18 [.ref n, x1, x2, x3] (.ref n :: st) hi g Φ) : AP M_X8_readNumber b 17 [.ref n, x1, x2, x3] (st) hi g Φ := AP.aload_n (x := n) (i := 0) d_X8_readNumber_17 rfl rfl h
theorem d_X8_readNumber_18 : decode cX8_readNumber 18 = .ok (.dup, 1) := by decide +kernel
theorem s_X8_readNumber_18 {u : Value} (hu : u.category = 1) (h : AP M_X8_readNumber b 19 [x0, x1, x2, x3] (u :: u :: st) hi g Φ) : AP M_X8_readNumber b 18 [x0, x1, x2, x3] (u :: st) hi g Φ := AP.dup d_X8_readNumber_18 hu h
theorem d_X8_readNumber_19 : decode cX8_readNumber 19 = .ok (.getfield 19, 3) := by decide +kernel
theorem s_X8_readNumber_19 {k : Nat} (hI : am_Inv g) (hs : am_SH k = (0, 8)) (hk : k < 134) (h : AP M_X8_readNumber b 22 [x0, x1, x2, x3] (.int (hi k 2) :: st) hi g Φ) : AP M_X8_readNumber b 19 [x0, x1, x2, x3] (.ref k :: st) hi g Φ := AP.getI (j := 2) (q := (RX8, TX8, 6)) d_X8_readNumber_19 hs (hI.lt hk) rfl (by decide) (by decide) w_294 h
theorem d_X8_readNumber_22 : decode cX8_readNumber 22 = .ok (.iconst 1, 1) := by decide +kernel
theorem s_X8_readNumber_22 (h : AP M_X8_readNumber b 23 [x0, x1, x2, x3] (.int 1 :: st) hi g Φ) : AP M_X8_readNumber b 22 [x0, x1, x2, x3] (st) hi g Φ := AP.iconst (x := 1) d_X8_readNumber_22 (by decide) h
theorem d_X8_readNumber_23 : decode cX8_readNumber 23 = .ok (.iadd, 1) := by decide +kernel
theorem s_X8_readNumber_23 {x y : Int32} (h : AP M_X8_readNumber b 24 [x0, x1, x2, x3] (.int (x + y) :: st) hi g Φ) : AP M_X8_readNumber b 23 [x0, x1, x2, x3] (.int y :: .int x :: st) hi g Φ := AP.iadd d_X8_readNumber_23 h
theorem d_X8_readNumber_24 : decode cX8_readNumber 24 = .ok (.putfield 19, 3) := by decide +kernel
theorem s_X8_readNumber_24 {k : Nat} {n : Int32} (hI : am_Inv g) (hs : am_SH k = (0, 8)) (hk : k < 134) (h : AP M_X8_readNumber b 27 [x0, x1, x2, x3] (st) (am_up hi k 2 n) g Φ) : AP M_X8_readNumber b 24 [x0, x1, x2, x3] (.int n :: .ref k :: st) hi g Φ := AP.putI (j := 2) (q := (RX8, TX8, 6)) d_X8_readNumber_24 hs (hI.lt hk) rfl (by decide) rfl rfl w_294 h
theorem d_X8_readNumber_27 : decode cX8_readNumber 27 = .ok (.aload_n 0, 1) := by decide +kernel
theorem s_X8_readNumber_27 {n : Nat} (h : AP M_X8_readNumber b 28 [.ref n, x1, x2, x3] (.ref n :: st) hi g Φ) : AP M_X8_readNumber b 27 [.ref n, x1, x2, x3] (st) hi g Φ := AP.aload_n (x := n) (i := 0) d_X8_readNumber_27 rfl rfl h
theorem d_X8_readNumber_28 : decode cX8_readNumber 28 = .ok (.getfield 19, 3) := by decide +kernel
theorem s_X8_readNumber_28 {k : Nat} (hI : am_Inv g) (hs : am_SH k = (0, 8)) (hk : k < 134) (h : AP M_X8_readNumber b 31 [x0, x1, x2, x3] (.int (hi k 2) :: st) hi g Φ) : AP M_X8_readNumber b 28 [x0, x1, x2, x3] (.ref k :: st) hi g Φ := AP.getI (j := 2) (q := (RX8, TX8, 6)) d_X8_readNumber_28 hs (hI.lt hk) rfl (by decide) (by decide) w_294 h
theorem d_X8_readNumber_31 : decode cX8_readNumber 31 = .ok (.aload_n 0, 1) := by decide +kernel
theorem s_X8_readNumber_31 {n : Nat} (h : AP M_X8_readNumber b 32 [.ref n, x1, x2, x3] (.ref n :: st) hi g Φ) : AP M_X8_readNumber b 31 [.ref n, x1, x2, x3] (st) hi g Φ := AP.aload_n (x := n) (i := 0) d_X8_readNumber_31 rfl rfl h
theorem d_X8_readNumber_32 : decode cX8_readNumber 32 = .ok (.getfield 15, 3) := by decide +kernel
theorem s_X8_readNumber_32 {k : Nat} (hI : am_Inv g) (hs : am_SH k = (0, 8)) (hk : k < 134) (h : AP M_X8_readNumber b 35 [x0, x1, x2, x3] (.int (hi k 1) :: st) hi g Φ) : AP M_X8_readNumber b 32 [x0, x1, x2, x3] (.ref k :: st) hi g Φ := AP.getI (j := 1) (q := (RX8, TX8, 6)) d_X8_readNumber_32 hs (hI.lt hk) rfl (by decide) (by decide) w_292 h
theorem d_X8_readNumber_35 : decode cX8_readNumber 35 = .ok (.if_icmp .ge 51, 3) := by decide +kernel
theorem s_X8_readNumber_35 {x y : Int32} (h1 : y ≤ x → AP M_X8_readNumber b 86 [x0, x1, x2, x3] st hi g Φ) (h2 : ¬ y ≤ x → AP M_X8_readNumber b 38 [x0, x1, x2, x3] st hi g Φ) : AP M_X8_readNumber b 35 [x0, x1, x2, x3] (.int y :: .int x :: st) hi g Φ := AP.icmp_ge d_X8_readNumber_35 (by decide) h1 h2
theorem d_X8_readNumber_38 : decode cX8_readNumber 38 = .ok (.iload_n 3, 1) := by decide +kernel
theorem s_X8_readNumber_38 {n : Int32} (h : AP M_X8_readNumber b 39 [x0, x1, x2, .int n] (.int n :: st) hi g Φ) : AP M_X8_readNumber b 38 [x0, x1, x2, .int n] (st) hi g Φ := AP.iload_n (x := n) (i := 3) d_X8_readNumber_38 rfl rfl h
theorem d_X8_readNumber_39 : decode cX8_readNumber 39 = .ok (.ifCond .le 47, 3) := by decide +kernel
theorem s_X8_readNumber_39 {x : Int32} (h1 : x ≤ 0 → AP M_X8_readNumber b 86 [x0, x1, x2, x3] st hi g Φ) (h2 : ¬ x ≤ 0 → AP M_X8_readNumber b 42 [x0, x1, x2, x3] st hi g Φ) : AP M_X8_readNumber b 39 [x0, x1, x2, x3] (.int x :: st) hi g Φ := AP.if_le d_X8_readNumber_39 (by decide) h1 h2
theorem d_X8_readNumber_42 : decode cX8_readNumber 42 = .ok (.aload_n 0, 1) := by decide +kernel
theorem s_X8_readNumber_42 {n : Nat} (h : AP M_X8_readNumber b 43 [.ref n, x1, x2, x3] (.ref n :: st) hi g Φ) : AP M_X8_readNumber b 42 [.ref n, x1, x2, x3] (st) hi g Φ := AP.aload_n (x := n) (i := 0) d_X8_readNumber_42 rfl rfl h
theorem d_X8_readNumber_43 : decode cX8_readNumber 43 = .ok (.invokevirtual 57, 3) := by decide +kernel
theorem s_X8_readNumber_43  {k : Nat} {r0 : Int32} {P : am_HI → Prop} (hI : am_Inv g) (hs : am_SH k = (0, 8)) (hk : k < 134) (hst : (st.map Value.category).sum ≤ 8) (hc : am_Cr M_X8_digitHere [.ref k] hi g (some (.int r0)) P) (h : ∀ hi' : am_HI, P hi' → AP M_X8_readNumber b 46 [x0, x1, x2, x3] (.int r0 :: st) hi' g Φ) : AP M_X8_readNumber b 43 [x0, x1, x2, x3] (.ref k :: st) hi g Φ := AP.callVr (As := []) (q := (RX8, TX8, 6)) hI hc k_X8_readNumber_57 d_X8_readNumber_43 rfl hs hk rfl rfl hst h
theorem d_X8_readNumber_46 : decode cX8_readNumber 46 = .ok (.iconst (-1), 1) := by decide +kernel
theorem s_X8_readNumber_46 (h : AP M_X8_readNumber b 47 [x0, x1, x2, x3] (.int (-1) :: st) hi g Φ) : AP M_X8_readNumber b 46 [x0, x1, x2, x3] (st) hi g Φ := AP.iconst (x := (-1)) d_X8_readNumber_46 (by decide) h
theorem d_X8_readNumber_47 : decode cX8_readNumber 47 = .ok (.if_icmp .eq 39, 3) := by decide +kernel
theorem s_X8_readNumber_47 {x y : Int32} (h1 : x = y → AP M_X8_readNumber b 86 [x0, x1, x2, x3] st hi g Φ) (h2 : ¬ x = y → AP M_X8_readNumber b 50 [x0, x1, x2, x3] st hi g Φ) : AP M_X8_readNumber b 47 [x0, x1, x2, x3] (.int y :: .int x :: st) hi g Φ := AP.icmp_eq d_X8_readNumber_47 (by decide) h1 h2
theorem d_X8_readNumber_50 : decode cX8_readNumber 50 = .ok (.bipush 10, 2) := by decide +kernel
theorem s_X8_readNumber_50 (h : AP M_X8_readNumber b 52 [x0, x1, x2, x3] (.int 10 :: st) hi g Φ) : AP M_X8_readNumber b 50 [x0, x1, x2, x3] (st) hi g Φ := AP.bipush (x := 10) d_X8_readNumber_50 (by decide) h
theorem d_X8_readNumber_52 : decode cX8_readNumber 52 = .ok (.iload_n 3, 1) := by decide +kernel
theorem s_X8_readNumber_52 {n : Int32} (h : AP M_X8_readNumber b 53 [x0, x1, x2, .int n] (.int n :: st) hi g Φ) : AP M_X8_readNumber b 52 [x0, x1, x2, .int n] (st) hi g Φ := AP.iload_n (x := n) (i := 3) d_X8_readNumber_52 rfl rfl h
theorem d_X8_readNumber_53 : decode cX8_readNumber 53 = .ok (.imul, 1) := by decide +kernel
theorem s_X8_readNumber_53 {x y : Int32} (h : AP M_X8_readNumber b 54 [x0, x1, x2, x3] (.int (x * y) :: st) hi g Φ) : AP M_X8_readNumber b 53 [x0, x1, x2, x3] (.int y :: .int x :: st) hi g Φ := AP.imul d_X8_readNumber_53 h
theorem d_X8_readNumber_54 : decode cX8_readNumber 54 = .ok (.aload_n 0, 1) := by decide +kernel
theorem s_X8_readNumber_54 {n : Nat} (h : AP M_X8_readNumber b 55 [.ref n, x1, x2, x3] (.ref n :: st) hi g Φ) : AP M_X8_readNumber b 54 [.ref n, x1, x2, x3] (st) hi g Φ := AP.aload_n (x := n) (i := 0) d_X8_readNumber_54 rfl rfl h
theorem d_X8_readNumber_55 : decode cX8_readNumber 55 = .ok (.invokevirtual 57, 3) := by decide +kernel
theorem s_X8_readNumber_55  {k : Nat} {r0 : Int32} {P : am_HI → Prop} (hI : am_Inv g) (hs : am_SH k = (0, 8)) (hk : k < 134) (hst : (st.map Value.category).sum ≤ 8) (hc : am_Cr M_X8_digitHere [.ref k] hi g (some (.int r0)) P) (h : ∀ hi' : am_HI, P hi' → AP M_X8_readNumber b 58 [x0, x1, x2, x3] (.int r0 :: st) hi' g Φ) : AP M_X8_readNumber b 55 [x0, x1, x2, x3] (.ref k :: st) hi g Φ := AP.callVr (As := []) (q := (RX8, TX8, 6)) hI hc k_X8_readNumber_57 d_X8_readNumber_55 rfl hs hk rfl rfl hst h
theorem d_X8_readNumber_58 : decode cX8_readNumber 58 = .ok (.iadd, 1) := by decide +kernel
theorem s_X8_readNumber_58 {x y : Int32} (h : AP M_X8_readNumber b 59 [x0, x1, x2, x3] (.int (x + y) :: st) hi g Φ) : AP M_X8_readNumber b 58 [x0, x1, x2, x3] (.int y :: .int x :: st) hi g Φ := AP.iadd d_X8_readNumber_58 h
theorem d_X8_readNumber_59 : decode cX8_readNumber 59 = .ok (.iload_n 2, 1) := by decide +kernel
theorem s_X8_readNumber_59 {n : Int32} (h : AP M_X8_readNumber b 60 [x0, x1, .int n, x3] (.int n :: st) hi g Φ) : AP M_X8_readNumber b 59 [x0, x1, .int n, x3] (st) hi g Φ := AP.iload_n (x := n) (i := 2) d_X8_readNumber_59 rfl rfl h
theorem d_X8_readNumber_60 : decode cX8_readNumber 60 = .ok (.if_icmp .gt 26, 3) := by decide +kernel
theorem s_X8_readNumber_60 {x y : Int32} (h1 : y < x → AP M_X8_readNumber b 86 [x0, x1, x2, x3] st hi g Φ) (h2 : ¬ y < x → AP M_X8_readNumber b 63 [x0, x1, x2, x3] st hi g Φ) : AP M_X8_readNumber b 60 [x0, x1, x2, x3] (.int y :: .int x :: st) hi g Φ := AP.icmp_gt d_X8_readNumber_60 (by decide) h1 h2
theorem d_X8_readNumber_63 : decode cX8_readNumber 63 = .ok (.bipush 10, 2) := by decide +kernel
theorem s_X8_readNumber_63 (h : AP M_X8_readNumber b 65 [x0, x1, x2, x3] (.int 10 :: st) hi g Φ) : AP M_X8_readNumber b 63 [x0, x1, x2, x3] (st) hi g Φ := AP.bipush (x := 10) d_X8_readNumber_63 (by decide) h
theorem d_X8_readNumber_65 : decode cX8_readNumber 65 = .ok (.iload_n 3, 1) := by decide +kernel
theorem s_X8_readNumber_65 {n : Int32} (h : AP M_X8_readNumber b 66 [x0, x1, x2, .int n] (.int n :: st) hi g Φ) : AP M_X8_readNumber b 65 [x0, x1, x2, .int n] (st) hi g Φ := AP.iload_n (x := n) (i := 3) d_X8_readNumber_65 rfl rfl h
theorem d_X8_readNumber_66 : decode cX8_readNumber 66 = .ok (.imul, 1) := by decide +kernel
theorem s_X8_readNumber_66 {x y : Int32} (h : AP M_X8_readNumber b 67 [x0, x1, x2, x3] (.int (x * y) :: st) hi g Φ) : AP M_X8_readNumber b 66 [x0, x1, x2, x3] (.int y :: .int x :: st) hi g Φ := AP.imul d_X8_readNumber_66 h
theorem d_X8_readNumber_67 : decode cX8_readNumber 67 = .ok (.aload_n 0, 1) := by decide +kernel
theorem s_X8_readNumber_67 {n : Nat} (h : AP M_X8_readNumber b 68 [.ref n, x1, x2, x3] (.ref n :: st) hi g Φ) : AP M_X8_readNumber b 67 [.ref n, x1, x2, x3] (st) hi g Φ := AP.aload_n (x := n) (i := 0) d_X8_readNumber_67 rfl rfl h
theorem d_X8_readNumber_68 : decode cX8_readNumber 68 = .ok (.invokevirtual 57, 3) := by decide +kernel
theorem s_X8_readNumber_68  {k : Nat} {r0 : Int32} {P : am_HI → Prop} (hI : am_Inv g) (hs : am_SH k = (0, 8)) (hk : k < 134) (hst : (st.map Value.category).sum ≤ 8) (hc : am_Cr M_X8_digitHere [.ref k] hi g (some (.int r0)) P) (h : ∀ hi' : am_HI, P hi' → AP M_X8_readNumber b 71 [x0, x1, x2, x3] (.int r0 :: st) hi' g Φ) : AP M_X8_readNumber b 68 [x0, x1, x2, x3] (.ref k :: st) hi g Φ := AP.callVr (As := []) (q := (RX8, TX8, 6)) hI hc k_X8_readNumber_57 d_X8_readNumber_68 rfl hs hk rfl rfl hst h
theorem d_X8_readNumber_71 : decode cX8_readNumber 71 = .ok (.iadd, 1) := by decide +kernel
theorem s_X8_readNumber_71 {x y : Int32} (h : AP M_X8_readNumber b 72 [x0, x1, x2, x3] (.int (x + y) :: st) hi g Φ) : AP M_X8_readNumber b 71 [x0, x1, x2, x3] (.int y :: .int x :: st) hi g Φ := AP.iadd d_X8_readNumber_71 h
theorem d_X8_readNumber_72 : decode cX8_readNumber 72 = .ok (.istore_n 3, 1) := by decide +kernel
theorem s_X8_readNumber_72 {n : Int32} (hc : x2.category = 1) (h : AP M_X8_readNumber b 73 [x0, x1, x2, .int n] (st) hi g Φ) : AP M_X8_readNumber b 72 [x0, x1, x2, x3] (.int n :: st) hi g Φ := AP.istore_n (x := n) (i := 3) d_X8_readNumber_72 rfl (by decide) (by simp [am_st, am_ci, am_cr, am_cl, am_cd, hc]) h
theorem d_X8_readNumber_73 : decode cX8_readNumber 73 = .ok (.aload_n 0, 1) := by decide +kernel
theorem s_X8_readNumber_73 {n : Nat} (h : AP M_X8_readNumber b 74 [.ref n, x1, x2, x3] (.ref n :: st) hi g Φ) : AP M_X8_readNumber b 73 [.ref n, x1, x2, x3] (st) hi g Φ := AP.aload_n (x := n) (i := 0) d_X8_readNumber_73 rfl rfl h
theorem d_X8_readNumber_74 : decode cX8_readNumber 74 = .ok (.dup, 1) := by decide +kernel
theorem s_X8_readNumber_74 {u : Value} (hu : u.category = 1) (h : AP M_X8_readNumber b 75 [x0, x1, x2, x3] (u :: u :: st) hi g Φ) : AP M_X8_readNumber b 74 [x0, x1, x2, x3] (u :: st) hi g Φ := AP.dup d_X8_readNumber_74 hu h
theorem d_X8_readNumber_75 : decode cX8_readNumber 75 = .ok (.getfield 19, 3) := by decide +kernel
theorem s_X8_readNumber_75 {k : Nat} (hI : am_Inv g) (hs : am_SH k = (0, 8)) (hk : k < 134) (h : AP M_X8_readNumber b 78 [x0, x1, x2, x3] (.int (hi k 2) :: st) hi g Φ) : AP M_X8_readNumber b 75 [x0, x1, x2, x3] (.ref k :: st) hi g Φ := AP.getI (j := 2) (q := (RX8, TX8, 6)) d_X8_readNumber_75 hs (hI.lt hk) rfl (by decide) (by decide) w_294 h
theorem d_X8_readNumber_78 : decode cX8_readNumber 78 = .ok (.iconst 1, 1) := by decide +kernel
theorem s_X8_readNumber_78 (h : AP M_X8_readNumber b 79 [x0, x1, x2, x3] (.int 1 :: st) hi g Φ) : AP M_X8_readNumber b 78 [x0, x1, x2, x3] (st) hi g Φ := AP.iconst (x := 1) d_X8_readNumber_78 (by decide) h
theorem d_X8_readNumber_79 : decode cX8_readNumber 79 = .ok (.iadd, 1) := by decide +kernel
theorem s_X8_readNumber_79 {x y : Int32} (h : AP M_X8_readNumber b 80 [x0, x1, x2, x3] (.int (x + y) :: st) hi g Φ) : AP M_X8_readNumber b 79 [x0, x1, x2, x3] (.int y :: .int x :: st) hi g Φ := AP.iadd d_X8_readNumber_79 h
theorem d_X8_readNumber_80 : decode cX8_readNumber 80 = .ok (.putfield 19, 3) := by decide +kernel
theorem s_X8_readNumber_80 {k : Nat} {n : Int32} (hI : am_Inv g) (hs : am_SH k = (0, 8)) (hk : k < 134) (h : AP M_X8_readNumber b 83 [x0, x1, x2, x3] (st) (am_up hi k 2 n) g Φ) : AP M_X8_readNumber b 80 [x0, x1, x2, x3] (.int n :: .ref k :: st) hi g Φ := AP.putI (j := 2) (q := (RX8, TX8, 6)) d_X8_readNumber_80 hs (hI.lt hk) rfl (by decide) rfl rfl w_294 h
theorem d_X8_readNumber_83 : decode cX8_readNumber 83 = .ok (.goto (-56), 3) := by decide +kernel
theorem s_X8_readNumber_83 (h : AP M_X8_readNumber b 27 [x0, x1, x2, x3] st hi g Φ) : AP M_X8_readNumber b 83 [x0, x1, x2, x3] st hi g Φ := AP.goto d_X8_readNumber_83 (by decide) h
theorem d_X8_readNumber_86 : decode cX8_readNumber 86 = .ok (.iload_n 3, 1) := by decide +kernel
theorem s_X8_readNumber_86 {n : Int32} (h : AP M_X8_readNumber b 87 [x0, x1, x2, .int n] (.int n :: st) hi g Φ) : AP M_X8_readNumber b 86 [x0, x1, x2, .int n] (st) hi g Φ := AP.iload_n (x := n) (i := 3) d_X8_readNumber_86 rfl rfl h
theorem d_X8_readNumber_87 : decode cX8_readNumber 87 = .ok (.ireturn, 1) := by decide +kernel
theorem s_X8_readNumber_87 {x : Int32} (h : Φ (.ok (some (.int x))) hi g) : AP M_X8_readNumber b 87 [x0, x1, x2, x3] [.int x] hi g Φ := AP.iret d_X8_readNumber_87 rfl h
end
section
variable {b : Nat × Nat} {st : List Value} {hi : am_HI} {g : am_G} {Φ : am_P} {x0 x1 x2 : Value}
theorem d_X8_readPlace_0 : decode cX8_readPlace 0 = .ok (.aload_n 0, 1) := by decide +kernel
theorem s_X8_readPlace_0 {n : Nat} (h : AP M_X8_readPlace b 1 [.ref n, x1, x2] (.ref n :: st) hi g Φ) : AP M_X8_readPlace b 0 [.ref n, x1, x2] (st) hi g Φ := AP.aload_n (x := n) (i := 0) d_X8_readPlace_0 rfl rfl h
theorem d_X8_readPlace_1 : decode cX8_readPlace 1 = .ok (.aload_n 0, 1) := by decide +kernel
theorem s_X8_readPlace_1 {n : Nat} (h : AP M_X8_readPlace b 2 [.ref n, x1, x2] (.ref n :: st) hi g Φ) : AP M_X8_readPlace b 1 [.ref n, x1, x2] (st) hi g Φ := AP.aload_n (x := n) (i := 0) d_X8_readPlace_1 rfl rfl h
theorem d_X8_readPlace_2 : decode cX8_readPlace 2 = .ok (.iload_n 1, 1) := by decide +kernel
theorem s_X8_readPlace_2 {n : Int32} (h : AP M_X8_readPlace b 3 [x0, .int n, x2] (.int n :: st) hi g Φ) : AP M_X8_readPlace b 2 [x0, .int n, x2] (st) hi g Φ := AP.iload_n (x := n) (i := 1) d_X8_readPlace_2 rfl rfl h
theorem d_X8_readPlace_3 : decode cX8_readPlace 3 = .ok (.iload_n 2, 1) := by decide +kernel
theorem s_X8_readPlace_3 {n : Int32} (h : AP M_X8_readPlace b 4 [x0, x1, .int n] (.int n :: st) hi g Φ) : AP M_X8_readPlace b 3 [x0, x1, .int n] (st) hi g Φ := AP.iload_n (x := n) (i := 2) d_X8_readPlace_3 rfl rfl h
theorem d_X8_readPlace_4 : decode cX8_readPlace 4 = .ok (.invokevirtual 53, 3) := by decide +kernel
theorem s_X8_readPlace_4 {a0 : Int32} {a1 : Int32} {k : Nat} {r0 : Int32} {P : am_HI → Prop} (hI : am_Inv g) (hs : am_SH k = (0, 8)) (hk : k < 134) (hst : (st.map Value.category).sum ≤ 8) (hc : am_Cr M_X8_readNumber [.ref k, .int a0, .int a1] hi g (some (.int r0)) P) (h : ∀ hi' : am_HI, P hi' → AP M_X8_readPlace b 7 [x0, x1, x2] (.int r0 :: st) hi' g Φ) : AP M_X8_readPlace b 4 [x0, x1, x2] (.int a1 :: .int a0 :: .ref k :: st) hi g Φ := AP.callVr (As := [.int a0, .int a1]) (q := (RX8, TX8, 6)) hI hc k_X8_readPlace_53 d_X8_readPlace_4 rfl hs hk rfl rfl hst h
theorem d_X8_readPlace_7 : decode cX8_readPlace 7 = .ok (.putfield 25, 3) := by decide +kernel
theorem s_X8_readPlace_7 {k : Nat} {n : Int32} (hI : am_Inv g) (hs : am_SH k = (0, 8)) (hk : k < 134) (h : AP M_X8_readPlace b 10 [x0, x1, x2] (st) (am_up hi k 4 n) g Φ) : AP M_X8_readPlace b 7 [x0, x1, x2] (.int n :: .ref k :: st) hi g Φ := AP.putI (j := 4) (q := (RX8, TX8, 6)) d_X8_readPlace_7 hs (hI.lt hk) rfl (by decide) rfl rfl w_298 h
theorem d_X8_readPlace_10 : decode cX8_readPlace 10 = .ok (.aload_n 0, 1) := by decide +kernel
theorem s_X8_readPlace_10 {n : Nat} (h : AP M_X8_readPlace b 11 [.ref n, x1, x2] (.ref n :: st) hi g Φ) : AP M_X8_readPlace b 10 [.ref n, x1, x2] (st) hi g Φ := AP.aload_n (x := n) (i := 0) d_X8_readPlace_10 rfl rfl h
theorem d_X8_readPlace_11 : decode cX8_readPlace 11 = .ok (.getfield 25, 3) := by decide +kernel
theorem s_X8_readPlace_11 {k : Nat} (hI : am_Inv g) (hs : am_SH k = (0, 8)) (hk : k < 134) (h : AP M_X8_readPlace b 14 [x0, x1, x2] (.int (hi k 4) :: st) hi g Φ) : AP M_X8_readPlace b 11 [x0, x1, x2] (.ref k :: st) hi g Φ := AP.getI (j := 4) (q := (RX8, TX8, 6)) d_X8_readPlace_11 hs (hI.lt hk) rfl (by decide) (by decide) w_298 h
theorem d_X8_readPlace_14 : decode cX8_readPlace 14 = .ok (.iconst (-1), 1) := by decide +kernel
theorem s_X8_readPlace_14 (h : AP M_X8_readPlace b 15 [x0, x1, x2] (.int (-1) :: st) hi g Φ) : AP M_X8_readPlace b 14 [x0, x1, x2] (st) hi g Φ := AP.iconst (x := (-1)) d_X8_readPlace_14 (by decide) h
theorem d_X8_readPlace_15 : decode cX8_readPlace 15 = .ok (.if_icmp .eq 16, 3) := by decide +kernel
theorem s_X8_readPlace_15 {x y : Int32} (h1 : x = y → AP M_X8_readPlace b 31 [x0, x1, x2] st hi g Φ) (h2 : ¬ x = y → AP M_X8_readPlace b 18 [x0, x1, x2] st hi g Φ) : AP M_X8_readPlace b 15 [x0, x1, x2] (.int y :: .int x :: st) hi g Φ := AP.icmp_eq d_X8_readPlace_15 (by decide) h1 h2
theorem d_X8_readPlace_18 : decode cX8_readPlace 18 = .ok (.aload_n 0, 1) := by decide +kernel
theorem s_X8_readPlace_18 {n : Nat} (h : AP M_X8_readPlace b 19 [.ref n, x1, x2] (.ref n :: st) hi g Φ) : AP M_X8_readPlace b 18 [.ref n, x1, x2] (st) hi g Φ := AP.aload_n (x := n) (i := 0) d_X8_readPlace_18 rfl rfl h
theorem d_X8_readPlace_19 : decode cX8_readPlace 19 = .ok (.bipush 58, 2) := by decide +kernel
theorem s_X8_readPlace_19 (h : AP M_X8_readPlace b 21 [x0, x1, x2] (.int 58 :: st) hi g Φ) : AP M_X8_readPlace b 19 [x0, x1, x2] (st) hi g Φ := AP.bipush (x := 58) d_X8_readPlace_19 (by decide) h
theorem d_X8_readPlace_21 : decode cX8_readPlace 21 = .ok (.invokevirtual 35, 3) := by decide +kernel
theorem s_X8_readPlace_21 {a0 : Int32} {k : Nat} {r0 : Int32} {P : am_HI → Prop} (hI : am_Inv g) (hs : am_SH k = (0, 8)) (hk : k < 134) (hst : (st.map Value.category).sum ≤ 8) (hc : am_Cr M_X8_take [.ref k, .int a0] hi g (some (.int r0)) P) (h : ∀ hi' : am_HI, P hi' → AP M_X8_readPlace b 24 [x0, x1, x2] (.int r0 :: st) hi' g Φ) : AP M_X8_readPlace b 21 [x0, x1, x2] (.int a0 :: .ref k :: st) hi g Φ := AP.callVr (As := [.int a0]) (q := (RX8, TX8, 6)) hI hc k_X8_readPlace_35 d_X8_readPlace_21 rfl hs hk rfl rfl hst h
theorem d_X8_readPlace_24 : decode cX8_readPlace 24 = .ok (.ifCond .eq 7, 3) := by decide +kernel
theorem s_X8_readPlace_24 {x : Int32} (h1 : x = 0 → AP M_X8_readPlace b 31 [x0, x1, x2] st hi g Φ) (h2 : ¬ x = 0 → AP M_X8_readPlace b 27 [x0, x1, x2] st hi g Φ) : AP M_X8_readPlace b 24 [x0, x1, x2] (.int x :: st) hi g Φ := AP.if_eq d_X8_readPlace_24 (by decide) h1 h2
theorem d_X8_readPlace_27 : decode cX8_readPlace 27 = .ok (.iconst 1, 1) := by decide +kernel
theorem s_X8_readPlace_27 (h : AP M_X8_readPlace b 28 [x0, x1, x2] (.int 1 :: st) hi g Φ) : AP M_X8_readPlace b 27 [x0, x1, x2] (st) hi g Φ := AP.iconst (x := 1) d_X8_readPlace_27 (by decide) h
theorem d_X8_readPlace_28 : decode cX8_readPlace 28 = .ok (.goto 4, 3) := by decide +kernel
theorem s_X8_readPlace_28 (h : AP M_X8_readPlace b 32 [x0, x1, x2] st hi g Φ) : AP M_X8_readPlace b 28 [x0, x1, x2] st hi g Φ := AP.goto d_X8_readPlace_28 (by decide) h
theorem d_X8_readPlace_31 : decode cX8_readPlace 31 = .ok (.iconst 0, 1) := by decide +kernel
theorem s_X8_readPlace_31 (h : AP M_X8_readPlace b 32 [x0, x1, x2] (.int 0 :: st) hi g Φ) : AP M_X8_readPlace b 31 [x0, x1, x2] (st) hi g Φ := AP.iconst (x := 0) d_X8_readPlace_31 (by decide) h
theorem d_X8_readPlace_32 : decode cX8_readPlace 32 = .ok (.ireturn, 1) := by decide +kernel
theorem s_X8_readPlace_32 {x : Int32} (hx : x = 0 ∨ x = 1) (h : Φ (.ok (some (.int x))) hi g) : AP M_X8_readPlace b 32 [x0, x1, x2] [.int x] hi g Φ := AP.zret d_X8_readPlace_32 rfl hx h
end
section
variable {b : Nat × Nat} {st : List Value} {hi : am_HI} {g : am_G} {Φ : am_P} {x0 x1 x2 x3 : Value}
theorem d_X8_readSigned_0 : decode cX8_readSigned 0 = .ok (.aload_n 0, 1) := by decide +kernel
theorem s_X8_readSigned_0 {n : Nat} (h : AP M_X8_readSigned b 1 [.ref n, x1, x2, x3] (.ref n :: st) hi g Φ) : AP M_X8_readSigned b 0 [.ref n, x1, x2, x3] (st) hi g Φ := AP.aload_n (x := n) (i := 0) d_X8_readSigned_0 rfl rfl h
theorem d_X8_readSigned_1 : decode cX8_readSigned 1 = .ok (.bipush 45, 2) := by decide +kernel
theorem s_X8_readSigned_1 (h : AP M_X8_readSigned b 3 [x0, x1, x2, x3] (.int 45 :: st) hi g Φ) : AP M_X8_readSigned b 1 [x0, x1, x2, x3] (st) hi g Φ := AP.bipush (x := 45) d_X8_readSigned_1 (by decide) h
theorem d_X8_readSigned_3 : decode cX8_readSigned 3 = .ok (.invokevirtual 35, 3) := by decide +kernel
theorem s_X8_readSigned_3 {a0 : Int32} {k : Nat} {r0 : Int32} {P : am_HI → Prop} (hI : am_Inv g) (hs : am_SH k = (0, 8)) (hk : k < 134) (hst : (st.map Value.category).sum ≤ 8) (hc : am_Cr M_X8_take [.ref k, .int a0] hi g (some (.int r0)) P) (h : ∀ hi' : am_HI, P hi' → AP M_X8_readSigned b 6 [x0, x1, x2, x3] (.int r0 :: st) hi' g Φ) : AP M_X8_readSigned b 3 [x0, x1, x2, x3] (.int a0 :: .ref k :: st) hi g Φ := AP.callVr (As := [.int a0]) (q := (RX8, TX8, 6)) hI hc k_X8_readSigned_35 d_X8_readSigned_3 rfl hs hk rfl rfl hst h
theorem d_X8_readSigned_6 : decode cX8_readSigned 6 = .ok (.istore_n 2, 1) := by decide +kernel
theorem s_X8_readSigned_6 {n : Int32} (hc : x1.category = 1) (h : AP M_X8_readSigned b 7 [x0, x1, .int n, x3] (st) hi g Φ) : AP M_X8_readSigned b 6 [x0, x1, x2, x3] (.int n :: st) hi g Φ := AP.istore_n (x := n) (i := 2) d_X8_readSigned_6 rfl (by decide) (by simp [am_st, am_ci, am_cr, am_cl, am_cd, hc]) h
theorem d_X8_readSigned_7 : decode cX8_readSigned 7 = .ok (.aload_n 0, 1) := by decide +kernel
theorem s_X8_readSigned_7 {n : Nat} (h : AP M_X8_readSigned b 8 [.ref n, x1, x2, x3] (.ref n :: st) hi g Φ) : AP M_X8_readSigned b 7 [.ref n, x1, x2, x3] (st) hi g Φ := AP.aload_n (x := n) (i := 0) d_X8_readSigned_7 rfl rfl h
theorem d_X8_readSigned_8 : decode cX8_readSigned 8 = .ok (.iconst 0, 1) := by decide +kernel
theorem s_X8_readSigned_8 (h : AP M_X8_readSigned b 9 [x0, x1, x2, x3] (.int 0 :: st) hi g Φ) : AP M_X8_readSigned b 8 [x0, x1, x2, x3] (st) hi g Φ := AP.iconst (x := 0) d_X8_readSigned_8 (by decide) h
theorem d_X8_readSigned_9 : decode cX8_readSigned 9 = .ok (.iload_n 1, 1) := by decide +kernel
theorem s_X8_readSigned_9 {n : Int32} (h : AP M_X8_readSigned b 10 [x0, .int n, x2, x3] (.int n :: st) hi g Φ) : AP M_X8_readSigned b 9 [x0, .int n, x2, x3] (st) hi g Φ := AP.iload_n (x := n) (i := 1) d_X8_readSigned_9 rfl rfl h
theorem d_X8_readSigned_10 : decode cX8_readSigned 10 = .ok (.invokevirtual 53, 3) := by decide +kernel
theorem s_X8_readSigned_10 {a0 : Int32} {a1 : Int32} {k : Nat} {r0 : Int32} {P : am_HI → Prop} (hI : am_Inv g) (hs : am_SH k = (0, 8)) (hk : k < 134) (hst : (st.map Value.category).sum ≤ 8) (hc : am_Cr M_X8_readNumber [.ref k, .int a0, .int a1] hi g (some (.int r0)) P) (h : ∀ hi' : am_HI, P hi' → AP M_X8_readSigned b 13 [x0, x1, x2, x3] (.int r0 :: st) hi' g Φ) : AP M_X8_readSigned b 10 [x0, x1, x2, x3] (.int a1 :: .int a0 :: .ref k :: st) hi g Φ := AP.callVr (As := [.int a0, .int a1]) (q := (RX8, TX8, 6)) hI hc k_X8_readSigned_53 d_X8_readSigned_10 rfl hs hk rfl rfl hst h
theorem d_X8_readSigned_13 : decode cX8_readSigned 13 = .ok (.istore_n 3, 1) := by decide +kernel
theorem s_X8_readSigned_13 {n : Int32} (hc : x2.category = 1) (h : AP M_X8_readSigned b 14 [x0, x1, x2, .int n] (st) hi g Φ) : AP M_X8_readSigned b 13 [x0, x1, x2, x3] (.int n :: st) hi g Φ := AP.istore_n (x := n) (i := 3) d_X8_readSigned_13 rfl (by decide) (by simp [am_st, am_ci, am_cr, am_cl, am_cd, hc]) h
theorem d_X8_readSigned_14 : decode cX8_readSigned 14 = .ok (.aload_n 0, 1) := by decide +kernel
theorem s_X8_readSigned_14 {n : Nat} (h : AP M_X8_readSigned b 15 [.ref n, x1, x2, x3] (.ref n :: st) hi g Φ) : AP M_X8_readSigned b 14 [.ref n, x1, x2, x3] (st) hi g Φ := AP.aload_n (x := n) (i := 0) d_X8_readSigned_14 rfl rfl h
theorem d_X8_readSigned_15 : decode cX8_readSigned 15 = .ok (.iload_n 2, 1) := by decide +kernel
theorem s_X8_readSigned_15 {n : Int32} (h : AP M_X8_readSigned b 16 [x0, x1, .int n, x3] (.int n :: st) hi g Φ) : AP M_X8_readSigned b 15 [x0, x1, .int n, x3] (st) hi g Φ := AP.iload_n (x := n) (i := 2) d_X8_readSigned_15 rfl rfl h
theorem d_X8_readSigned_16 : decode cX8_readSigned 16 = .ok (.ifCond .eq 8, 3) := by decide +kernel
theorem s_X8_readSigned_16 {x : Int32} (h1 : x = 0 → AP M_X8_readSigned b 24 [x0, x1, x2, x3] st hi g Φ) (h2 : ¬ x = 0 → AP M_X8_readSigned b 19 [x0, x1, x2, x3] st hi g Φ) : AP M_X8_readSigned b 16 [x0, x1, x2, x3] (.int x :: st) hi g Φ := AP.if_eq d_X8_readSigned_16 (by decide) h1 h2
theorem d_X8_readSigned_19 : decode cX8_readSigned 19 = .ok (.iload_n 3, 1) := by decide +kernel
theorem s_X8_readSigned_19 {n : Int32} (h : AP M_X8_readSigned b 20 [x0, x1, x2, .int n] (.int n :: st) hi g Φ) : AP M_X8_readSigned b 19 [x0, x1, x2, .int n] (st) hi g Φ := AP.iload_n (x := n) (i := 3) d_X8_readSigned_19 rfl rfl h
theorem d_X8_readSigned_20 : decode cX8_readSigned 20 = .ok (.ineg, 1) := by decide +kernel
theorem s_X8_readSigned_20 {x : Int32} (h : AP M_X8_readSigned b 21 [x0, x1, x2, x3] (.int (-x) :: st) hi g Φ) : AP M_X8_readSigned b 20 [x0, x1, x2, x3] (.int x :: st) hi g Φ := AP.ineg d_X8_readSigned_20 h
theorem d_X8_readSigned_21 : decode cX8_readSigned 21 = .ok (.goto 4, 3) := by decide +kernel
theorem s_X8_readSigned_21 (h : AP M_X8_readSigned b 25 [x0, x1, x2, x3] st hi g Φ) : AP M_X8_readSigned b 21 [x0, x1, x2, x3] st hi g Φ := AP.goto d_X8_readSigned_21 (by decide) h
theorem d_X8_readSigned_24 : decode cX8_readSigned 24 = .ok (.iload_n 3, 1) := by decide +kernel
theorem s_X8_readSigned_24 {n : Int32} (h : AP M_X8_readSigned b 25 [x0, x1, x2, .int n] (.int n :: st) hi g Φ) : AP M_X8_readSigned b 24 [x0, x1, x2, .int n] (st) hi g Φ := AP.iload_n (x := n) (i := 3) d_X8_readSigned_24 rfl rfl h
theorem d_X8_readSigned_25 : decode cX8_readSigned 25 = .ok (.putfield 28, 3) := by decide +kernel
theorem s_X8_readSigned_25 {k : Nat} {n : Int32} (hI : am_Inv g) (hs : am_SH k = (0, 8)) (hk : k < 134) (h : AP M_X8_readSigned b 28 [x0, x1, x2, x3] (st) (am_up hi k 5 n) g Φ) : AP M_X8_readSigned b 25 [x0, x1, x2, x3] (.int n :: .ref k :: st) hi g Φ := AP.putI (j := 5) (q := (RX8, TX8, 6)) d_X8_readSigned_25 hs (hI.lt hk) rfl (by decide) rfl rfl w_300 h
theorem d_X8_readSigned_28 : decode cX8_readSigned 28 = .ok (.iload_n 3, 1) := by decide +kernel
theorem s_X8_readSigned_28 {n : Int32} (h : AP M_X8_readSigned b 29 [x0, x1, x2, .int n] (.int n :: st) hi g Φ) : AP M_X8_readSigned b 28 [x0, x1, x2, .int n] (st) hi g Φ := AP.iload_n (x := n) (i := 3) d_X8_readSigned_28 rfl rfl h
theorem d_X8_readSigned_29 : decode cX8_readSigned 29 = .ok (.iconst (-1), 1) := by decide +kernel
theorem s_X8_readSigned_29 (h : AP M_X8_readSigned b 30 [x0, x1, x2, x3] (.int (-1) :: st) hi g Φ) : AP M_X8_readSigned b 29 [x0, x1, x2, x3] (st) hi g Φ := AP.iconst (x := (-1)) d_X8_readSigned_29 (by decide) h
theorem d_X8_readSigned_30 : decode cX8_readSigned 30 = .ok (.if_icmp .eq 7, 3) := by decide +kernel
theorem s_X8_readSigned_30 {x y : Int32} (h1 : x = y → AP M_X8_readSigned b 37 [x0, x1, x2, x3] st hi g Φ) (h2 : ¬ x = y → AP M_X8_readSigned b 33 [x0, x1, x2, x3] st hi g Φ) : AP M_X8_readSigned b 30 [x0, x1, x2, x3] (.int y :: .int x :: st) hi g Φ := AP.icmp_eq d_X8_readSigned_30 (by decide) h1 h2
theorem d_X8_readSigned_33 : decode cX8_readSigned 33 = .ok (.iconst 1, 1) := by decide +kernel
theorem s_X8_readSigned_33 (h : AP M_X8_readSigned b 34 [x0, x1, x2, x3] (.int 1 :: st) hi g Φ) : AP M_X8_readSigned b 33 [x0, x1, x2, x3] (st) hi g Φ := AP.iconst (x := 1) d_X8_readSigned_33 (by decide) h
theorem d_X8_readSigned_34 : decode cX8_readSigned 34 = .ok (.goto 4, 3) := by decide +kernel
theorem s_X8_readSigned_34 (h : AP M_X8_readSigned b 38 [x0, x1, x2, x3] st hi g Φ) : AP M_X8_readSigned b 34 [x0, x1, x2, x3] st hi g Φ := AP.goto d_X8_readSigned_34 (by decide) h
theorem d_X8_readSigned_37 : decode cX8_readSigned 37 = .ok (.iconst 0, 1) := by decide +kernel
theorem s_X8_readSigned_37 (h : AP M_X8_readSigned b 38 [x0, x1, x2, x3] (.int 0 :: st) hi g Φ) : AP M_X8_readSigned b 37 [x0, x1, x2, x3] (st) hi g Φ := AP.iconst (x := 0) d_X8_readSigned_37 (by decide) h
theorem d_X8_readSigned_38 : decode cX8_readSigned 38 = .ok (.ireturn, 1) := by decide +kernel
theorem s_X8_readSigned_38 {x : Int32} (hx : x = 0 ∨ x = 1) (h : Φ (.ok (some (.int x))) hi g) : AP M_X8_readSigned b 38 [x0, x1, x2, x3] [.int x] hi g Φ := AP.zret d_X8_readSigned_38 rfl hx h
end
section
variable {b : Nat × Nat} {st : List Value} {hi : am_HI} {g : am_G} {Φ : am_P} {x0 x1 x2 : Value}
theorem d_X8_readValue_0 : decode cX8_readValue 0 = .ok (.aload_n 0, 1) := by decide +kernel
theorem s_X8_readValue_0 {n : Nat} (h : AP M_X8_readValue b 1 [.ref n, x1, x2] (.ref n :: st) hi g Φ) : AP M_X8_readValue b 0 [.ref n, x1, x2] (st) hi g Φ := AP.aload_n (x := n) (i := 0) d_X8_readValue_0 rfl rfl h
theorem d_X8_readValue_1 : decode cX8_readValue 1 = .ok (.aload_n 0, 1) := by decide +kernel
theorem s_X8_readValue_1 {n : Nat} (h : AP M_X8_readValue b 2 [.ref n, x1, x2] (.ref n :: st) hi g Φ) : AP M_X8_readValue b 1 [.ref n, x1, x2] (st) hi g Φ := AP.aload_n (x := n) (i := 0) d_X8_readValue_1 rfl rfl h
theorem d_X8_readValue_2 : decode cX8_readValue 2 = .ok (.iload_n 1, 1) := by decide +kernel
theorem s_X8_readValue_2 {n : Int32} (h : AP M_X8_readValue b 3 [x0, .int n, x2] (.int n :: st) hi g Φ) : AP M_X8_readValue b 2 [x0, .int n, x2] (st) hi g Φ := AP.iload_n (x := n) (i := 1) d_X8_readValue_2 rfl rfl h
theorem d_X8_readValue_3 : decode cX8_readValue 3 = .ok (.iload_n 2, 1) := by decide +kernel
theorem s_X8_readValue_3 {n : Int32} (h : AP M_X8_readValue b 4 [x0, x1, .int n] (.int n :: st) hi g Φ) : AP M_X8_readValue b 3 [x0, x1, .int n] (st) hi g Φ := AP.iload_n (x := n) (i := 2) d_X8_readValue_3 rfl rfl h
theorem d_X8_readValue_4 : decode cX8_readValue 4 = .ok (.invokevirtual 53, 3) := by decide +kernel
theorem s_X8_readValue_4 {a0 : Int32} {a1 : Int32} {k : Nat} {r0 : Int32} {P : am_HI → Prop} (hI : am_Inv g) (hs : am_SH k = (0, 8)) (hk : k < 134) (hst : (st.map Value.category).sum ≤ 8) (hc : am_Cr M_X8_readNumber [.ref k, .int a0, .int a1] hi g (some (.int r0)) P) (h : ∀ hi' : am_HI, P hi' → AP M_X8_readValue b 7 [x0, x1, x2] (.int r0 :: st) hi' g Φ) : AP M_X8_readValue b 4 [x0, x1, x2] (.int a1 :: .int a0 :: .ref k :: st) hi g Φ := AP.callVr (As := [.int a0, .int a1]) (q := (RX8, TX8, 6)) hI hc k_X8_readValue_53 d_X8_readValue_4 rfl hs hk rfl rfl hst h
theorem d_X8_readValue_7 : decode cX8_readValue 7 = .ok (.putfield 28, 3) := by decide +kernel
theorem s_X8_readValue_7 {k : Nat} {n : Int32} (hI : am_Inv g) (hs : am_SH k = (0, 8)) (hk : k < 134) (h : AP M_X8_readValue b 10 [x0, x1, x2] (st) (am_up hi k 5 n) g Φ) : AP M_X8_readValue b 7 [x0, x1, x2] (.int n :: .ref k :: st) hi g Φ := AP.putI (j := 5) (q := (RX8, TX8, 6)) d_X8_readValue_7 hs (hI.lt hk) rfl (by decide) rfl rfl w_300 h
theorem d_X8_readValue_10 : decode cX8_readValue 10 = .ok (.aload_n 0, 1) := by decide +kernel
theorem s_X8_readValue_10 {n : Nat} (h : AP M_X8_readValue b 11 [.ref n, x1, x2] (.ref n :: st) hi g Φ) : AP M_X8_readValue b 10 [.ref n, x1, x2] (st) hi g Φ := AP.aload_n (x := n) (i := 0) d_X8_readValue_10 rfl rfl h
theorem d_X8_readValue_11 : decode cX8_readValue 11 = .ok (.getfield 28, 3) := by decide +kernel
theorem s_X8_readValue_11 {k : Nat} (hI : am_Inv g) (hs : am_SH k = (0, 8)) (hk : k < 134) (h : AP M_X8_readValue b 14 [x0, x1, x2] (.int (hi k 5) :: st) hi g Φ) : AP M_X8_readValue b 11 [x0, x1, x2] (.ref k :: st) hi g Φ := AP.getI (j := 5) (q := (RX8, TX8, 6)) d_X8_readValue_11 hs (hI.lt hk) rfl (by decide) (by decide) w_300 h
theorem d_X8_readValue_14 : decode cX8_readValue 14 = .ok (.iconst (-1), 1) := by decide +kernel
theorem s_X8_readValue_14 (h : AP M_X8_readValue b 15 [x0, x1, x2] (.int (-1) :: st) hi g Φ) : AP M_X8_readValue b 14 [x0, x1, x2] (st) hi g Φ := AP.iconst (x := (-1)) d_X8_readValue_14 (by decide) h
theorem d_X8_readValue_15 : decode cX8_readValue 15 = .ok (.if_icmp .eq 7, 3) := by decide +kernel
theorem s_X8_readValue_15 {x y : Int32} (h1 : x = y → AP M_X8_readValue b 22 [x0, x1, x2] st hi g Φ) (h2 : ¬ x = y → AP M_X8_readValue b 18 [x0, x1, x2] st hi g Φ) : AP M_X8_readValue b 15 [x0, x1, x2] (.int y :: .int x :: st) hi g Φ := AP.icmp_eq d_X8_readValue_15 (by decide) h1 h2
theorem d_X8_readValue_18 : decode cX8_readValue 18 = .ok (.iconst 1, 1) := by decide +kernel
theorem s_X8_readValue_18 (h : AP M_X8_readValue b 19 [x0, x1, x2] (.int 1 :: st) hi g Φ) : AP M_X8_readValue b 18 [x0, x1, x2] (st) hi g Φ := AP.iconst (x := 1) d_X8_readValue_18 (by decide) h
theorem d_X8_readValue_19 : decode cX8_readValue 19 = .ok (.goto 4, 3) := by decide +kernel
theorem s_X8_readValue_19 (h : AP M_X8_readValue b 23 [x0, x1, x2] st hi g Φ) : AP M_X8_readValue b 19 [x0, x1, x2] st hi g Φ := AP.goto d_X8_readValue_19 (by decide) h
theorem d_X8_readValue_22 : decode cX8_readValue 22 = .ok (.iconst 0, 1) := by decide +kernel
theorem s_X8_readValue_22 (h : AP M_X8_readValue b 23 [x0, x1, x2] (.int 0 :: st) hi g Φ) : AP M_X8_readValue b 22 [x0, x1, x2] (st) hi g Φ := AP.iconst (x := 0) d_X8_readValue_22 (by decide) h
theorem d_X8_readValue_23 : decode cX8_readValue 23 = .ok (.ireturn, 1) := by decide +kernel
theorem s_X8_readValue_23 {x : Int32} (hx : x = 0 ∨ x = 1) (h : Φ (.ok (some (.int x))) hi g) : AP M_X8_readValue b 23 [x0, x1, x2] [.int x] hi g Φ := AP.zret d_X8_readValue_23 rfl hx h
end
section
variable {b : Nat × Nat} {st : List Value} {hi : am_HI} {g : am_G} {Φ : am_P} {x0 : Value}
theorem d_X8_readWork_0 : decode cX8_readWork 0 = .ok (.aload_n 0, 1) := by decide +kernel
theorem s_X8_readWork_0 {n : Nat} (h : AP M_X8_readWork b 1 [.ref n] (.ref n :: st) hi g Φ) : AP M_X8_readWork b 0 [.ref n] (st) hi g Φ := AP.aload_n (x := n) (i := 0) d_X8_readWork_0 rfl rfl h
theorem d_X8_readWork_1 : decode cX8_readWork 1 = .ok (.aload_n 0, 1) := by decide +kernel
theorem s_X8_readWork_1 {n : Nat} (h : AP M_X8_readWork b 2 [.ref n] (.ref n :: st) hi g Φ) : AP M_X8_readWork b 1 [.ref n] (st) hi g Φ := AP.aload_n (x := n) (i := 0) d_X8_readWork_1 rfl rfl h
theorem d_X8_readWork_2 : decode cX8_readWork 2 = .ok (.invokevirtual 39, 3) := by decide +kernel
theorem s_X8_readWork_2  {k : Nat} {r0 : Int32} {P : am_HI → Prop} (hI : am_Inv g) (hs : am_SH k = (0, 8)) (hk : k < 134) (hst : (st.map Value.category).sum ≤ 8) (hc : am_Cr M_X8_codeHere [.ref k] hi g (some (.int r0)) P) (h : ∀ hi' : am_HI, P hi' → AP M_X8_readWork b 5 [x0] (.int r0 :: st) hi' g Φ) : AP M_X8_readWork b 2 [x0] (.ref k :: st) hi g Φ := AP.callVr (As := []) (q := (RX8, TX8, 6)) hI hc k_X8_readWork_39 d_X8_readWork_2 rfl hs hk rfl rfl hst h
theorem d_X8_readWork_5 : decode cX8_readWork 5 = .ok (.putfield 22, 3) := by decide +kernel
theorem s_X8_readWork_5 {k : Nat} {n : Int32} (hI : am_Inv g) (hs : am_SH k = (0, 8)) (hk : k < 134) (h : AP M_X8_readWork b 8 [x0] (st) (am_up hi k 3 n) g Φ) : AP M_X8_readWork b 5 [x0] (.int n :: .ref k :: st) hi g Φ := AP.putI (j := 3) (q := (RX8, TX8, 6)) d_X8_readWork_5 hs (hI.lt hk) rfl (by decide) rfl rfl w_296 h
theorem d_X8_readWork_8 : decode cX8_readWork 8 = .ok (.aload_n 0, 1) := by decide +kernel
theorem s_X8_readWork_8 {n : Nat} (h : AP M_X8_readWork b 9 [.ref n] (.ref n :: st) hi g Φ) : AP M_X8_readWork b 8 [.ref n] (st) hi g Φ := AP.aload_n (x := n) (i := 0) d_X8_readWork_8 rfl rfl h
theorem d_X8_readWork_9 : decode cX8_readWork 9 = .ok (.getfield 22, 3) := by decide +kernel
theorem s_X8_readWork_9 {k : Nat} (hI : am_Inv g) (hs : am_SH k = (0, 8)) (hk : k < 134) (h : AP M_X8_readWork b 12 [x0] (.int (hi k 3) :: st) hi g Φ) : AP M_X8_readWork b 9 [x0] (.ref k :: st) hi g Φ := AP.getI (j := 3) (q := (RX8, TX8, 6)) d_X8_readWork_9 hs (hI.lt hk) rfl (by decide) (by decide) w_296 h
theorem d_X8_readWork_12 : decode cX8_readWork 12 = .ok (.lookupswitch 271 #[(43, 84), (45, 84), (100, 111), (107, 164), (115, 262), (116, 225), (118, 138), (119, 190), (120, 262)], 84) := by decide +kernel
-- s_X8_readWork_12: .lookupswitch 271 #[(43, 84), (45, 84), (100, 111), (107, 164), (115, 262), (116, 225), (118, 138), (119, 190), (120, 262)]
theorem d_X8_readWork_96 : decode cX8_readWork 96 = .ok (.aload_n 0, 1) := by decide +kernel
theorem s_X8_readWork_96 {n : Nat} (h : AP M_X8_readWork b 97 [.ref n] (.ref n :: st) hi g Φ) : AP M_X8_readWork b 96 [.ref n] (st) hi g Φ := AP.aload_n (x := n) (i := 0) d_X8_readWork_96 rfl rfl h
theorem d_X8_readWork_97 : decode cX8_readWork 97 = .ok (.aload_n 0, 1) := by decide +kernel
theorem s_X8_readWork_97 {n : Nat} (h : AP M_X8_readWork b 98 [.ref n] (.ref n :: st) hi g Φ) : AP M_X8_readWork b 97 [.ref n] (st) hi g Φ := AP.aload_n (x := n) (i := 0) d_X8_readWork_97 rfl rfl h
theorem d_X8_readWork_98 : decode cX8_readWork 98 = .ok (.getfield 22, 3) := by decide +kernel
theorem s_X8_readWork_98 {k : Nat} (hI : am_Inv g) (hs : am_SH k = (0, 8)) (hk : k < 134) (h : AP M_X8_readWork b 101 [x0] (.int (hi k 3) :: st) hi g Φ) : AP M_X8_readWork b 98 [x0] (.ref k :: st) hi g Φ := AP.getI (j := 3) (q := (RX8, TX8, 6)) d_X8_readWork_98 hs (hI.lt hk) rfl (by decide) (by decide) w_296 h
theorem d_X8_readWork_101 : decode cX8_readWork 101 = .ok (.invokevirtual 35, 3) := by decide +kernel
theorem s_X8_readWork_101 {a0 : Int32} {k : Nat} {r0 : Int32} {P : am_HI → Prop} (hI : am_Inv g) (hs : am_SH k = (0, 8)) (hk : k < 134) (hst : (st.map Value.category).sum ≤ 8) (hc : am_Cr M_X8_take [.ref k, .int a0] hi g (some (.int r0)) P) (h : ∀ hi' : am_HI, P hi' → AP M_X8_readWork b 104 [x0] (.int r0 :: st) hi' g Φ) : AP M_X8_readWork b 101 [x0] (.int a0 :: .ref k :: st) hi g Φ := AP.callVr (As := [.int a0]) (q := (RX8, TX8, 6)) hI hc k_X8_readWork_35 d_X8_readWork_101 rfl hs hk rfl rfl hst h
theorem d_X8_readWork_104 : decode cX8_readWork 104 = .ok (.ifCond .eq 17, 3) := by decide +kernel
theorem s_X8_readWork_104 {x : Int32} (h1 : x = 0 → AP M_X8_readWork b 121 [x0] st hi g Φ) (h2 : ¬ x = 0 → AP M_X8_readWork b 107 [x0] st hi g Φ) : AP M_X8_readWork b 104 [x0] (.int x :: st) hi g Φ := AP.if_eq d_X8_readWork_104 (by decide) h1 h2
theorem d_X8_readWork_107 : decode cX8_readWork 107 = .ok (.aload_n 0, 1) := by decide +kernel
theorem s_X8_readWork_107 {n : Nat} (h : AP M_X8_readWork b 108 [.ref n] (.ref n :: st) hi g Φ) : AP M_X8_readWork b 107 [.ref n] (st) hi g Φ := AP.aload_n (x := n) (i := 0) d_X8_readWork_107 rfl rfl h
theorem d_X8_readWork_108 : decode cX8_readWork 108 = .ok (.iconst 0, 1) := by decide +kernel
theorem s_X8_readWork_108 (h : AP M_X8_readWork b 109 [x0] (.int 0 :: st) hi g Φ) : AP M_X8_readWork b 108 [x0] (st) hi g Φ := AP.iconst (x := 0) d_X8_readWork_108 (by decide) h
theorem d_X8_readWork_109 : decode cX8_readWork 109 = .ok (.bipush 99, 2) := by decide +kernel
theorem s_X8_readWork_109 (h : AP M_X8_readWork b 111 [x0] (.int 99 :: st) hi g Φ) : AP M_X8_readWork b 109 [x0] (st) hi g Φ := AP.bipush (x := 99) d_X8_readWork_109 (by decide) h
theorem d_X8_readWork_111 : decode cX8_readWork 111 = .ok (.invokevirtual 43, 3) := by decide +kernel
theorem s_X8_readWork_111 {a0 : Int32} {a1 : Int32} {k : Nat} {r0 : Int32} {P : am_HI → Prop} (hI : am_Inv g) (hs : am_SH k = (0, 8)) (hk : k < 134) (hst : (st.map Value.category).sum ≤ 8) (hc : am_Cr M_X8_readValue [.ref k, .int a0, .int a1] hi g (some (.int r0)) P) (h : ∀ hi' : am_HI, P hi' → AP M_X8_readWork b 114 [x0] (.int r0 :: st) hi' g Φ) : AP M_X8_readWork b 111 [x0] (.int a1 :: .int a0 :: .ref k :: st) hi g Φ := AP.callVr (As := [.int a0, .int a1]) (q := (RX8, TX8, 6)) hI hc k_X8_readWork_43 d_X8_readWork_111 rfl hs hk rfl rfl hst h
theorem d_X8_readWork_114 : decode cX8_readWork 114 = .ok (.ifCond .eq 7, 3) := by decide +kernel
theorem s_X8_readWork_114 {x : Int32} (h1 : x = 0 → AP M_X8_readWork b 121 [x0] st hi g Φ) (h2 : ¬ x = 0 → AP M_X8_readWork b 117 [x0] st hi g Φ) : AP M_X8_readWork b 114 [x0] (.int x :: st) hi g Φ := AP.if_eq d_X8_readWork_114 (by decide) h1 h2
theorem d_X8_readWork_117 : decode cX8_readWork 117 = .ok (.iconst 1, 1) := by decide +kernel
theorem s_X8_readWork_117 (h : AP M_X8_readWork b 118 [x0] (.int 1 :: st) hi g Φ) : AP M_X8_readWork b 117 [x0] (st) hi g Φ := AP.iconst (x := 1) d_X8_readWork_117 (by decide) h
theorem d_X8_readWork_118 : decode cX8_readWork 118 = .ok (.goto 4, 3) := by decide +kernel
theorem s_X8_readWork_118 (h : AP M_X8_readWork b 122 [x0] st hi g Φ) : AP M_X8_readWork b 118 [x0] st hi g Φ := AP.goto d_X8_readWork_118 (by decide) h
theorem d_X8_readWork_121 : decode cX8_readWork 121 = .ok (.iconst 0, 1) := by decide +kernel
theorem s_X8_readWork_121 (h : AP M_X8_readWork b 122 [x0] (.int 0 :: st) hi g Φ) : AP M_X8_readWork b 121 [x0] (st) hi g Φ := AP.iconst (x := 0) d_X8_readWork_121 (by decide) h
theorem d_X8_readWork_122 : decode cX8_readWork 122 = .ok (.ireturn, 1) := by decide +kernel
theorem s_X8_readWork_122 {x : Int32} (hx : x = 0 ∨ x = 1) (h : Φ (.ok (some (.int x))) hi g) : AP M_X8_readWork b 122 [x0] [.int x] hi g Φ := AP.zret d_X8_readWork_122 rfl hx h
theorem d_X8_readWork_123 : decode cX8_readWork 123 = .ok (.aload_n 0, 1) := by decide +kernel
theorem s_X8_readWork_123 {n : Nat} (h : AP M_X8_readWork b 124 [.ref n] (.ref n :: st) hi g Φ) : AP M_X8_readWork b 123 [.ref n] (st) hi g Φ := AP.aload_n (x := n) (i := 0) d_X8_readWork_123 rfl rfl h
theorem d_X8_readWork_124 : decode cX8_readWork 124 = .ok (.aload_n 0, 1) := by decide +kernel
theorem s_X8_readWork_124 {n : Nat} (h : AP M_X8_readWork b 125 [.ref n] (.ref n :: st) hi g Φ) : AP M_X8_readWork b 124 [.ref n] (st) hi g Φ := AP.aload_n (x := n) (i := 0) d_X8_readWork_124 rfl rfl h
theorem d_X8_readWork_125 : decode cX8_readWork 125 = .ok (.getfield 22, 3) := by decide +kernel
theorem s_X8_readWork_125 {k : Nat} (hI : am_Inv g) (hs : am_SH k = (0, 8)) (hk : k < 134) (h : AP M_X8_readWork b 128 [x0] (.int (hi k 3) :: st) hi g Φ) : AP M_X8_readWork b 125 [x0] (.ref k :: st) hi g Φ := AP.getI (j := 3) (q := (RX8, TX8, 6)) d_X8_readWork_125 hs (hI.lt hk) rfl (by decide) (by decide) w_296 h
theorem d_X8_readWork_128 : decode cX8_readWork 128 = .ok (.invokevirtual 35, 3) := by decide +kernel
theorem s_X8_readWork_128 {a0 : Int32} {k : Nat} {r0 : Int32} {P : am_HI → Prop} (hI : am_Inv g) (hs : am_SH k = (0, 8)) (hk : k < 134) (hst : (st.map Value.category).sum ≤ 8) (hc : am_Cr M_X8_take [.ref k, .int a0] hi g (some (.int r0)) P) (h : ∀ hi' : am_HI, P hi' → AP M_X8_readWork b 131 [x0] (.int r0 :: st) hi' g Φ) : AP M_X8_readWork b 128 [x0] (.int a0 :: .ref k :: st) hi g Φ := AP.callVr (As := [.int a0]) (q := (RX8, TX8, 6)) hI hc k_X8_readWork_35 d_X8_readWork_128 rfl hs hk rfl rfl hst h
theorem d_X8_readWork_131 : decode cX8_readWork 131 = .ok (.ifCond .eq 17, 3) := by decide +kernel
theorem s_X8_readWork_131 {x : Int32} (h1 : x = 0 → AP M_X8_readWork b 148 [x0] st hi g Φ) (h2 : ¬ x = 0 → AP M_X8_readWork b 134 [x0] st hi g Φ) : AP M_X8_readWork b 131 [x0] (.int x :: st) hi g Φ := AP.if_eq d_X8_readWork_131 (by decide) h1 h2
theorem d_X8_readWork_134 : decode cX8_readWork 134 = .ok (.aload_n 0, 1) := by decide +kernel
theorem s_X8_readWork_134 {n : Nat} (h : AP M_X8_readWork b 135 [.ref n] (.ref n :: st) hi g Φ) : AP M_X8_readWork b 134 [.ref n] (st) hi g Φ := AP.aload_n (x := n) (i := 0) d_X8_readWork_134 rfl rfl h
theorem d_X8_readWork_135 : decode cX8_readWork 135 = .ok (.iconst 1, 1) := by decide +kernel
theorem s_X8_readWork_135 (h : AP M_X8_readWork b 136 [x0] (.int 1 :: st) hi g Φ) : AP M_X8_readWork b 135 [x0] (st) hi g Φ := AP.iconst (x := 1) d_X8_readWork_135 (by decide) h
theorem d_X8_readWork_136 : decode cX8_readWork 136 = .ok (.bipush 12, 2) := by decide +kernel
theorem s_X8_readWork_136 (h : AP M_X8_readWork b 138 [x0] (.int 12 :: st) hi g Φ) : AP M_X8_readWork b 136 [x0] (st) hi g Φ := AP.bipush (x := 12) d_X8_readWork_136 (by decide) h
theorem d_X8_readWork_138 : decode cX8_readWork 138 = .ok (.invokevirtual 43, 3) := by decide +kernel
theorem s_X8_readWork_138 {a0 : Int32} {a1 : Int32} {k : Nat} {r0 : Int32} {P : am_HI → Prop} (hI : am_Inv g) (hs : am_SH k = (0, 8)) (hk : k < 134) (hst : (st.map Value.category).sum ≤ 8) (hc : am_Cr M_X8_readValue [.ref k, .int a0, .int a1] hi g (some (.int r0)) P) (h : ∀ hi' : am_HI, P hi' → AP M_X8_readWork b 141 [x0] (.int r0 :: st) hi' g Φ) : AP M_X8_readWork b 138 [x0] (.int a1 :: .int a0 :: .ref k :: st) hi g Φ := AP.callVr (As := [.int a0, .int a1]) (q := (RX8, TX8, 6)) hI hc k_X8_readWork_43 d_X8_readWork_138 rfl hs hk rfl rfl hst h
theorem d_X8_readWork_141 : decode cX8_readWork 141 = .ok (.ifCond .eq 7, 3) := by decide +kernel
theorem s_X8_readWork_141 {x : Int32} (h1 : x = 0 → AP M_X8_readWork b 148 [x0] st hi g Φ) (h2 : ¬ x = 0 → AP M_X8_readWork b 144 [x0] st hi g Φ) : AP M_X8_readWork b 141 [x0] (.int x :: st) hi g Φ := AP.if_eq d_X8_readWork_141 (by decide) h1 h2
theorem d_X8_readWork_144 : decode cX8_readWork 144 = .ok (.iconst 1, 1) := by decide +kernel
theorem s_X8_readWork_144 (h : AP M_X8_readWork b 145 [x0] (.int 1 :: st) hi g Φ) : AP M_X8_readWork b 144 [x0] (st) hi g Φ := AP.iconst (x := 1) d_X8_readWork_144 (by decide) h
theorem d_X8_readWork_145 : decode cX8_readWork 145 = .ok (.goto 4, 3) := by decide +kernel
theorem s_X8_readWork_145 (h : AP M_X8_readWork b 149 [x0] st hi g Φ) : AP M_X8_readWork b 145 [x0] st hi g Φ := AP.goto d_X8_readWork_145 (by decide) h
theorem d_X8_readWork_148 : decode cX8_readWork 148 = .ok (.iconst 0, 1) := by decide +kernel
theorem s_X8_readWork_148 (h : AP M_X8_readWork b 149 [x0] (.int 0 :: st) hi g Φ) : AP M_X8_readWork b 148 [x0] (st) hi g Φ := AP.iconst (x := 0) d_X8_readWork_148 (by decide) h
theorem d_X8_readWork_149 : decode cX8_readWork 149 = .ok (.ireturn, 1) := by decide +kernel
theorem s_X8_readWork_149 {x : Int32} (hx : x = 0 ∨ x = 1) (h : Φ (.ok (some (.int x))) hi g) : AP M_X8_readWork b 149 [x0] [.int x] hi g Φ := AP.zret d_X8_readWork_149 rfl hx h
theorem d_X8_readWork_150 : decode cX8_readWork 150 = .ok (.aload_n 0, 1) := by decide +kernel
theorem s_X8_readWork_150 {n : Nat} (h : AP M_X8_readWork b 151 [.ref n] (.ref n :: st) hi g Φ) : AP M_X8_readWork b 150 [.ref n] (st) hi g Φ := AP.aload_n (x := n) (i := 0) d_X8_readWork_150 rfl rfl h
theorem d_X8_readWork_151 : decode cX8_readWork 151 = .ok (.aload_n 0, 1) := by decide +kernel
theorem s_X8_readWork_151 {n : Nat} (h : AP M_X8_readWork b 152 [.ref n] (.ref n :: st) hi g Φ) : AP M_X8_readWork b 151 [.ref n] (st) hi g Φ := AP.aload_n (x := n) (i := 0) d_X8_readWork_151 rfl rfl h
theorem d_X8_readWork_152 : decode cX8_readWork 152 = .ok (.getfield 22, 3) := by decide +kernel
theorem s_X8_readWork_152 {k : Nat} (hI : am_Inv g) (hs : am_SH k = (0, 8)) (hk : k < 134) (h : AP M_X8_readWork b 155 [x0] (.int (hi k 3) :: st) hi g Φ) : AP M_X8_readWork b 152 [x0] (.ref k :: st) hi g Φ := AP.getI (j := 3) (q := (RX8, TX8, 6)) d_X8_readWork_152 hs (hI.lt hk) rfl (by decide) (by decide) w_296 h
theorem d_X8_readWork_155 : decode cX8_readWork 155 = .ok (.invokevirtual 35, 3) := by decide +kernel
theorem s_X8_readWork_155 {a0 : Int32} {k : Nat} {r0 : Int32} {P : am_HI → Prop} (hI : am_Inv g) (hs : am_SH k = (0, 8)) (hk : k < 134) (hst : (st.map Value.category).sum ≤ 8) (hc : am_Cr M_X8_take [.ref k, .int a0] hi g (some (.int r0)) P) (h : ∀ hi' : am_HI, P hi' → AP M_X8_readWork b 158 [x0] (.int r0 :: st) hi' g Φ) : AP M_X8_readWork b 155 [x0] (.int a0 :: .ref k :: st) hi g Φ := AP.callVr (As := [.int a0]) (q := (RX8, TX8, 6)) hI hc k_X8_readWork_35 d_X8_readWork_155 rfl hs hk rfl rfl hst h
theorem d_X8_readWork_158 : decode cX8_readWork 158 = .ok (.ifCond .eq 16, 3) := by decide +kernel
theorem s_X8_readWork_158 {x : Int32} (h1 : x = 0 → AP M_X8_readWork b 174 [x0] st hi g Φ) (h2 : ¬ x = 0 → AP M_X8_readWork b 161 [x0] st hi g Φ) : AP M_X8_readWork b 158 [x0] (.int x :: st) hi g Φ := AP.if_eq d_X8_readWork_158 (by decide) h1 h2
theorem d_X8_readWork_161 : decode cX8_readWork 161 = .ok (.aload_n 0, 1) := by decide +kernel
theorem s_X8_readWork_161 {n : Nat} (h : AP M_X8_readWork b 162 [.ref n] (.ref n :: st) hi g Φ) : AP M_X8_readWork b 161 [.ref n] (st) hi g Φ := AP.aload_n (x := n) (i := 0) d_X8_readWork_161 rfl rfl h
theorem d_X8_readWork_162 : decode cX8_readWork 162 = .ok (.iconst 0, 1) := by decide +kernel
theorem s_X8_readWork_162 (h : AP M_X8_readWork b 163 [x0] (.int 0 :: st) hi g Φ) : AP M_X8_readWork b 162 [x0] (st) hi g Φ := AP.iconst (x := 0) d_X8_readWork_162 (by decide) h
theorem d_X8_readWork_163 : decode cX8_readWork 163 = .ok (.iconst 3, 1) := by decide +kernel
theorem s_X8_readWork_163 (h : AP M_X8_readWork b 164 [x0] (.int 3 :: st) hi g Φ) : AP M_X8_readWork b 163 [x0] (st) hi g Φ := AP.iconst (x := 3) d_X8_readWork_163 (by decide) h
theorem d_X8_readWork_164 : decode cX8_readWork 164 = .ok (.invokevirtual 43, 3) := by decide +kernel
theorem s_X8_readWork_164 {a0 : Int32} {a1 : Int32} {k : Nat} {r0 : Int32} {P : am_HI → Prop} (hI : am_Inv g) (hs : am_SH k = (0, 8)) (hk : k < 134) (hst : (st.map Value.category).sum ≤ 8) (hc : am_Cr M_X8_readValue [.ref k, .int a0, .int a1] hi g (some (.int r0)) P) (h : ∀ hi' : am_HI, P hi' → AP M_X8_readWork b 167 [x0] (.int r0 :: st) hi' g Φ) : AP M_X8_readWork b 164 [x0] (.int a1 :: .int a0 :: .ref k :: st) hi g Φ := AP.callVr (As := [.int a0, .int a1]) (q := (RX8, TX8, 6)) hI hc k_X8_readWork_43 d_X8_readWork_164 rfl hs hk rfl rfl hst h
theorem d_X8_readWork_167 : decode cX8_readWork 167 = .ok (.ifCond .eq 7, 3) := by decide +kernel
theorem s_X8_readWork_167 {x : Int32} (h1 : x = 0 → AP M_X8_readWork b 174 [x0] st hi g Φ) (h2 : ¬ x = 0 → AP M_X8_readWork b 170 [x0] st hi g Φ) : AP M_X8_readWork b 167 [x0] (.int x :: st) hi g Φ := AP.if_eq d_X8_readWork_167 (by decide) h1 h2
theorem d_X8_readWork_170 : decode cX8_readWork 170 = .ok (.iconst 1, 1) := by decide +kernel
theorem s_X8_readWork_170 (h : AP M_X8_readWork b 171 [x0] (.int 1 :: st) hi g Φ) : AP M_X8_readWork b 170 [x0] (st) hi g Φ := AP.iconst (x := 1) d_X8_readWork_170 (by decide) h
theorem d_X8_readWork_171 : decode cX8_readWork 171 = .ok (.goto 4, 3) := by decide +kernel
theorem s_X8_readWork_171 (h : AP M_X8_readWork b 175 [x0] st hi g Φ) : AP M_X8_readWork b 171 [x0] st hi g Φ := AP.goto d_X8_readWork_171 (by decide) h
theorem d_X8_readWork_174 : decode cX8_readWork 174 = .ok (.iconst 0, 1) := by decide +kernel
theorem s_X8_readWork_174 (h : AP M_X8_readWork b 175 [x0] (.int 0 :: st) hi g Φ) : AP M_X8_readWork b 174 [x0] (st) hi g Φ := AP.iconst (x := 0) d_X8_readWork_174 (by decide) h
theorem d_X8_readWork_175 : decode cX8_readWork 175 = .ok (.ireturn, 1) := by decide +kernel
theorem s_X8_readWork_175 {x : Int32} (hx : x = 0 ∨ x = 1) (h : Φ (.ok (some (.int x))) hi g) : AP M_X8_readWork b 175 [x0] [.int x] hi g Φ := AP.zret d_X8_readWork_175 rfl hx h
theorem d_X8_readWork_176 : decode cX8_readWork 176 = .ok (.aload_n 0, 1) := by decide +kernel
theorem s_X8_readWork_176 {n : Nat} (h : AP M_X8_readWork b 177 [.ref n] (.ref n :: st) hi g Φ) : AP M_X8_readWork b 176 [.ref n] (st) hi g Φ := AP.aload_n (x := n) (i := 0) d_X8_readWork_176 rfl rfl h
theorem d_X8_readWork_177 : decode cX8_readWork 177 = .ok (.aload_n 0, 1) := by decide +kernel
theorem s_X8_readWork_177 {n : Nat} (h : AP M_X8_readWork b 178 [.ref n] (.ref n :: st) hi g Φ) : AP M_X8_readWork b 177 [.ref n] (st) hi g Φ := AP.aload_n (x := n) (i := 0) d_X8_readWork_177 rfl rfl h
theorem d_X8_readWork_178 : decode cX8_readWork 178 = .ok (.getfield 22, 3) := by decide +kernel
theorem s_X8_readWork_178 {k : Nat} (hI : am_Inv g) (hs : am_SH k = (0, 8)) (hk : k < 134) (h : AP M_X8_readWork b 181 [x0] (.int (hi k 3) :: st) hi g Φ) : AP M_X8_readWork b 178 [x0] (.ref k :: st) hi g Φ := AP.getI (j := 3) (q := (RX8, TX8, 6)) d_X8_readWork_178 hs (hI.lt hk) rfl (by decide) (by decide) w_296 h
theorem d_X8_readWork_181 : decode cX8_readWork 181 = .ok (.invokevirtual 35, 3) := by decide +kernel
theorem s_X8_readWork_181 {a0 : Int32} {k : Nat} {r0 : Int32} {P : am_HI → Prop} (hI : am_Inv g) (hs : am_SH k = (0, 8)) (hk : k < 134) (hst : (st.map Value.category).sum ≤ 8) (hc : am_Cr M_X8_take [.ref k, .int a0] hi g (some (.int r0)) P) (h : ∀ hi' : am_HI, P hi' → AP M_X8_readWork b 184 [x0] (.int r0 :: st) hi' g Φ) : AP M_X8_readWork b 181 [x0] (.int a0 :: .ref k :: st) hi g Φ := AP.callVr (As := [.int a0]) (q := (RX8, TX8, 6)) hI hc k_X8_readWork_35 d_X8_readWork_181 rfl hs hk rfl rfl hst h
theorem d_X8_readWork_184 : decode cX8_readWork 184 = .ok (.ifCond .eq 16, 3) := by decide +kernel
theorem s_X8_readWork_184 {x : Int32} (h1 : x = 0 → AP M_X8_readWork b 200 [x0] st hi g Φ) (h2 : ¬ x = 0 → AP M_X8_readWork b 187 [x0] st hi g Φ) : AP M_X8_readWork b 184 [x0] (.int x :: st) hi g Φ := AP.if_eq d_X8_readWork_184 (by decide) h1 h2
theorem d_X8_readWork_187 : decode cX8_readWork 187 = .ok (.aload_n 0, 1) := by decide +kernel
theorem s_X8_readWork_187 {n : Nat} (h : AP M_X8_readWork b 188 [.ref n] (.ref n :: st) hi g Φ) : AP M_X8_readWork b 187 [.ref n] (st) hi g Φ := AP.aload_n (x := n) (i := 0) d_X8_readWork_187 rfl rfl h
theorem d_X8_readWork_188 : decode cX8_readWork 188 = .ok (.iconst 0, 1) := by decide +kernel
theorem s_X8_readWork_188 (h : AP M_X8_readWork b 189 [x0] (.int 0 :: st) hi g Φ) : AP M_X8_readWork b 188 [x0] (st) hi g Φ := AP.iconst (x := 0) d_X8_readWork_188 (by decide) h
theorem d_X8_readWork_189 : decode cX8_readWork 189 = .ok (.iconst 4, 1) := by decide +kernel
theorem s_X8_readWork_189 (h : AP M_X8_readWork b 190 [x0] (.int 4 :: st) hi g Φ) : AP M_X8_readWork b 189 [x0] (st) hi g Φ := AP.iconst (x := 4) d_X8_readWork_189 (by decide) h
theorem d_X8_readWork_190 : decode cX8_readWork 190 = .ok (.invokevirtual 43, 3) := by decide +kernel
theorem s_X8_readWork_190 {a0 : Int32} {a1 : Int32} {k : Nat} {r0 : Int32} {P : am_HI → Prop} (hI : am_Inv g) (hs : am_SH k = (0, 8)) (hk : k < 134) (hst : (st.map Value.category).sum ≤ 8) (hc : am_Cr M_X8_readValue [.ref k, .int a0, .int a1] hi g (some (.int r0)) P) (h : ∀ hi' : am_HI, P hi' → AP M_X8_readWork b 193 [x0] (.int r0 :: st) hi' g Φ) : AP M_X8_readWork b 190 [x0] (.int a1 :: .int a0 :: .ref k :: st) hi g Φ := AP.callVr (As := [.int a0, .int a1]) (q := (RX8, TX8, 6)) hI hc k_X8_readWork_43 d_X8_readWork_190 rfl hs hk rfl rfl hst h
theorem d_X8_readWork_193 : decode cX8_readWork 193 = .ok (.ifCond .eq 7, 3) := by decide +kernel
theorem s_X8_readWork_193 {x : Int32} (h1 : x = 0 → AP M_X8_readWork b 200 [x0] st hi g Φ) (h2 : ¬ x = 0 → AP M_X8_readWork b 196 [x0] st hi g Φ) : AP M_X8_readWork b 193 [x0] (.int x :: st) hi g Φ := AP.if_eq d_X8_readWork_193 (by decide) h1 h2
theorem d_X8_readWork_196 : decode cX8_readWork 196 = .ok (.iconst 1, 1) := by decide +kernel
theorem s_X8_readWork_196 (h : AP M_X8_readWork b 197 [x0] (.int 1 :: st) hi g Φ) : AP M_X8_readWork b 196 [x0] (st) hi g Φ := AP.iconst (x := 1) d_X8_readWork_196 (by decide) h
theorem d_X8_readWork_197 : decode cX8_readWork 197 = .ok (.goto 4, 3) := by decide +kernel
theorem s_X8_readWork_197 (h : AP M_X8_readWork b 201 [x0] st hi g Φ) : AP M_X8_readWork b 197 [x0] st hi g Φ := AP.goto d_X8_readWork_197 (by decide) h
theorem d_X8_readWork_200 : decode cX8_readWork 200 = .ok (.iconst 0, 1) := by decide +kernel
theorem s_X8_readWork_200 (h : AP M_X8_readWork b 201 [x0] (.int 0 :: st) hi g Φ) : AP M_X8_readWork b 200 [x0] (st) hi g Φ := AP.iconst (x := 0) d_X8_readWork_200 (by decide) h
theorem d_X8_readWork_201 : decode cX8_readWork 201 = .ok (.ireturn, 1) := by decide +kernel
theorem s_X8_readWork_201 {x : Int32} (hx : x = 0 ∨ x = 1) (h : Φ (.ok (some (.int x))) hi g) : AP M_X8_readWork b 201 [x0] [.int x] hi g Φ := AP.zret d_X8_readWork_201 rfl hx h
theorem d_X8_readWork_202 : decode cX8_readWork 202 = .ok (.aload_n 0, 1) := by decide +kernel
theorem s_X8_readWork_202 {n : Nat} (h : AP M_X8_readWork b 203 [.ref n] (.ref n :: st) hi g Φ) : AP M_X8_readWork b 202 [.ref n] (st) hi g Φ := AP.aload_n (x := n) (i := 0) d_X8_readWork_202 rfl rfl h
theorem d_X8_readWork_203 : decode cX8_readWork 203 = .ok (.aload_n 0, 1) := by decide +kernel
theorem s_X8_readWork_203 {n : Nat} (h : AP M_X8_readWork b 204 [.ref n] (.ref n :: st) hi g Φ) : AP M_X8_readWork b 203 [.ref n] (st) hi g Φ := AP.aload_n (x := n) (i := 0) d_X8_readWork_203 rfl rfl h
theorem d_X8_readWork_204 : decode cX8_readWork 204 = .ok (.getfield 22, 3) := by decide +kernel
theorem s_X8_readWork_204 {k : Nat} (hI : am_Inv g) (hs : am_SH k = (0, 8)) (hk : k < 134) (h : AP M_X8_readWork b 207 [x0] (.int (hi k 3) :: st) hi g Φ) : AP M_X8_readWork b 204 [x0] (.ref k :: st) hi g Φ := AP.getI (j := 3) (q := (RX8, TX8, 6)) d_X8_readWork_204 hs (hI.lt hk) rfl (by decide) (by decide) w_296 h
theorem d_X8_readWork_207 : decode cX8_readWork 207 = .ok (.invokevirtual 35, 3) := by decide +kernel
theorem s_X8_readWork_207 {a0 : Int32} {k : Nat} {r0 : Int32} {P : am_HI → Prop} (hI : am_Inv g) (hs : am_SH k = (0, 8)) (hk : k < 134) (hst : (st.map Value.category).sum ≤ 8) (hc : am_Cr M_X8_take [.ref k, .int a0] hi g (some (.int r0)) P) (h : ∀ hi' : am_HI, P hi' → AP M_X8_readWork b 210 [x0] (.int r0 :: st) hi' g Φ) : AP M_X8_readWork b 207 [x0] (.int a0 :: .ref k :: st) hi g Φ := AP.callVr (As := [.int a0]) (q := (RX8, TX8, 6)) hI hc k_X8_readWork_35 d_X8_readWork_207 rfl hs hk rfl rfl hst h
theorem d_X8_readWork_210 : decode cX8_readWork 210 = .ok (.ifCond .eq 25, 3) := by decide +kernel
theorem s_X8_readWork_210 {x : Int32} (h1 : x = 0 → AP M_X8_readWork b 235 [x0] st hi g Φ) (h2 : ¬ x = 0 → AP M_X8_readWork b 213 [x0] st hi g Φ) : AP M_X8_readWork b 210 [x0] (.int x :: st) hi g Φ := AP.if_eq d_X8_readWork_210 (by decide) h1 h2
theorem d_X8_readWork_213 : decode cX8_readWork 213 = .ok (.aload_n 0, 1) := by decide +kernel
theorem s_X8_readWork_213 {n : Nat} (h : AP M_X8_readWork b 214 [.ref n] (.ref n :: st) hi g Φ) : AP M_X8_readWork b 213 [.ref n] (st) hi g Φ := AP.aload_n (x := n) (i := 0) d_X8_readWork_213 rfl rfl h
theorem d_X8_readWork_214 : decode cX8_readWork 214 = .ok (.iconst 1, 1) := by decide +kernel
theorem s_X8_readWork_214 (h : AP M_X8_readWork b 215 [x0] (.int 1 :: st) hi g Φ) : AP M_X8_readWork b 214 [x0] (st) hi g Φ := AP.iconst (x := 1) d_X8_readWork_214 (by decide) h
theorem d_X8_readWork_215 : decode cX8_readWork 215 = .ok (.iconst 4, 1) := by decide +kernel
theorem s_X8_readWork_215 (h : AP M_X8_readWork b 216 [x0] (.int 4 :: st) hi g Φ) : AP M_X8_readWork b 215 [x0] (st) hi g Φ := AP.iconst (x := 4) d_X8_readWork_215 (by decide) h
theorem d_X8_readWork_216 : decode cX8_readWork 216 = .ok (.invokevirtual 47, 3) := by decide +kernel
theorem s_X8_readWork_216 {a0 : Int32} {a1 : Int32} {k : Nat} {r0 : Int32} {P : am_HI → Prop} (hI : am_Inv g) (hs : am_SH k = (0, 8)) (hk : k < 134) (hst : (st.map Value.category).sum ≤ 8) (hc : am_Cr M_X8_readPlace [.ref k, .int a0, .int a1] hi g (some (.int r0)) P) (h : ∀ hi' : am_HI, P hi' → AP M_X8_readWork b 219 [x0] (.int r0 :: st) hi' g Φ) : AP M_X8_readWork b 216 [x0] (.int a1 :: .int a0 :: .ref k :: st) hi g Φ := AP.callVr (As := [.int a0, .int a1]) (q := (RX8, TX8, 6)) hI hc k_X8_readWork_47 d_X8_readWork_216 rfl hs hk rfl rfl hst h
theorem d_X8_readWork_219 : decode cX8_readWork 219 = .ok (.ifCond .eq 16, 3) := by decide +kernel
theorem s_X8_readWork_219 {x : Int32} (h1 : x = 0 → AP M_X8_readWork b 235 [x0] st hi g Φ) (h2 : ¬ x = 0 → AP M_X8_readWork b 222 [x0] st hi g Φ) : AP M_X8_readWork b 219 [x0] (.int x :: st) hi g Φ := AP.if_eq d_X8_readWork_219 (by decide) h1 h2
theorem d_X8_readWork_222 : decode cX8_readWork 222 = .ok (.aload_n 0, 1) := by decide +kernel
theorem s_X8_readWork_222 {n : Nat} (h : AP M_X8_readWork b 223 [.ref n] (.ref n :: st) hi g Φ) : AP M_X8_readWork b 222 [.ref n] (st) hi g Φ := AP.aload_n (x := n) (i := 0) d_X8_readWork_222 rfl rfl h
theorem d_X8_readWork_223 : decode cX8_readWork 223 = .ok (.bipush 64, 2) := by decide +kernel
theorem s_X8_readWork_223 (h : AP M_X8_readWork b 225 [x0] (.int 64 :: st) hi g Φ) : AP M_X8_readWork b 223 [x0] (st) hi g Φ := AP.bipush (x := 64) d_X8_readWork_223 (by decide) h
theorem d_X8_readWork_225 : decode cX8_readWork 225 = .ok (.invokevirtual 50, 3) := by decide +kernel
theorem s_X8_readWork_225 {a0 : Int32} {k : Nat} {r0 : Int32} {P : am_HI → Prop} (hI : am_Inv g) (hs : am_SH k = (0, 8)) (hk : k < 134) (hst : (st.map Value.category).sum ≤ 8) (hc : am_Cr M_X8_readSigned [.ref k, .int a0] hi g (some (.int r0)) P) (h : ∀ hi' : am_HI, P hi' → AP M_X8_readWork b 228 [x0] (.int r0 :: st) hi' g Φ) : AP M_X8_readWork b 225 [x0] (.int a0 :: .ref k :: st) hi g Φ := AP.callVr (As := [.int a0]) (q := (RX8, TX8, 6)) hI hc k_X8_readWork_50 d_X8_readWork_225 rfl hs hk rfl rfl hst h
theorem d_X8_readWork_228 : decode cX8_readWork 228 = .ok (.ifCond .eq 7, 3) := by decide +kernel
theorem s_X8_readWork_228 {x : Int32} (h1 : x = 0 → AP M_X8_readWork b 235 [x0] st hi g Φ) (h2 : ¬ x = 0 → AP M_X8_readWork b 231 [x0] st hi g Φ) : AP M_X8_readWork b 228 [x0] (.int x :: st) hi g Φ := AP.if_eq d_X8_readWork_228 (by decide) h1 h2
theorem d_X8_readWork_231 : decode cX8_readWork 231 = .ok (.iconst 1, 1) := by decide +kernel
theorem s_X8_readWork_231 (h : AP M_X8_readWork b 232 [x0] (.int 1 :: st) hi g Φ) : AP M_X8_readWork b 231 [x0] (st) hi g Φ := AP.iconst (x := 1) d_X8_readWork_231 (by decide) h
theorem d_X8_readWork_232 : decode cX8_readWork 232 = .ok (.goto 4, 3) := by decide +kernel
theorem s_X8_readWork_232 (h : AP M_X8_readWork b 236 [x0] st hi g Φ) : AP M_X8_readWork b 232 [x0] st hi g Φ := AP.goto d_X8_readWork_232 (by decide) h
theorem d_X8_readWork_235 : decode cX8_readWork 235 = .ok (.iconst 0, 1) := by decide +kernel
theorem s_X8_readWork_235 (h : AP M_X8_readWork b 236 [x0] (.int 0 :: st) hi g Φ) : AP M_X8_readWork b 235 [x0] (st) hi g Φ := AP.iconst (x := 0) d_X8_readWork_235 (by decide) h
theorem d_X8_readWork_236 : decode cX8_readWork 236 = .ok (.ireturn, 1) := by decide +kernel
theorem s_X8_readWork_236 {x : Int32} (hx : x = 0 ∨ x = 1) (h : Φ (.ok (some (.int x))) hi g) : AP M_X8_readWork b 236 [x0] [.int x] hi g Φ := AP.zret d_X8_readWork_236 rfl hx h
theorem d_X8_readWork_237 : decode cX8_readWork 237 = .ok (.aload_n 0, 1) := by decide +kernel
theorem s_X8_readWork_237 {n : Nat} (h : AP M_X8_readWork b 238 [.ref n] (.ref n :: st) hi g Φ) : AP M_X8_readWork b 237 [.ref n] (st) hi g Φ := AP.aload_n (x := n) (i := 0) d_X8_readWork_237 rfl rfl h
theorem d_X8_readWork_238 : decode cX8_readWork 238 = .ok (.aload_n 0, 1) := by decide +kernel
theorem s_X8_readWork_238 {n : Nat} (h : AP M_X8_readWork b 239 [.ref n] (.ref n :: st) hi g Φ) : AP M_X8_readWork b 238 [.ref n] (st) hi g Φ := AP.aload_n (x := n) (i := 0) d_X8_readWork_238 rfl rfl h
theorem d_X8_readWork_239 : decode cX8_readWork 239 = .ok (.getfield 22, 3) := by decide +kernel
theorem s_X8_readWork_239 {k : Nat} (hI : am_Inv g) (hs : am_SH k = (0, 8)) (hk : k < 134) (h : AP M_X8_readWork b 242 [x0] (.int (hi k 3) :: st) hi g Φ) : AP M_X8_readWork b 239 [x0] (.ref k :: st) hi g Φ := AP.getI (j := 3) (q := (RX8, TX8, 6)) d_X8_readWork_239 hs (hI.lt hk) rfl (by decide) (by decide) w_296 h
theorem d_X8_readWork_242 : decode cX8_readWork 242 = .ok (.invokevirtual 35, 3) := by decide +kernel
theorem s_X8_readWork_242 {a0 : Int32} {k : Nat} {r0 : Int32} {P : am_HI → Prop} (hI : am_Inv g) (hs : am_SH k = (0, 8)) (hk : k < 134) (hst : (st.map Value.category).sum ≤ 8) (hc : am_Cr M_X8_take [.ref k, .int a0] hi g (some (.int r0)) P) (h : ∀ hi' : am_HI, P hi' → AP M_X8_readWork b 245 [x0] (.int r0 :: st) hi' g Φ) : AP M_X8_readWork b 242 [x0] (.int a0 :: .ref k :: st) hi g Φ := AP.callVr (As := [.int a0]) (q := (RX8, TX8, 6)) hI hc k_X8_readWork_35 d_X8_readWork_242 rfl hs hk rfl rfl hst h
theorem d_X8_readWork_245 : decode cX8_readWork 245 = .ok (.ifCond .eq 27, 3) := by decide +kernel
theorem s_X8_readWork_245 {x : Int32} (h1 : x = 0 → AP M_X8_readWork b 272 [x0] st hi g Φ) (h2 : ¬ x = 0 → AP M_X8_readWork b 248 [x0] st hi g Φ) : AP M_X8_readWork b 245 [x0] (.int x :: st) hi g Φ := AP.if_eq d_X8_readWork_245 (by decide) h1 h2
theorem d_X8_readWork_248 : decode cX8_readWork 248 = .ok (.aload_n 0, 1) := by decide +kernel
theorem s_X8_readWork_248 {n : Nat} (h : AP M_X8_readWork b 249 [.ref n] (.ref n :: st) hi g Φ) : AP M_X8_readWork b 248 [.ref n] (st) hi g Φ := AP.aload_n (x := n) (i := 0) d_X8_readWork_248 rfl rfl h
theorem d_X8_readWork_249 : decode cX8_readWork 249 = .ok (.iconst 0, 1) := by decide +kernel
theorem s_X8_readWork_249 (h : AP M_X8_readWork b 250 [x0] (.int 0 :: st) hi g Φ) : AP M_X8_readWork b 249 [x0] (st) hi g Φ := AP.iconst (x := 0) d_X8_readWork_249 (by decide) h
theorem d_X8_readWork_250 : decode cX8_readWork 250 = .ok (.bipush 47, 2) := by decide +kernel
theorem s_X8_readWork_250 (h : AP M_X8_readWork b 252 [x0] (.int 47 :: st) hi g Φ) : AP M_X8_readWork b 250 [x0] (st) hi g Φ := AP.bipush (x := 47) d_X8_readWork_250 (by decide) h
theorem d_X8_readWork_252 : decode cX8_readWork 252 = .ok (.invokevirtual 47, 3) := by decide +kernel
theorem s_X8_readWork_252 {a0 : Int32} {a1 : Int32} {k : Nat} {r0 : Int32} {P : am_HI → Prop} (hI : am_Inv g) (hs : am_SH k = (0, 8)) (hk : k < 134) (hst : (st.map Value.category).sum ≤ 8) (hc : am_Cr M_X8_readPlace [.ref k, .int a0, .int a1] hi g (some (.int r0)) P) (h : ∀ hi' : am_HI, P hi' → AP M_X8_readWork b 255 [x0] (.int r0 :: st) hi' g Φ) : AP M_X8_readWork b 252 [x0] (.int a1 :: .int a0 :: .ref k :: st) hi g Φ := AP.callVr (As := [.int a0, .int a1]) (q := (RX8, TX8, 6)) hI hc k_X8_readWork_47 d_X8_readWork_252 rfl hs hk rfl rfl hst h
theorem d_X8_readWork_255 : decode cX8_readWork 255 = .ok (.ifCond .eq 17, 3) := by decide +kernel
theorem s_X8_readWork_255 {x : Int32} (h1 : x = 0 → AP M_X8_readWork b 272 [x0] st hi g Φ) (h2 : ¬ x = 0 → AP M_X8_readWork b 258 [x0] st hi g Φ) : AP M_X8_readWork b 255 [x0] (.int x :: st) hi g Φ := AP.if_eq d_X8_readWork_255 (by decide) h1 h2
theorem d_X8_readWork_258 : decode cX8_readWork 258 = .ok (.aload_n 0, 1) := by decide +kernel
theorem s_X8_readWork_258 {n : Nat} (h : AP M_X8_readWork b 259 [.ref n] (.ref n :: st) hi g Φ) : AP M_X8_readWork b 258 [.ref n] (st) hi g Φ := AP.aload_n (x := n) (i := 0) d_X8_readWork_258 rfl rfl h
theorem d_X8_readWork_259 : decode cX8_readWork 259 = .ok (.sipush 198, 3) := by decide +kernel
theorem s_X8_readWork_259 (h : AP M_X8_readWork b 262 [x0] (.int 198 :: st) hi g Φ) : AP M_X8_readWork b 259 [x0] (st) hi g Φ := AP.sipush (x := 198) d_X8_readWork_259 (by decide) h
theorem d_X8_readWork_262 : decode cX8_readWork 262 = .ok (.invokevirtual 50, 3) := by decide +kernel
theorem s_X8_readWork_262 {a0 : Int32} {k : Nat} {r0 : Int32} {P : am_HI → Prop} (hI : am_Inv g) (hs : am_SH k = (0, 8)) (hk : k < 134) (hst : (st.map Value.category).sum ≤ 8) (hc : am_Cr M_X8_readSigned [.ref k, .int a0] hi g (some (.int r0)) P) (h : ∀ hi' : am_HI, P hi' → AP M_X8_readWork b 265 [x0] (.int r0 :: st) hi' g Φ) : AP M_X8_readWork b 262 [x0] (.int a0 :: .ref k :: st) hi g Φ := AP.callVr (As := [.int a0]) (q := (RX8, TX8, 6)) hI hc k_X8_readWork_50 d_X8_readWork_262 rfl hs hk rfl rfl hst h
theorem d_X8_readWork_265 : decode cX8_readWork 265 = .ok (.ifCond .eq 7, 3) := by decide +kernel
theorem s_X8_readWork_265 {x : Int32} (h1 : x = 0 → AP M_X8_readWork b 272 [x0] st hi g Φ) (h2 : ¬ x = 0 → AP M_X8_readWork b 268 [x0] st hi g Φ) : AP M_X8_readWork b 265 [x0] (.int x :: st) hi g Φ := AP.if_eq d_X8_readWork_265 (by decide) h1 h2
theorem d_X8_readWork_268 : decode cX8_readWork 268 = .ok (.iconst 1, 1) := by decide +kernel
theorem s_X8_readWork_268 (h : AP M_X8_readWork b 269 [x0] (.int 1 :: st) hi g Φ) : AP M_X8_readWork b 268 [x0] (st) hi g Φ := AP.iconst (x := 1) d_X8_readWork_268 (by decide) h
theorem d_X8_readWork_269 : decode cX8_readWork 269 = .ok (.goto 4, 3) := by decide +kernel
theorem s_X8_readWork_269 (h : AP M_X8_readWork b 273 [x0] st hi g Φ) : AP M_X8_readWork b 269 [x0] st hi g Φ := AP.goto d_X8_readWork_269 (by decide) h
theorem d_X8_readWork_272 : decode cX8_readWork 272 = .ok (.iconst 0, 1) := by decide +kernel
theorem s_X8_readWork_272 (h : AP M_X8_readWork b 273 [x0] (.int 0 :: st) hi g Φ) : AP M_X8_readWork b 272 [x0] (st) hi g Φ := AP.iconst (x := 0) d_X8_readWork_272 (by decide) h
theorem d_X8_readWork_273 : decode cX8_readWork 273 = .ok (.ireturn, 1) := by decide +kernel
theorem s_X8_readWork_273 {x : Int32} (hx : x = 0 ∨ x = 1) (h : Φ (.ok (some (.int x))) hi g) : AP M_X8_readWork b 273 [x0] [.int x] hi g Φ := AP.zret d_X8_readWork_273 rfl hx h
theorem d_X8_readWork_274 : decode cX8_readWork 274 = .ok (.aload_n 0, 1) := by decide +kernel
theorem s_X8_readWork_274 {n : Nat} (h : AP M_X8_readWork b 275 [.ref n] (.ref n :: st) hi g Φ) : AP M_X8_readWork b 274 [.ref n] (st) hi g Φ := AP.aload_n (x := n) (i := 0) d_X8_readWork_274 rfl rfl h
theorem d_X8_readWork_275 : decode cX8_readWork 275 = .ok (.aload_n 0, 1) := by decide +kernel
theorem s_X8_readWork_275 {n : Nat} (h : AP M_X8_readWork b 276 [.ref n] (.ref n :: st) hi g Φ) : AP M_X8_readWork b 275 [.ref n] (st) hi g Φ := AP.aload_n (x := n) (i := 0) d_X8_readWork_275 rfl rfl h
theorem d_X8_readWork_276 : decode cX8_readWork 276 = .ok (.getfield 22, 3) := by decide +kernel
theorem s_X8_readWork_276 {k : Nat} (hI : am_Inv g) (hs : am_SH k = (0, 8)) (hk : k < 134) (h : AP M_X8_readWork b 279 [x0] (.int (hi k 3) :: st) hi g Φ) : AP M_X8_readWork b 276 [x0] (.ref k :: st) hi g Φ := AP.getI (j := 3) (q := (RX8, TX8, 6)) d_X8_readWork_276 hs (hI.lt hk) rfl (by decide) (by decide) w_296 h
theorem d_X8_readWork_279 : decode cX8_readWork 279 = .ok (.invokevirtual 35, 3) := by decide +kernel
theorem s_X8_readWork_279 {a0 : Int32} {k : Nat} {r0 : Int32} {P : am_HI → Prop} (hI : am_Inv g) (hs : am_SH k = (0, 8)) (hk : k < 134) (hst : (st.map Value.category).sum ≤ 8) (hc : am_Cr M_X8_take [.ref k, .int a0] hi g (some (.int r0)) P) (h : ∀ hi' : am_HI, P hi' → AP M_X8_readWork b 282 [x0] (.int r0 :: st) hi' g Φ) : AP M_X8_readWork b 279 [x0] (.int a0 :: .ref k :: st) hi g Φ := AP.callVr (As := [.int a0]) (q := (RX8, TX8, 6)) hI hc k_X8_readWork_35 d_X8_readWork_279 rfl hs hk rfl rfl hst h
theorem d_X8_readWork_282 : decode cX8_readWork 282 = .ok (.ireturn, 1) := by decide +kernel
theorem s_X8_readWork_282 {x : Int32} (hx : x = 0 ∨ x = 1) (h : Φ (.ok (some (.int x))) hi g) : AP M_X8_readWork b 282 [x0] [.int x] hi g Φ := AP.zret d_X8_readWork_282 rfl hx h
theorem d_X8_readWork_283 : decode cX8_readWork 283 = .ok (.iconst 0, 1) := by decide +kernel
theorem s_X8_readWork_283 (h : AP M_X8_readWork b 284 [x0] (.int 0 :: st) hi g Φ) : AP M_X8_readWork b 283 [x0] (st) hi g Φ := AP.iconst (x := 0) d_X8_readWork_283 (by decide) h
theorem d_X8_readWork_284 : decode cX8_readWork 284 = .ok (.ireturn, 1) := by decide +kernel
theorem s_X8_readWork_284 {x : Int32} (hx : x = 0 ∨ x = 1) (h : Φ (.ok (some (.int x))) hi g) : AP M_X8_readWork b 284 [x0] [.int x] hi g Φ := AP.zret d_X8_readWork_284 rfl hx h
end
section
variable {b : Nat × Nat} {st : List Value} {hi : am_HI} {g : am_G} {Φ : am_P} {x0 x1 : Value}
theorem d_X8_findFault_0 : decode cX8_findFault 0 = .ok (.aload_n 0, 1) := by decide +kernel
theorem s_X8_findFault_0 {n : Nat} (h : AP M_X8_findFault b 1 [.ref n, x1] (.ref n :: st) hi g Φ) : AP M_X8_findFault b 0 [.ref n, x1] (st) hi g Φ := AP.aload_n (x := n) (i := 0) d_X8_findFault_0 rfl rfl h
theorem d_X8_findFault_1 : decode cX8_findFault 1 = .ok (.iconst 0, 1) := by decide +kernel
theorem s_X8_findFault_1 (h : AP M_X8_findFault b 2 [x0, x1] (.int 0 :: st) hi g Φ) : AP M_X8_findFault b 1 [x0, x1] (st) hi g Φ := AP.iconst (x := 0) d_X8_findFault_1 (by decide) h
theorem d_X8_findFault_2 : decode cX8_findFault 2 = .ok (.putfield 19, 3) := by decide +kernel
theorem s_X8_findFault_2 {k : Nat} {n : Int32} (hI : am_Inv g) (hs : am_SH k = (0, 8)) (hk : k < 134) (h : AP M_X8_findFault b 5 [x0, x1] (st) (am_up hi k 2 n) g Φ) : AP M_X8_findFault b 2 [x0, x1] (.int n :: .ref k :: st) hi g Φ := AP.putI (j := 2) (q := (RX8, TX8, 6)) d_X8_findFault_2 hs (hI.lt hk) rfl (by decide) rfl rfl w_294 h
theorem d_X8_findFault_5 : decode cX8_findFault 5 = .ok (.iconst 0, 1) := by decide +kernel
theorem s_X8_findFault_5 (h : AP M_X8_findFault b 6 [x0, x1] (.int 0 :: st) hi g Φ) : AP M_X8_findFault b 5 [x0, x1] (st) hi g Φ := AP.iconst (x := 0) d_X8_findFault_5 (by decide) h
theorem d_X8_findFault_6 : decode cX8_findFault 6 = .ok (.istore_n 1, 1) := by decide +kernel
theorem s_X8_findFault_6 {n : Int32} (hc : x0.category = 1) (h : AP M_X8_findFault b 7 [x0, .int n] (st) hi g Φ) : AP M_X8_findFault b 6 [x0, x1] (.int n :: st) hi g Φ := AP.istore_n (x := n) (i := 1) d_X8_findFault_6 rfl (by decide) (by simp [am_st, am_ci, am_cr, am_cl, am_cd, hc]) h
theorem d_X8_findFault_7 : decode cX8_findFault 7 = .ok (.iload_n 1, 1) := by decide +kernel
theorem s_X8_findFault_7 {n : Int32} (h : AP M_X8_findFault b 8 [x0, .int n] (.int n :: st) hi g Φ) : AP M_X8_findFault b 7 [x0, .int n] (st) hi g Φ := AP.iload_n (x := n) (i := 1) d_X8_findFault_7 rfl rfl h
theorem d_X8_findFault_8 : decode cX8_findFault 8 = .ok (.bipush 80, 2) := by decide +kernel
theorem s_X8_findFault_8 (h : AP M_X8_findFault b 10 [x0, x1] (.int 80 :: st) hi g Φ) : AP M_X8_findFault b 8 [x0, x1] (st) hi g Φ := AP.bipush (x := 80) d_X8_findFault_8 (by decide) h
theorem d_X8_findFault_10 : decode cX8_findFault 10 = .ok (.if_icmp .ge 50, 3) := by decide +kernel
theorem s_X8_findFault_10 {x y : Int32} (h1 : y ≤ x → AP M_X8_findFault b 60 [x0, x1] st hi g Φ) (h2 : ¬ y ≤ x → AP M_X8_findFault b 13 [x0, x1] st hi g Φ) : AP M_X8_findFault b 10 [x0, x1] (.int y :: .int x :: st) hi g Φ := AP.icmp_ge d_X8_findFault_10 (by decide) h1 h2
theorem d_X8_findFault_13 : decode cX8_findFault 13 = .ok (.aload_n 0, 1) := by decide +kernel
theorem s_X8_findFault_13 {n : Nat} (h : AP M_X8_findFault b 14 [.ref n, x1] (.ref n :: st) hi g Φ) : AP M_X8_findFault b 13 [.ref n, x1] (st) hi g Φ := AP.aload_n (x := n) (i := 0) d_X8_findFault_13 rfl rfl h
theorem d_X8_findFault_14 : decode cX8_findFault 14 = .ok (.invokevirtual 31, 3) := by decide +kernel
theorem s_X8_findFault_14  {k : Nat} {r0 : Int32} {P : am_HI → Prop} (hI : am_Inv g) (hs : am_SH k = (0, 8)) (hk : k < 134) (hst : (st.map Value.category).sum ≤ 8) (hc : am_Cr M_X8_readWork [.ref k] hi g (some (.int r0)) P) (h : ∀ hi' : am_HI, P hi' → AP M_X8_findFault b 17 [x0, x1] (.int r0 :: st) hi' g Φ) : AP M_X8_findFault b 14 [x0, x1] (.ref k :: st) hi g Φ := AP.callVr (As := []) (q := (RX8, TX8, 6)) hI hc k_X8_findFault_31 d_X8_findFault_14 rfl hs hk rfl rfl hst h
theorem d_X8_findFault_17 : decode cX8_findFault 17 = .ok (.ifCond .ne 8, 3) := by decide +kernel
theorem s_X8_findFault_17 {x : Int32} (h1 : ¬ x = 0 → AP M_X8_findFault b 25 [x0, x1] st hi g Φ) (h2 : x = 0 → AP M_X8_findFault b 20 [x0, x1] st hi g Φ) : AP M_X8_findFault b 17 [x0, x1] (.int x :: st) hi g Φ := AP.if_ne d_X8_findFault_17 (by decide) h1 h2
theorem d_X8_findFault_20 : decode cX8_findFault 20 = .ok (.aload_n 0, 1) := by decide +kernel
theorem s_X8_findFault_20 {n : Nat} (h : AP M_X8_findFault b 21 [.ref n, x1] (.ref n :: st) hi g Φ) : AP M_X8_findFault b 20 [.ref n, x1] (st) hi g Φ := AP.aload_n (x := n) (i := 0) d_X8_findFault_20 rfl rfl h
theorem d_X8_findFault_21 : decode cX8_findFault 21 = .ok (.getfield 19, 3) := by decide +kernel
theorem s_X8_findFault_21 {k : Nat} (hI : am_Inv g) (hs : am_SH k = (0, 8)) (hk : k < 134) (h : AP M_X8_findFault b 24 [x0, x1] (.int (hi k 2) :: st) hi g Φ) : AP M_X8_findFault b 21 [x0, x1] (.ref k :: st) hi g Φ := AP.getI (j := 2) (q := (RX8, TX8, 6)) d_X8_findFault_21 hs (hI.lt hk) rfl (by decide) (by decide) w_294 h
theorem d_X8_findFault_24 : decode cX8_findFault 24 = .ok (.ireturn, 1) := by decide +kernel
theorem s_X8_findFault_24 {x : Int32} (h : Φ (.ok (some (.int x))) hi g) : AP M_X8_findFault b 24 [x0, x1] [.int x] hi g Φ := AP.iret d_X8_findFault_24 rfl h
theorem d_X8_findFault_25 : decode cX8_findFault 25 = .ok (.aload_n 0, 1) := by decide +kernel
theorem s_X8_findFault_25 {n : Nat} (h : AP M_X8_findFault b 26 [.ref n, x1] (.ref n :: st) hi g Φ) : AP M_X8_findFault b 25 [.ref n, x1] (st) hi g Φ := AP.aload_n (x := n) (i := 0) d_X8_findFault_25 rfl rfl h
theorem d_X8_findFault_26 : decode cX8_findFault 26 = .ok (.bipush 59, 2) := by decide +kernel
theorem s_X8_findFault_26 (h : AP M_X8_findFault b 28 [x0, x1] (.int 59 :: st) hi g Φ) : AP M_X8_findFault b 26 [x0, x1] (st) hi g Φ := AP.bipush (x := 59) d_X8_findFault_26 (by decide) h
theorem d_X8_findFault_28 : decode cX8_findFault 28 = .ok (.invokevirtual 35, 3) := by decide +kernel
theorem s_X8_findFault_28 {a0 : Int32} {k : Nat} {r0 : Int32} {P : am_HI → Prop} (hI : am_Inv g) (hs : am_SH k = (0, 8)) (hk : k < 134) (hst : (st.map Value.category).sum ≤ 8) (hc : am_Cr M_X8_take [.ref k, .int a0] hi g (some (.int r0)) P) (h : ∀ hi' : am_HI, P hi' → AP M_X8_findFault b 31 [x0, x1] (.int r0 :: st) hi' g Φ) : AP M_X8_findFault b 28 [x0, x1] (.int a0 :: .ref k :: st) hi g Φ := AP.callVr (As := [.int a0]) (q := (RX8, TX8, 6)) hI hc k_X8_findFault_35 d_X8_findFault_28 rfl hs hk rfl rfl hst h
theorem d_X8_findFault_31 : decode cX8_findFault 31 = .ok (.ifCond .ne 23, 3) := by decide +kernel
theorem s_X8_findFault_31 {x : Int32} (h1 : ¬ x = 0 → AP M_X8_findFault b 54 [x0, x1] st hi g Φ) (h2 : x = 0 → AP M_X8_findFault b 34 [x0, x1] st hi g Φ) : AP M_X8_findFault b 31 [x0, x1] (.int x :: st) hi g Φ := AP.if_ne d_X8_findFault_31 (by decide) h1 h2
theorem d_X8_findFault_34 : decode cX8_findFault 34 = .ok (.aload_n 0, 1) := by decide +kernel
theorem s_X8_findFault_34 {n : Nat} (h : AP M_X8_findFault b 35 [.ref n, x1] (.ref n :: st) hi g Φ) : AP M_X8_findFault b 34 [.ref n, x1] (st) hi g Φ := AP.aload_n (x := n) (i := 0) d_X8_findFault_34 rfl rfl h
theorem d_X8_findFault_35 : decode cX8_findFault 35 = .ok (.getfield 19, 3) := by decide +kernel
theorem s_X8_findFault_35 {k : Nat} (hI : am_Inv g) (hs : am_SH k = (0, 8)) (hk : k < 134) (h : AP M_X8_findFault b 38 [x0, x1] (.int (hi k 2) :: st) hi g Φ) : AP M_X8_findFault b 35 [x0, x1] (.ref k :: st) hi g Φ := AP.getI (j := 2) (q := (RX8, TX8, 6)) d_X8_findFault_35 hs (hI.lt hk) rfl (by decide) (by decide) w_294 h
theorem d_X8_findFault_38 : decode cX8_findFault 38 = .ok (.aload_n 0, 1) := by decide +kernel
theorem s_X8_findFault_38 {n : Nat} (h : AP M_X8_findFault b 39 [.ref n, x1] (.ref n :: st) hi g Φ) : AP M_X8_findFault b 38 [.ref n, x1] (st) hi g Φ := AP.aload_n (x := n) (i := 0) d_X8_findFault_38 rfl rfl h
theorem d_X8_findFault_39 : decode cX8_findFault 39 = .ok (.getfield 15, 3) := by decide +kernel
theorem s_X8_findFault_39 {k : Nat} (hI : am_Inv g) (hs : am_SH k = (0, 8)) (hk : k < 134) (h : AP M_X8_findFault b 42 [x0, x1] (.int (hi k 1) :: st) hi g Φ) : AP M_X8_findFault b 39 [x0, x1] (.ref k :: st) hi g Φ := AP.getI (j := 1) (q := (RX8, TX8, 6)) d_X8_findFault_39 hs (hI.lt hk) rfl (by decide) (by decide) w_292 h
theorem d_X8_findFault_42 : decode cX8_findFault 42 = .ok (.if_icmp .ne 7, 3) := by decide +kernel
theorem s_X8_findFault_42 {x y : Int32} (h1 : ¬ x = y → AP M_X8_findFault b 49 [x0, x1] st hi g Φ) (h2 : x = y → AP M_X8_findFault b 45 [x0, x1] st hi g Φ) : AP M_X8_findFault b 42 [x0, x1] (.int y :: .int x :: st) hi g Φ := AP.icmp_ne d_X8_findFault_42 (by decide) h1 h2
theorem d_X8_findFault_45 : decode cX8_findFault 45 = .ok (.iconst (-1), 1) := by decide +kernel
theorem s_X8_findFault_45 (h : AP M_X8_findFault b 46 [x0, x1] (.int (-1) :: st) hi g Φ) : AP M_X8_findFault b 45 [x0, x1] (st) hi g Φ := AP.iconst (x := (-1)) d_X8_findFault_45 (by decide) h
theorem d_X8_findFault_46 : decode cX8_findFault 46 = .ok (.goto 7, 3) := by decide +kernel
theorem s_X8_findFault_46 (h : AP M_X8_findFault b 53 [x0, x1] st hi g Φ) : AP M_X8_findFault b 46 [x0, x1] st hi g Φ := AP.goto d_X8_findFault_46 (by decide) h
theorem d_X8_findFault_49 : decode cX8_findFault 49 = .ok (.aload_n 0, 1) := by decide +kernel
theorem s_X8_findFault_49 {n : Nat} (h : AP M_X8_findFault b 50 [.ref n, x1] (.ref n :: st) hi g Φ) : AP M_X8_findFault b 49 [.ref n, x1] (st) hi g Φ := AP.aload_n (x := n) (i := 0) d_X8_findFault_49 rfl rfl h
theorem d_X8_findFault_50 : decode cX8_findFault 50 = .ok (.getfield 19, 3) := by decide +kernel
theorem s_X8_findFault_50 {k : Nat} (hI : am_Inv g) (hs : am_SH k = (0, 8)) (hk : k < 134) (h : AP M_X8_findFault b 53 [x0, x1] (.int (hi k 2) :: st) hi g Φ) : AP M_X8_findFault b 50 [x0, x1] (.ref k :: st) hi g Φ := AP.getI (j := 2) (q := (RX8, TX8, 6)) d_X8_findFault_50 hs (hI.lt hk) rfl (by decide) (by decide) w_294 h
theorem d_X8_findFault_53 : decode cX8_findFault 53 = .ok (.ireturn, 1) := by decide +kernel
theorem s_X8_findFault_53 {x : Int32} (h : Φ (.ok (some (.int x))) hi g) : AP M_X8_findFault b 53 [x0, x1] [.int x] hi g Φ := AP.iret d_X8_findFault_53 rfl h
theorem d_X8_findFault_54 : decode cX8_findFault 54 = .ok (.iinc 1 1, 3) := by decide +kernel
theorem s_X8_findFault_54 {n : Int32} (hc : x0.category = 1) (h : AP M_X8_findFault b 57 [x0, .int (n + 1)] (st) hi g Φ) : AP M_X8_findFault b 54 [x0, .int n] (st) hi g Φ := AP.iinc (i := 1) (x := n) (y := n + 1) d_X8_findFault_54 rfl rfl (by decide) (by simp [am_st, am_ci, am_cr, am_cl, am_cd, hc]) h
theorem d_X8_findFault_57 : decode cX8_findFault 57 = .ok (.goto (-50), 3) := by decide +kernel
theorem s_X8_findFault_57 (h : AP M_X8_findFault b 7 [x0, x1] st hi g Φ) : AP M_X8_findFault b 57 [x0, x1] st hi g Φ := AP.goto d_X8_findFault_57 (by decide) h
theorem d_X8_findFault_60 : decode cX8_findFault 60 = .ok (.aload_n 0, 1) := by decide +kernel
theorem s_X8_findFault_60 {n : Nat} (h : AP M_X8_findFault b 61 [.ref n, x1] (.ref n :: st) hi g Φ) : AP M_X8_findFault b 60 [.ref n, x1] (st) hi g Φ := AP.aload_n (x := n) (i := 0) d_X8_findFault_60 rfl rfl h
theorem d_X8_findFault_61 : decode cX8_findFault 61 = .ok (.getfield 19, 3) := by decide +kernel
theorem s_X8_findFault_61 {k : Nat} (hI : am_Inv g) (hs : am_SH k = (0, 8)) (hk : k < 134) (h : AP M_X8_findFault b 64 [x0, x1] (.int (hi k 2) :: st) hi g Φ) : AP M_X8_findFault b 61 [x0, x1] (.ref k :: st) hi g Φ := AP.getI (j := 2) (q := (RX8, TX8, 6)) d_X8_findFault_61 hs (hI.lt hk) rfl (by decide) (by decide) w_294 h
theorem d_X8_findFault_64 : decode cX8_findFault 64 = .ok (.ireturn, 1) := by decide +kernel
theorem s_X8_findFault_64 {x : Int32} (h : Φ (.ok (some (.int x))) hi g) : AP M_X8_findFault b 64 [x0, x1] [.int x] hi g Φ := AP.iret d_X8_findFault_64 rfl h
end
