/-! ===== rows by program ===== -/
section
variable {b : Nat × Nat} {st : List Value} {hi : am_HI} {g : am_G} {Φ : am_P} {x0 x1 x2 : Value}
theorem d_X1_forgetOldest_0 : decode cX1_forgetOldest 0 = .ok (.aload_n 0, 1) := by decide +kernel
theorem s_X1_forgetOldest_0 {n : Nat} (h : AP M_X1_forgetOldest b 1 [.ref n, x1, x2] (.ref n :: st) hi g Φ) : AP M_X1_forgetOldest b 0 [.ref n, x1, x2] (st) hi g Φ := AP.aload_n (x := n) (i := 0) d_X1_forgetOldest_0 rfl rfl h
theorem d_X1_forgetOldest_1 : decode cX1_forgetOldest 1 = .ok (.getfield 11, 3) := by decide +kernel
theorem s_X1_forgetOldest_1 {k r : Nat} (hI : am_Inv g) (hs : am_SH k = (0, 1)) (hk : k < 134) (hr : am_HRf k 0 = some r) (hn : k ≠ 39) (h : AP M_X1_forgetOldest b 4 [x0, x1, x2] (.ref r :: st) hi g Φ) : AP M_X1_forgetOldest b 1 [x0, x1, x2] (.ref k :: st) hi g Φ := AP.getR (j := 0) (q := (RX1, TX1, 2)) d_X1_forgetOldest_1 hs (hI.lt hk) rfl (by decide) (by decide) w_261 (hI.r hn hr) h
theorem d_X1_forgetOldest_4 : decode cX1_forgetOldest 4 = .ok (.iconst 0, 1) := by decide +kernel
theorem s_X1_forgetOldest_4 (h : AP M_X1_forgetOldest b 5 [x0, x1, x2] (.int 0 :: st) hi g Φ) : AP M_X1_forgetOldest b 4 [x0, x1, x2] (st) hi g Φ := AP.iconst (x := 0) d_X1_forgetOldest_4 (by decide) h
theorem d_X1_forgetOldest_5 : decode cX1_forgetOldest 5 = .ok (.aaload, 1) := by decide +kernel
theorem s_X1_forgetOldest_5 {k n j r : Nat} {i : Int32} (hI : am_Inv g) (hs : am_SH k = (6, n)) (hk : k < 134) (hn : n < 2 ^ 31) (hx : i = nI j) (hj : j < n) (hr : g.2.1 k j = some r) (h : AP M_X1_forgetOldest b 6 [x0, x1, x2] (.ref r :: st) hi g Φ) : AP M_X1_forgetOldest b 5 [x0, x1, x2] (.int i :: .ref k :: st) hi g Φ := AP.rald d_X1_forgetOldest_5 hs (hI.lt hk) hn hx hj hr h
theorem s_X1_forgetOldest_5a {k n j r : Nat} {i : Int32} (hI : am_Inv g) (hs : am_SH k = (5, n)) (hk : k < 134) (hn : n < 2 ^ 31) (hx : i = nI j) (hj : j < n) (hr : g.2.1 k j = some r) (h : AP M_X1_forgetOldest b 6 [x0, x1, x2] (.ref r :: st) hi g Φ) : AP M_X1_forgetOldest b 5 [x0, x1, x2] (.int i :: .ref k :: st) hi g Φ := AP.aald d_X1_forgetOldest_5 hs (hI.lt hk) hn hx hj hr h
theorem d_X1_forgetOldest_6 : decode cX1_forgetOldest 6 = .ok (.astore_n 1, 1) := by decide +kernel
theorem s_X1_forgetOldest_6 {n : Nat} (hc : x0.category = 1) (h : AP M_X1_forgetOldest b 7 [x0, .ref n, x2] (st) hi g Φ) : AP M_X1_forgetOldest b 6 [x0, x1, x2] (.ref n :: st) hi g Φ := AP.astore_n (x := n) (i := 1) d_X1_forgetOldest_6 rfl (by decide) (by simp [am_st, am_ci, am_cr, am_cl, am_cd, hc]) h
theorem d_X1_forgetOldest_7 : decode cX1_forgetOldest 7 = .ok (.iconst 1, 1) := by decide +kernel
theorem s_X1_forgetOldest_7 (h : AP M_X1_forgetOldest b 8 [x0, x1, x2] (.int 1 :: st) hi g Φ) : AP M_X1_forgetOldest b 7 [x0, x1, x2] (st) hi g Φ := AP.iconst (x := 1) d_X1_forgetOldest_7 (by decide) h
theorem d_X1_forgetOldest_8 : decode cX1_forgetOldest 8 = .ok (.istore_n 2, 1) := by decide +kernel
theorem s_X1_forgetOldest_8 {n : Int32} (hc : x1.category = 1) (h : AP M_X1_forgetOldest b 9 [x0, x1, .int n] (st) hi g Φ) : AP M_X1_forgetOldest b 8 [x0, x1, x2] (.int n :: st) hi g Φ := AP.istore_n (x := n) (i := 2) d_X1_forgetOldest_8 rfl (by decide) (by simp [am_st, am_ci, am_cr, am_cl, am_cd, hc]) h
theorem d_X1_forgetOldest_9 : decode cX1_forgetOldest 9 = .ok (.iload_n 2, 1) := by decide +kernel
theorem s_X1_forgetOldest_9 {n : Int32} (h : AP M_X1_forgetOldest b 10 [x0, x1, .int n] (.int n :: st) hi g Φ) : AP M_X1_forgetOldest b 9 [x0, x1, .int n] (st) hi g Φ := AP.iload_n (x := n) (i := 2) d_X1_forgetOldest_9 rfl rfl h
theorem d_X1_forgetOldest_10 : decode cX1_forgetOldest 10 = .ok (.bipush 6, 2) := by decide +kernel
theorem s_X1_forgetOldest_10 (h : AP M_X1_forgetOldest b 12 [x0, x1, x2] (.int 6 :: st) hi g Φ) : AP M_X1_forgetOldest b 10 [x0, x1, x2] (st) hi g Φ := AP.bipush (x := 6) d_X1_forgetOldest_10 (by decide) h
theorem d_X1_forgetOldest_12 : decode cX1_forgetOldest 12 = .ok (.if_icmp .ge 23, 3) := by decide +kernel
theorem s_X1_forgetOldest_12 {x y : Int32} (h1 : y ≤ x → AP M_X1_forgetOldest b 35 [x0, x1, x2] st hi g Φ) (h2 : ¬ y ≤ x → AP M_X1_forgetOldest b 15 [x0, x1, x2] st hi g Φ) : AP M_X1_forgetOldest b 12 [x0, x1, x2] (.int y :: .int x :: st) hi g Φ := AP.icmp_ge d_X1_forgetOldest_12 (by decide) h1 h2
theorem d_X1_forgetOldest_15 : decode cX1_forgetOldest 15 = .ok (.aload_n 0, 1) := by decide +kernel
theorem s_X1_forgetOldest_15 {n : Nat} (h : AP M_X1_forgetOldest b 16 [.ref n, x1, x2] (.ref n :: st) hi g Φ) : AP M_X1_forgetOldest b 15 [.ref n, x1, x2] (st) hi g Φ := AP.aload_n (x := n) (i := 0) d_X1_forgetOldest_15 rfl rfl h
theorem d_X1_forgetOldest_16 : decode cX1_forgetOldest 16 = .ok (.getfield 11, 3) := by decide +kernel
theorem s_X1_forgetOldest_16 {k r : Nat} (hI : am_Inv g) (hs : am_SH k = (0, 1)) (hk : k < 134) (hr : am_HRf k 0 = some r) (hn : k ≠ 39) (h : AP M_X1_forgetOldest b 19 [x0, x1, x2] (.ref r :: st) hi g Φ) : AP M_X1_forgetOldest b 16 [x0, x1, x2] (.ref k :: st) hi g Φ := AP.getR (j := 0) (q := (RX1, TX1, 2)) d_X1_forgetOldest_16 hs (hI.lt hk) rfl (by decide) (by decide) w_261 (hI.r hn hr) h
theorem d_X1_forgetOldest_19 : decode cX1_forgetOldest 19 = .ok (.iload_n 2, 1) := by decide +kernel
theorem s_X1_forgetOldest_19 {n : Int32} (h : AP M_X1_forgetOldest b 20 [x0, x1, .int n] (.int n :: st) hi g Φ) : AP M_X1_forgetOldest b 19 [x0, x1, .int n] (st) hi g Φ := AP.iload_n (x := n) (i := 2) d_X1_forgetOldest_19 rfl rfl h
theorem d_X1_forgetOldest_20 : decode cX1_forgetOldest 20 = .ok (.iconst 1, 1) := by decide +kernel
theorem s_X1_forgetOldest_20 (h : AP M_X1_forgetOldest b 21 [x0, x1, x2] (.int 1 :: st) hi g Φ) : AP M_X1_forgetOldest b 20 [x0, x1, x2] (st) hi g Φ := AP.iconst (x := 1) d_X1_forgetOldest_20 (by decide) h
theorem d_X1_forgetOldest_21 : decode cX1_forgetOldest 21 = .ok (.isub, 1) := by decide +kernel
theorem s_X1_forgetOldest_21 {x y : Int32} (h : AP M_X1_forgetOldest b 22 [x0, x1, x2] (.int (x - y) :: st) hi g Φ) : AP M_X1_forgetOldest b 21 [x0, x1, x2] (.int y :: .int x :: st) hi g Φ := AP.isub d_X1_forgetOldest_21 h
theorem d_X1_forgetOldest_22 : decode cX1_forgetOldest 22 = .ok (.aload_n 0, 1) := by decide +kernel
theorem s_X1_forgetOldest_22 {n : Nat} (h : AP M_X1_forgetOldest b 23 [.ref n, x1, x2] (.ref n :: st) hi g Φ) : AP M_X1_forgetOldest b 22 [.ref n, x1, x2] (st) hi g Φ := AP.aload_n (x := n) (i := 0) d_X1_forgetOldest_22 rfl rfl h
theorem d_X1_forgetOldest_23 : decode cX1_forgetOldest 23 = .ok (.getfield 11, 3) := by decide +kernel
theorem s_X1_forgetOldest_23 {k r : Nat} (hI : am_Inv g) (hs : am_SH k = (0, 1)) (hk : k < 134) (hr : am_HRf k 0 = some r) (hn : k ≠ 39) (h : AP M_X1_forgetOldest b 26 [x0, x1, x2] (.ref r :: st) hi g Φ) : AP M_X1_forgetOldest b 23 [x0, x1, x2] (.ref k :: st) hi g Φ := AP.getR (j := 0) (q := (RX1, TX1, 2)) d_X1_forgetOldest_23 hs (hI.lt hk) rfl (by decide) (by decide) w_261 (hI.r hn hr) h
theorem d_X1_forgetOldest_26 : decode cX1_forgetOldest 26 = .ok (.iload_n 2, 1) := by decide +kernel
theorem s_X1_forgetOldest_26 {n : Int32} (h : AP M_X1_forgetOldest b 27 [x0, x1, .int n] (.int n :: st) hi g Φ) : AP M_X1_forgetOldest b 26 [x0, x1, .int n] (st) hi g Φ := AP.iload_n (x := n) (i := 2) d_X1_forgetOldest_26 rfl rfl h
theorem d_X1_forgetOldest_27 : decode cX1_forgetOldest 27 = .ok (.aaload, 1) := by decide +kernel
theorem s_X1_forgetOldest_27 {k n j r : Nat} {i : Int32} (hI : am_Inv g) (hs : am_SH k = (6, n)) (hk : k < 134) (hn : n < 2 ^ 31) (hx : i = nI j) (hj : j < n) (hr : g.2.1 k j = some r) (h : AP M_X1_forgetOldest b 28 [x0, x1, x2] (.ref r :: st) hi g Φ) : AP M_X1_forgetOldest b 27 [x0, x1, x2] (.int i :: .ref k :: st) hi g Φ := AP.rald d_X1_forgetOldest_27 hs (hI.lt hk) hn hx hj hr h
theorem s_X1_forgetOldest_27a {k n j r : Nat} {i : Int32} (hI : am_Inv g) (hs : am_SH k = (5, n)) (hk : k < 134) (hn : n < 2 ^ 31) (hx : i = nI j) (hj : j < n) (hr : g.2.1 k j = some r) (h : AP M_X1_forgetOldest b 28 [x0, x1, x2] (.ref r :: st) hi g Φ) : AP M_X1_forgetOldest b 27 [x0, x1, x2] (.int i :: .ref k :: st) hi g Φ := AP.aald d_X1_forgetOldest_27 hs (hI.lt hk) hn hx hj hr h
theorem d_X1_forgetOldest_28 : decode cX1_forgetOldest 28 = .ok (.aastore, 1) := by decide +kernel
-- s_X1_forgetOldest_28: .aastore
theorem d_X1_forgetOldest_29 : decode cX1_forgetOldest 29 = .ok (.iinc 2 1, 3) := by decide +kernel
theorem s_X1_forgetOldest_29 {n : Int32} (hc : x1.category = 1) (h : AP M_X1_forgetOldest b 32 [x0, x1, .int (n + 1)] (st) hi g Φ) : AP M_X1_forgetOldest b 29 [x0, x1, .int n] (st) hi g Φ := AP.iinc (i := 2) (x := n) (y := n + 1) d_X1_forgetOldest_29 rfl rfl (by decide) (by simp [am_st, am_ci, am_cr, am_cl, am_cd, hc]) h
theorem d_X1_forgetOldest_32 : decode cX1_forgetOldest 32 = .ok (.goto (-23), 3) := by decide +kernel
theorem s_X1_forgetOldest_32 (h : AP M_X1_forgetOldest b 9 [x0, x1, x2] st hi g Φ) : AP M_X1_forgetOldest b 32 [x0, x1, x2] st hi g Φ := AP.goto d_X1_forgetOldest_32 (by decide) h
theorem d_X1_forgetOldest_35 : decode cX1_forgetOldest 35 = .ok (.aload_n 0, 1) := by decide +kernel
theorem s_X1_forgetOldest_35 {n : Nat} (h : AP M_X1_forgetOldest b 36 [.ref n, x1, x2] (.ref n :: st) hi g Φ) : AP M_X1_forgetOldest b 35 [.ref n, x1, x2] (st) hi g Φ := AP.aload_n (x := n) (i := 0) d_X1_forgetOldest_35 rfl rfl h
theorem d_X1_forgetOldest_36 : decode cX1_forgetOldest 36 = .ok (.getfield 11, 3) := by decide +kernel
theorem s_X1_forgetOldest_36 {k r : Nat} (hI : am_Inv g) (hs : am_SH k = (0, 1)) (hk : k < 134) (hr : am_HRf k 0 = some r) (hn : k ≠ 39) (h : AP M_X1_forgetOldest b 39 [x0, x1, x2] (.ref r :: st) hi g Φ) : AP M_X1_forgetOldest b 36 [x0, x1, x2] (.ref k :: st) hi g Φ := AP.getR (j := 0) (q := (RX1, TX1, 2)) d_X1_forgetOldest_36 hs (hI.lt hk) rfl (by decide) (by decide) w_261 (hI.r hn hr) h
theorem d_X1_forgetOldest_39 : decode cX1_forgetOldest 39 = .ok (.iconst 5, 1) := by decide +kernel
theorem s_X1_forgetOldest_39 (h : AP M_X1_forgetOldest b 40 [x0, x1, x2] (.int 5 :: st) hi g Φ) : AP M_X1_forgetOldest b 39 [x0, x1, x2] (st) hi g Φ := AP.iconst (x := 5) d_X1_forgetOldest_39 (by decide) h
theorem d_X1_forgetOldest_40 : decode cX1_forgetOldest 40 = .ok (.aload_n 1, 1) := by decide +kernel
theorem s_X1_forgetOldest_40 {n : Nat} (h : AP M_X1_forgetOldest b 41 [x0, .ref n, x2] (.ref n :: st) hi g Φ) : AP M_X1_forgetOldest b 40 [x0, .ref n, x2] (st) hi g Φ := AP.aload_n (x := n) (i := 1) d_X1_forgetOldest_40 rfl rfl h
theorem d_X1_forgetOldest_41 : decode cX1_forgetOldest 41 = .ok (.aastore, 1) := by decide +kernel
-- s_X1_forgetOldest_41: .aastore
theorem d_X1_forgetOldest_42 : decode cX1_forgetOldest 42 = .ok (.aload_n 0, 1) := by decide +kernel
theorem s_X1_forgetOldest_42 {n : Nat} (h : AP M_X1_forgetOldest b 43 [.ref n, x1, x2] (.ref n :: st) hi g Φ) : AP M_X1_forgetOldest b 42 [.ref n, x1, x2] (st) hi g Φ := AP.aload_n (x := n) (i := 0) d_X1_forgetOldest_42 rfl rfl h
theorem d_X1_forgetOldest_43 : decode cX1_forgetOldest 43 = .ok (.iconst 5, 1) := by decide +kernel
theorem s_X1_forgetOldest_43 (h : AP M_X1_forgetOldest b 44 [x0, x1, x2] (.int 5 :: st) hi g Φ) : AP M_X1_forgetOldest b 43 [x0, x1, x2] (st) hi g Φ := AP.iconst (x := 5) d_X1_forgetOldest_43 (by decide) h
theorem d_X1_forgetOldest_44 : decode cX1_forgetOldest 44 = .ok (.putfield 17, 3) := by decide +kernel
theorem s_X1_forgetOldest_44 {k : Nat} {n : Int32} (hI : am_Inv g) (hs : am_SH k = (0, 1)) (hk : k < 134) (h : AP M_X1_forgetOldest b 47 [x0, x1, x2] (st) (am_up hi k 1 n) g Φ) : AP M_X1_forgetOldest b 44 [x0, x1, x2] (.int n :: .ref k :: st) hi g Φ := AP.putI (j := 1) (q := (RX1, TX1, 2)) d_X1_forgetOldest_44 hs (hI.lt hk) rfl (by decide) rfl rfl w_262 h
theorem d_X1_forgetOldest_47 : decode cX1_forgetOldest 47 = .ok (.return_, 1) := by decide +kernel
theorem s_X1_forgetOldest_47 (h : Φ (.ok none) hi g) : AP M_X1_forgetOldest b 47 [x0, x1, x2] [] hi g Φ := AP.vret d_X1_forgetOldest_47 rfl h
end
section
variable {b : Nat × Nat} {st : List Value} {hi : am_HI} {g : am_G} {Φ : am_P} {x0 x1 : Value}
theorem d_X1_restore_0 : decode cX1_restore 0 = .ok (.aload_n 0, 1) := by decide +kernel
theorem s_X1_restore_0 {n : Nat} (h : AP M_X1_restore b 1 [.ref n, x1] (.ref n :: st) hi g Φ) : AP M_X1_restore b 0 [.ref n, x1] (st) hi g Φ := AP.aload_n (x := n) (i := 0) d_X1_restore_0 rfl rfl h
theorem d_X1_restore_1 : decode cX1_restore 1 = .ok (.getfield 17, 3) := by decide +kernel
theorem s_X1_restore_1 {k : Nat} (hI : am_Inv g) (hs : am_SH k = (0, 1)) (hk : k < 134) (h : AP M_X1_restore b 4 [x0, x1] (.int (hi k 1) :: st) hi g Φ) : AP M_X1_restore b 1 [x0, x1] (.ref k :: st) hi g Φ := AP.getI (j := 1) (q := (RX1, TX1, 2)) d_X1_restore_1 hs (hI.lt hk) rfl (by decide) (by decide) w_262 h
theorem d_X1_restore_4 : decode cX1_restore 4 = .ok (.ifCond .le 26, 3) := by decide +kernel
theorem s_X1_restore_4 {x : Int32} (h1 : x ≤ 0 → AP M_X1_restore b 30 [x0, x1] st hi g Φ) (h2 : ¬ x ≤ 0 → AP M_X1_restore b 7 [x0, x1] st hi g Φ) : AP M_X1_restore b 4 [x0, x1] (.int x :: st) hi g Φ := AP.if_le d_X1_restore_4 (by decide) h1 h2
theorem d_X1_restore_7 : decode cX1_restore 7 = .ok (.aload_n 0, 1) := by decide +kernel
theorem s_X1_restore_7 {n : Nat} (h : AP M_X1_restore b 8 [.ref n, x1] (.ref n :: st) hi g Φ) : AP M_X1_restore b 7 [.ref n, x1] (st) hi g Φ := AP.aload_n (x := n) (i := 0) d_X1_restore_7 rfl rfl h
theorem d_X1_restore_8 : decode cX1_restore 8 = .ok (.dup, 1) := by decide +kernel
theorem s_X1_restore_8 {u : Value} (hu : u.category = 1) (h : AP M_X1_restore b 9 [x0, x1] (u :: u :: st) hi g Φ) : AP M_X1_restore b 8 [x0, x1] (u :: st) hi g Φ := AP.dup d_X1_restore_8 hu h
theorem d_X1_restore_9 : decode cX1_restore 9 = .ok (.getfield 17, 3) := by decide +kernel
theorem s_X1_restore_9 {k : Nat} (hI : am_Inv g) (hs : am_SH k = (0, 1)) (hk : k < 134) (h : AP M_X1_restore b 12 [x0, x1] (.int (hi k 1) :: st) hi g Φ) : AP M_X1_restore b 9 [x0, x1] (.ref k :: st) hi g Φ := AP.getI (j := 1) (q := (RX1, TX1, 2)) d_X1_restore_9 hs (hI.lt hk) rfl (by decide) (by decide) w_262 h
theorem d_X1_restore_12 : decode cX1_restore 12 = .ok (.iconst 1, 1) := by decide +kernel
theorem s_X1_restore_12 (h : AP M_X1_restore b 13 [x0, x1] (.int 1 :: st) hi g Φ) : AP M_X1_restore b 12 [x0, x1] (st) hi g Φ := AP.iconst (x := 1) d_X1_restore_12 (by decide) h
theorem d_X1_restore_13 : decode cX1_restore 13 = .ok (.isub, 1) := by decide +kernel
theorem s_X1_restore_13 {x y : Int32} (h : AP M_X1_restore b 14 [x0, x1] (.int (x - y) :: st) hi g Φ) : AP M_X1_restore b 13 [x0, x1] (.int y :: .int x :: st) hi g Φ := AP.isub d_X1_restore_13 h
theorem d_X1_restore_14 : decode cX1_restore 14 = .ok (.putfield 17, 3) := by decide +kernel
theorem s_X1_restore_14 {k : Nat} {n : Int32} (hI : am_Inv g) (hs : am_SH k = (0, 1)) (hk : k < 134) (h : AP M_X1_restore b 17 [x0, x1] (st) (am_up hi k 1 n) g Φ) : AP M_X1_restore b 14 [x0, x1] (.int n :: .ref k :: st) hi g Φ := AP.putI (j := 1) (q := (RX1, TX1, 2)) d_X1_restore_14 hs (hI.lt hk) rfl (by decide) rfl rfl w_262 h
theorem d_X1_restore_17 : decode cX1_restore 17 = .ok (.aload_n 1, 1) := by decide +kernel
theorem s_X1_restore_17 {n : Nat} (h : AP M_X1_restore b 18 [x0, .ref n] (.ref n :: st) hi g Φ) : AP M_X1_restore b 17 [x0, .ref n] (st) hi g Φ := AP.aload_n (x := n) (i := 1) d_X1_restore_17 rfl rfl h
theorem d_X1_restore_18 : decode cX1_restore 18 = .ok (.aload_n 0, 1) := by decide +kernel
theorem s_X1_restore_18 {n : Nat} (h : AP M_X1_restore b 19 [.ref n, x1] (.ref n :: st) hi g Φ) : AP M_X1_restore b 18 [.ref n, x1] (st) hi g Φ := AP.aload_n (x := n) (i := 0) d_X1_restore_18 rfl rfl h
theorem d_X1_restore_19 : decode cX1_restore 19 = .ok (.getfield 11, 3) := by decide +kernel
theorem s_X1_restore_19 {k r : Nat} (hI : am_Inv g) (hs : am_SH k = (0, 1)) (hk : k < 134) (hr : am_HRf k 0 = some r) (hn : k ≠ 39) (h : AP M_X1_restore b 22 [x0, x1] (.ref r :: st) hi g Φ) : AP M_X1_restore b 19 [x0, x1] (.ref k :: st) hi g Φ := AP.getR (j := 0) (q := (RX1, TX1, 2)) d_X1_restore_19 hs (hI.lt hk) rfl (by decide) (by decide) w_261 (hI.r hn hr) h
theorem d_X1_restore_22 : decode cX1_restore 22 = .ok (.aload_n 0, 1) := by decide +kernel
theorem s_X1_restore_22 {n : Nat} (h : AP M_X1_restore b 23 [.ref n, x1] (.ref n :: st) hi g Φ) : AP M_X1_restore b 22 [.ref n, x1] (st) hi g Φ := AP.aload_n (x := n) (i := 0) d_X1_restore_22 rfl rfl h
theorem d_X1_restore_23 : decode cX1_restore 23 = .ok (.getfield 17, 3) := by decide +kernel
theorem s_X1_restore_23 {k : Nat} (hI : am_Inv g) (hs : am_SH k = (0, 1)) (hk : k < 134) (h : AP M_X1_restore b 26 [x0, x1] (.int (hi k 1) :: st) hi g Φ) : AP M_X1_restore b 23 [x0, x1] (.ref k :: st) hi g Φ := AP.getI (j := 1) (q := (RX1, TX1, 2)) d_X1_restore_23 hs (hI.lt hk) rfl (by decide) (by decide) w_262 h
theorem d_X1_restore_26 : decode cX1_restore 26 = .ok (.aaload, 1) := by decide +kernel
theorem s_X1_restore_26 {k n j r : Nat} {i : Int32} (hI : am_Inv g) (hs : am_SH k = (6, n)) (hk : k < 134) (hn : n < 2 ^ 31) (hx : i = nI j) (hj : j < n) (hr : g.2.1 k j = some r) (h : AP M_X1_restore b 27 [x0, x1] (.ref r :: st) hi g Φ) : AP M_X1_restore b 26 [x0, x1] (.int i :: .ref k :: st) hi g Φ := AP.rald d_X1_restore_26 hs (hI.lt hk) hn hx hj hr h
theorem s_X1_restore_26a {k n j r : Nat} {i : Int32} (hI : am_Inv g) (hs : am_SH k = (5, n)) (hk : k < 134) (hn : n < 2 ^ 31) (hx : i = nI j) (hj : j < n) (hr : g.2.1 k j = some r) (h : AP M_X1_restore b 27 [x0, x1] (.ref r :: st) hi g Φ) : AP M_X1_restore b 26 [x0, x1] (.int i :: .ref k :: st) hi g Φ := AP.aald d_X1_restore_26 hs (hI.lt hk) hn hx hj hr h
theorem d_X1_restore_27 : decode cX1_restore 27 = .ok (.invokevirtual 25, 3) := by decide +kernel
theorem s_X1_restore_27 {a0 : Nat} {k : Nat} {P : am_HI → Prop} (hI : am_Inv g) (hs : am_SH k = (0, 6)) (hk : k < 134) (hst : (st.map Value.category).sum ≤ 8) (hc : am_Cr M_X6_copyFrom [.ref k, .ref a0] hi g none P) (h : ∀ hi' : am_HI, P hi' → AP M_X1_restore b 30 [x0, x1] (st) hi' g Φ) : AP M_X1_restore b 27 [x0, x1] (.ref a0 :: .ref k :: st) hi g Φ := AP.callVr (As := [.ref a0]) (q := (RX6, TX6, 8)) hI hc k_X1_restore_25 d_X1_restore_27 rfl hs hk rfl rfl hst h
theorem d_X1_restore_30 : decode cX1_restore 30 = .ok (.return_, 1) := by decide +kernel
theorem s_X1_restore_30 (h : Φ (.ok none) hi g) : AP M_X1_restore b 30 [x0, x1] [] hi g Φ := AP.vret d_X1_restore_30 rfl h
end
section
variable {b : Nat × Nat} {st : List Value} {hi : am_HI} {g : am_G} {Φ : am_P} {x0 x1 : Value}
theorem d_X1_save_0 : decode cX1_save 0 = .ok (.aload_n 0, 1) := by decide +kernel
theorem s_X1_save_0 {n : Nat} (h : AP M_X1_save b 1 [.ref n, x1] (.ref n :: st) hi g Φ) : AP M_X1_save b 0 [.ref n, x1] (st) hi g Φ := AP.aload_n (x := n) (i := 0) d_X1_save_0 rfl rfl h
theorem d_X1_save_1 : decode cX1_save 1 = .ok (.getfield 17, 3) := by decide +kernel
theorem s_X1_save_1 {k : Nat} (hI : am_Inv g) (hs : am_SH k = (0, 1)) (hk : k < 134) (h : AP M_X1_save b 4 [x0, x1] (.int (hi k 1) :: st) hi g Φ) : AP M_X1_save b 1 [x0, x1] (.ref k :: st) hi g Φ := AP.getI (j := 1) (q := (RX1, TX1, 2)) d_X1_save_1 hs (hI.lt hk) rfl (by decide) (by decide) w_262 h
theorem d_X1_save_4 : decode cX1_save 4 = .ok (.bipush 6, 2) := by decide +kernel
theorem s_X1_save_4 (h : AP M_X1_save b 6 [x0, x1] (.int 6 :: st) hi g Φ) : AP M_X1_save b 4 [x0, x1] (st) hi g Φ := AP.bipush (x := 6) d_X1_save_4 (by decide) h
theorem d_X1_save_6 : decode cX1_save 6 = .ok (.if_icmp .lt 7, 3) := by decide +kernel
theorem s_X1_save_6 {x y : Int32} (h1 : x < y → AP M_X1_save b 13 [x0, x1] st hi g Φ) (h2 : ¬ x < y → AP M_X1_save b 9 [x0, x1] st hi g Φ) : AP M_X1_save b 6 [x0, x1] (.int y :: .int x :: st) hi g Φ := AP.icmp_lt d_X1_save_6 (by decide) h1 h2
theorem d_X1_save_9 : decode cX1_save 9 = .ok (.aload_n 0, 1) := by decide +kernel
theorem s_X1_save_9 {n : Nat} (h : AP M_X1_save b 10 [.ref n, x1] (.ref n :: st) hi g Φ) : AP M_X1_save b 9 [.ref n, x1] (st) hi g Φ := AP.aload_n (x := n) (i := 0) d_X1_save_9 rfl rfl h
theorem d_X1_save_10 : decode cX1_save 10 = .ok (.invokevirtual 22, 3) := by decide +kernel
theorem s_X1_save_10  {k : Nat} {P : am_HI → Prop} (hI : am_Inv g) (hs : am_SH k = (0, 1)) (hk : k < 134) (hst : (st.map Value.category).sum ≤ 8) (hc : am_Cr M_X1_forgetOldest [.ref k] hi g none P) (h : ∀ hi' : am_HI, P hi' → AP M_X1_save b 13 [x0, x1] (st) hi' g Φ) : AP M_X1_save b 10 [x0, x1] (.ref k :: st) hi g Φ := AP.callVr (As := []) (q := (RX1, TX1, 2)) hI hc k_X1_save_22 d_X1_save_10 rfl hs hk rfl rfl hst h
theorem d_X1_save_13 : decode cX1_save 13 = .ok (.aload_n 0, 1) := by decide +kernel
theorem s_X1_save_13 {n : Nat} (h : AP M_X1_save b 14 [.ref n, x1] (.ref n :: st) hi g Φ) : AP M_X1_save b 13 [.ref n, x1] (st) hi g Φ := AP.aload_n (x := n) (i := 0) d_X1_save_13 rfl rfl h
theorem d_X1_save_14 : decode cX1_save 14 = .ok (.getfield 11, 3) := by decide +kernel
theorem s_X1_save_14 {k r : Nat} (hI : am_Inv g) (hs : am_SH k = (0, 1)) (hk : k < 134) (hr : am_HRf k 0 = some r) (hn : k ≠ 39) (h : AP M_X1_save b 17 [x0, x1] (.ref r :: st) hi g Φ) : AP M_X1_save b 14 [x0, x1] (.ref k :: st) hi g Φ := AP.getR (j := 0) (q := (RX1, TX1, 2)) d_X1_save_14 hs (hI.lt hk) rfl (by decide) (by decide) w_261 (hI.r hn hr) h
theorem d_X1_save_17 : decode cX1_save 17 = .ok (.aload_n 0, 1) := by decide +kernel
theorem s_X1_save_17 {n : Nat} (h : AP M_X1_save b 18 [.ref n, x1] (.ref n :: st) hi g Φ) : AP M_X1_save b 17 [.ref n, x1] (st) hi g Φ := AP.aload_n (x := n) (i := 0) d_X1_save_17 rfl rfl h
theorem d_X1_save_18 : decode cX1_save 18 = .ok (.getfield 17, 3) := by decide +kernel
theorem s_X1_save_18 {k : Nat} (hI : am_Inv g) (hs : am_SH k = (0, 1)) (hk : k < 134) (h : AP M_X1_save b 21 [x0, x1] (.int (hi k 1) :: st) hi g Φ) : AP M_X1_save b 18 [x0, x1] (.ref k :: st) hi g Φ := AP.getI (j := 1) (q := (RX1, TX1, 2)) d_X1_save_18 hs (hI.lt hk) rfl (by decide) (by decide) w_262 h
theorem d_X1_save_21 : decode cX1_save 21 = .ok (.aaload, 1) := by decide +kernel
theorem s_X1_save_21 {k n j r : Nat} {i : Int32} (hI : am_Inv g) (hs : am_SH k = (6, n)) (hk : k < 134) (hn : n < 2 ^ 31) (hx : i = nI j) (hj : j < n) (hr : g.2.1 k j = some r) (h : AP M_X1_save b 22 [x0, x1] (.ref r :: st) hi g Φ) : AP M_X1_save b 21 [x0, x1] (.int i :: .ref k :: st) hi g Φ := AP.rald d_X1_save_21 hs (hI.lt hk) hn hx hj hr h
theorem s_X1_save_21a {k n j r : Nat} {i : Int32} (hI : am_Inv g) (hs : am_SH k = (5, n)) (hk : k < 134) (hn : n < 2 ^ 31) (hx : i = nI j) (hj : j < n) (hr : g.2.1 k j = some r) (h : AP M_X1_save b 22 [x0, x1] (.ref r :: st) hi g Φ) : AP M_X1_save b 21 [x0, x1] (.int i :: .ref k :: st) hi g Φ := AP.aald d_X1_save_21 hs (hI.lt hk) hn hx hj hr h
theorem d_X1_save_22 : decode cX1_save 22 = .ok (.aload_n 1, 1) := by decide +kernel
theorem s_X1_save_22 {n : Nat} (h : AP M_X1_save b 23 [x0, .ref n] (.ref n :: st) hi g Φ) : AP M_X1_save b 22 [x0, .ref n] (st) hi g Φ := AP.aload_n (x := n) (i := 1) d_X1_save_22 rfl rfl h
theorem d_X1_save_23 : decode cX1_save 23 = .ok (.invokevirtual 25, 3) := by decide +kernel
theorem s_X1_save_23 {a0 : Nat} {k : Nat} {P : am_HI → Prop} (hI : am_Inv g) (hs : am_SH k = (0, 6)) (hk : k < 134) (hst : (st.map Value.category).sum ≤ 8) (hc : am_Cr M_X6_copyFrom [.ref k, .ref a0] hi g none P) (h : ∀ hi' : am_HI, P hi' → AP M_X1_save b 26 [x0, x1] (st) hi' g Φ) : AP M_X1_save b 23 [x0, x1] (.ref a0 :: .ref k :: st) hi g Φ := AP.callVr (As := [.ref a0]) (q := (RX6, TX6, 8)) hI hc k_X1_save_25 d_X1_save_23 rfl hs hk rfl rfl hst h
theorem d_X1_save_26 : decode cX1_save 26 = .ok (.aload_n 0, 1) := by decide +kernel
theorem s_X1_save_26 {n : Nat} (h : AP M_X1_save b 27 [.ref n, x1] (.ref n :: st) hi g Φ) : AP M_X1_save b 26 [.ref n, x1] (st) hi g Φ := AP.aload_n (x := n) (i := 0) d_X1_save_26 rfl rfl h
theorem d_X1_save_27 : decode cX1_save 27 = .ok (.dup, 1) := by decide +kernel
theorem s_X1_save_27 {u : Value} (hu : u.category = 1) (h : AP M_X1_save b 28 [x0, x1] (u :: u :: st) hi g Φ) : AP M_X1_save b 27 [x0, x1] (u :: st) hi g Φ := AP.dup d_X1_save_27 hu h
theorem d_X1_save_28 : decode cX1_save 28 = .ok (.getfield 17, 3) := by decide +kernel
theorem s_X1_save_28 {k : Nat} (hI : am_Inv g) (hs : am_SH k = (0, 1)) (hk : k < 134) (h : AP M_X1_save b 31 [x0, x1] (.int (hi k 1) :: st) hi g Φ) : AP M_X1_save b 28 [x0, x1] (.ref k :: st) hi g Φ := AP.getI (j := 1) (q := (RX1, TX1, 2)) d_X1_save_28 hs (hI.lt hk) rfl (by decide) (by decide) w_262 h
theorem d_X1_save_31 : decode cX1_save 31 = .ok (.iconst 1, 1) := by decide +kernel
theorem s_X1_save_31 (h : AP M_X1_save b 32 [x0, x1] (.int 1 :: st) hi g Φ) : AP M_X1_save b 31 [x0, x1] (st) hi g Φ := AP.iconst (x := 1) d_X1_save_31 (by decide) h
theorem d_X1_save_32 : decode cX1_save 32 = .ok (.iadd, 1) := by decide +kernel
theorem s_X1_save_32 {x y : Int32} (h : AP M_X1_save b 33 [x0, x1] (.int (x + y) :: st) hi g Φ) : AP M_X1_save b 32 [x0, x1] (.int y :: .int x :: st) hi g Φ := AP.iadd d_X1_save_32 h
theorem d_X1_save_33 : decode cX1_save 33 = .ok (.putfield 17, 3) := by decide +kernel
theorem s_X1_save_33 {k : Nat} {n : Int32} (hI : am_Inv g) (hs : am_SH k = (0, 1)) (hk : k < 134) (h : AP M_X1_save b 36 [x0, x1] (st) (am_up hi k 1 n) g Φ) : AP M_X1_save b 33 [x0, x1] (.int n :: .ref k :: st) hi g Φ := AP.putI (j := 1) (q := (RX1, TX1, 2)) d_X1_save_33 hs (hI.lt hk) rfl (by decide) rfl rfl w_262 h
theorem d_X1_save_36 : decode cX1_save 36 = .ok (.return_, 1) := by decide +kernel
theorem s_X1_save_36 (h : Φ (.ok none) hi g) : AP M_X1_save b 36 [x0, x1] [] hi g Φ := AP.vret d_X1_save_36 rfl h
end
