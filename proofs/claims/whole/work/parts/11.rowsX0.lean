/-! ===== rows by program ===== -/
section
variable {b : Nat × Nat} {st : List Value} {hi : am_HI} {g : am_G} {Φ : am_P} {x0 x1 x2 : Value}
theorem d_X0_shownBefore_0 : decode cX0_shownBefore 0 = .ok (.aload_n 0, 1) := by decide +kernel
theorem s_X0_shownBefore_0 {n : Nat} (h : AP M_X0_shownBefore b 1 [.ref n, x1, x2] (.ref n :: st) hi g Φ) : AP M_X0_shownBefore b 0 [.ref n, x1, x2] (st) hi g Φ := AP.aload_n (x := n) (i := 0) d_X0_shownBefore_0 rfl rfl h
theorem d_X0_shownBefore_1 : decode cX0_shownBefore 1 = .ok (.getfield 18, 3) := by decide +kernel
theorem s_X0_shownBefore_1 {k : Nat} (hI : am_Inv g) (hs : am_SH k = (0, 0)) (hk : k < 134) (h : AP M_X0_shownBefore b 4 [x0, x1, x2] (.int (hi k 2) :: st) hi g Φ) : AP M_X0_shownBefore b 1 [x0, x1, x2] (.ref k :: st) hi g Φ := AP.getI (j := 2) (q := (RX0, TX0, 6)) d_X0_shownBefore_1 hs (hI.lt hk) rfl (by decide) (by decide) w_206 h
theorem d_X0_shownBefore_4 : decode cX0_shownBefore 4 = .ok (.iload_n 1, 1) := by decide +kernel
theorem s_X0_shownBefore_4 {n : Int32} (h : AP M_X0_shownBefore b 5 [x0, .int n, x2] (.int n :: st) hi g Φ) : AP M_X0_shownBefore b 4 [x0, .int n, x2] (st) hi g Φ := AP.iload_n (x := n) (i := 1) d_X0_shownBefore_4 rfl rfl h
theorem d_X0_shownBefore_5 : decode cX0_shownBefore 5 = .ok (.isub, 1) := by decide +kernel
theorem s_X0_shownBefore_5 {x y : Int32} (h : AP M_X0_shownBefore b 6 [x0, x1, x2] (.int (x - y) :: st) hi g Φ) : AP M_X0_shownBefore b 5 [x0, x1, x2] (.int y :: .int x :: st) hi g Φ := AP.isub d_X0_shownBefore_5 h
theorem d_X0_shownBefore_6 : decode cX0_shownBefore 6 = .ok (.istore_n 2, 1) := by decide +kernel
theorem s_X0_shownBefore_6 {n : Int32} (hc : x1.category = 1) (h : AP M_X0_shownBefore b 7 [x0, x1, .int n] (st) hi g Φ) : AP M_X0_shownBefore b 6 [x0, x1, x2] (.int n :: st) hi g Φ := AP.istore_n (x := n) (i := 2) d_X0_shownBefore_6 rfl (by decide) (by simp [am_st, am_ci, am_cr, am_cl, am_cd, hc]) h
theorem d_X0_shownBefore_7 : decode cX0_shownBefore 7 = .ok (.iload_n 2, 1) := by decide +kernel
theorem s_X0_shownBefore_7 {n : Int32} (h : AP M_X0_shownBefore b 8 [x0, x1, .int n] (.int n :: st) hi g Φ) : AP M_X0_shownBefore b 7 [x0, x1, .int n] (st) hi g Φ := AP.iload_n (x := n) (i := 2) d_X0_shownBefore_7 rfl rfl h
theorem d_X0_shownBefore_8 : decode cX0_shownBefore 8 = .ok (.ifCond .lt 18, 3) := by decide +kernel
theorem s_X0_shownBefore_8 {x : Int32} (h1 : x < 0 → AP M_X0_shownBefore b 26 [x0, x1, x2] st hi g Φ) (h2 : ¬ x < 0 → AP M_X0_shownBefore b 11 [x0, x1, x2] st hi g Φ) : AP M_X0_shownBefore b 8 [x0, x1, x2] (.int x :: st) hi g Φ := AP.if_lt d_X0_shownBefore_8 (by decide) h1 h2
theorem d_X0_shownBefore_11 : decode cX0_shownBefore 11 = .ok (.iload_n 2, 1) := by decide +kernel
theorem s_X0_shownBefore_11 {n : Int32} (h : AP M_X0_shownBefore b 12 [x0, x1, .int n] (.int n :: st) hi g Φ) : AP M_X0_shownBefore b 11 [x0, x1, .int n] (st) hi g Φ := AP.iload_n (x := n) (i := 2) d_X0_shownBefore_11 rfl rfl h
theorem d_X0_shownBefore_12 : decode cX0_shownBefore 12 = .ok (.bipush 48, 2) := by decide +kernel
theorem s_X0_shownBefore_12 (h : AP M_X0_shownBefore b 14 [x0, x1, x2] (.int 48 :: st) hi g Φ) : AP M_X0_shownBefore b 12 [x0, x1, x2] (st) hi g Φ := AP.bipush (x := 48) d_X0_shownBefore_12 (by decide) h
theorem d_X0_shownBefore_14 : decode cX0_shownBefore 14 = .ok (.if_icmp .ge 12, 3) := by decide +kernel
theorem s_X0_shownBefore_14 {x y : Int32} (h1 : y ≤ x → AP M_X0_shownBefore b 26 [x0, x1, x2] st hi g Φ) (h2 : ¬ y ≤ x → AP M_X0_shownBefore b 17 [x0, x1, x2] st hi g Φ) : AP M_X0_shownBefore b 14 [x0, x1, x2] (.int y :: .int x :: st) hi g Φ := AP.icmp_ge d_X0_shownBefore_14 (by decide) h1 h2
theorem d_X0_shownBefore_17 : decode cX0_shownBefore 17 = .ok (.aload_n 0, 1) := by decide +kernel
theorem s_X0_shownBefore_17 {n : Nat} (h : AP M_X0_shownBefore b 18 [.ref n, x1, x2] (.ref n :: st) hi g Φ) : AP M_X0_shownBefore b 17 [.ref n, x1, x2] (st) hi g Φ := AP.aload_n (x := n) (i := 0) d_X0_shownBefore_17 rfl rfl h
theorem d_X0_shownBefore_18 : decode cX0_shownBefore 18 = .ok (.getfield 9, 3) := by decide +kernel
theorem s_X0_shownBefore_18 {k r : Nat} (hI : am_Inv g) (hs : am_SH k = (0, 0)) (hk : k < 134) (hr : am_HRf k 0 = some r) (hn : k ≠ 39) (h : AP M_X0_shownBefore b 21 [x0, x1, x2] (.ref r :: st) hi g Φ) : AP M_X0_shownBefore b 18 [x0, x1, x2] (.ref k :: st) hi g Φ := AP.getR (j := 0) (q := (RX0, TX0, 6)) d_X0_shownBefore_18 hs (hI.lt hk) rfl (by decide) (by decide) w_202 (hI.r hn hr) h
theorem d_X0_shownBefore_21 : decode cX0_shownBefore 21 = .ok (.iload_n 2, 1) := by decide +kernel
theorem s_X0_shownBefore_21 {n : Int32} (h : AP M_X0_shownBefore b 22 [x0, x1, .int n] (.int n :: st) hi g Φ) : AP M_X0_shownBefore b 21 [x0, x1, .int n] (st) hi g Φ := AP.iload_n (x := n) (i := 2) d_X0_shownBefore_21 rfl rfl h
theorem d_X0_shownBefore_22 : decode cX0_shownBefore 22 = .ok (.iaload, 1) := by decide +kernel
theorem s_X0_shownBefore_22 {k n j : Nat} {i : Int32} (hI : am_Inv g) (hs : am_SH k = (1, n)) (hk : k < 134) (hn : n < 2 ^ 31) (hx : i = nI j) (hj : j < n) (h : AP M_X0_shownBefore b 23 [x0, x1, x2] (.int (hi k j) :: st) hi g Φ) : AP M_X0_shownBefore b 22 [x0, x1, x2] (.int i :: .ref k :: st) hi g Φ := AP.iald d_X0_shownBefore_22 hs (hI.lt hk) hn hx hj h
theorem d_X0_shownBefore_23 : decode cX0_shownBefore 23 = .ok (.goto 4, 3) := by decide +kernel
theorem s_X0_shownBefore_23 (h : AP M_X0_shownBefore b 27 [x0, x1, x2] st hi g Φ) : AP M_X0_shownBefore b 23 [x0, x1, x2] st hi g Φ := AP.goto d_X0_shownBefore_23 (by decide) h
theorem d_X0_shownBefore_26 : decode cX0_shownBefore 26 = .ok (.iconst 0, 1) := by decide +kernel
theorem s_X0_shownBefore_26 (h : AP M_X0_shownBefore b 27 [x0, x1, x2] (.int 0 :: st) hi g Φ) : AP M_X0_shownBefore b 26 [x0, x1, x2] (st) hi g Φ := AP.iconst (x := 0) d_X0_shownBefore_26 (by decide) h
theorem d_X0_shownBefore_27 : decode cX0_shownBefore 27 = .ok (.ireturn, 1) := by decide +kernel
theorem s_X0_shownBefore_27 {x : Int32} (h : Φ (.ok (some (.int x))) hi g) : AP M_X0_shownBefore b 27 [x0, x1, x2] [.int x] hi g Φ := AP.iret d_X0_shownBefore_27 rfl h
end
section
variable {b : Nat × Nat} {st : List Value} {hi : am_HI} {g : am_G} {Φ : am_P} {x0 x1 x2 x3 : Value}
theorem d_X0_adapt_0 : decode cX0_adapt 0 = .ok (.iconst 1, 1) := by decide +kernel
theorem s_X0_adapt_0 (h : AP M_X0_adapt b 1 [x0, x1, x2, x3] (.int 1 :: st) hi g Φ) : AP M_X0_adapt b 0 [x0, x1, x2, x3] (st) hi g Φ := AP.iconst (x := 1) d_X0_adapt_0 (by decide) h
theorem d_X0_adapt_1 : decode cX0_adapt 1 = .ok (.istore_n 2, 1) := by decide +kernel
theorem s_X0_adapt_1 {n : Int32} (hc : x1.category = 1) (h : AP M_X0_adapt b 2 [x0, x1, .int n, x3] (st) hi g Φ) : AP M_X0_adapt b 1 [x0, x1, x2, x3] (.int n :: st) hi g Φ := AP.istore_n (x := n) (i := 2) d_X0_adapt_1 rfl (by decide) (by simp [am_st, am_ci, am_cr, am_cl, am_cd, hc]) h
theorem d_X0_adapt_2 : decode cX0_adapt 2 = .ok (.iload_n 2, 1) := by decide +kernel
theorem s_X0_adapt_2 {n : Int32} (h : AP M_X0_adapt b 3 [x0, x1, .int n, x3] (.int n :: st) hi g Φ) : AP M_X0_adapt b 2 [x0, x1, .int n, x3] (st) hi g Φ := AP.iload_n (x := n) (i := 2) d_X0_adapt_2 rfl rfl h
theorem d_X0_adapt_3 : decode cX0_adapt 3 = .ok (.iconst 4, 1) := by decide +kernel
theorem s_X0_adapt_3 (h : AP M_X0_adapt b 4 [x0, x1, x2, x3] (.int 4 :: st) hi g Φ) : AP M_X0_adapt b 3 [x0, x1, x2, x3] (st) hi g Φ := AP.iconst (x := 4) d_X0_adapt_3 (by decide) h
theorem d_X0_adapt_4 : decode cX0_adapt 4 = .ok (.if_icmp .gt 54, 3) := by decide +kernel
theorem s_X0_adapt_4 {x y : Int32} (h1 : y < x → AP M_X0_adapt b 58 [x0, x1, x2, x3] st hi g Φ) (h2 : ¬ y < x → AP M_X0_adapt b 7 [x0, x1, x2, x3] st hi g Φ) : AP M_X0_adapt b 4 [x0, x1, x2, x3] (.int y :: .int x :: st) hi g Φ := AP.icmp_gt d_X0_adapt_4 (by decide) h1 h2
theorem d_X0_adapt_7 : decode cX0_adapt 7 = .ok (.aload_n 0, 1) := by decide +kernel
theorem s_X0_adapt_7 {n : Nat} (h : AP M_X0_adapt b 8 [.ref n, x1, x2, x3] (.ref n :: st) hi g Φ) : AP M_X0_adapt b 7 [.ref n, x1, x2, x3] (st) hi g Φ := AP.aload_n (x := n) (i := 0) d_X0_adapt_7 rfl rfl h
theorem d_X0_adapt_8 : decode cX0_adapt 8 = .ok (.iload_n 2, 1) := by decide +kernel
theorem s_X0_adapt_8 {n : Int32} (h : AP M_X0_adapt b 9 [x0, x1, .int n, x3] (.int n :: st) hi g Φ) : AP M_X0_adapt b 8 [x0, x1, .int n, x3] (st) hi g Φ := AP.iload_n (x := n) (i := 2) d_X0_adapt_8 rfl rfl h
theorem d_X0_adapt_9 : decode cX0_adapt 9 = .ok (.invokevirtual 40, 3) := by decide +kernel
theorem s_X0_adapt_9 {a0 : Int32} {k : Nat} {r0 : Int32} {P : am_HI → Prop} (hI : am_Inv g) (hs : am_SH k = (0, 0)) (hk : k < 134) (hst : (st.map Value.category).sum ≤ 8) (hc : am_Cr M_X0_shownBefore [.ref k, .int a0] hi g (some (.int r0)) P) (h : ∀ hi' : am_HI, P hi' → AP M_X0_adapt b 12 [x0, x1, x2, x3] (.int r0 :: st) hi' g Φ) : AP M_X0_adapt b 9 [x0, x1, x2, x3] (.int a0 :: .ref k :: st) hi g Φ := AP.callVr (As := [.int a0]) (q := (RX0, TX0, 6)) hI hc k_X0_adapt_40 d_X0_adapt_9 rfl hs hk rfl rfl hst h
theorem d_X0_adapt_12 : decode cX0_adapt 12 = .ok (.istore_n 3, 1) := by decide +kernel
theorem s_X0_adapt_12 {n : Int32} (hc : x2.category = 1) (h : AP M_X0_adapt b 13 [x0, x1, x2, .int n] (st) hi g Φ) : AP M_X0_adapt b 12 [x0, x1, x2, x3] (.int n :: st) hi g Φ := AP.istore_n (x := n) (i := 3) d_X0_adapt_12 rfl (by decide) (by simp [am_st, am_ci, am_cr, am_cl, am_cd, hc]) h
theorem d_X0_adapt_13 : decode cX0_adapt 13 = .ok (.iload_n 1, 1) := by decide +kernel
theorem s_X0_adapt_13 {n : Int32} (h : AP M_X0_adapt b 14 [x0, .int n, x2, x3] (.int n :: st) hi g Φ) : AP M_X0_adapt b 13 [x0, .int n, x2, x3] (st) hi g Φ := AP.iload_n (x := n) (i := 1) d_X0_adapt_13 rfl rfl h
theorem d_X0_adapt_14 : decode cX0_adapt 14 = .ok (.ifCond .eq 38, 3) := by decide +kernel
theorem s_X0_adapt_14 {x : Int32} (h1 : x = 0 → AP M_X0_adapt b 52 [x0, x1, x2, x3] st hi g Φ) (h2 : ¬ x = 0 → AP M_X0_adapt b 17 [x0, x1, x2, x3] st hi g Φ) : AP M_X0_adapt b 14 [x0, x1, x2, x3] (.int x :: st) hi g Φ := AP.if_eq d_X0_adapt_14 (by decide) h1 h2
theorem d_X0_adapt_17 : decode cX0_adapt 17 = .ok (.iload_n 3, 1) := by decide +kernel
theorem s_X0_adapt_17 {n : Int32} (h : AP M_X0_adapt b 18 [x0, x1, x2, .int n] (.int n :: st) hi g Φ) : AP M_X0_adapt b 17 [x0, x1, x2, .int n] (st) hi g Φ := AP.iload_n (x := n) (i := 3) d_X0_adapt_17 rfl rfl h
theorem d_X0_adapt_18 : decode cX0_adapt 18 = .ok (.ifCond .eq 34, 3) := by decide +kernel
theorem s_X0_adapt_18 {x : Int32} (h1 : x = 0 → AP M_X0_adapt b 52 [x0, x1, x2, x3] st hi g Φ) (h2 : ¬ x = 0 → AP M_X0_adapt b 21 [x0, x1, x2, x3] st hi g Φ) : AP M_X0_adapt b 18 [x0, x1, x2, x3] (.int x :: st) hi g Φ := AP.if_eq d_X0_adapt_18 (by decide) h1 h2
theorem d_X0_adapt_21 : decode cX0_adapt 21 = .ok (.aload_n 0, 1) := by decide +kernel
theorem s_X0_adapt_21 {n : Nat} (h : AP M_X0_adapt b 22 [.ref n, x1, x2, x3] (.ref n :: st) hi g Φ) : AP M_X0_adapt b 21 [.ref n, x1, x2, x3] (st) hi g Φ := AP.aload_n (x := n) (i := 0) d_X0_adapt_21 rfl rfl h
theorem d_X0_adapt_22 : decode cX0_adapt 22 = .ok (.getfield 15, 3) := by decide +kernel
theorem s_X0_adapt_22 {k r : Nat} (hI : am_Inv g) (hs : am_SH k = (0, 0)) (hk : k < 134) (hr : am_HRf k 1 = some r) (hn : k ≠ 39) (h : AP M_X0_adapt b 25 [x0, x1, x2, x3] (.ref r :: st) hi g Φ) : AP M_X0_adapt b 22 [x0, x1, x2, x3] (.ref k :: st) hi g Φ := AP.getR (j := 1) (q := (RX0, TX0, 6)) d_X0_adapt_22 hs (hI.lt hk) rfl (by decide) (by decide) w_204 (hI.r hn hr) h
theorem d_X0_adapt_25 : decode cX0_adapt 25 = .ok (.iload_n 2, 1) := by decide +kernel
theorem s_X0_adapt_25 {n : Int32} (h : AP M_X0_adapt b 26 [x0, x1, .int n, x3] (.int n :: st) hi g Φ) : AP M_X0_adapt b 25 [x0, x1, .int n, x3] (st) hi g Φ := AP.iload_n (x := n) (i := 2) d_X0_adapt_25 rfl rfl h
theorem d_X0_adapt_26 : decode cX0_adapt 26 = .ok (.iconst 1, 1) := by decide +kernel
theorem s_X0_adapt_26 (h : AP M_X0_adapt b 27 [x0, x1, x2, x3] (.int 1 :: st) hi g Φ) : AP M_X0_adapt b 26 [x0, x1, x2, x3] (st) hi g Φ := AP.iconst (x := 1) d_X0_adapt_26 (by decide) h
theorem d_X0_adapt_27 : decode cX0_adapt 27 = .ok (.isub, 1) := by decide +kernel
theorem s_X0_adapt_27 {x y : Int32} (h : AP M_X0_adapt b 28 [x0, x1, x2, x3] (.int (x - y) :: st) hi g Φ) : AP M_X0_adapt b 27 [x0, x1, x2, x3] (.int y :: .int x :: st) hi g Φ := AP.isub d_X0_adapt_27 h
theorem d_X0_adapt_28 : decode cX0_adapt 28 = .ok (.dup2, 1) := by decide +kernel
theorem s_X0_adapt_28 {u w : Value} (hu : u.category = 1) (hw : w.category = 1) (h : AP M_X0_adapt b 29 [x0, x1, x2, x3] (u :: w :: u :: w :: st) hi g Φ) : AP M_X0_adapt b 28 [x0, x1, x2, x3] (u :: w :: st) hi g Φ := AP.dup2 d_X0_adapt_28 hu hw h
theorem d_X0_adapt_29 : decode cX0_adapt 29 = .ok (.iaload, 1) := by decide +kernel
theorem s_X0_adapt_29 {k n j : Nat} {i : Int32} (hI : am_Inv g) (hs : am_SH k = (1, n)) (hk : k < 134) (hn : n < 2 ^ 31) (hx : i = nI j) (hj : j < n) (h : AP M_X0_adapt b 30 [x0, x1, x2, x3] (.int (hi k j) :: st) hi g Φ) : AP M_X0_adapt b 29 [x0, x1, x2, x3] (.int i :: .ref k :: st) hi g Φ := AP.iald d_X0_adapt_29 hs (hI.lt hk) hn hx hj h
theorem d_X0_adapt_30 : decode cX0_adapt 30 = .ok (.iload_n 1, 1) := by decide +kernel
theorem s_X0_adapt_30 {n : Int32} (h : AP M_X0_adapt b 31 [x0, .int n, x2, x3] (.int n :: st) hi g Φ) : AP M_X0_adapt b 30 [x0, .int n, x2, x3] (st) hi g Φ := AP.iload_n (x := n) (i := 1) d_X0_adapt_30 rfl rfl h
theorem d_X0_adapt_31 : decode cX0_adapt 31 = .ok (.iload_n 3, 1) := by decide +kernel
theorem s_X0_adapt_31 {n : Int32} (h : AP M_X0_adapt b 32 [x0, x1, x2, .int n] (.int n :: st) hi g Φ) : AP M_X0_adapt b 31 [x0, x1, x2, .int n] (st) hi g Φ := AP.iload_n (x := n) (i := 3) d_X0_adapt_31 rfl rfl h
theorem d_X0_adapt_32 : decode cX0_adapt 32 = .ok (.invokestatic 57, 3) := by decide +kernel
theorem s_X0_adapt_32 {a0 : Int32} {a1 : Int32} {r0 : Int32} {P : am_HI → Prop} (hI : am_Inv g) (hst : (st.map Value.category).sum ≤ 8) (hc : am_Cr M_X9_haveSameSign [.int a0, .int a1] hi g (some (.int r0)) P) (h : ∀ hi' : am_HI, P hi' → AP M_X0_adapt b 35 [x0, x1, x2, x3] (.int r0 :: st) hi' g Φ) : AP M_X0_adapt b 32 [x0, x1, x2, x3] (.int a1 :: .int a0 :: st) hi g Φ := AP.callNr (As := [.int a0, .int a1]) hI hc k_X0_adapt_57 d_X0_adapt_32 rfl hst h
theorem d_X0_adapt_35 : decode cX0_adapt 35 = .ok (.ifCond .eq 10, 3) := by decide +kernel
theorem s_X0_adapt_35 {x : Int32} (h1 : x = 0 → AP M_X0_adapt b 45 [x0, x1, x2, x3] st hi g Φ) (h2 : ¬ x = 0 → AP M_X0_adapt b 38 [x0, x1, x2, x3] st hi g Φ) : AP M_X0_adapt b 35 [x0, x1, x2, x3] (.int x :: st) hi g Φ := AP.if_eq d_X0_adapt_35 (by decide) h1 h2
theorem d_X0_adapt_38 : decode cX0_adapt 38 = .ok (.aload_n 0, 1) := by decide +kernel
theorem s_X0_adapt_38 {n : Nat} (h : AP M_X0_adapt b 39 [.ref n, x1, x2, x3] (.ref n :: st) hi g Φ) : AP M_X0_adapt b 38 [.ref n, x1, x2, x3] (st) hi g Φ := AP.aload_n (x := n) (i := 0) d_X0_adapt_38 rfl rfl h
theorem d_X0_adapt_39 : decode cX0_adapt 39 = .ok (.getfield 25, 3) := by decide +kernel
theorem s_X0_adapt_39 {k : Nat} (hI : am_Inv g) (hs : am_SH k = (0, 0)) (hk : k < 134) (h : AP M_X0_adapt b 42 [x0, x1, x2, x3] (.int (hi k 4) :: st) hi g Φ) : AP M_X0_adapt b 39 [x0, x1, x2, x3] (.ref k :: st) hi g Φ := AP.getI (j := 4) (q := (RX0, TX0, 6)) d_X0_adapt_39 hs (hI.lt hk) rfl (by decide) (by decide) w_209 h
theorem d_X0_adapt_42 : decode cX0_adapt 42 = .ok (.goto 8, 3) := by decide +kernel
theorem s_X0_adapt_42 (h : AP M_X0_adapt b 50 [x0, x1, x2, x3] st hi g Φ) : AP M_X0_adapt b 42 [x0, x1, x2, x3] st hi g Φ := AP.goto d_X0_adapt_42 (by decide) h
theorem d_X0_adapt_45 : decode cX0_adapt 45 = .ok (.aload_n 0, 1) := by decide +kernel
theorem s_X0_adapt_45 {n : Nat} (h : AP M_X0_adapt b 46 [.ref n, x1, x2, x3] (.ref n :: st) hi g Φ) : AP M_X0_adapt b 45 [.ref n, x1, x2, x3] (st) hi g Φ := AP.aload_n (x := n) (i := 0) d_X0_adapt_45 rfl rfl h
theorem d_X0_adapt_46 : decode cX0_adapt 46 = .ok (.getfield 25, 3) := by decide +kernel
theorem s_X0_adapt_46 {k : Nat} (hI : am_Inv g) (hs : am_SH k = (0, 0)) (hk : k < 134) (h : AP M_X0_adapt b 49 [x0, x1, x2, x3] (.int (hi k 4) :: st) hi g Φ) : AP M_X0_adapt b 46 [x0, x1, x2, x3] (.ref k :: st) hi g Φ := AP.getI (j := 4) (q := (RX0, TX0, 6)) d_X0_adapt_46 hs (hI.lt hk) rfl (by decide) (by decide) w_209 h
theorem d_X0_adapt_49 : decode cX0_adapt 49 = .ok (.ineg, 1) := by decide +kernel
theorem s_X0_adapt_49 {x : Int32} (h : AP M_X0_adapt b 50 [x0, x1, x2, x3] (.int (-x) :: st) hi g Φ) : AP M_X0_adapt b 49 [x0, x1, x2, x3] (.int x :: st) hi g Φ := AP.ineg d_X0_adapt_49 h
theorem d_X0_adapt_50 : decode cX0_adapt 50 = .ok (.iadd, 1) := by decide +kernel
theorem s_X0_adapt_50 {x y : Int32} (h : AP M_X0_adapt b 51 [x0, x1, x2, x3] (.int (x + y) :: st) hi g Φ) : AP M_X0_adapt b 50 [x0, x1, x2, x3] (.int y :: .int x :: st) hi g Φ := AP.iadd d_X0_adapt_50 h
theorem d_X0_adapt_51 : decode cX0_adapt 51 = .ok (.iastore, 1) := by decide +kernel
theorem s_X0_adapt_51 {k n j : Nat} {i x : Int32} (hI : am_Inv g) (hs : am_SH k = (1, n)) (hk : k < 134) (hn : n < 2 ^ 31) (hx : i = nI j) (hj : j < n) (h : AP M_X0_adapt b 52 [x0, x1, x2, x3] (st) (am_up hi k j x) g Φ) : AP M_X0_adapt b 51 [x0, x1, x2, x3] (.int x :: .int i :: .ref k :: st) hi g Φ := AP.iast d_X0_adapt_51 hs (hI.lt hk) hn hx hj h
theorem d_X0_adapt_52 : decode cX0_adapt 52 = .ok (.iinc 2 1, 3) := by decide +kernel
theorem s_X0_adapt_52 {n : Int32} (hc : x1.category = 1) (h : AP M_X0_adapt b 55 [x0, x1, .int (n + 1), x3] (st) hi g Φ) : AP M_X0_adapt b 52 [x0, x1, .int n, x3] (st) hi g Φ := AP.iinc (i := 2) (x := n) (y := n + 1) d_X0_adapt_52 rfl rfl (by decide) (by simp [am_st, am_ci, am_cr, am_cl, am_cd, hc]) h
theorem d_X0_adapt_55 : decode cX0_adapt 55 = .ok (.goto (-53), 3) := by decide +kernel
theorem s_X0_adapt_55 (h : AP M_X0_adapt b 2 [x0, x1, x2, x3] st hi g Φ) : AP M_X0_adapt b 55 [x0, x1, x2, x3] st hi g Φ := AP.goto d_X0_adapt_55 (by decide) h
theorem d_X0_adapt_58 : decode cX0_adapt 58 = .ok (.return_, 1) := by decide +kernel
theorem s_X0_adapt_58 (h : Φ (.ok none) hi g) : AP M_X0_adapt b 58 [x0, x1, x2, x3] [] hi g Φ := AP.vret d_X0_adapt_58 rfl h
end
section
variable {b : Nat × Nat} {st : List Value} {hi : am_HI} {g : am_G} {Φ : am_P} {x0 x1 : Value}
theorem d_X0_foretell_0 : decode cX0_foretell 0 = .ok (.iload_n 1, 1) := by decide +kernel
theorem s_X0_foretell_0 {n : Int32} (h : AP M_X0_foretell b 1 [x0, .int n] (.int n :: st) hi g Φ) : AP M_X0_foretell b 0 [x0, .int n] (st) hi g Φ := AP.iload_n (x := n) (i := 1) d_X0_foretell_0 rfl rfl h
theorem d_X0_foretell_1 : decode cX0_foretell 1 = .ok (.tableswitch 68 1 4 #[31, 37, 54, 63], 31) := by decide +kernel
-- s_X0_foretell_1: .tableswitch 68 1 4 #[31, 37, 54, 63]
theorem d_X0_foretell_32 : decode cX0_foretell 32 = .ok (.aload_n 0, 1) := by decide +kernel
theorem s_X0_foretell_32 {n : Nat} (h : AP M_X0_foretell b 33 [.ref n, x1] (.ref n :: st) hi g Φ) : AP M_X0_foretell b 32 [.ref n, x1] (st) hi g Φ := AP.aload_n (x := n) (i := 0) d_X0_foretell_32 rfl rfl h
theorem d_X0_foretell_33 : decode cX0_foretell 33 = .ok (.iconst 1, 1) := by decide +kernel
theorem s_X0_foretell_33 (h : AP M_X0_foretell b 34 [x0, x1] (.int 1 :: st) hi g Φ) : AP M_X0_foretell b 33 [x0, x1] (st) hi g Φ := AP.iconst (x := 1) d_X0_foretell_33 (by decide) h
theorem d_X0_foretell_34 : decode cX0_foretell 34 = .ok (.invokevirtual 40, 3) := by decide +kernel
theorem s_X0_foretell_34 {a0 : Int32} {k : Nat} {r0 : Int32} {P : am_HI → Prop} (hI : am_Inv g) (hs : am_SH k = (0, 0)) (hk : k < 134) (hst : (st.map Value.category).sum ≤ 8) (hc : am_Cr M_X0_shownBefore [.ref k, .int a0] hi g (some (.int r0)) P) (h : ∀ hi' : am_HI, P hi' → AP M_X0_foretell b 37 [x0, x1] (.int r0 :: st) hi' g Φ) : AP M_X0_foretell b 34 [x0, x1] (.int a0 :: .ref k :: st) hi g Φ := AP.callVr (As := [.int a0]) (q := (RX0, TX0, 6)) hI hc k_X0_foretell_40 d_X0_foretell_34 rfl hs hk rfl rfl hst h
theorem d_X0_foretell_37 : decode cX0_foretell 37 = .ok (.ireturn, 1) := by decide +kernel
theorem s_X0_foretell_37 {x : Int32} (h : Φ (.ok (some (.int x))) hi g) : AP M_X0_foretell b 37 [x0, x1] [.int x] hi g Φ := AP.iret d_X0_foretell_37 rfl h
theorem d_X0_foretell_38 : decode cX0_foretell 38 = .ok (.iconst 2, 1) := by decide +kernel
theorem s_X0_foretell_38 (h : AP M_X0_foretell b 39 [x0, x1] (.int 2 :: st) hi g Φ) : AP M_X0_foretell b 38 [x0, x1] (st) hi g Φ := AP.iconst (x := 2) d_X0_foretell_38 (by decide) h
theorem d_X0_foretell_39 : decode cX0_foretell 39 = .ok (.aload_n 0, 1) := by decide +kernel
theorem s_X0_foretell_39 {n : Nat} (h : AP M_X0_foretell b 40 [.ref n, x1] (.ref n :: st) hi g Φ) : AP M_X0_foretell b 39 [.ref n, x1] (st) hi g Φ := AP.aload_n (x := n) (i := 0) d_X0_foretell_39 rfl rfl h
theorem d_X0_foretell_40 : decode cX0_foretell 40 = .ok (.iconst 1, 1) := by decide +kernel
theorem s_X0_foretell_40 (h : AP M_X0_foretell b 41 [x0, x1] (.int 1 :: st) hi g Φ) : AP M_X0_foretell b 40 [x0, x1] (st) hi g Φ := AP.iconst (x := 1) d_X0_foretell_40 (by decide) h
theorem d_X0_foretell_41 : decode cX0_foretell 41 = .ok (.invokevirtual 40, 3) := by decide +kernel
theorem s_X0_foretell_41 {a0 : Int32} {k : Nat} {r0 : Int32} {P : am_HI → Prop} (hI : am_Inv g) (hs : am_SH k = (0, 0)) (hk : k < 134) (hst : (st.map Value.category).sum ≤ 8) (hc : am_Cr M_X0_shownBefore [.ref k, .int a0] hi g (some (.int r0)) P) (h : ∀ hi' : am_HI, P hi' → AP M_X0_foretell b 44 [x0, x1] (.int r0 :: st) hi' g Φ) : AP M_X0_foretell b 41 [x0, x1] (.int a0 :: .ref k :: st) hi g Φ := AP.callVr (As := [.int a0]) (q := (RX0, TX0, 6)) hI hc k_X0_foretell_40 d_X0_foretell_41 rfl hs hk rfl rfl hst h
theorem d_X0_foretell_44 : decode cX0_foretell 44 = .ok (.imul, 1) := by decide +kernel
theorem s_X0_foretell_44 {x y : Int32} (h : AP M_X0_foretell b 45 [x0, x1] (.int (x * y) :: st) hi g Φ) : AP M_X0_foretell b 44 [x0, x1] (.int y :: .int x :: st) hi g Φ := AP.imul d_X0_foretell_44 h
theorem d_X0_foretell_45 : decode cX0_foretell 45 = .ok (.aload_n 0, 1) := by decide +kernel
theorem s_X0_foretell_45 {n : Nat} (h : AP M_X0_foretell b 46 [.ref n, x1] (.ref n :: st) hi g Φ) : AP M_X0_foretell b 45 [.ref n, x1] (st) hi g Φ := AP.aload_n (x := n) (i := 0) d_X0_foretell_45 rfl rfl h
theorem d_X0_foretell_46 : decode cX0_foretell 46 = .ok (.iconst 2, 1) := by decide +kernel
theorem s_X0_foretell_46 (h : AP M_X0_foretell b 47 [x0, x1] (.int 2 :: st) hi g Φ) : AP M_X0_foretell b 46 [x0, x1] (st) hi g Φ := AP.iconst (x := 2) d_X0_foretell_46 (by decide) h
theorem d_X0_foretell_47 : decode cX0_foretell 47 = .ok (.invokevirtual 40, 3) := by decide +kernel
theorem s_X0_foretell_47 {a0 : Int32} {k : Nat} {r0 : Int32} {P : am_HI → Prop} (hI : am_Inv g) (hs : am_SH k = (0, 0)) (hk : k < 134) (hst : (st.map Value.category).sum ≤ 8) (hc : am_Cr M_X0_shownBefore [.ref k, .int a0] hi g (some (.int r0)) P) (h : ∀ hi' : am_HI, P hi' → AP M_X0_foretell b 50 [x0, x1] (.int r0 :: st) hi' g Φ) : AP M_X0_foretell b 47 [x0, x1] (.int a0 :: .ref k :: st) hi g Φ := AP.callVr (As := [.int a0]) (q := (RX0, TX0, 6)) hI hc k_X0_foretell_40 d_X0_foretell_47 rfl hs hk rfl rfl hst h
theorem d_X0_foretell_50 : decode cX0_foretell 50 = .ok (.isub, 1) := by decide +kernel
theorem s_X0_foretell_50 {x y : Int32} (h : AP M_X0_foretell b 51 [x0, x1] (.int (x - y) :: st) hi g Φ) : AP M_X0_foretell b 50 [x0, x1] (.int y :: .int x :: st) hi g Φ := AP.isub d_X0_foretell_50 h
theorem d_X0_foretell_51 : decode cX0_foretell 51 = .ok (.invokestatic 44, 3) := by decide +kernel
theorem s_X0_foretell_51 {a0 : Int32} {r0 : Int32} {P : am_HI → Prop} (hI : am_Inv g) (hst : (st.map Value.category).sum ≤ 8) (hc : am_Cr M_X9_limit [.int a0] hi g (some (.int r0)) P) (h : ∀ hi' : am_HI, P hi' → AP M_X0_foretell b 54 [x0, x1] (.int r0 :: st) hi' g Φ) : AP M_X0_foretell b 51 [x0, x1] (.int a0 :: st) hi g Φ := AP.callNr (As := [.int a0]) hI hc k_X0_foretell_44 d_X0_foretell_51 rfl hst h
theorem d_X0_foretell_54 : decode cX0_foretell 54 = .ok (.ireturn, 1) := by decide +kernel
theorem s_X0_foretell_54 {x : Int32} (h : Φ (.ok (some (.int x))) hi g) : AP M_X0_foretell b 54 [x0, x1] [.int x] hi g Φ := AP.iret d_X0_foretell_54 rfl h
theorem d_X0_foretell_55 : decode cX0_foretell 55 = .ok (.aload_n 0, 1) := by decide +kernel
theorem s_X0_foretell_55 {n : Nat} (h : AP M_X0_foretell b 56 [.ref n, x1] (.ref n :: st) hi g Φ) : AP M_X0_foretell b 55 [.ref n, x1] (st) hi g Φ := AP.aload_n (x := n) (i := 0) d_X0_foretell_55 rfl rfl h
theorem d_X0_foretell_56 : decode cX0_foretell 56 = .ok (.aload_n 0, 1) := by decide +kernel
theorem s_X0_foretell_56 {n : Nat} (h : AP M_X0_foretell b 57 [.ref n, x1] (.ref n :: st) hi g Φ) : AP M_X0_foretell b 56 [.ref n, x1] (st) hi g Φ := AP.aload_n (x := n) (i := 0) d_X0_foretell_56 rfl rfl h
theorem d_X0_foretell_57 : decode cX0_foretell 57 = .ok (.getfield 22, 3) := by decide +kernel
theorem s_X0_foretell_57 {k : Nat} (hI : am_Inv g) (hs : am_SH k = (0, 0)) (hk : k < 134) (h : AP M_X0_foretell b 60 [x0, x1] (.int (hi k 3) :: st) hi g Φ) : AP M_X0_foretell b 57 [x0, x1] (.ref k :: st) hi g Φ := AP.getI (j := 3) (q := (RX0, TX0, 6)) d_X0_foretell_57 hs (hI.lt hk) rfl (by decide) (by decide) w_208 h
theorem d_X0_foretell_60 : decode cX0_foretell 60 = .ok (.invokevirtual 40, 3) := by decide +kernel
theorem s_X0_foretell_60 {a0 : Int32} {k : Nat} {r0 : Int32} {P : am_HI → Prop} (hI : am_Inv g) (hs : am_SH k = (0, 0)) (hk : k < 134) (hst : (st.map Value.category).sum ≤ 8) (hc : am_Cr M_X0_shownBefore [.ref k, .int a0] hi g (some (.int r0)) P) (h : ∀ hi' : am_HI, P hi' → AP M_X0_foretell b 63 [x0, x1] (.int r0 :: st) hi' g Φ) : AP M_X0_foretell b 60 [x0, x1] (.int a0 :: .ref k :: st) hi g Φ := AP.callVr (As := [.int a0]) (q := (RX0, TX0, 6)) hI hc k_X0_foretell_40 d_X0_foretell_60 rfl hs hk rfl rfl hst h
theorem d_X0_foretell_63 : decode cX0_foretell 63 = .ok (.ireturn, 1) := by decide +kernel
theorem s_X0_foretell_63 {x : Int32} (h : Φ (.ok (some (.int x))) hi g) : AP M_X0_foretell b 63 [x0, x1] [.int x] hi g Φ := AP.iret d_X0_foretell_63 rfl h
theorem d_X0_foretell_64 : decode cX0_foretell 64 = .ok (.aload_n 0, 1) := by decide +kernel
theorem s_X0_foretell_64 {n : Nat} (h : AP M_X0_foretell b 65 [.ref n, x1] (.ref n :: st) hi g Φ) : AP M_X0_foretell b 64 [.ref n, x1] (st) hi g Φ := AP.aload_n (x := n) (i := 0) d_X0_foretell_64 rfl rfl h
theorem d_X0_foretell_65 : decode cX0_foretell 65 = .ok (.getfield 28, 3) := by decide +kernel
theorem s_X0_foretell_65 {k : Nat} (hI : am_Inv g) (hs : am_SH k = (0, 0)) (hk : k < 134) (h : AP M_X0_foretell b 68 [x0, x1] (.int (hi k 5) :: st) hi g Φ) : AP M_X0_foretell b 65 [x0, x1] (.ref k :: st) hi g Φ := AP.getI (j := 5) (q := (RX0, TX0, 6)) d_X0_foretell_65 hs (hI.lt hk) rfl (by decide) (by decide) w_210 h
theorem d_X0_foretell_68 : decode cX0_foretell 68 = .ok (.ireturn, 1) := by decide +kernel
theorem s_X0_foretell_68 {x : Int32} (h : Φ (.ok (some (.int x))) hi g) : AP M_X0_foretell b 68 [x0, x1] [.int x] hi g Φ := AP.iret d_X0_foretell_68 rfl h
theorem d_X0_foretell_69 : decode cX0_foretell 69 = .ok (.iconst 0, 1) := by decide +kernel
theorem s_X0_foretell_69 (h : AP M_X0_foretell b 70 [x0, x1] (.int 0 :: st) hi g Φ) : AP M_X0_foretell b 69 [x0, x1] (st) hi g Φ := AP.iconst (x := 0) d_X0_foretell_69 (by decide) h
theorem d_X0_foretell_70 : decode cX0_foretell 70 = .ok (.ireturn, 1) := by decide +kernel
theorem s_X0_foretell_70 {x : Int32} (h : Φ (.ok (some (.int x))) hi g) : AP M_X0_foretell b 70 [x0, x1] [.int x] hi g Φ := AP.iret d_X0_foretell_70 rfl h
end
section
variable {b : Nat × Nat} {st : List Value} {hi : am_HI} {g : am_G} {Φ : am_P} {x0 x1 x2 : Value}
theorem d_X0_weigh_0 : decode cX0_weigh 0 = .ok (.bipush 8, 2) := by decide +kernel
theorem s_X0_weigh_0 (h : AP M_X0_weigh b 2 [x0, x1, x2] (.int 8 :: st) hi g Φ) : AP M_X0_weigh b 0 [x0, x1, x2] (st) hi g Φ := AP.bipush (x := 8) d_X0_weigh_0 (by decide) h
theorem d_X0_weigh_2 : decode cX0_weigh 2 = .ok (.istore_n 1, 1) := by decide +kernel
theorem s_X0_weigh_2 {n : Int32} (hc : x0.category = 1) (h : AP M_X0_weigh b 3 [x0, .int n, x2] (st) hi g Φ) : AP M_X0_weigh b 2 [x0, x1, x2] (.int n :: st) hi g Φ := AP.istore_n (x := n) (i := 1) d_X0_weigh_2 rfl (by decide) (by simp [am_st, am_ci, am_cr, am_cl, am_cd, hc]) h
theorem d_X0_weigh_3 : decode cX0_weigh 3 = .ok (.iconst 1, 1) := by decide +kernel
theorem s_X0_weigh_3 (h : AP M_X0_weigh b 4 [x0, x1, x2] (.int 1 :: st) hi g Φ) : AP M_X0_weigh b 3 [x0, x1, x2] (st) hi g Φ := AP.iconst (x := 1) d_X0_weigh_3 (by decide) h
theorem d_X0_weigh_4 : decode cX0_weigh 4 = .ok (.istore_n 2, 1) := by decide +kernel
theorem s_X0_weigh_4 {n : Int32} (hc : x1.category = 1) (h : AP M_X0_weigh b 5 [x0, x1, .int n] (st) hi g Φ) : AP M_X0_weigh b 4 [x0, x1, x2] (.int n :: st) hi g Φ := AP.istore_n (x := n) (i := 2) d_X0_weigh_4 rfl (by decide) (by simp [am_st, am_ci, am_cr, am_cl, am_cd, hc]) h
theorem d_X0_weigh_5 : decode cX0_weigh 5 = .ok (.iload_n 2, 1) := by decide +kernel
theorem s_X0_weigh_5 {n : Int32} (h : AP M_X0_weigh b 6 [x0, x1, .int n] (.int n :: st) hi g Φ) : AP M_X0_weigh b 5 [x0, x1, .int n] (st) hi g Φ := AP.iload_n (x := n) (i := 2) d_X0_weigh_5 rfl rfl h
theorem d_X0_weigh_6 : decode cX0_weigh 6 = .ok (.iconst 4, 1) := by decide +kernel
theorem s_X0_weigh_6 (h : AP M_X0_weigh b 7 [x0, x1, x2] (.int 4 :: st) hi g Φ) : AP M_X0_weigh b 6 [x0, x1, x2] (st) hi g Φ := AP.iconst (x := 4) d_X0_weigh_6 (by decide) h
theorem d_X0_weigh_7 : decode cX0_weigh 7 = .ok (.if_icmp .gt 26, 3) := by decide +kernel
theorem s_X0_weigh_7 {x y : Int32} (h1 : y < x → AP M_X0_weigh b 33 [x0, x1, x2] st hi g Φ) (h2 : ¬ y < x → AP M_X0_weigh b 10 [x0, x1, x2] st hi g Φ) : AP M_X0_weigh b 7 [x0, x1, x2] (.int y :: .int x :: st) hi g Φ := AP.icmp_gt d_X0_weigh_7 (by decide) h1 h2
theorem d_X0_weigh_10 : decode cX0_weigh 10 = .ok (.iload_n 1, 1) := by decide +kernel
theorem s_X0_weigh_10 {n : Int32} (h : AP M_X0_weigh b 11 [x0, .int n, x2] (.int n :: st) hi g Φ) : AP M_X0_weigh b 10 [x0, .int n, x2] (st) hi g Φ := AP.iload_n (x := n) (i := 1) d_X0_weigh_10 rfl rfl h
theorem d_X0_weigh_11 : decode cX0_weigh 11 = .ok (.aload_n 0, 1) := by decide +kernel
theorem s_X0_weigh_11 {n : Nat} (h : AP M_X0_weigh b 12 [.ref n, x1, x2] (.ref n :: st) hi g Φ) : AP M_X0_weigh b 11 [.ref n, x1, x2] (st) hi g Φ := AP.aload_n (x := n) (i := 0) d_X0_weigh_11 rfl rfl h
theorem d_X0_weigh_12 : decode cX0_weigh 12 = .ok (.getfield 15, 3) := by decide +kernel
theorem s_X0_weigh_12 {k r : Nat} (hI : am_Inv g) (hs : am_SH k = (0, 0)) (hk : k < 134) (hr : am_HRf k 1 = some r) (hn : k ≠ 39) (h : AP M_X0_weigh b 15 [x0, x1, x2] (.ref r :: st) hi g Φ) : AP M_X0_weigh b 12 [x0, x1, x2] (.ref k :: st) hi g Φ := AP.getR (j := 1) (q := (RX0, TX0, 6)) d_X0_weigh_12 hs (hI.lt hk) rfl (by decide) (by decide) w_204 (hI.r hn hr) h
theorem d_X0_weigh_15 : decode cX0_weigh 15 = .ok (.iload_n 2, 1) := by decide +kernel
theorem s_X0_weigh_15 {n : Int32} (h : AP M_X0_weigh b 16 [x0, x1, .int n] (.int n :: st) hi g Φ) : AP M_X0_weigh b 15 [x0, x1, .int n] (st) hi g Φ := AP.iload_n (x := n) (i := 2) d_X0_weigh_15 rfl rfl h
theorem d_X0_weigh_16 : decode cX0_weigh 16 = .ok (.iconst 1, 1) := by decide +kernel
theorem s_X0_weigh_16 (h : AP M_X0_weigh b 17 [x0, x1, x2] (.int 1 :: st) hi g Φ) : AP M_X0_weigh b 16 [x0, x1, x2] (st) hi g Φ := AP.iconst (x := 1) d_X0_weigh_16 (by decide) h
theorem d_X0_weigh_17 : decode cX0_weigh 17 = .ok (.isub, 1) := by decide +kernel
theorem s_X0_weigh_17 {x y : Int32} (h : AP M_X0_weigh b 18 [x0, x1, x2] (.int (x - y) :: st) hi g Φ) : AP M_X0_weigh b 17 [x0, x1, x2] (.int y :: .int x :: st) hi g Φ := AP.isub d_X0_weigh_17 h
theorem d_X0_weigh_18 : decode cX0_weigh 18 = .ok (.iaload, 1) := by decide +kernel
theorem s_X0_weigh_18 {k n j : Nat} {i : Int32} (hI : am_Inv g) (hs : am_SH k = (1, n)) (hk : k < 134) (hn : n < 2 ^ 31) (hx : i = nI j) (hj : j < n) (h : AP M_X0_weigh b 19 [x0, x1, x2] (.int (hi k j) :: st) hi g Φ) : AP M_X0_weigh b 18 [x0, x1, x2] (.int i :: .ref k :: st) hi g Φ := AP.iald d_X0_weigh_18 hs (hI.lt hk) hn hx hj h
theorem d_X0_weigh_19 : decode cX0_weigh 19 = .ok (.aload_n 0, 1) := by decide +kernel
theorem s_X0_weigh_19 {n : Nat} (h : AP M_X0_weigh b 20 [.ref n, x1, x2] (.ref n :: st) hi g Φ) : AP M_X0_weigh b 19 [.ref n, x1, x2] (st) hi g Φ := AP.aload_n (x := n) (i := 0) d_X0_weigh_19 rfl rfl h
theorem d_X0_weigh_20 : decode cX0_weigh 20 = .ok (.iload_n 2, 1) := by decide +kernel
theorem s_X0_weigh_20 {n : Int32} (h : AP M_X0_weigh b 21 [x0, x1, .int n] (.int n :: st) hi g Φ) : AP M_X0_weigh b 20 [x0, x1, .int n] (st) hi g Φ := AP.iload_n (x := n) (i := 2) d_X0_weigh_20 rfl rfl h
theorem d_X0_weigh_21 : decode cX0_weigh 21 = .ok (.invokevirtual 40, 3) := by decide +kernel
theorem s_X0_weigh_21 {a0 : Int32} {k : Nat} {r0 : Int32} {P : am_HI → Prop} (hI : am_Inv g) (hs : am_SH k = (0, 0)) (hk : k < 134) (hst : (st.map Value.category).sum ≤ 8) (hc : am_Cr M_X0_shownBefore [.ref k, .int a0] hi g (some (.int r0)) P) (h : ∀ hi' : am_HI, P hi' → AP M_X0_weigh b 24 [x0, x1, x2] (.int r0 :: st) hi' g Φ) : AP M_X0_weigh b 21 [x0, x1, x2] (.int a0 :: .ref k :: st) hi g Φ := AP.callVr (As := [.int a0]) (q := (RX0, TX0, 6)) hI hc k_X0_weigh_40 d_X0_weigh_21 rfl hs hk rfl rfl hst h
theorem d_X0_weigh_24 : decode cX0_weigh 24 = .ok (.imul, 1) := by decide +kernel
theorem s_X0_weigh_24 {x y : Int32} (h : AP M_X0_weigh b 25 [x0, x1, x2] (.int (x * y) :: st) hi g Φ) : AP M_X0_weigh b 24 [x0, x1, x2] (.int y :: .int x :: st) hi g Φ := AP.imul d_X0_weigh_24 h
theorem d_X0_weigh_25 : decode cX0_weigh 25 = .ok (.iadd, 1) := by decide +kernel
theorem s_X0_weigh_25 {x y : Int32} (h : AP M_X0_weigh b 26 [x0, x1, x2] (.int (x + y) :: st) hi g Φ) : AP M_X0_weigh b 25 [x0, x1, x2] (.int y :: .int x :: st) hi g Φ := AP.iadd d_X0_weigh_25 h
theorem d_X0_weigh_26 : decode cX0_weigh 26 = .ok (.istore_n 1, 1) := by decide +kernel
theorem s_X0_weigh_26 {n : Int32} (hc : x0.category = 1) (h : AP M_X0_weigh b 27 [x0, .int n, x2] (st) hi g Φ) : AP M_X0_weigh b 26 [x0, x1, x2] (.int n :: st) hi g Φ := AP.istore_n (x := n) (i := 1) d_X0_weigh_26 rfl (by decide) (by simp [am_st, am_ci, am_cr, am_cl, am_cd, hc]) h
theorem d_X0_weigh_27 : decode cX0_weigh 27 = .ok (.iinc 2 1, 3) := by decide +kernel
theorem s_X0_weigh_27 {n : Int32} (hc : x1.category = 1) (h : AP M_X0_weigh b 30 [x0, x1, .int (n + 1)] (st) hi g Φ) : AP M_X0_weigh b 27 [x0, x1, .int n] (st) hi g Φ := AP.iinc (i := 2) (x := n) (y := n + 1) d_X0_weigh_27 rfl rfl (by decide) (by simp [am_st, am_ci, am_cr, am_cl, am_cd, hc]) h
theorem d_X0_weigh_30 : decode cX0_weigh 30 = .ok (.goto (-25), 3) := by decide +kernel
theorem s_X0_weigh_30 (h : AP M_X0_weigh b 5 [x0, x1, x2] st hi g Φ) : AP M_X0_weigh b 30 [x0, x1, x2] st hi g Φ := AP.goto d_X0_weigh_30 (by decide) h
theorem d_X0_weigh_33 : decode cX0_weigh 33 = .ok (.aload_n 0, 1) := by decide +kernel
theorem s_X0_weigh_33 {n : Nat} (h : AP M_X0_weigh b 34 [.ref n, x1, x2] (.ref n :: st) hi g Φ) : AP M_X0_weigh b 33 [.ref n, x1, x2] (st) hi g Φ := AP.aload_n (x := n) (i := 0) d_X0_weigh_33 rfl rfl h
theorem d_X0_weigh_34 : decode cX0_weigh 34 = .ok (.iload_n 1, 1) := by decide +kernel
theorem s_X0_weigh_34 {n : Int32} (h : AP M_X0_weigh b 35 [x0, .int n, x2] (.int n :: st) hi g Φ) : AP M_X0_weigh b 34 [x0, .int n, x2] (st) hi g Φ := AP.iload_n (x := n) (i := 1) d_X0_weigh_34 rfl rfl h
theorem d_X0_weigh_35 : decode cX0_weigh 35 = .ok (.bipush 16, 2) := by decide +kernel
theorem s_X0_weigh_35 (h : AP M_X0_weigh b 37 [x0, x1, x2] (.int 16 :: st) hi g Φ) : AP M_X0_weigh b 35 [x0, x1, x2] (st) hi g Φ := AP.bipush (x := 16) d_X0_weigh_35 (by decide) h
theorem d_X0_weigh_37 : decode cX0_weigh 37 = .ok (.invokestatic 51, 3) := by decide +kernel
theorem s_X0_weigh_37 {a0 : Int32} {a1 : Int32} {r0 : Int32} {P : am_HI → Prop} (hI : am_Inv g) (hst : (st.map Value.category).sum ≤ 8) (hc : am_Cr M_J9_floorDiv_7cf53 [.int a0, .int a1] hi g (some (.int r0)) P) (h : ∀ hi' : am_HI, P hi' → AP M_X0_weigh b 40 [x0, x1, x2] (.int r0 :: st) hi' g Φ) : AP M_X0_weigh b 37 [x0, x1, x2] (.int a1 :: .int a0 :: st) hi g Φ := AP.callSr (As := [.int a0, .int a1]) hI hc k_X0_weigh_51 d_X0_weigh_37 rfl hst h
theorem d_X0_weigh_40 : decode cX0_weigh 40 = .ok (.invokestatic 44, 3) := by decide +kernel
theorem s_X0_weigh_40 {a0 : Int32} {r0 : Int32} {P : am_HI → Prop} (hI : am_Inv g) (hst : (st.map Value.category).sum ≤ 8) (hc : am_Cr M_X9_limit [.int a0] hi g (some (.int r0)) P) (h : ∀ hi' : am_HI, P hi' → AP M_X0_weigh b 43 [x0, x1, x2] (.int r0 :: st) hi' g Φ) : AP M_X0_weigh b 40 [x0, x1, x2] (.int a0 :: st) hi g Φ := AP.callNr (As := [.int a0]) hI hc k_X0_weigh_44 d_X0_weigh_40 rfl hst h
theorem d_X0_weigh_43 : decode cX0_weigh 43 = .ok (.putfield 28, 3) := by decide +kernel
theorem s_X0_weigh_43 {k : Nat} {n : Int32} (hI : am_Inv g) (hs : am_SH k = (0, 0)) (hk : k < 134) (h : AP M_X0_weigh b 46 [x0, x1, x2] (st) (am_up hi k 5 n) g Φ) : AP M_X0_weigh b 43 [x0, x1, x2] (.int n :: .ref k :: st) hi g Φ := AP.putI (j := 5) (q := (RX0, TX0, 6)) d_X0_weigh_43 hs (hI.lt hk) rfl (by decide) rfl rfl w_210 h
theorem d_X0_weigh_46 : decode cX0_weigh 46 = .ok (.return_, 1) := by decide +kernel
theorem s_X0_weigh_46 (h : Φ (.ok none) hi g) : AP M_X0_weigh b 46 [x0, x1, x2] [] hi g Φ := AP.vret d_X0_weigh_46 rfl h
end
section
variable {b : Nat × Nat} {st : List Value} {hi : am_HI} {g : am_G} {Φ : am_P} {x0 x1 x2 x3 : Value}
theorem d_X0_begin_0 : decode cX0_begin 0 = .ok (.aload_n 3, 1) := by decide +kernel
theorem s_X0_begin_0 {n : Nat} (h : AP M_X0_begin b 1 [x0, x1, x2, .ref n] (.ref n :: st) hi g Φ) : AP M_X0_begin b 0 [x0, x1, x2, .ref n] (st) hi g Φ := AP.aload_n (x := n) (i := 3) d_X0_begin_0 rfl rfl h
theorem d_X0_begin_1 : decode cX0_begin 1 = .ok (.iconst 0, 1) := by decide +kernel
theorem s_X0_begin_1 (h : AP M_X0_begin b 2 [x0, x1, x2, x3] (.int 0 :: st) hi g Φ) : AP M_X0_begin b 1 [x0, x1, x2, x3] (st) hi g Φ := AP.iconst (x := 0) d_X0_begin_1 (by decide) h
theorem d_X0_begin_2 : decode cX0_begin 2 = .ok (.aload_n 0, 1) := by decide +kernel
theorem s_X0_begin_2 {n : Nat} (h : AP M_X0_begin b 3 [.ref n, x1, x2, x3] (.ref n :: st) hi g Φ) : AP M_X0_begin b 2 [.ref n, x1, x2, x3] (st) hi g Φ := AP.aload_n (x := n) (i := 0) d_X0_begin_2 rfl rfl h
theorem d_X0_begin_3 : decode cX0_begin 3 = .ok (.getfield 15, 3) := by decide +kernel
theorem s_X0_begin_3 {k r : Nat} (hI : am_Inv g) (hs : am_SH k = (0, 0)) (hk : k < 134) (hr : am_HRf k 1 = some r) (hn : k ≠ 39) (h : AP M_X0_begin b 6 [x0, x1, x2, x3] (.ref r :: st) hi g Φ) : AP M_X0_begin b 3 [x0, x1, x2, x3] (.ref k :: st) hi g Φ := AP.getR (j := 1) (q := (RX0, TX0, 6)) d_X0_begin_3 hs (hI.lt hk) rfl (by decide) (by decide) w_204 (hI.r hn hr) h
theorem d_X0_begin_6 : decode cX0_begin 6 = .ok (.iconst 0, 1) := by decide +kernel
theorem s_X0_begin_6 (h : AP M_X0_begin b 7 [x0, x1, x2, x3] (.int 0 :: st) hi g Φ) : AP M_X0_begin b 6 [x0, x1, x2, x3] (st) hi g Φ := AP.iconst (x := 0) d_X0_begin_6 (by decide) h
theorem d_X0_begin_7 : decode cX0_begin 7 = .ok (.iconst 4, 1) := by decide +kernel
theorem s_X0_begin_7 (h : AP M_X0_begin b 8 [x0, x1, x2, x3] (.int 4 :: st) hi g Φ) : AP M_X0_begin b 7 [x0, x1, x2, x3] (st) hi g Φ := AP.iconst (x := 4) d_X0_begin_7 (by decide) h
theorem d_X0_begin_8 : decode cX0_begin 8 = .ok (.invokestatic 31, 3) := by decide +kernel
-- s_X0_begin_8: a call apart
theorem d_X0_begin_11 : decode cX0_begin 11 = .ok (.aload_n 0, 1) := by decide +kernel
theorem s_X0_begin_11 {n : Nat} (h : AP M_X0_begin b 12 [.ref n, x1, x2, x3] (.ref n :: st) hi g Φ) : AP M_X0_begin b 11 [.ref n, x1, x2, x3] (st) hi g Φ := AP.aload_n (x := n) (i := 0) d_X0_begin_11 rfl rfl h
theorem d_X0_begin_12 : decode cX0_begin 12 = .ok (.iconst 0, 1) := by decide +kernel
theorem s_X0_begin_12 (h : AP M_X0_begin b 13 [x0, x1, x2, x3] (.int 0 :: st) hi g Φ) : AP M_X0_begin b 12 [x0, x1, x2, x3] (st) hi g Φ := AP.iconst (x := 0) d_X0_begin_12 (by decide) h
theorem d_X0_begin_13 : decode cX0_begin 13 = .ok (.putfield 18, 3) := by decide +kernel
theorem s_X0_begin_13 {k : Nat} {n : Int32} (hI : am_Inv g) (hs : am_SH k = (0, 0)) (hk : k < 134) (h : AP M_X0_begin b 16 [x0, x1, x2, x3] (st) (am_up hi k 2 n) g Φ) : AP M_X0_begin b 13 [x0, x1, x2, x3] (.int n :: .ref k :: st) hi g Φ := AP.putI (j := 2) (q := (RX0, TX0, 6)) d_X0_begin_13 hs (hI.lt hk) rfl (by decide) rfl rfl w_206 h
theorem d_X0_begin_16 : decode cX0_begin 16 = .ok (.aload_n 0, 1) := by decide +kernel
theorem s_X0_begin_16 {n : Nat} (h : AP M_X0_begin b 17 [.ref n, x1, x2, x3] (.ref n :: st) hi g Φ) : AP M_X0_begin b 16 [.ref n, x1, x2, x3] (st) hi g Φ := AP.aload_n (x := n) (i := 0) d_X0_begin_16 rfl rfl h
theorem d_X0_begin_17 : decode cX0_begin 17 = .ok (.iload_n 1, 1) := by decide +kernel
theorem s_X0_begin_17 {n : Int32} (h : AP M_X0_begin b 18 [x0, .int n, x2, x3] (.int n :: st) hi g Φ) : AP M_X0_begin b 17 [x0, .int n, x2, x3] (st) hi g Φ := AP.iload_n (x := n) (i := 1) d_X0_begin_17 rfl rfl h
theorem d_X0_begin_18 : decode cX0_begin 18 = .ok (.putfield 22, 3) := by decide +kernel
theorem s_X0_begin_18 {k : Nat} {n : Int32} (hI : am_Inv g) (hs : am_SH k = (0, 0)) (hk : k < 134) (h : AP M_X0_begin b 21 [x0, x1, x2, x3] (st) (am_up hi k 3 n) g Φ) : AP M_X0_begin b 18 [x0, x1, x2, x3] (.int n :: .ref k :: st) hi g Φ := AP.putI (j := 3) (q := (RX0, TX0, 6)) d_X0_begin_18 hs (hI.lt hk) rfl (by decide) rfl rfl w_208 h
theorem d_X0_begin_21 : decode cX0_begin 21 = .ok (.aload_n 0, 1) := by decide +kernel
theorem s_X0_begin_21 {n : Nat} (h : AP M_X0_begin b 22 [.ref n, x1, x2, x3] (.ref n :: st) hi g Φ) : AP M_X0_begin b 21 [.ref n, x1, x2, x3] (st) hi g Φ := AP.aload_n (x := n) (i := 0) d_X0_begin_21 rfl rfl h
theorem d_X0_begin_22 : decode cX0_begin 22 = .ok (.iload_n 2, 1) := by decide +kernel
theorem s_X0_begin_22 {n : Int32} (h : AP M_X0_begin b 23 [x0, x1, .int n, x3] (.int n :: st) hi g Φ) : AP M_X0_begin b 22 [x0, x1, .int n, x3] (st) hi g Φ := AP.iload_n (x := n) (i := 2) d_X0_begin_22 rfl rfl h
theorem d_X0_begin_23 : decode cX0_begin 23 = .ok (.putfield 25, 3) := by decide +kernel
theorem s_X0_begin_23 {k : Nat} {n : Int32} (hI : am_Inv g) (hs : am_SH k = (0, 0)) (hk : k < 134) (h : AP M_X0_begin b 26 [x0, x1, x2, x3] (st) (am_up hi k 4 n) g Φ) : AP M_X0_begin b 23 [x0, x1, x2, x3] (.int n :: .ref k :: st) hi g Φ := AP.putI (j := 4) (q := (RX0, TX0, 6)) d_X0_begin_23 hs (hI.lt hk) rfl (by decide) rfl rfl w_209 h
theorem d_X0_begin_26 : decode cX0_begin 26 = .ok (.aload_n 0, 1) := by decide +kernel
theorem s_X0_begin_26 {n : Nat} (h : AP M_X0_begin b 27 [.ref n, x1, x2, x3] (.ref n :: st) hi g Φ) : AP M_X0_begin b 26 [.ref n, x1, x2, x3] (st) hi g Φ := AP.aload_n (x := n) (i := 0) d_X0_begin_26 rfl rfl h
theorem d_X0_begin_27 : decode cX0_begin 27 = .ok (.invokevirtual 37, 3) := by decide +kernel
theorem s_X0_begin_27  {k : Nat} {P : am_HI → Prop} (hI : am_Inv g) (hs : am_SH k = (0, 0)) (hk : k < 134) (hst : (st.map Value.category).sum ≤ 8) (hc : am_Cr M_X0_weigh [.ref k] hi g none P) (h : ∀ hi' : am_HI, P hi' → AP M_X0_begin b 30 [x0, x1, x2, x3] (st) hi' g Φ) : AP M_X0_begin b 27 [x0, x1, x2, x3] (.ref k :: st) hi g Φ := AP.callVr (As := []) (q := (RX0, TX0, 6)) hI hc k_X0_begin_37 d_X0_begin_27 rfl hs hk rfl rfl hst h
theorem d_X0_begin_30 : decode cX0_begin 30 = .ok (.return_, 1) := by decide +kernel
theorem s_X0_begin_30 (h : Φ (.ok none) hi g) : AP M_X0_begin b 30 [x0, x1, x2, x3] [] hi g Φ := AP.vret d_X0_begin_30 rfl h
end
section
variable {b : Nat × Nat} {st : List Value} {hi : am_HI} {g : am_G} {Φ : am_P} {x0 x1 : Value}
theorem d_X0_show_0 : decode cX0_show 0 = .ok (.aload_n 0, 1) := by decide +kernel
theorem s_X0_show_0 {n : Nat} (h : AP M_X0_show b 1 [.ref n, x1] (.ref n :: st) hi g Φ) : AP M_X0_show b 0 [.ref n, x1] (st) hi g Φ := AP.aload_n (x := n) (i := 0) d_X0_show_0 rfl rfl h
theorem d_X0_show_1 : decode cX0_show 1 = .ok (.iload_n 1, 1) := by decide +kernel
theorem s_X0_show_1 {n : Int32} (h : AP M_X0_show b 2 [x0, .int n] (.int n :: st) hi g Φ) : AP M_X0_show b 1 [x0, .int n] (st) hi g Φ := AP.iload_n (x := n) (i := 1) d_X0_show_1 rfl rfl h
theorem d_X0_show_2 : decode cX0_show 2 = .ok (.aload_n 0, 1) := by decide +kernel
theorem s_X0_show_2 {n : Nat} (h : AP M_X0_show b 3 [.ref n, x1] (.ref n :: st) hi g Φ) : AP M_X0_show b 2 [.ref n, x1] (st) hi g Φ := AP.aload_n (x := n) (i := 0) d_X0_show_2 rfl rfl h
theorem d_X0_show_3 : decode cX0_show 3 = .ok (.getfield 28, 3) := by decide +kernel
theorem s_X0_show_3 {k : Nat} (hI : am_Inv g) (hs : am_SH k = (0, 0)) (hk : k < 134) (h : AP M_X0_show b 6 [x0, x1] (.int (hi k 5) :: st) hi g Φ) : AP M_X0_show b 3 [x0, x1] (.ref k :: st) hi g Φ := AP.getI (j := 5) (q := (RX0, TX0, 6)) d_X0_show_3 hs (hI.lt hk) rfl (by decide) (by decide) w_210 h
theorem d_X0_show_6 : decode cX0_show 6 = .ok (.isub, 1) := by decide +kernel
theorem s_X0_show_6 {x y : Int32} (h : AP M_X0_show b 7 [x0, x1] (.int (x - y) :: st) hi g Φ) : AP M_X0_show b 6 [x0, x1] (.int y :: .int x :: st) hi g Φ := AP.isub d_X0_show_6 h
theorem d_X0_show_7 : decode cX0_show 7 = .ok (.invokevirtual 47, 3) := by decide +kernel
theorem s_X0_show_7 {a0 : Int32} {k : Nat} {P : am_HI → Prop} (hI : am_Inv g) (hs : am_SH k = (0, 0)) (hk : k < 134) (hst : (st.map Value.category).sum ≤ 8) (hc : am_Cr M_X0_adapt [.ref k, .int a0] hi g none P) (h : ∀ hi' : am_HI, P hi' → AP M_X0_show b 10 [x0, x1] (st) hi' g Φ) : AP M_X0_show b 7 [x0, x1] (.int a0 :: .ref k :: st) hi g Φ := AP.callVr (As := [.int a0]) (q := (RX0, TX0, 6)) hI hc k_X0_show_47 d_X0_show_7 rfl hs hk rfl rfl hst h
theorem d_X0_show_10 : decode cX0_show 10 = .ok (.aload_n 0, 1) := by decide +kernel
theorem s_X0_show_10 {n : Nat} (h : AP M_X0_show b 11 [.ref n, x1] (.ref n :: st) hi g Φ) : AP M_X0_show b 10 [.ref n, x1] (st) hi g Φ := AP.aload_n (x := n) (i := 0) d_X0_show_10 rfl rfl h
theorem d_X0_show_11 : decode cX0_show 11 = .ok (.getfield 18, 3) := by decide +kernel
theorem s_X0_show_11 {k : Nat} (hI : am_Inv g) (hs : am_SH k = (0, 0)) (hk : k < 134) (h : AP M_X0_show b 14 [x0, x1] (.int (hi k 2) :: st) hi g Φ) : AP M_X0_show b 11 [x0, x1] (.ref k :: st) hi g Φ := AP.getI (j := 2) (q := (RX0, TX0, 6)) d_X0_show_11 hs (hI.lt hk) rfl (by decide) (by decide) w_206 h
theorem d_X0_show_14 : decode cX0_show 14 = .ok (.bipush 48, 2) := by decide +kernel
theorem s_X0_show_14 (h : AP M_X0_show b 16 [x0, x1] (.int 48 :: st) hi g Φ) : AP M_X0_show b 14 [x0, x1] (st) hi g Φ := AP.bipush (x := 48) d_X0_show_14 (by decide) h
theorem d_X0_show_16 : decode cX0_show 16 = .ok (.if_icmp .ge 23, 3) := by decide +kernel
theorem s_X0_show_16 {x y : Int32} (h1 : y ≤ x → AP M_X0_show b 39 [x0, x1] st hi g Φ) (h2 : ¬ y ≤ x → AP M_X0_show b 19 [x0, x1] st hi g Φ) : AP M_X0_show b 16 [x0, x1] (.int y :: .int x :: st) hi g Φ := AP.icmp_ge d_X0_show_16 (by decide) h1 h2
theorem d_X0_show_19 : decode cX0_show 19 = .ok (.aload_n 0, 1) := by decide +kernel
theorem s_X0_show_19 {n : Nat} (h : AP M_X0_show b 20 [.ref n, x1] (.ref n :: st) hi g Φ) : AP M_X0_show b 19 [.ref n, x1] (st) hi g Φ := AP.aload_n (x := n) (i := 0) d_X0_show_19 rfl rfl h
theorem d_X0_show_20 : decode cX0_show 20 = .ok (.getfield 9, 3) := by decide +kernel
theorem s_X0_show_20 {k r : Nat} (hI : am_Inv g) (hs : am_SH k = (0, 0)) (hk : k < 134) (hr : am_HRf k 0 = some r) (hn : k ≠ 39) (h : AP M_X0_show b 23 [x0, x1] (.ref r :: st) hi g Φ) : AP M_X0_show b 20 [x0, x1] (.ref k :: st) hi g Φ := AP.getR (j := 0) (q := (RX0, TX0, 6)) d_X0_show_20 hs (hI.lt hk) rfl (by decide) (by decide) w_202 (hI.r hn hr) h
theorem d_X0_show_23 : decode cX0_show 23 = .ok (.aload_n 0, 1) := by decide +kernel
theorem s_X0_show_23 {n : Nat} (h : AP M_X0_show b 24 [.ref n, x1] (.ref n :: st) hi g Φ) : AP M_X0_show b 23 [.ref n, x1] (st) hi g Φ := AP.aload_n (x := n) (i := 0) d_X0_show_23 rfl rfl h
theorem d_X0_show_24 : decode cX0_show 24 = .ok (.getfield 18, 3) := by decide +kernel
theorem s_X0_show_24 {k : Nat} (hI : am_Inv g) (hs : am_SH k = (0, 0)) (hk : k < 134) (h : AP M_X0_show b 27 [x0, x1] (.int (hi k 2) :: st) hi g Φ) : AP M_X0_show b 24 [x0, x1] (.ref k :: st) hi g Φ := AP.getI (j := 2) (q := (RX0, TX0, 6)) d_X0_show_24 hs (hI.lt hk) rfl (by decide) (by decide) w_206 h
theorem d_X0_show_27 : decode cX0_show 27 = .ok (.iload_n 1, 1) := by decide +kernel
theorem s_X0_show_27 {n : Int32} (h : AP M_X0_show b 28 [x0, .int n] (.int n :: st) hi g Φ) : AP M_X0_show b 27 [x0, .int n] (st) hi g Φ := AP.iload_n (x := n) (i := 1) d_X0_show_27 rfl rfl h
theorem d_X0_show_28 : decode cX0_show 28 = .ok (.iastore, 1) := by decide +kernel
theorem s_X0_show_28 {k n j : Nat} {i x : Int32} (hI : am_Inv g) (hs : am_SH k = (1, n)) (hk : k < 134) (hn : n < 2 ^ 31) (hx : i = nI j) (hj : j < n) (h : AP M_X0_show b 29 [x0, x1] (st) (am_up hi k j x) g Φ) : AP M_X0_show b 28 [x0, x1] (.int x :: .int i :: .ref k :: st) hi g Φ := AP.iast d_X0_show_28 hs (hI.lt hk) hn hx hj h
theorem d_X0_show_29 : decode cX0_show 29 = .ok (.aload_n 0, 1) := by decide +kernel
theorem s_X0_show_29 {n : Nat} (h : AP M_X0_show b 30 [.ref n, x1] (.ref n :: st) hi g Φ) : AP M_X0_show b 29 [.ref n, x1] (st) hi g Φ := AP.aload_n (x := n) (i := 0) d_X0_show_29 rfl rfl h
theorem d_X0_show_30 : decode cX0_show 30 = .ok (.dup, 1) := by decide +kernel
theorem s_X0_show_30 {u : Value} (hu : u.category = 1) (h : AP M_X0_show b 31 [x0, x1] (u :: u :: st) hi g Φ) : AP M_X0_show b 30 [x0, x1] (u :: st) hi g Φ := AP.dup d_X0_show_30 hu h
theorem d_X0_show_31 : decode cX0_show 31 = .ok (.getfield 18, 3) := by decide +kernel
theorem s_X0_show_31 {k : Nat} (hI : am_Inv g) (hs : am_SH k = (0, 0)) (hk : k < 134) (h : AP M_X0_show b 34 [x0, x1] (.int (hi k 2) :: st) hi g Φ) : AP M_X0_show b 31 [x0, x1] (.ref k :: st) hi g Φ := AP.getI (j := 2) (q := (RX0, TX0, 6)) d_X0_show_31 hs (hI.lt hk) rfl (by decide) (by decide) w_206 h
theorem d_X0_show_34 : decode cX0_show 34 = .ok (.iconst 1, 1) := by decide +kernel
theorem s_X0_show_34 (h : AP M_X0_show b 35 [x0, x1] (.int 1 :: st) hi g Φ) : AP M_X0_show b 34 [x0, x1] (st) hi g Φ := AP.iconst (x := 1) d_X0_show_34 (by decide) h
theorem d_X0_show_35 : decode cX0_show 35 = .ok (.iadd, 1) := by decide +kernel
theorem s_X0_show_35 {x y : Int32} (h : AP M_X0_show b 36 [x0, x1] (.int (x + y) :: st) hi g Φ) : AP M_X0_show b 35 [x0, x1] (.int y :: .int x :: st) hi g Φ := AP.iadd d_X0_show_35 h
theorem d_X0_show_36 : decode cX0_show 36 = .ok (.putfield 18, 3) := by decide +kernel
theorem s_X0_show_36 {k : Nat} {n : Int32} (hI : am_Inv g) (hs : am_SH k = (0, 0)) (hk : k < 134) (h : AP M_X0_show b 39 [x0, x1] (st) (am_up hi k 2 n) g Φ) : AP M_X0_show b 36 [x0, x1] (.int n :: .ref k :: st) hi g Φ := AP.putI (j := 2) (q := (RX0, TX0, 6)) d_X0_show_36 hs (hI.lt hk) rfl (by decide) rfl rfl w_206 h
theorem d_X0_show_39 : decode cX0_show 39 = .ok (.aload_n 0, 1) := by decide +kernel
theorem s_X0_show_39 {n : Nat} (h : AP M_X0_show b 40 [.ref n, x1] (.ref n :: st) hi g Φ) : AP M_X0_show b 39 [.ref n, x1] (st) hi g Φ := AP.aload_n (x := n) (i := 0) d_X0_show_39 rfl rfl h
theorem d_X0_show_40 : decode cX0_show 40 = .ok (.invokevirtual 37, 3) := by decide +kernel
theorem s_X0_show_40  {k : Nat} {P : am_HI → Prop} (hI : am_Inv g) (hs : am_SH k = (0, 0)) (hk : k < 134) (hst : (st.map Value.category).sum ≤ 8) (hc : am_Cr M_X0_weigh [.ref k] hi g none P) (h : ∀ hi' : am_HI, P hi' → AP M_X0_show b 43 [x0, x1] (st) hi' g Φ) : AP M_X0_show b 40 [x0, x1] (.ref k :: st) hi g Φ := AP.callVr (As := []) (q := (RX0, TX0, 6)) hI hc k_X0_show_37 d_X0_show_40 rfl hs hk rfl rfl hst h
theorem d_X0_show_43 : decode cX0_show 43 = .ok (.return_, 1) := by decide +kernel
theorem s_X0_show_43 (h : Φ (.ok none) hi g) : AP M_X0_show b 43 [x0, x1] [] hi g Φ := AP.vret d_X0_show_43 rfl h
end
