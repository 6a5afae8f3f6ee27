/-! ===== rows by program ===== -/
section
variable {b : Nat × Nat} {st : List Value} {hi : am_HI} {g : am_G} {Φ : am_P} {x0 x1 : Value}
theorem d_X6_allows_0 : decode cX6_allows 0 = .ok (.aload_n 0, 1) := by decide +kernel
theorem s_X6_allows_0 {n : Nat} (h : AP M_X6_allows b 1 [.ref n, x1] (.ref n :: st) hi g Φ) : AP M_X6_allows b 0 [.ref n, x1] (st) hi g Φ := AP.aload_n (x := n) (i := 0) d_X6_allows_0 rfl rfl h
theorem d_X6_allows_1 : decode cX6_allows 1 = .ok (.getfield 35, 3) := by decide +kernel
theorem s_X6_allows_1 {k : Nat} (hI : am_Inv g) (hs : am_SH k = (0, 6)) (hk : k < 134) (h : AP M_X6_allows b 4 [x0, x1] (.int (hi k 6) :: st) hi g Φ) : AP M_X6_allows b 1 [x0, x1] (.ref k :: st) hi g Φ := AP.getI (j := 6) (q := (RX6, TX6, 8)) d_X6_allows_1 hs (hI.lt hk) rfl (by decide) (by decide) w_175 h
theorem d_X6_allows_4 : decode cX6_allows 4 = .ok (.iload_n 1, 1) := by decide +kernel
theorem s_X6_allows_4 {n : Int32} (h : AP M_X6_allows b 5 [x0, .int n] (.int n :: st) hi g Φ) : AP M_X6_allows b 4 [x0, .int n] (st) hi g Φ := AP.iload_n (x := n) (i := 1) d_X6_allows_4 rfl rfl h
theorem d_X6_allows_5 : decode cX6_allows 5 = .ok (.ishr, 1) := by decide +kernel
theorem s_X6_allows_5 {x y : Int32} (h : AP M_X6_allows b 6 [x0, x1] (.int (x >>> (y &&& 31)) :: st) hi g Φ) : AP M_X6_allows b 5 [x0, x1] (.int y :: .int x :: st) hi g Φ := AP.ishr d_X6_allows_5 h
theorem d_X6_allows_6 : decode cX6_allows 6 = .ok (.iconst 1, 1) := by decide +kernel
theorem s_X6_allows_6 (h : AP M_X6_allows b 7 [x0, x1] (.int 1 :: st) hi g Φ) : AP M_X6_allows b 6 [x0, x1] (st) hi g Φ := AP.iconst (x := 1) d_X6_allows_6 (by decide) h
theorem d_X6_allows_7 : decode cX6_allows 7 = .ok (.iand, 1) := by decide +kernel
theorem s_X6_allows_7 {x y : Int32} (h : AP M_X6_allows b 8 [x0, x1] (.int (x &&& y) :: st) hi g Φ) : AP M_X6_allows b 7 [x0, x1] (.int y :: .int x :: st) hi g Φ := AP.iand d_X6_allows_7 h
theorem d_X6_allows_8 : decode cX6_allows 8 = .ok (.iconst 1, 1) := by decide +kernel
theorem s_X6_allows_8 (h : AP M_X6_allows b 9 [x0, x1] (.int 1 :: st) hi g Φ) : AP M_X6_allows b 8 [x0, x1] (st) hi g Φ := AP.iconst (x := 1) d_X6_allows_8 (by decide) h
theorem d_X6_allows_9 : decode cX6_allows 9 = .ok (.if_icmp .ne 7, 3) := by decide +kernel
theorem s_X6_allows_9 {x y : Int32} (h1 : ¬ x = y → AP M_X6_allows b 16 [x0, x1] st hi g Φ) (h2 : x = y → AP M_X6_allows b 12 [x0, x1] st hi g Φ) : AP M_X6_allows b 9 [x0, x1] (.int y :: .int x :: st) hi g Φ := AP.icmp_ne d_X6_allows_9 (by decide) h1 h2
theorem d_X6_allows_12 : decode cX6_allows 12 = .ok (.iconst 1, 1) := by decide +kernel
theorem s_X6_allows_12 (h : AP M_X6_allows b 13 [x0, x1] (.int 1 :: st) hi g Φ) : AP M_X6_allows b 12 [x0, x1] (st) hi g Φ := AP.iconst (x := 1) d_X6_allows_12 (by decide) h
theorem d_X6_allows_13 : decode cX6_allows 13 = .ok (.goto 4, 3) := by decide +kernel
theorem s_X6_allows_13 (h : AP M_X6_allows b 17 [x0, x1] st hi g Φ) : AP M_X6_allows b 13 [x0, x1] st hi g Φ := AP.goto d_X6_allows_13 (by decide) h
theorem d_X6_allows_16 : decode cX6_allows 16 = .ok (.iconst 0, 1) := by decide +kernel
theorem s_X6_allows_16 (h : AP M_X6_allows b 17 [x0, x1] (.int 0 :: st) hi g Φ) : AP M_X6_allows b 16 [x0, x1] (st) hi g Φ := AP.iconst (x := 0) d_X6_allows_16 (by decide) h
theorem d_X6_allows_17 : decode cX6_allows 17 = .ok (.ireturn, 1) := by decide +kernel
theorem s_X6_allows_17 {x : Int32} (hx : x = 0 ∨ x = 1) (h : Φ (.ok (some (.int x))) hi g) : AP M_X6_allows b 17 [x0, x1] [.int x] hi g Φ := AP.zret d_X6_allows_17 rfl hx h
end
section
variable {b : Nat × Nat} {st : List Value} {hi : am_HI} {g : am_G} {Φ : am_P} {x0 x1 : Value}
theorem d_X6_canTurn_0 : decode cX6_canTurn 0 = .ok (.aload_n 0, 1) := by decide +kernel
theorem s_X6_canTurn_0 {n : Nat} (h : AP M_X6_canTurn b 1 [.ref n, x1] (.ref n :: st) hi g Φ) : AP M_X6_canTurn b 0 [.ref n, x1] (st) hi g Φ := AP.aload_n (x := n) (i := 0) d_X6_canTurn_0 rfl rfl h
theorem d_X6_canTurn_1 : decode cX6_canTurn 1 = .ok (.getfield 35, 3) := by decide +kernel
theorem s_X6_canTurn_1 {k : Nat} (hI : am_Inv g) (hs : am_SH k = (0, 6)) (hk : k < 134) (h : AP M_X6_canTurn b 4 [x0, x1] (.int (hi k 6) :: st) hi g Φ) : AP M_X6_canTurn b 1 [x0, x1] (.ref k :: st) hi g Φ := AP.getI (j := 6) (q := (RX6, TX6, 8)) d_X6_canTurn_1 hs (hI.lt hk) rfl (by decide) (by decide) w_175 h
theorem d_X6_canTurn_4 : decode cX6_canTurn 4 = .ok (.iconst 1, 1) := by decide +kernel
theorem s_X6_canTurn_4 (h : AP M_X6_canTurn b 5 [x0, x1] (.int 1 :: st) hi g Φ) : AP M_X6_canTurn b 4 [x0, x1] (st) hi g Φ := AP.iconst (x := 1) d_X6_canTurn_4 (by decide) h
theorem d_X6_canTurn_5 : decode cX6_canTurn 5 = .ok (.iload_n 1, 1) := by decide +kernel
theorem s_X6_canTurn_5 {n : Int32} (h : AP M_X6_canTurn b 6 [x0, .int n] (.int n :: st) hi g Φ) : AP M_X6_canTurn b 5 [x0, .int n] (st) hi g Φ := AP.iload_n (x := n) (i := 1) d_X6_canTurn_5 rfl rfl h
theorem d_X6_canTurn_6 : decode cX6_canTurn 6 = .ok (.ishl, 1) := by decide +kernel
theorem s_X6_canTurn_6 {x y : Int32} (h : AP M_X6_canTurn b 7 [x0, x1] (.int (x <<< (y &&& 31)) :: st) hi g Φ) : AP M_X6_canTurn b 6 [x0, x1] (.int y :: .int x :: st) hi g Φ := AP.ishl d_X6_canTurn_6 h
theorem d_X6_canTurn_7 : decode cX6_canTurn 7 = .ok (.if_icmp .eq 7, 3) := by decide +kernel
theorem s_X6_canTurn_7 {x y : Int32} (h1 : x = y → AP M_X6_canTurn b 14 [x0, x1] st hi g Φ) (h2 : ¬ x = y → AP M_X6_canTurn b 10 [x0, x1] st hi g Φ) : AP M_X6_canTurn b 7 [x0, x1] (.int y :: .int x :: st) hi g Φ := AP.icmp_eq d_X6_canTurn_7 (by decide) h1 h2
theorem d_X6_canTurn_10 : decode cX6_canTurn 10 = .ok (.iconst 1, 1) := by decide +kernel
theorem s_X6_canTurn_10 (h : AP M_X6_canTurn b 11 [x0, x1] (.int 1 :: st) hi g Φ) : AP M_X6_canTurn b 10 [x0, x1] (st) hi g Φ := AP.iconst (x := 1) d_X6_canTurn_10 (by decide) h
theorem d_X6_canTurn_11 : decode cX6_canTurn 11 = .ok (.goto 4, 3) := by decide +kernel
theorem s_X6_canTurn_11 (h : AP M_X6_canTurn b 15 [x0, x1] st hi g Φ) : AP M_X6_canTurn b 11 [x0, x1] st hi g Φ := AP.goto d_X6_canTurn_11 (by decide) h
theorem d_X6_canTurn_14 : decode cX6_canTurn 14 = .ok (.iconst 0, 1) := by decide +kernel
theorem s_X6_canTurn_14 (h : AP M_X6_canTurn b 15 [x0, x1] (.int 0 :: st) hi g Φ) : AP M_X6_canTurn b 14 [x0, x1] (st) hi g Φ := AP.iconst (x := 0) d_X6_canTurn_14 (by decide) h
theorem d_X6_canTurn_15 : decode cX6_canTurn 15 = .ok (.ireturn, 1) := by decide +kernel
theorem s_X6_canTurn_15 {x : Int32} (hx : x = 0 ∨ x = 1) (h : Φ (.ok (some (.int x))) hi g) : AP M_X6_canTurn b 15 [x0, x1] [.int x] hi g Φ := AP.zret d_X6_canTurn_15 rfl hx h
end
section
variable {b : Nat × Nat} {st : List Value} {hi : am_HI} {g : am_G} {Φ : am_P} {x0 x1 : Value}
theorem d_X6_hasRoomFor_0 : decode cX6_hasRoomFor 0 = .ok (.aload_n 0, 1) := by decide +kernel
theorem s_X6_hasRoomFor_0 {n : Nat} (h : AP M_X6_hasRoomFor b 1 [.ref n, x1] (.ref n :: st) hi g Φ) : AP M_X6_hasRoomFor b 0 [.ref n, x1] (st) hi g Φ := AP.aload_n (x := n) (i := 0) d_X6_hasRoomFor_0 rfl rfl h
theorem d_X6_hasRoomFor_1 : decode cX6_hasRoomFor 1 = .ok (.getfield 25, 3) := by decide +kernel
theorem s_X6_hasRoomFor_1 {k : Nat} (hI : am_Inv g) (hs : am_SH k = (0, 6)) (hk : k < 134) (h : AP M_X6_hasRoomFor b 4 [x0, x1] (.int (hi k 3) :: st) hi g Φ) : AP M_X6_hasRoomFor b 1 [x0, x1] (.ref k :: st) hi g Φ := AP.getI (j := 3) (q := (RX6, TX6, 8)) d_X6_hasRoomFor_1 hs (hI.lt hk) rfl (by decide) (by decide) w_166 h
theorem d_X6_hasRoomFor_4 : decode cX6_hasRoomFor 4 = .ok (.iload_n 1, 1) := by decide +kernel
theorem s_X6_hasRoomFor_4 {n : Int32} (h : AP M_X6_hasRoomFor b 5 [x0, .int n] (.int n :: st) hi g Φ) : AP M_X6_hasRoomFor b 4 [x0, .int n] (st) hi g Φ := AP.iload_n (x := n) (i := 1) d_X6_hasRoomFor_4 rfl rfl h
theorem d_X6_hasRoomFor_5 : decode cX6_hasRoomFor 5 = .ok (.iadd, 1) := by decide +kernel
theorem s_X6_hasRoomFor_5 {x y : Int32} (h : AP M_X6_hasRoomFor b 6 [x0, x1] (.int (x + y) :: st) hi g Φ) : AP M_X6_hasRoomFor b 5 [x0, x1] (.int y :: .int x :: st) hi g Φ := AP.iadd d_X6_hasRoomFor_5 h
theorem d_X6_hasRoomFor_6 : decode cX6_hasRoomFor 6 = .ok (.bipush 48, 2) := by decide +kernel
theorem s_X6_hasRoomFor_6 (h : AP M_X6_hasRoomFor b 8 [x0, x1] (.int 48 :: st) hi g Φ) : AP M_X6_hasRoomFor b 6 [x0, x1] (st) hi g Φ := AP.bipush (x := 48) d_X6_hasRoomFor_6 (by decide) h
theorem d_X6_hasRoomFor_8 : decode cX6_hasRoomFor 8 = .ok (.if_icmp .gt 7, 3) := by decide +kernel
theorem s_X6_hasRoomFor_8 {x y : Int32} (h1 : y < x → AP M_X6_hasRoomFor b 15 [x0, x1] st hi g Φ) (h2 : ¬ y < x → AP M_X6_hasRoomFor b 11 [x0, x1] st hi g Φ) : AP M_X6_hasRoomFor b 8 [x0, x1] (.int y :: .int x :: st) hi g Φ := AP.icmp_gt d_X6_hasRoomFor_8 (by decide) h1 h2
theorem d_X6_hasRoomFor_11 : decode cX6_hasRoomFor 11 = .ok (.iconst 1, 1) := by decide +kernel
theorem s_X6_hasRoomFor_11 (h : AP M_X6_hasRoomFor b 12 [x0, x1] (.int 1 :: st) hi g Φ) : AP M_X6_hasRoomFor b 11 [x0, x1] (st) hi g Φ := AP.iconst (x := 1) d_X6_hasRoomFor_11 (by decide) h
theorem d_X6_hasRoomFor_12 : decode cX6_hasRoomFor 12 = .ok (.goto 4, 3) := by decide +kernel
theorem s_X6_hasRoomFor_12 (h : AP M_X6_hasRoomFor b 16 [x0, x1] st hi g Φ) : AP M_X6_hasRoomFor b 12 [x0, x1] st hi g Φ := AP.goto d_X6_hasRoomFor_12 (by decide) h
theorem d_X6_hasRoomFor_15 : decode cX6_hasRoomFor 15 = .ok (.iconst 0, 1) := by decide +kernel
theorem s_X6_hasRoomFor_15 (h : AP M_X6_hasRoomFor b 16 [x0, x1] (.int 0 :: st) hi g Φ) : AP M_X6_hasRoomFor b 15 [x0, x1] (st) hi g Φ := AP.iconst (x := 0) d_X6_hasRoomFor_15 (by decide) h
theorem d_X6_hasRoomFor_16 : decode cX6_hasRoomFor 16 = .ok (.ireturn, 1) := by decide +kernel
theorem s_X6_hasRoomFor_16 {x : Int32} (hx : x = 0 ∨ x = 1) (h : Φ (.ok (some (.int x))) hi g) : AP M_X6_hasRoomFor b 16 [x0, x1] [.int x] hi g Φ := AP.zret d_X6_hasRoomFor_16 rfl hx h
end
section
variable {b : Nat × Nat} {st : List Value} {hi : am_HI} {g : am_G} {Φ : am_P} {x0 x1 : Value}
theorem d_X6_soundAt_0 : decode cX6_soundAt 0 = .ok (.iload_n 1, 1) := by decide +kernel
theorem s_X6_soundAt_0 {n : Int32} (h : AP M_X6_soundAt b 1 [x0, .int n] (.int n :: st) hi g Φ) : AP M_X6_soundAt b 0 [x0, .int n] (st) hi g Φ := AP.iload_n (x := n) (i := 1) d_X6_soundAt_0 rfl rfl h
theorem d_X6_soundAt_1 : decode cX6_soundAt 1 = .ok (.ifCond .lt 20, 3) := by decide +kernel
theorem s_X6_soundAt_1 {x : Int32} (h1 : x < 0 → AP M_X6_soundAt b 21 [x0, x1] st hi g Φ) (h2 : ¬ x < 0 → AP M_X6_soundAt b 4 [x0, x1] st hi g Φ) : AP M_X6_soundAt b 1 [x0, x1] (.int x :: st) hi g Φ := AP.if_lt d_X6_soundAt_1 (by decide) h1 h2
theorem d_X6_soundAt_4 : decode cX6_soundAt 4 = .ok (.iload_n 1, 1) := by decide +kernel
theorem s_X6_soundAt_4 {n : Int32} (h : AP M_X6_soundAt b 5 [x0, .int n] (.int n :: st) hi g Φ) : AP M_X6_soundAt b 4 [x0, .int n] (st) hi g Φ := AP.iload_n (x := n) (i := 1) d_X6_soundAt_4 rfl rfl h
theorem d_X6_soundAt_5 : decode cX6_soundAt 5 = .ok (.aload_n 0, 1) := by decide +kernel
theorem s_X6_soundAt_5 {n : Nat} (h : AP M_X6_soundAt b 6 [.ref n, x1] (.ref n :: st) hi g Φ) : AP M_X6_soundAt b 5 [.ref n, x1] (st) hi g Φ := AP.aload_n (x := n) (i := 0) d_X6_soundAt_5 rfl rfl h
theorem d_X6_soundAt_6 : decode cX6_soundAt 6 = .ok (.getfield 25, 3) := by decide +kernel
theorem s_X6_soundAt_6 {k : Nat} (hI : am_Inv g) (hs : am_SH k = (0, 6)) (hk : k < 134) (h : AP M_X6_soundAt b 9 [x0, x1] (.int (hi k 3) :: st) hi g Φ) : AP M_X6_soundAt b 6 [x0, x1] (.ref k :: st) hi g Φ := AP.getI (j := 3) (q := (RX6, TX6, 8)) d_X6_soundAt_6 hs (hI.lt hk) rfl (by decide) (by decide) w_166 h
theorem d_X6_soundAt_9 : decode cX6_soundAt 9 = .ok (.if_icmp .ge 12, 3) := by decide +kernel
theorem s_X6_soundAt_9 {x y : Int32} (h1 : y ≤ x → AP M_X6_soundAt b 21 [x0, x1] st hi g Φ) (h2 : ¬ y ≤ x → AP M_X6_soundAt b 12 [x0, x1] st hi g Φ) : AP M_X6_soundAt b 9 [x0, x1] (.int y :: .int x :: st) hi g Φ := AP.icmp_ge d_X6_soundAt_9 (by decide) h1 h2
theorem d_X6_soundAt_12 : decode cX6_soundAt 12 = .ok (.aload_n 0, 1) := by decide +kernel
theorem s_X6_soundAt_12 {n : Nat} (h : AP M_X6_soundAt b 13 [.ref n, x1] (.ref n :: st) hi g Φ) : AP M_X6_soundAt b 12 [.ref n, x1] (st) hi g Φ := AP.aload_n (x := n) (i := 0) d_X6_soundAt_12 rfl rfl h
theorem d_X6_soundAt_13 : decode cX6_soundAt 13 = .ok (.getfield 9, 3) := by decide +kernel
theorem s_X6_soundAt_13 {k r : Nat} (hI : am_Inv g) (hs : am_SH k = (0, 6)) (hk : k < 134) (hr : am_HRf k 0 = some r) (hn : k ≠ 39) (h : AP M_X6_soundAt b 16 [x0, x1] (.ref r :: st) hi g Φ) : AP M_X6_soundAt b 13 [x0, x1] (.ref k :: st) hi g Φ := AP.getR (j := 0) (q := (RX6, TX6, 8)) d_X6_soundAt_13 hs (hI.lt hk) rfl (by decide) (by decide) w_158 (hI.r hn hr) h
theorem d_X6_soundAt_16 : decode cX6_soundAt 16 = .ok (.iload_n 1, 1) := by decide +kernel
theorem s_X6_soundAt_16 {n : Int32} (h : AP M_X6_soundAt b 17 [x0, .int n] (.int n :: st) hi g Φ) : AP M_X6_soundAt b 16 [x0, .int n] (st) hi g Φ := AP.iload_n (x := n) (i := 1) d_X6_soundAt_16 rfl rfl h
theorem d_X6_soundAt_17 : decode cX6_soundAt 17 = .ok (.iaload, 1) := by decide +kernel
theorem s_X6_soundAt_17 {k n j : Nat} {i : Int32} (hI : am_Inv g) (hs : am_SH k = (1, n)) (hk : k < 134) (hn : n < 2 ^ 31) (hx : i = nI j) (hj : j < n) (h : AP M_X6_soundAt b 18 [x0, x1] (.int (hi k j) :: st) hi g Φ) : AP M_X6_soundAt b 17 [x0, x1] (.int i :: .ref k :: st) hi g Φ := AP.iald d_X6_soundAt_17 hs (hI.lt hk) hn hx hj h
theorem d_X6_soundAt_18 : decode cX6_soundAt 18 = .ok (.goto 4, 3) := by decide +kernel
theorem s_X6_soundAt_18 (h : AP M_X6_soundAt b 22 [x0, x1] st hi g Φ) : AP M_X6_soundAt b 18 [x0, x1] st hi g Φ := AP.goto d_X6_soundAt_18 (by decide) h
theorem d_X6_soundAt_21 : decode cX6_soundAt 21 = .ok (.iconst 0, 1) := by decide +kernel
theorem s_X6_soundAt_21 (h : AP M_X6_soundAt b 22 [x0, x1] (.int 0 :: st) hi g Φ) : AP M_X6_soundAt b 21 [x0, x1] (st) hi g Φ := AP.iconst (x := 0) d_X6_soundAt_21 (by decide) h
theorem d_X6_soundAt_22 : decode cX6_soundAt 22 = .ok (.ireturn, 1) := by decide +kernel
theorem s_X6_soundAt_22 {x : Int32} (h : Φ (.ok (some (.int x))) hi g) : AP M_X6_soundAt b 22 [x0, x1] [.int x] hi g Φ := AP.iret d_X6_soundAt_22 rfl h
end
section
variable {b : Nat × Nat} {st : List Value} {hi : am_HI} {g : am_G} {Φ : am_P} {x0 x1 : Value}
theorem d_X6_turn_0 : decode cX6_turn 0 = .ok (.aload_n 0, 1) := by decide +kernel
theorem s_X6_turn_0 {n : Nat} (h : AP M_X6_turn b 1 [.ref n, x1] (.ref n :: st) hi g Φ) : AP M_X6_turn b 0 [.ref n, x1] (st) hi g Φ := AP.aload_n (x := n) (i := 0) d_X6_turn_0 rfl rfl h
theorem d_X6_turn_1 : decode cX6_turn 1 = .ok (.dup, 1) := by decide +kernel
theorem s_X6_turn_1 {u : Value} (hu : u.category = 1) (h : AP M_X6_turn b 2 [x0, x1] (u :: u :: st) hi g Φ) : AP M_X6_turn b 1 [x0, x1] (u :: st) hi g Φ := AP.dup d_X6_turn_1 hu h
theorem d_X6_turn_2 : decode cX6_turn 2 = .ok (.getfield 35, 3) := by decide +kernel
theorem s_X6_turn_2 {k : Nat} (hI : am_Inv g) (hs : am_SH k = (0, 6)) (hk : k < 134) (h : AP M_X6_turn b 5 [x0, x1] (.int (hi k 6) :: st) hi g Φ) : AP M_X6_turn b 2 [x0, x1] (.ref k :: st) hi g Φ := AP.getI (j := 6) (q := (RX6, TX6, 8)) d_X6_turn_2 hs (hI.lt hk) rfl (by decide) (by decide) w_175 h
theorem d_X6_turn_5 : decode cX6_turn 5 = .ok (.iconst 1, 1) := by decide +kernel
theorem s_X6_turn_5 (h : AP M_X6_turn b 6 [x0, x1] (.int 1 :: st) hi g Φ) : AP M_X6_turn b 5 [x0, x1] (st) hi g Φ := AP.iconst (x := 1) d_X6_turn_5 (by decide) h
theorem d_X6_turn_6 : decode cX6_turn 6 = .ok (.iload_n 1, 1) := by decide +kernel
theorem s_X6_turn_6 {n : Int32} (h : AP M_X6_turn b 7 [x0, .int n] (.int n :: st) hi g Φ) : AP M_X6_turn b 6 [x0, .int n] (st) hi g Φ := AP.iload_n (x := n) (i := 1) d_X6_turn_6 rfl rfl h
theorem d_X6_turn_7 : decode cX6_turn 7 = .ok (.ishl, 1) := by decide +kernel
theorem s_X6_turn_7 {x y : Int32} (h : AP M_X6_turn b 8 [x0, x1] (.int (x <<< (y &&& 31)) :: st) hi g Φ) : AP M_X6_turn b 7 [x0, x1] (.int y :: .int x :: st) hi g Φ := AP.ishl d_X6_turn_7 h
theorem d_X6_turn_8 : decode cX6_turn 8 = .ok (.ixor, 1) := by decide +kernel
theorem s_X6_turn_8 {x y : Int32} (h : AP M_X6_turn b 9 [x0, x1] (.int (x ^^^ y) :: st) hi g Φ) : AP M_X6_turn b 8 [x0, x1] (.int y :: .int x :: st) hi g Φ := AP.ixor d_X6_turn_8 h
theorem d_X6_turn_9 : decode cX6_turn 9 = .ok (.putfield 35, 3) := by decide +kernel
theorem s_X6_turn_9 {k : Nat} {n : Int32} (hI : am_Inv g) (hs : am_SH k = (0, 6)) (hk : k < 134) (h : AP M_X6_turn b 12 [x0, x1] (st) (am_up hi k 6 n) g Φ) : AP M_X6_turn b 9 [x0, x1] (.int n :: .ref k :: st) hi g Φ := AP.putI (j := 6) (q := (RX6, TX6, 8)) d_X6_turn_9 hs (hI.lt hk) rfl (by decide) rfl rfl w_175 h
theorem d_X6_turn_12 : decode cX6_turn 12 = .ok (.return_, 1) := by decide +kernel
theorem s_X6_turn_12 (h : Φ (.ok none) hi g) : AP M_X6_turn b 12 [x0, x1] [] hi g Φ := AP.vret d_X6_turn_12 rfl h
end
section
variable {b : Nat × Nat} {st : List Value} {hi : am_HI} {g : am_G} {Φ : am_P} {x0 x1 : Value}
theorem d_X6_put_0 : decode cX6_put 0 = .ok (.aload_n 0, 1) := by decide +kernel
theorem s_X6_put_0 {n : Nat} (h : AP M_X6_put b 1 [.ref n, x1] (.ref n :: st) hi g Φ) : AP M_X6_put b 0 [.ref n, x1] (st) hi g Φ := AP.aload_n (x := n) (i := 0) d_X6_put_0 rfl rfl h
theorem d_X6_put_1 : decode cX6_put 1 = .ok (.iconst 1, 1) := by decide +kernel
theorem s_X6_put_1 (h : AP M_X6_put b 2 [x0, x1] (.int 1 :: st) hi g Φ) : AP M_X6_put b 1 [x0, x1] (st) hi g Φ := AP.iconst (x := 1) d_X6_put_1 (by decide) h
theorem d_X6_put_2 : decode cX6_put 2 = .ok (.invokevirtual 51, 3) := by decide +kernel
theorem s_X6_put_2 {a0 : Int32} {k : Nat} {r0 : Int32} {P : am_HI → Prop} (hI : am_Inv g) (hs : am_SH k = (0, 6)) (hk : k < 134) (hst : (st.map Value.category).sum ≤ 8) (hc : am_Cr M_X6_hasRoomFor [.ref k, .int a0] hi g (some (.int r0)) P) (h : ∀ hi' : am_HI, P hi' → AP M_X6_put b 5 [x0, x1] (.int r0 :: st) hi' g Φ) : AP M_X6_put b 2 [x0, x1] (.int a0 :: .ref k :: st) hi g Φ := AP.callVr (As := [.int a0]) (q := (RX6, TX6, 8)) hI hc k_X6_put_51 d_X6_put_2 rfl hs hk rfl rfl hst h
theorem d_X6_put_5 : decode cX6_put 5 = .ok (.ifCond .eq 23, 3) := by decide +kernel
theorem s_X6_put_5 {x : Int32} (h1 : x = 0 → AP M_X6_put b 28 [x0, x1] st hi g Φ) (h2 : ¬ x = 0 → AP M_X6_put b 8 [x0, x1] st hi g Φ) : AP M_X6_put b 5 [x0, x1] (.int x :: st) hi g Φ := AP.if_eq d_X6_put_5 (by decide) h1 h2
theorem d_X6_put_8 : decode cX6_put 8 = .ok (.aload_n 0, 1) := by decide +kernel
theorem s_X6_put_8 {n : Nat} (h : AP M_X6_put b 9 [.ref n, x1] (.ref n :: st) hi g Φ) : AP M_X6_put b 8 [.ref n, x1] (st) hi g Φ := AP.aload_n (x := n) (i := 0) d_X6_put_8 rfl rfl h
theorem d_X6_put_9 : decode cX6_put 9 = .ok (.getfield 9, 3) := by decide +kernel
theorem s_X6_put_9 {k r : Nat} (hI : am_Inv g) (hs : am_SH k = (0, 6)) (hk : k < 134) (hr : am_HRf k 0 = some r) (hn : k ≠ 39) (h : AP M_X6_put b 12 [x0, x1] (.ref r :: st) hi g Φ) : AP M_X6_put b 9 [x0, x1] (.ref k :: st) hi g Φ := AP.getR (j := 0) (q := (RX6, TX6, 8)) d_X6_put_9 hs (hI.lt hk) rfl (by decide) (by decide) w_158 (hI.r hn hr) h
theorem d_X6_put_12 : decode cX6_put 12 = .ok (.aload_n 0, 1) := by decide +kernel
theorem s_X6_put_12 {n : Nat} (h : AP M_X6_put b 13 [.ref n, x1] (.ref n :: st) hi g Φ) : AP M_X6_put b 12 [.ref n, x1] (st) hi g Φ := AP.aload_n (x := n) (i := 0) d_X6_put_12 rfl rfl h
theorem d_X6_put_13 : decode cX6_put 13 = .ok (.getfield 25, 3) := by decide +kernel
theorem s_X6_put_13 {k : Nat} (hI : am_Inv g) (hs : am_SH k = (0, 6)) (hk : k < 134) (h : AP M_X6_put b 16 [x0, x1] (.int (hi k 3) :: st) hi g Φ) : AP M_X6_put b 13 [x0, x1] (.ref k :: st) hi g Φ := AP.getI (j := 3) (q := (RX6, TX6, 8)) d_X6_put_13 hs (hI.lt hk) rfl (by decide) (by decide) w_166 h
theorem d_X6_put_16 : decode cX6_put 16 = .ok (.iload_n 1, 1) := by decide +kernel
theorem s_X6_put_16 {n : Int32} (h : AP M_X6_put b 17 [x0, .int n] (.int n :: st) hi g Φ) : AP M_X6_put b 16 [x0, .int n] (st) hi g Φ := AP.iload_n (x := n) (i := 1) d_X6_put_16 rfl rfl h
theorem d_X6_put_17 : decode cX6_put 17 = .ok (.iastore, 1) := by decide +kernel
theorem s_X6_put_17 {k n j : Nat} {i x : Int32} (hI : am_Inv g) (hs : am_SH k = (1, n)) (hk : k < 134) (hn : n < 2 ^ 31) (hx : i = nI j) (hj : j < n) (h : AP M_X6_put b 18 [x0, x1] (st) (am_up hi k j x) g Φ) : AP M_X6_put b 17 [x0, x1] (.int x :: .int i :: .ref k :: st) hi g Φ := AP.iast d_X6_put_17 hs (hI.lt hk) hn hx hj h
theorem d_X6_put_18 : decode cX6_put 18 = .ok (.aload_n 0, 1) := by decide +kernel
theorem s_X6_put_18 {n : Nat} (h : AP M_X6_put b 19 [.ref n, x1] (.ref n :: st) hi g Φ) : AP M_X6_put b 18 [.ref n, x1] (st) hi g Φ := AP.aload_n (x := n) (i := 0) d_X6_put_18 rfl rfl h
theorem d_X6_put_19 : decode cX6_put 19 = .ok (.dup, 1) := by decide +kernel
theorem s_X6_put_19 {u : Value} (hu : u.category = 1) (h : AP M_X6_put b 20 [x0, x1] (u :: u :: st) hi g Φ) : AP M_X6_put b 19 [x0, x1] (u :: st) hi g Φ := AP.dup d_X6_put_19 hu h
theorem d_X6_put_20 : decode cX6_put 20 = .ok (.getfield 25, 3) := by decide +kernel
theorem s_X6_put_20 {k : Nat} (hI : am_Inv g) (hs : am_SH k = (0, 6)) (hk : k < 134) (h : AP M_X6_put b 23 [x0, x1] (.int (hi k 3) :: st) hi g Φ) : AP M_X6_put b 20 [x0, x1] (.ref k :: st) hi g Φ := AP.getI (j := 3) (q := (RX6, TX6, 8)) d_X6_put_20 hs (hI.lt hk) rfl (by decide) (by decide) w_166 h
theorem d_X6_put_23 : decode cX6_put 23 = .ok (.iconst 1, 1) := by decide +kernel
theorem s_X6_put_23 (h : AP M_X6_put b 24 [x0, x1] (.int 1 :: st) hi g Φ) : AP M_X6_put b 23 [x0, x1] (st) hi g Φ := AP.iconst (x := 1) d_X6_put_23 (by decide) h
theorem d_X6_put_24 : decode cX6_put 24 = .ok (.iadd, 1) := by decide +kernel
theorem s_X6_put_24 {x y : Int32} (h : AP M_X6_put b 25 [x0, x1] (.int (x + y) :: st) hi g Φ) : AP M_X6_put b 24 [x0, x1] (.int y :: .int x :: st) hi g Φ := AP.iadd d_X6_put_24 h
theorem d_X6_put_25 : decode cX6_put 25 = .ok (.putfield 25, 3) := by decide +kernel
theorem s_X6_put_25 {k : Nat} {n : Int32} (hI : am_Inv g) (hs : am_SH k = (0, 6)) (hk : k < 134) (h : AP M_X6_put b 28 [x0, x1] (st) (am_up hi k 3 n) g Φ) : AP M_X6_put b 25 [x0, x1] (.int n :: .ref k :: st) hi g Φ := AP.putI (j := 3) (q := (RX6, TX6, 8)) d_X6_put_25 hs (hI.lt hk) rfl (by decide) rfl rfl w_166 h
theorem d_X6_put_28 : decode cX6_put 28 = .ok (.return_, 1) := by decide +kernel
theorem s_X6_put_28 (h : Φ (.ok none) hi g) : AP M_X6_put b 28 [x0, x1] [] hi g Φ := AP.vret d_X6_put_28 rfl h
end
section
variable {b : Nat × Nat} {st : List Value} {hi : am_HI} {g : am_G} {Φ : am_P} {x0 x1 : Value}
theorem d_X6_copyFrom_0 : decode cX6_copyFrom 0 = .ok (.aload_n 1, 1) := by decide +kernel
theorem s_X6_copyFrom_0 {n : Nat} (h : AP M_X6_copyFrom b 1 [x0, .ref n] (.ref n :: st) hi g Φ) : AP M_X6_copyFrom b 0 [x0, .ref n] (st) hi g Φ := AP.aload_n (x := n) (i := 1) d_X6_copyFrom_0 rfl rfl h
theorem d_X6_copyFrom_1 : decode cX6_copyFrom 1 = .ok (.getfield 9, 3) := by decide +kernel
theorem s_X6_copyFrom_1 {k r : Nat} (hI : am_Inv g) (hs : am_SH k = (0, 6)) (hk : k < 134) (hr : am_HRf k 0 = some r) (hn : k ≠ 39) (h : AP M_X6_copyFrom b 4 [x0, x1] (.ref r :: st) hi g Φ) : AP M_X6_copyFrom b 1 [x0, x1] (.ref k :: st) hi g Φ := AP.getR (j := 0) (q := (RX6, TX6, 8)) d_X6_copyFrom_1 hs (hI.lt hk) rfl (by decide) (by decide) w_158 (hI.r hn hr) h
theorem d_X6_copyFrom_4 : decode cX6_copyFrom 4 = .ok (.iconst 0, 1) := by decide +kernel
theorem s_X6_copyFrom_4 (h : AP M_X6_copyFrom b 5 [x0, x1] (.int 0 :: st) hi g Φ) : AP M_X6_copyFrom b 4 [x0, x1] (st) hi g Φ := AP.iconst (x := 0) d_X6_copyFrom_4 (by decide) h
theorem d_X6_copyFrom_5 : decode cX6_copyFrom 5 = .ok (.aload_n 0, 1) := by decide +kernel
theorem s_X6_copyFrom_5 {n : Nat} (h : AP M_X6_copyFrom b 6 [.ref n, x1] (.ref n :: st) hi g Φ) : AP M_X6_copyFrom b 5 [.ref n, x1] (st) hi g Φ := AP.aload_n (x := n) (i := 0) d_X6_copyFrom_5 rfl rfl h
theorem d_X6_copyFrom_6 : decode cX6_copyFrom 6 = .ok (.getfield 9, 3) := by decide +kernel
theorem s_X6_copyFrom_6 {k r : Nat} (hI : am_Inv g) (hs : am_SH k = (0, 6)) (hk : k < 134) (hr : am_HRf k 0 = some r) (hn : k ≠ 39) (h : AP M_X6_copyFrom b 9 [x0, x1] (.ref r :: st) hi g Φ) : AP M_X6_copyFrom b 6 [x0, x1] (.ref k :: st) hi g Φ := AP.getR (j := 0) (q := (RX6, TX6, 8)) d_X6_copyFrom_6 hs (hI.lt hk) rfl (by decide) (by decide) w_158 (hI.r hn hr) h
theorem d_X6_copyFrom_9 : decode cX6_copyFrom 9 = .ok (.iconst 0, 1) := by decide +kernel
theorem s_X6_copyFrom_9 (h : AP M_X6_copyFrom b 10 [x0, x1] (.int 0 :: st) hi g Φ) : AP M_X6_copyFrom b 9 [x0, x1] (st) hi g Φ := AP.iconst (x := 0) d_X6_copyFrom_9 (by decide) h
theorem d_X6_copyFrom_10 : decode cX6_copyFrom 10 = .ok (.bipush 48, 2) := by decide +kernel
theorem s_X6_copyFrom_10 (h : AP M_X6_copyFrom b 12 [x0, x1] (.int 48 :: st) hi g Φ) : AP M_X6_copyFrom b 10 [x0, x1] (st) hi g Φ := AP.bipush (x := 48) d_X6_copyFrom_10 (by decide) h
theorem d_X6_copyFrom_12 : decode cX6_copyFrom 12 = .ok (.invokestatic 41, 3) := by decide +kernel
-- s_X6_copyFrom_12: a call apart
theorem d_X6_copyFrom_15 : decode cX6_copyFrom 15 = .ok (.aload_n 1, 1) := by decide +kernel
theorem s_X6_copyFrom_15 {n : Nat} (h : AP M_X6_copyFrom b 16 [x0, .ref n] (.ref n :: st) hi g Φ) : AP M_X6_copyFrom b 15 [x0, .ref n] (st) hi g Φ := AP.aload_n (x := n) (i := 1) d_X6_copyFrom_15 rfl rfl h
theorem d_X6_copyFrom_16 : decode cX6_copyFrom 16 = .ok (.getfield 15, 3) := by decide +kernel
theorem s_X6_copyFrom_16 {k r : Nat} (hI : am_Inv g) (hs : am_SH k = (0, 6)) (hk : k < 134) (hr : am_HRf k 1 = some r) (hn : k ≠ 39) (h : AP M_X6_copyFrom b 19 [x0, x1] (.ref r :: st) hi g Φ) : AP M_X6_copyFrom b 16 [x0, x1] (.ref k :: st) hi g Φ := AP.getR (j := 1) (q := (RX6, TX6, 8)) d_X6_copyFrom_16 hs (hI.lt hk) rfl (by decide) (by decide) w_161 (hI.r hn hr) h
theorem d_X6_copyFrom_19 : decode cX6_copyFrom 19 = .ok (.iconst 0, 1) := by decide +kernel
theorem s_X6_copyFrom_19 (h : AP M_X6_copyFrom b 20 [x0, x1] (.int 0 :: st) hi g Φ) : AP M_X6_copyFrom b 19 [x0, x1] (st) hi g Φ := AP.iconst (x := 0) d_X6_copyFrom_19 (by decide) h
theorem d_X6_copyFrom_20 : decode cX6_copyFrom 20 = .ok (.aload_n 0, 1) := by decide +kernel
theorem s_X6_copyFrom_20 {n : Nat} (h : AP M_X6_copyFrom b 21 [.ref n, x1] (.ref n :: st) hi g Φ) : AP M_X6_copyFrom b 20 [.ref n, x1] (st) hi g Φ := AP.aload_n (x := n) (i := 0) d_X6_copyFrom_20 rfl rfl h
theorem d_X6_copyFrom_21 : decode cX6_copyFrom 21 = .ok (.getfield 15, 3) := by decide +kernel
theorem s_X6_copyFrom_21 {k r : Nat} (hI : am_Inv g) (hs : am_SH k = (0, 6)) (hk : k < 134) (hr : am_HRf k 1 = some r) (hn : k ≠ 39) (h : AP M_X6_copyFrom b 24 [x0, x1] (.ref r :: st) hi g Φ) : AP M_X6_copyFrom b 21 [x0, x1] (.ref k :: st) hi g Φ := AP.getR (j := 1) (q := (RX6, TX6, 8)) d_X6_copyFrom_21 hs (hI.lt hk) rfl (by decide) (by decide) w_161 (hI.r hn hr) h
theorem d_X6_copyFrom_24 : decode cX6_copyFrom 24 = .ok (.iconst 0, 1) := by decide +kernel
theorem s_X6_copyFrom_24 (h : AP M_X6_copyFrom b 25 [x0, x1] (.int 0 :: st) hi g Φ) : AP M_X6_copyFrom b 24 [x0, x1] (st) hi g Φ := AP.iconst (x := 0) d_X6_copyFrom_24 (by decide) h
theorem d_X6_copyFrom_25 : decode cX6_copyFrom 25 = .ok (.iconst 4, 1) := by decide +kernel
theorem s_X6_copyFrom_25 (h : AP M_X6_copyFrom b 26 [x0, x1] (.int 4 :: st) hi g Φ) : AP M_X6_copyFrom b 25 [x0, x1] (st) hi g Φ := AP.iconst (x := 4) d_X6_copyFrom_25 (by decide) h
theorem d_X6_copyFrom_26 : decode cX6_copyFrom 26 = .ok (.invokestatic 41, 3) := by decide +kernel
-- s_X6_copyFrom_26: a call apart
theorem d_X6_copyFrom_29 : decode cX6_copyFrom 29 = .ok (.aload_n 0, 1) := by decide +kernel
theorem s_X6_copyFrom_29 {n : Nat} (h : AP M_X6_copyFrom b 30 [.ref n, x1] (.ref n :: st) hi g Φ) : AP M_X6_copyFrom b 29 [.ref n, x1] (st) hi g Φ := AP.aload_n (x := n) (i := 0) d_X6_copyFrom_29 rfl rfl h
theorem d_X6_copyFrom_30 : decode cX6_copyFrom 30 = .ok (.getfield 21, 3) := by decide +kernel
theorem s_X6_copyFrom_30 {k r : Nat} (hI : am_Inv g) (hs : am_SH k = (0, 6)) (hk : k < 134) (hr : am_HRf k 2 = some r) (hn : k ≠ 39) (h : AP M_X6_copyFrom b 33 [x0, x1] (.ref r :: st) hi g Φ) : AP M_X6_copyFrom b 30 [x0, x1] (.ref k :: st) hi g Φ := AP.getR (j := 2) (q := (RX6, TX6, 8)) d_X6_copyFrom_30 hs (hI.lt hk) rfl (by decide) (by decide) w_164 (hI.r hn hr) h
theorem d_X6_copyFrom_33 : decode cX6_copyFrom 33 = .ok (.aload_n 1, 1) := by decide +kernel
theorem s_X6_copyFrom_33 {n : Nat} (h : AP M_X6_copyFrom b 34 [x0, .ref n] (.ref n :: st) hi g Φ) : AP M_X6_copyFrom b 33 [x0, .ref n] (st) hi g Φ := AP.aload_n (x := n) (i := 1) d_X6_copyFrom_33 rfl rfl h
theorem d_X6_copyFrom_34 : decode cX6_copyFrom 34 = .ok (.getfield 21, 3) := by decide +kernel
theorem s_X6_copyFrom_34 {k r : Nat} (hI : am_Inv g) (hs : am_SH k = (0, 6)) (hk : k < 134) (hr : am_HRf k 2 = some r) (hn : k ≠ 39) (h : AP M_X6_copyFrom b 37 [x0, x1] (.ref r :: st) hi g Φ) : AP M_X6_copyFrom b 34 [x0, x1] (.ref k :: st) hi g Φ := AP.getR (j := 2) (q := (RX6, TX6, 8)) d_X6_copyFrom_34 hs (hI.lt hk) rfl (by decide) (by decide) w_164 (hI.r hn hr) h
theorem d_X6_copyFrom_37 : decode cX6_copyFrom 37 = .ok (.invokevirtual 47, 3) := by decide +kernel
theorem s_X6_copyFrom_37 {a0 : Nat} {k : Nat} {P : am_HI → Prop} (hI : am_Inv g) (hs : am_SH k = (0, 2)) (hk : k < 134) (hst : (st.map Value.category).sum ≤ 8) (hc : am_Cr M_X2_copyFrom [.ref k, .ref a0] hi g none P) (h : ∀ hi' : am_HI, P hi' → AP M_X6_copyFrom b 40 [x0, x1] (st) hi' g Φ) : AP M_X6_copyFrom b 37 [x0, x1] (.ref a0 :: .ref k :: st) hi g Φ := AP.callVr (As := [.ref a0]) (q := (RX2, TX2, 8)) hI hc k_X6_copyFrom_47 d_X6_copyFrom_37 rfl hs hk rfl rfl hst h
theorem d_X6_copyFrom_40 : decode cX6_copyFrom 40 = .ok (.aload_n 0, 1) := by decide +kernel
theorem s_X6_copyFrom_40 {n : Nat} (h : AP M_X6_copyFrom b 41 [.ref n, x1] (.ref n :: st) hi g Φ) : AP M_X6_copyFrom b 40 [.ref n, x1] (st) hi g Φ := AP.aload_n (x := n) (i := 0) d_X6_copyFrom_40 rfl rfl h
theorem d_X6_copyFrom_41 : decode cX6_copyFrom 41 = .ok (.aload_n 1, 1) := by decide +kernel
theorem s_X6_copyFrom_41 {n : Nat} (h : AP M_X6_copyFrom b 42 [x0, .ref n] (.ref n :: st) hi g Φ) : AP M_X6_copyFrom b 41 [x0, .ref n] (st) hi g Φ := AP.aload_n (x := n) (i := 1) d_X6_copyFrom_41 rfl rfl h
theorem d_X6_copyFrom_42 : decode cX6_copyFrom 42 = .ok (.getfield 25, 3) := by decide +kernel
theorem s_X6_copyFrom_42 {k : Nat} (hI : am_Inv g) (hs : am_SH k = (0, 6)) (hk : k < 134) (h : AP M_X6_copyFrom b 45 [x0, x1] (.int (hi k 3) :: st) hi g Φ) : AP M_X6_copyFrom b 42 [x0, x1] (.ref k :: st) hi g Φ := AP.getI (j := 3) (q := (RX6, TX6, 8)) d_X6_copyFrom_42 hs (hI.lt hk) rfl (by decide) (by decide) w_166 h
theorem d_X6_copyFrom_45 : decode cX6_copyFrom 45 = .ok (.putfield 25, 3) := by decide +kernel
theorem s_X6_copyFrom_45 {k : Nat} {n : Int32} (hI : am_Inv g) (hs : am_SH k = (0, 6)) (hk : k < 134) (h : AP M_X6_copyFrom b 48 [x0, x1] (st) (am_up hi k 3 n) g Φ) : AP M_X6_copyFrom b 45 [x0, x1] (.int n :: .ref k :: st) hi g Φ := AP.putI (j := 3) (q := (RX6, TX6, 8)) d_X6_copyFrom_45 hs (hI.lt hk) rfl (by decide) rfl rfl w_166 h
theorem d_X6_copyFrom_48 : decode cX6_copyFrom 48 = .ok (.aload_n 0, 1) := by decide +kernel
theorem s_X6_copyFrom_48 {n : Nat} (h : AP M_X6_copyFrom b 49 [.ref n, x1] (.ref n :: st) hi g Φ) : AP M_X6_copyFrom b 48 [.ref n, x1] (st) hi g Φ := AP.aload_n (x := n) (i := 0) d_X6_copyFrom_48 rfl rfl h
theorem d_X6_copyFrom_49 : decode cX6_copyFrom 49 = .ok (.aload_n 1, 1) := by decide +kernel
theorem s_X6_copyFrom_49 {n : Nat} (h : AP M_X6_copyFrom b 50 [x0, .ref n] (.ref n :: st) hi g Φ) : AP M_X6_copyFrom b 49 [x0, .ref n] (st) hi g Φ := AP.aload_n (x := n) (i := 1) d_X6_copyFrom_49 rfl rfl h
theorem d_X6_copyFrom_50 : decode cX6_copyFrom 50 = .ok (.getfield 29, 3) := by decide +kernel
theorem s_X6_copyFrom_50 {k : Nat} (hI : am_Inv g) (hs : am_SH k = (0, 6)) (hk : k < 134) (h : AP M_X6_copyFrom b 53 [x0, x1] (.int (hi k 4) :: st) hi g Φ) : AP M_X6_copyFrom b 50 [x0, x1] (.ref k :: st) hi g Φ := AP.getI (j := 4) (q := (RX6, TX6, 8)) d_X6_copyFrom_50 hs (hI.lt hk) rfl (by decide) (by decide) w_169 h
theorem d_X6_copyFrom_53 : decode cX6_copyFrom 53 = .ok (.putfield 29, 3) := by decide +kernel
theorem s_X6_copyFrom_53 {k : Nat} {n : Int32} (hI : am_Inv g) (hs : am_SH k = (0, 6)) (hk : k < 134) (h : AP M_X6_copyFrom b 56 [x0, x1] (st) (am_up hi k 4 n) g Φ) : AP M_X6_copyFrom b 53 [x0, x1] (.int n :: .ref k :: st) hi g Φ := AP.putI (j := 4) (q := (RX6, TX6, 8)) d_X6_copyFrom_53 hs (hI.lt hk) rfl (by decide) rfl rfl w_169 h
theorem d_X6_copyFrom_56 : decode cX6_copyFrom 56 = .ok (.aload_n 0, 1) := by decide +kernel
theorem s_X6_copyFrom_56 {n : Nat} (h : AP M_X6_copyFrom b 57 [.ref n, x1] (.ref n :: st) hi g Φ) : AP M_X6_copyFrom b 56 [.ref n, x1] (st) hi g Φ := AP.aload_n (x := n) (i := 0) d_X6_copyFrom_56 rfl rfl h
theorem d_X6_copyFrom_57 : decode cX6_copyFrom 57 = .ok (.aload_n 1, 1) := by decide +kernel
theorem s_X6_copyFrom_57 {n : Nat} (h : AP M_X6_copyFrom b 58 [x0, .ref n] (.ref n :: st) hi g Φ) : AP M_X6_copyFrom b 57 [x0, .ref n] (st) hi g Φ := AP.aload_n (x := n) (i := 1) d_X6_copyFrom_57 rfl rfl h
theorem d_X6_copyFrom_58 : decode cX6_copyFrom 58 = .ok (.getfield 32, 3) := by decide +kernel
theorem s_X6_copyFrom_58 {k : Nat} (hI : am_Inv g) (hs : am_SH k = (0, 6)) (hk : k < 134) (h : AP M_X6_copyFrom b 61 [x0, x1] (.int (hi k 5) :: st) hi g Φ) : AP M_X6_copyFrom b 58 [x0, x1] (.ref k :: st) hi g Φ := AP.getI (j := 5) (q := (RX6, TX6, 8)) d_X6_copyFrom_58 hs (hI.lt hk) rfl (by decide) (by decide) w_172 h
theorem d_X6_copyFrom_61 : decode cX6_copyFrom 61 = .ok (.putfield 32, 3) := by decide +kernel
theorem s_X6_copyFrom_61 {k : Nat} {n : Int32} (hI : am_Inv g) (hs : am_SH k = (0, 6)) (hk : k < 134) (h : AP M_X6_copyFrom b 64 [x0, x1] (st) (am_up hi k 5 n) g Φ) : AP M_X6_copyFrom b 61 [x0, x1] (.int n :: .ref k :: st) hi g Φ := AP.putI (j := 5) (q := (RX6, TX6, 8)) d_X6_copyFrom_61 hs (hI.lt hk) rfl (by decide) rfl rfl w_172 h
theorem d_X6_copyFrom_64 : decode cX6_copyFrom 64 = .ok (.aload_n 0, 1) := by decide +kernel
theorem s_X6_copyFrom_64 {n : Nat} (h : AP M_X6_copyFrom b 65 [.ref n, x1] (.ref n :: st) hi g Φ) : AP M_X6_copyFrom b 64 [.ref n, x1] (st) hi g Φ := AP.aload_n (x := n) (i := 0) d_X6_copyFrom_64 rfl rfl h
theorem d_X6_copyFrom_65 : decode cX6_copyFrom 65 = .ok (.aload_n 1, 1) := by decide +kernel
theorem s_X6_copyFrom_65 {n : Nat} (h : AP M_X6_copyFrom b 66 [x0, .ref n] (.ref n :: st) hi g Φ) : AP M_X6_copyFrom b 65 [x0, .ref n] (st) hi g Φ := AP.aload_n (x := n) (i := 1) d_X6_copyFrom_65 rfl rfl h
theorem d_X6_copyFrom_66 : decode cX6_copyFrom 66 = .ok (.getfield 35, 3) := by decide +kernel
theorem s_X6_copyFrom_66 {k : Nat} (hI : am_Inv g) (hs : am_SH k = (0, 6)) (hk : k < 134) (h : AP M_X6_copyFrom b 69 [x0, x1] (.int (hi k 6) :: st) hi g Φ) : AP M_X6_copyFrom b 66 [x0, x1] (.ref k :: st) hi g Φ := AP.getI (j := 6) (q := (RX6, TX6, 8)) d_X6_copyFrom_66 hs (hI.lt hk) rfl (by decide) (by decide) w_175 h
theorem d_X6_copyFrom_69 : decode cX6_copyFrom 69 = .ok (.putfield 35, 3) := by decide +kernel
theorem s_X6_copyFrom_69 {k : Nat} {n : Int32} (hI : am_Inv g) (hs : am_SH k = (0, 6)) (hk : k < 134) (h : AP M_X6_copyFrom b 72 [x0, x1] (st) (am_up hi k 6 n) g Φ) : AP M_X6_copyFrom b 69 [x0, x1] (.int n :: .ref k :: st) hi g Φ := AP.putI (j := 6) (q := (RX6, TX6, 8)) d_X6_copyFrom_69 hs (hI.lt hk) rfl (by decide) rfl rfl w_175 h
theorem d_X6_copyFrom_72 : decode cX6_copyFrom 72 = .ok (.aload_n 0, 1) := by decide +kernel
theorem s_X6_copyFrom_72 {n : Nat} (h : AP M_X6_copyFrom b 73 [.ref n, x1] (.ref n :: st) hi g Φ) : AP M_X6_copyFrom b 72 [.ref n, x1] (st) hi g Φ := AP.aload_n (x := n) (i := 0) d_X6_copyFrom_72 rfl rfl h
theorem d_X6_copyFrom_73 : decode cX6_copyFrom 73 = .ok (.aload_n 1, 1) := by decide +kernel
theorem s_X6_copyFrom_73 {n : Nat} (h : AP M_X6_copyFrom b 74 [x0, .ref n] (.ref n :: st) hi g Φ) : AP M_X6_copyFrom b 73 [x0, .ref n] (st) hi g Φ := AP.aload_n (x := n) (i := 1) d_X6_copyFrom_73 rfl rfl h
theorem d_X6_copyFrom_74 : decode cX6_copyFrom 74 = .ok (.getfield 38, 3) := by decide +kernel
theorem s_X6_copyFrom_74 {k : Nat} (hI : am_Inv g) (hs : am_SH k = (0, 6)) (hk : k < 134) (h : AP M_X6_copyFrom b 77 [x0, x1] (.int (hi k 7) :: st) hi g Φ) : AP M_X6_copyFrom b 74 [x0, x1] (.ref k :: st) hi g Φ := AP.getI (j := 7) (q := (RX6, TX6, 8)) d_X6_copyFrom_74 hs (hI.lt hk) rfl (by decide) (by decide) w_177 h
theorem d_X6_copyFrom_77 : decode cX6_copyFrom 77 = .ok (.putfield 38, 3) := by decide +kernel
theorem s_X6_copyFrom_77 {k : Nat} {n : Int32} (hI : am_Inv g) (hs : am_SH k = (0, 6)) (hk : k < 134) (h : AP M_X6_copyFrom b 80 [x0, x1] (st) (am_up hi k 7 n) g Φ) : AP M_X6_copyFrom b 77 [x0, x1] (.int n :: .ref k :: st) hi g Φ := AP.putI (j := 7) (q := (RX6, TX6, 8)) d_X6_copyFrom_77 hs (hI.lt hk) rfl (by decide) rfl rfl w_177 h
theorem d_X6_copyFrom_80 : decode cX6_copyFrom 80 = .ok (.return_, 1) := by decide +kernel
theorem s_X6_copyFrom_80 (h : Φ (.ok none) hi g) : AP M_X6_copyFrom b 80 [x0, x1] [] hi g Φ := AP.vret d_X6_copyFrom_80 rfl h
end
