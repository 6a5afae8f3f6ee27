/-! ===== rows by program ===== -/
section
variable {b : Nat × Nat} {st : List Value} {hi : am_HI} {g : am_G} {Φ : am_P} {x0 x1 x2 x3 : Value}
theorem d_L_add_0 : decode cL_add 0 = .ok (.aload_n 2, 1) := by decide +kernel
theorem s_L_add_0 {n : Nat} (h : AP M_L_add b 1 [x0, x1, .ref n, x3] (.ref n :: st) hi g Φ) : AP M_L_add b 0 [x0, x1, .ref n, x3] (st) hi g Φ := AP.aload_n (x := n) (i := 2) d_L_add_0 rfl rfl h
theorem d_L_add_1 : decode cL_add 1 = .ok (.iconst 0, 1) := by decide +kernel
theorem s_L_add_1 (h : AP M_L_add b 2 [x0, x1, x2, x3] (.int 0 :: st) hi g Φ) : AP M_L_add b 1 [x0, x1, x2, x3] (st) hi g Φ := AP.iconst (x := 0) d_L_add_1 (by decide) h
theorem d_L_add_2 : decode cL_add 2 = .ok (.aload_n 0, 1) := by decide +kernel
theorem s_L_add_2 {n : Nat} (h : AP M_L_add b 3 [.ref n, x1, x2, x3] (.ref n :: st) hi g Φ) : AP M_L_add b 2 [.ref n, x1, x2, x3] (st) hi g Φ := AP.aload_n (x := n) (i := 0) d_L_add_2 rfl rfl h
theorem d_L_add_3 : decode cL_add 3 = .ok (.iload_n 1, 1) := by decide +kernel
theorem s_L_add_3 {n : Int32} (h : AP M_L_add b 4 [x0, .int n, x2, x3] (.int n :: st) hi g Φ) : AP M_L_add b 3 [x0, .int n, x2, x3] (st) hi g Φ := AP.iload_n (x := n) (i := 1) d_L_add_3 rfl rfl h
theorem d_L_add_4 : decode cL_add 4 = .ok (.invokevirtual 7, 3) := by decide +kernel
theorem s_L_add_4 {a0 : Int32} {k : Nat} {r0 : Int32} {P : am_HI → Prop} (hI : am_Inv g) (hs : am_SH k = (0, 9)) (hk : k < 134) (hst : (st.map Value.category).sum ≤ 8) (hc : am_Cr M_X9_add [.ref k, .int a0] hi g (some (.int r0)) P) (h : ∀ hi' : am_HI, P hi' → AP M_L_add b 7 [x0, x1, x2, x3] (.int r0 :: st) hi' g Φ) : AP M_L_add b 4 [x0, x1, x2, x3] (.int a0 :: .ref k :: st) hi g Φ := AP.callVr (As := [.int a0]) (q := (RX9, TX9, 7)) hI hc k_L_add_7 d_L_add_4 rfl hs hk rfl rfl hst h
theorem d_L_add_7 : decode cL_add 7 = .ok (.i2l, 1) := by decide +kernel
theorem s_L_add_7 {x : Int32} (h : AP M_L_add b 8 [x0, x1, x2, x3] (.long x.toInt64 :: st) hi g Φ) : AP M_L_add b 7 [x0, x1, x2, x3] (.int x :: st) hi g Φ := AP.i2l d_L_add_7 h
theorem d_L_add_8 : decode cL_add 8 = .ok (.lastore, 1) := by decide +kernel
theorem s_L_add_8 {k n j : Nat} {i : Int32} {x : Int64} (hI : am_Inv g) (hs : am_SH k = (4, n)) (hk : k < 134) (hn : n < 2 ^ 31) (hx : i = nI j) (hj : j < n) (h : AP M_L_add b 9 [x0, x1, x2, x3] (st) hi (am_upl g k j x) Φ) : AP M_L_add b 8 [x0, x1, x2, x3] (.long x :: .int i :: .ref k :: st) hi g Φ := AP.last d_L_add_8 hs (hI.lt hk) hn hx hj h
theorem d_L_add_9 : decode cL_add 9 = .ok (.goto 9, 3) := by decide +kernel
theorem s_L_add_9 (h : AP M_L_add b 18 [x0, x1, x2, x3] st hi g Φ) : AP M_L_add b 9 [x0, x1, x2, x3] st hi g Φ := AP.goto d_L_add_9 (by decide) h
theorem d_L_add_12 : decode cL_add 12 = .ok (.astore_n 3, 1) := by decide +kernel
theorem s_L_add_12 {n : Nat} (hc : x2.category = 1) (h : AP M_L_add b 13 [x0, x1, x2, .ref n] (st) hi g Φ) : AP M_L_add b 12 [x0, x1, x2, x3] (.ref n :: st) hi g Φ := AP.astore_n (x := n) (i := 3) d_L_add_12 rfl (by decide) (by simp [am_st, am_ci, am_cr, am_cl, am_cd, hc]) h
theorem d_L_add_13 : decode cL_add 13 = .ok (.iconst 1, 1) := by decide +kernel
theorem s_L_add_13 (h : AP M_L_add b 14 [x0, x1, x2, x3] (.int 1 :: st) hi g Φ) : AP M_L_add b 13 [x0, x1, x2, x3] (st) hi g Φ := AP.iconst (x := 1) d_L_add_13 (by decide) h
theorem d_L_add_14 : decode cL_add 14 = .ok (.ireturn, 1) := by decide +kernel
theorem s_L_add_14 {x : Int32} (h : Φ (.ok (some (.int x))) hi g) : AP M_L_add b 14 [x0, x1, x2, x3] [.int x] hi g Φ := AP.iret d_L_add_14 rfl h
theorem d_L_add_15 : decode cL_add 15 = .ok (.astore_n 3, 1) := by decide +kernel
theorem s_L_add_15 {n : Nat} (hc : x2.category = 1) (h : AP M_L_add b 16 [x0, x1, x2, .ref n] (st) hi g Φ) : AP M_L_add b 15 [x0, x1, x2, x3] (.ref n :: st) hi g Φ := AP.astore_n (x := n) (i := 3) d_L_add_15 rfl (by decide) (by simp [am_st, am_ci, am_cr, am_cl, am_cd, hc]) h
theorem d_L_add_16 : decode cL_add 16 = .ok (.iconst 2, 1) := by decide +kernel
theorem s_L_add_16 (h : AP M_L_add b 17 [x0, x1, x2, x3] (.int 2 :: st) hi g Φ) : AP M_L_add b 16 [x0, x1, x2, x3] (st) hi g Φ := AP.iconst (x := 2) d_L_add_16 (by decide) h
theorem d_L_add_17 : decode cL_add 17 = .ok (.ireturn, 1) := by decide +kernel
theorem s_L_add_17 {x : Int32} (h : Φ (.ok (some (.int x))) hi g) : AP M_L_add b 17 [x0, x1, x2, x3] [.int x] hi g Φ := AP.iret d_L_add_17 rfl h
theorem d_L_add_18 : decode cL_add 18 = .ok (.iconst 0, 1) := by decide +kernel
theorem s_L_add_18 (h : AP M_L_add b 19 [x0, x1, x2, x3] (.int 0 :: st) hi g Φ) : AP M_L_add b 18 [x0, x1, x2, x3] (st) hi g Φ := AP.iconst (x := 0) d_L_add_18 (by decide) h
theorem d_L_add_19 : decode cL_add 19 = .ok (.ireturn, 1) := by decide +kernel
theorem s_L_add_19 {x : Int32} (h : Φ (.ok (some (.int x))) hi g) : AP M_L_add b 19 [x0, x1, x2, x3] [.int x] hi g Φ := AP.iret d_L_add_19 rfl h
end
section
variable {b : Nat × Nat} {st : List Value} {hi : am_HI} {g : am_G} {Φ : am_P} {x0 x1 x2 x3 : Value}
theorem d_L_append_0 : decode cL_append 0 = .ok (.aload_n 2, 1) := by decide +kernel
theorem s_L_append_0 {n : Nat} (h : AP M_L_append b 1 [x0, x1, .ref n, x3] (.ref n :: st) hi g Φ) : AP M_L_append b 0 [x0, x1, .ref n, x3] (st) hi g Φ := AP.aload_n (x := n) (i := 2) d_L_append_0 rfl rfl h
theorem d_L_append_1 : decode cL_append 1 = .ok (.iconst 0, 1) := by decide +kernel
theorem s_L_append_1 (h : AP M_L_append b 2 [x0, x1, x2, x3] (.int 0 :: st) hi g Φ) : AP M_L_append b 1 [x0, x1, x2, x3] (st) hi g Φ := AP.iconst (x := 0) d_L_append_1 (by decide) h
theorem d_L_append_2 : decode cL_append 2 = .ok (.aload_n 0, 1) := by decide +kernel
theorem s_L_append_2 {n : Nat} (h : AP M_L_append b 3 [.ref n, x1, x2, x3] (.ref n :: st) hi g Φ) : AP M_L_append b 2 [.ref n, x1, x2, x3] (st) hi g Φ := AP.aload_n (x := n) (i := 0) d_L_append_2 rfl rfl h
theorem d_L_append_3 : decode cL_append 3 = .ok (.iload_n 1, 1) := by decide +kernel
theorem s_L_append_3 {n : Int32} (h : AP M_L_append b 4 [x0, .int n, x2, x3] (.int n :: st) hi g Φ) : AP M_L_append b 3 [x0, .int n, x2, x3] (st) hi g Φ := AP.iload_n (x := n) (i := 1) d_L_append_3 rfl rfl h
theorem d_L_append_4 : decode cL_append 4 = .ok (.invokevirtual 122, 3) := by decide +kernel
theorem s_L_append_4 {a0 : Int32} {k : Nat} {r0 : Int32} {P : am_HI → Prop} (hI : am_Inv g) (hs : am_SH k = (0, 9)) (hk : k < 134) (hst : (st.map Value.category).sum ≤ 8) (hc : am_Cr M_X9_append [.ref k, .int a0] hi g (some (.int r0)) P) (h : ∀ hi' : am_HI, P hi' → AP M_L_append b 7 [x0, x1, x2, x3] (.int r0 :: st) hi' g Φ) : AP M_L_append b 4 [x0, x1, x2, x3] (.int a0 :: .ref k :: st) hi g Φ := AP.callVr (As := [.int a0]) (q := (RX9, TX9, 7)) hI hc k_L_append_122 d_L_append_4 rfl hs hk rfl rfl hst h
theorem d_L_append_7 : decode cL_append 7 = .ok (.i2l, 1) := by decide +kernel
theorem s_L_append_7 {x : Int32} (h : AP M_L_append b 8 [x0, x1, x2, x3] (.long x.toInt64 :: st) hi g Φ) : AP M_L_append b 7 [x0, x1, x2, x3] (.int x :: st) hi g Φ := AP.i2l d_L_append_7 h
theorem d_L_append_8 : decode cL_append 8 = .ok (.lastore, 1) := by decide +kernel
theorem s_L_append_8 {k n j : Nat} {i : Int32} {x : Int64} (hI : am_Inv g) (hs : am_SH k = (4, n)) (hk : k < 134) (hn : n < 2 ^ 31) (hx : i = nI j) (hj : j < n) (h : AP M_L_append b 9 [x0, x1, x2, x3] (st) hi (am_upl g k j x) Φ) : AP M_L_append b 8 [x0, x1, x2, x3] (.long x :: .int i :: .ref k :: st) hi g Φ := AP.last d_L_append_8 hs (hI.lt hk) hn hx hj h
theorem d_L_append_9 : decode cL_append 9 = .ok (.goto 9, 3) := by decide +kernel
theorem s_L_append_9 (h : AP M_L_append b 18 [x0, x1, x2, x3] st hi g Φ) : AP M_L_append b 9 [x0, x1, x2, x3] st hi g Φ := AP.goto d_L_append_9 (by decide) h
theorem d_L_append_12 : decode cL_append 12 = .ok (.astore_n 3, 1) := by decide +kernel
theorem s_L_append_12 {n : Nat} (hc : x2.category = 1) (h : AP M_L_append b 13 [x0, x1, x2, .ref n] (st) hi g Φ) : AP M_L_append b 12 [x0, x1, x2, x3] (.ref n :: st) hi g Φ := AP.astore_n (x := n) (i := 3) d_L_append_12 rfl (by decide) (by simp [am_st, am_ci, am_cr, am_cl, am_cd, hc]) h
theorem d_L_append_13 : decode cL_append 13 = .ok (.iconst 1, 1) := by decide +kernel
theorem s_L_append_13 (h : AP M_L_append b 14 [x0, x1, x2, x3] (.int 1 :: st) hi g Φ) : AP M_L_append b 13 [x0, x1, x2, x3] (st) hi g Φ := AP.iconst (x := 1) d_L_append_13 (by decide) h
theorem d_L_append_14 : decode cL_append 14 = .ok (.ireturn, 1) := by decide +kernel
theorem s_L_append_14 {x : Int32} (h : Φ (.ok (some (.int x))) hi g) : AP M_L_append b 14 [x0, x1, x2, x3] [.int x] hi g Φ := AP.iret d_L_append_14 rfl h
theorem d_L_append_15 : decode cL_append 15 = .ok (.astore_n 3, 1) := by decide +kernel
theorem s_L_append_15 {n : Nat} (hc : x2.category = 1) (h : AP M_L_append b 16 [x0, x1, x2, .ref n] (st) hi g Φ) : AP M_L_append b 15 [x0, x1, x2, x3] (.ref n :: st) hi g Φ := AP.astore_n (x := n) (i := 3) d_L_append_15 rfl (by decide) (by simp [am_st, am_ci, am_cr, am_cl, am_cd, hc]) h
theorem d_L_append_16 : decode cL_append 16 = .ok (.iconst 2, 1) := by decide +kernel
theorem s_L_append_16 (h : AP M_L_append b 17 [x0, x1, x2, x3] (.int 2 :: st) hi g Φ) : AP M_L_append b 16 [x0, x1, x2, x3] (st) hi g Φ := AP.iconst (x := 2) d_L_append_16 (by decide) h
theorem d_L_append_17 : decode cL_append 17 = .ok (.ireturn, 1) := by decide +kernel
theorem s_L_append_17 {x : Int32} (h : Φ (.ok (some (.int x))) hi g) : AP M_L_append b 17 [x0, x1, x2, x3] [.int x] hi g Φ := AP.iret d_L_append_17 rfl h
theorem d_L_append_18 : decode cL_append 18 = .ok (.iconst 0, 1) := by decide +kernel
theorem s_L_append_18 (h : AP M_L_append b 19 [x0, x1, x2, x3] (.int 0 :: st) hi g Φ) : AP M_L_append b 18 [x0, x1, x2, x3] (st) hi g Φ := AP.iconst (x := 0) d_L_append_18 (by decide) h
theorem d_L_append_19 : decode cL_append 19 = .ok (.ireturn, 1) := by decide +kernel
theorem s_L_append_19 {x : Int32} (h : Φ (.ok (some (.int x))) hi g) : AP M_L_append b 19 [x0, x1, x2, x3] [.int x] hi g Φ := AP.iret d_L_append_19 rfl h
end
section
variable {b : Nat × Nat} {st : List Value} {hi : am_HI} {g : am_G} {Φ : am_P} {x0 x1 x2 x3 : Value}
theorem d_L_bestFirst_0 : decode cL_bestFirst 0 = .ok (.aload_n 2, 1) := by decide +kernel
theorem s_L_bestFirst_0 {n : Nat} (h : AP M_L_bestFirst b 1 [x0, x1, .ref n, x3] (.ref n :: st) hi g Φ) : AP M_L_bestFirst b 0 [x0, x1, .ref n, x3] (st) hi g Φ := AP.aload_n (x := n) (i := 2) d_L_bestFirst_0 rfl rfl h
theorem d_L_bestFirst_1 : decode cL_bestFirst 1 = .ok (.iconst 0, 1) := by decide +kernel
theorem s_L_bestFirst_1 (h : AP M_L_bestFirst b 2 [x0, x1, x2, x3] (.int 0 :: st) hi g Φ) : AP M_L_bestFirst b 1 [x0, x1, x2, x3] (st) hi g Φ := AP.iconst (x := 0) d_L_bestFirst_1 (by decide) h
theorem d_L_bestFirst_2 : decode cL_bestFirst 2 = .ok (.aload_n 0, 1) := by decide +kernel
theorem s_L_bestFirst_2 {n : Nat} (h : AP M_L_bestFirst b 3 [.ref n, x1, x2, x3] (.ref n :: st) hi g Φ) : AP M_L_bestFirst b 2 [.ref n, x1, x2, x3] (st) hi g Φ := AP.aload_n (x := n) (i := 0) d_L_bestFirst_2 rfl rfl h
theorem d_L_bestFirst_3 : decode cL_bestFirst 3 = .ok (.iload_n 1, 1) := by decide +kernel
theorem s_L_bestFirst_3 {n : Int32} (h : AP M_L_bestFirst b 4 [x0, .int n, x2, x3] (.int n :: st) hi g Φ) : AP M_L_bestFirst b 3 [x0, .int n, x2, x3] (st) hi g Φ := AP.iload_n (x := n) (i := 1) d_L_bestFirst_3 rfl rfl h
theorem d_L_bestFirst_4 : decode cL_bestFirst 4 = .ok (.invokevirtual 74, 3) := by decide +kernel
theorem s_L_bestFirst_4 {a0 : Int32} {k : Nat} {r0 : Int32} {P : am_HI → Prop} (hI : am_Inv g) (hs : am_SH k = (0, 9)) (hk : k < 134) (hst : (st.map Value.category).sum ≤ 8) (hc : am_Cr M_X9_bestFirst [.ref k, .int a0] hi g (some (.int r0)) P) (h : ∀ hi' : am_HI, P hi' → AP M_L_bestFirst b 7 [x0, x1, x2, x3] (.int r0 :: st) hi' g Φ) : AP M_L_bestFirst b 4 [x0, x1, x2, x3] (.int a0 :: .ref k :: st) hi g Φ := AP.callVr (As := [.int a0]) (q := (RX9, TX9, 7)) hI hc k_L_bestFirst_74 d_L_bestFirst_4 rfl hs hk rfl rfl hst h
theorem d_L_bestFirst_7 : decode cL_bestFirst 7 = .ok (.i2l, 1) := by decide +kernel
theorem s_L_bestFirst_7 {x : Int32} (h : AP M_L_bestFirst b 8 [x0, x1, x2, x3] (.long x.toInt64 :: st) hi g Φ) : AP M_L_bestFirst b 7 [x0, x1, x2, x3] (.int x :: st) hi g Φ := AP.i2l d_L_bestFirst_7 h
theorem d_L_bestFirst_8 : decode cL_bestFirst 8 = .ok (.lastore, 1) := by decide +kernel
theorem s_L_bestFirst_8 {k n j : Nat} {i : Int32} {x : Int64} (hI : am_Inv g) (hs : am_SH k = (4, n)) (hk : k < 134) (hn : n < 2 ^ 31) (hx : i = nI j) (hj : j < n) (h : AP M_L_bestFirst b 9 [x0, x1, x2, x3] (st) hi (am_upl g k j x) Φ) : AP M_L_bestFirst b 8 [x0, x1, x2, x3] (.long x :: .int i :: .ref k :: st) hi g Φ := AP.last d_L_bestFirst_8 hs (hI.lt hk) hn hx hj h
theorem d_L_bestFirst_9 : decode cL_bestFirst 9 = .ok (.goto 6, 3) := by decide +kernel
theorem s_L_bestFirst_9 (h : AP M_L_bestFirst b 15 [x0, x1, x2, x3] st hi g Φ) : AP M_L_bestFirst b 9 [x0, x1, x2, x3] st hi g Φ := AP.goto d_L_bestFirst_9 (by decide) h
theorem d_L_bestFirst_12 : decode cL_bestFirst 12 = .ok (.astore_n 3, 1) := by decide +kernel
theorem s_L_bestFirst_12 {n : Nat} (hc : x2.category = 1) (h : AP M_L_bestFirst b 13 [x0, x1, x2, .ref n] (st) hi g Φ) : AP M_L_bestFirst b 12 [x0, x1, x2, x3] (.ref n :: st) hi g Φ := AP.astore_n (x := n) (i := 3) d_L_bestFirst_12 rfl (by decide) (by simp [am_st, am_ci, am_cr, am_cl, am_cd, hc]) h
theorem d_L_bestFirst_13 : decode cL_bestFirst 13 = .ok (.iconst 1, 1) := by decide +kernel
theorem s_L_bestFirst_13 (h : AP M_L_bestFirst b 14 [x0, x1, x2, x3] (.int 1 :: st) hi g Φ) : AP M_L_bestFirst b 13 [x0, x1, x2, x3] (st) hi g Φ := AP.iconst (x := 1) d_L_bestFirst_13 (by decide) h
theorem d_L_bestFirst_14 : decode cL_bestFirst 14 = .ok (.ireturn, 1) := by decide +kernel
theorem s_L_bestFirst_14 {x : Int32} (h : Φ (.ok (some (.int x))) hi g) : AP M_L_bestFirst b 14 [x0, x1, x2, x3] [.int x] hi g Φ := AP.iret d_L_bestFirst_14 rfl h
theorem d_L_bestFirst_15 : decode cL_bestFirst 15 = .ok (.iconst 0, 1) := by decide +kernel
theorem s_L_bestFirst_15 (h : AP M_L_bestFirst b 16 [x0, x1, x2, x3] (.int 0 :: st) hi g Φ) : AP M_L_bestFirst b 15 [x0, x1, x2, x3] (st) hi g Φ := AP.iconst (x := 0) d_L_bestFirst_15 (by decide) h
theorem d_L_bestFirst_16 : decode cL_bestFirst 16 = .ok (.ireturn, 1) := by decide +kernel
theorem s_L_bestFirst_16 {x : Int32} (h : Φ (.ok (some (.int x))) hi g) : AP M_L_bestFirst b 16 [x0, x1, x2, x3] [.int x] hi g Φ := AP.iret d_L_bestFirst_16 rfl h
end
section
variable {b : Nat × Nat} {st : List Value} {hi : am_HI} {g : am_G} {Φ : am_P} {x0 x1 x2 x3 : Value}
theorem d_L_bestKind_0 : decode cL_bestKind 0 = .ok (.aload_n 2, 1) := by decide +kernel
theorem s_L_bestKind_0 {n : Nat} (h : AP M_L_bestKind b 1 [x0, x1, .ref n, x3] (.ref n :: st) hi g Φ) : AP M_L_bestKind b 0 [x0, x1, .ref n, x3] (st) hi g Φ := AP.aload_n (x := n) (i := 2) d_L_bestKind_0 rfl rfl h
theorem d_L_bestKind_1 : decode cL_bestKind 1 = .ok (.iconst 0, 1) := by decide +kernel
theorem s_L_bestKind_1 (h : AP M_L_bestKind b 2 [x0, x1, x2, x3] (.int 0 :: st) hi g Φ) : AP M_L_bestKind b 1 [x0, x1, x2, x3] (st) hi g Φ := AP.iconst (x := 0) d_L_bestKind_1 (by decide) h
theorem d_L_bestKind_2 : decode cL_bestKind 2 = .ok (.aload_n 0, 1) := by decide +kernel
theorem s_L_bestKind_2 {n : Nat} (h : AP M_L_bestKind b 3 [.ref n, x1, x2, x3] (.ref n :: st) hi g Φ) : AP M_L_bestKind b 2 [.ref n, x1, x2, x3] (st) hi g Φ := AP.aload_n (x := n) (i := 0) d_L_bestKind_2 rfl rfl h
theorem d_L_bestKind_3 : decode cL_bestKind 3 = .ok (.iload_n 1, 1) := by decide +kernel
theorem s_L_bestKind_3 {n : Int32} (h : AP M_L_bestKind b 4 [x0, .int n, x2, x3] (.int n :: st) hi g Φ) : AP M_L_bestKind b 3 [x0, .int n, x2, x3] (st) hi g Φ := AP.iload_n (x := n) (i := 1) d_L_bestKind_3 rfl rfl h
theorem d_L_bestKind_4 : decode cL_bestKind 4 = .ok (.invokevirtual 83, 3) := by decide +kernel
theorem s_L_bestKind_4 {a0 : Int32} {k : Nat} {r0 : Int32} {P : am_HI → Prop} (hI : am_Inv g) (hs : am_SH k = (0, 9)) (hk : k < 134) (hst : (st.map Value.category).sum ≤ 8) (hc : am_Cr M_X9_bestKind [.ref k, .int a0] hi g (some (.int r0)) P) (h : ∀ hi' : am_HI, P hi' → AP M_L_bestKind b 7 [x0, x1, x2, x3] (.int r0 :: st) hi' g Φ) : AP M_L_bestKind b 4 [x0, x1, x2, x3] (.int a0 :: .ref k :: st) hi g Φ := AP.callVr (As := [.int a0]) (q := (RX9, TX9, 7)) hI hc k_L_bestKind_83 d_L_bestKind_4 rfl hs hk rfl rfl hst h
theorem d_L_bestKind_7 : decode cL_bestKind 7 = .ok (.i2l, 1) := by decide +kernel
theorem s_L_bestKind_7 {x : Int32} (h : AP M_L_bestKind b 8 [x0, x1, x2, x3] (.long x.toInt64 :: st) hi g Φ) : AP M_L_bestKind b 7 [x0, x1, x2, x3] (.int x :: st) hi g Φ := AP.i2l d_L_bestKind_7 h
theorem d_L_bestKind_8 : decode cL_bestKind 8 = .ok (.lastore, 1) := by decide +kernel
theorem s_L_bestKind_8 {k n j : Nat} {i : Int32} {x : Int64} (hI : am_Inv g) (hs : am_SH k = (4, n)) (hk : k < 134) (hn : n < 2 ^ 31) (hx : i = nI j) (hj : j < n) (h : AP M_L_bestKind b 9 [x0, x1, x2, x3] (st) hi (am_upl g k j x) Φ) : AP M_L_bestKind b 8 [x0, x1, x2, x3] (.long x :: .int i :: .ref k :: st) hi g Φ := AP.last d_L_bestKind_8 hs (hI.lt hk) hn hx hj h
theorem d_L_bestKind_9 : decode cL_bestKind 9 = .ok (.goto 6, 3) := by decide +kernel
theorem s_L_bestKind_9 (h : AP M_L_bestKind b 15 [x0, x1, x2, x3] st hi g Φ) : AP M_L_bestKind b 9 [x0, x1, x2, x3] st hi g Φ := AP.goto d_L_bestKind_9 (by decide) h
theorem d_L_bestKind_12 : decode cL_bestKind 12 = .ok (.astore_n 3, 1) := by decide +kernel
theorem s_L_bestKind_12 {n : Nat} (hc : x2.category = 1) (h : AP M_L_bestKind b 13 [x0, x1, x2, .ref n] (st) hi g Φ) : AP M_L_bestKind b 12 [x0, x1, x2, x3] (.ref n :: st) hi g Φ := AP.astore_n (x := n) (i := 3) d_L_bestKind_12 rfl (by decide) (by simp [am_st, am_ci, am_cr, am_cl, am_cd, hc]) h
theorem d_L_bestKind_13 : decode cL_bestKind 13 = .ok (.iconst 1, 1) := by decide +kernel
theorem s_L_bestKind_13 (h : AP M_L_bestKind b 14 [x0, x1, x2, x3] (.int 1 :: st) hi g Φ) : AP M_L_bestKind b 13 [x0, x1, x2, x3] (st) hi g Φ := AP.iconst (x := 1) d_L_bestKind_13 (by decide) h
theorem d_L_bestKind_14 : decode cL_bestKind 14 = .ok (.ireturn, 1) := by decide +kernel
theorem s_L_bestKind_14 {x : Int32} (h : Φ (.ok (some (.int x))) hi g) : AP M_L_bestKind b 14 [x0, x1, x2, x3] [.int x] hi g Φ := AP.iret d_L_bestKind_14 rfl h
theorem d_L_bestKind_15 : decode cL_bestKind 15 = .ok (.iconst 0, 1) := by decide +kernel
theorem s_L_bestKind_15 (h : AP M_L_bestKind b 16 [x0, x1, x2, x3] (.int 0 :: st) hi g Φ) : AP M_L_bestKind b 15 [x0, x1, x2, x3] (st) hi g Φ := AP.iconst (x := 0) d_L_bestKind_15 (by decide) h
theorem d_L_bestKind_16 : decode cL_bestKind 16 = .ok (.ireturn, 1) := by decide +kernel
theorem s_L_bestKind_16 {x : Int32} (h : Φ (.ok (some (.int x))) hi g) : AP M_L_bestKind b 16 [x0, x1, x2, x3] [.int x] hi g Φ := AP.iret d_L_bestKind_16 rfl h
end
section
variable {b : Nat × Nat} {st : List Value} {hi : am_HI} {g : am_G} {Φ : am_P} {x0 x1 x2 x3 x4 : Value}
theorem d_L_bestParameter_0 : decode cL_bestParameter 0 = .ok (.aload_n 3, 1) := by decide +kernel
theorem s_L_bestParameter_0 {n : Nat} (h : AP M_L_bestParameter b 1 [x0, x1, x2, .ref n, x4] (.ref n :: st) hi g Φ) : AP M_L_bestParameter b 0 [x0, x1, x2, .ref n, x4] (st) hi g Φ := AP.aload_n (x := n) (i := 3) d_L_bestParameter_0 rfl rfl h
theorem d_L_bestParameter_1 : decode cL_bestParameter 1 = .ok (.iconst 0, 1) := by decide +kernel
theorem s_L_bestParameter_1 (h : AP M_L_bestParameter b 2 [x0, x1, x2, x3, x4] (.int 0 :: st) hi g Φ) : AP M_L_bestParameter b 1 [x0, x1, x2, x3, x4] (st) hi g Φ := AP.iconst (x := 0) d_L_bestParameter_1 (by decide) h
theorem d_L_bestParameter_2 : decode cL_bestParameter 2 = .ok (.aload_n 0, 1) := by decide +kernel
theorem s_L_bestParameter_2 {n : Nat} (h : AP M_L_bestParameter b 3 [.ref n, x1, x2, x3, x4] (.ref n :: st) hi g Φ) : AP M_L_bestParameter b 2 [.ref n, x1, x2, x3, x4] (st) hi g Φ := AP.aload_n (x := n) (i := 0) d_L_bestParameter_2 rfl rfl h
theorem d_L_bestParameter_3 : decode cL_bestParameter 3 = .ok (.iload_n 1, 1) := by decide +kernel
theorem s_L_bestParameter_3 {n : Int32} (h : AP M_L_bestParameter b 4 [x0, .int n, x2, x3, x4] (.int n :: st) hi g Φ) : AP M_L_bestParameter b 3 [x0, .int n, x2, x3, x4] (st) hi g Φ := AP.iload_n (x := n) (i := 1) d_L_bestParameter_3 rfl rfl h
theorem d_L_bestParameter_4 : decode cL_bestParameter 4 = .ok (.iload_n 2, 1) := by decide +kernel
theorem s_L_bestParameter_4 {n : Int32} (h : AP M_L_bestParameter b 5 [x0, x1, .int n, x3, x4] (.int n :: st) hi g Φ) : AP M_L_bestParameter b 4 [x0, x1, .int n, x3, x4] (st) hi g Φ := AP.iload_n (x := n) (i := 2) d_L_bestParameter_4 rfl rfl h
theorem d_L_bestParameter_5 : decode cL_bestParameter 5 = .ok (.invokevirtual 80, 3) := by decide +kernel
theorem s_L_bestParameter_5 {a0 : Int32} {a1 : Int32} {k : Nat} {r0 : Int32} {P : am_HI → Prop} (hI : am_Inv g) (hs : am_SH k = (0, 9)) (hk : k < 134) (hst : (st.map Value.category).sum ≤ 8) (hc : am_Cr M_X9_bestParameter [.ref k, .int a0, .int a1] hi g (some (.int r0)) P) (h : ∀ hi' : am_HI, P hi' → AP M_L_bestParameter b 8 [x0, x1, x2, x3, x4] (.int r0 :: st) hi' g Φ) : AP M_L_bestParameter b 5 [x0, x1, x2, x3, x4] (.int a1 :: .int a0 :: .ref k :: st) hi g Φ := AP.callVr (As := [.int a0, .int a1]) (q := (RX9, TX9, 7)) hI hc k_L_bestParameter_80 d_L_bestParameter_5 rfl hs hk rfl rfl hst h
theorem d_L_bestParameter_8 : decode cL_bestParameter 8 = .ok (.i2l, 1) := by decide +kernel
theorem s_L_bestParameter_8 {x : Int32} (h : AP M_L_bestParameter b 9 [x0, x1, x2, x3, x4] (.long x.toInt64 :: st) hi g Φ) : AP M_L_bestParameter b 8 [x0, x1, x2, x3, x4] (.int x :: st) hi g Φ := AP.i2l d_L_bestParameter_8 h
theorem d_L_bestParameter_9 : decode cL_bestParameter 9 = .ok (.lastore, 1) := by decide +kernel
theorem s_L_bestParameter_9 {k n j : Nat} {i : Int32} {x : Int64} (hI : am_Inv g) (hs : am_SH k = (4, n)) (hk : k < 134) (hn : n < 2 ^ 31) (hx : i = nI j) (hj : j < n) (h : AP M_L_bestParameter b 10 [x0, x1, x2, x3, x4] (st) hi (am_upl g k j x) Φ) : AP M_L_bestParameter b 9 [x0, x1, x2, x3, x4] (.long x :: .int i :: .ref k :: st) hi g Φ := AP.last d_L_bestParameter_9 hs (hI.lt hk) hn hx hj h
theorem d_L_bestParameter_10 : decode cL_bestParameter 10 = .ok (.goto 11, 3) := by decide +kernel
theorem s_L_bestParameter_10 (h : AP M_L_bestParameter b 21 [x0, x1, x2, x3, x4] st hi g Φ) : AP M_L_bestParameter b 10 [x0, x1, x2, x3, x4] st hi g Φ := AP.goto d_L_bestParameter_10 (by decide) h
theorem d_L_bestParameter_13 : decode cL_bestParameter 13 = .ok (.astore 4, 2) := by decide +kernel
theorem s_L_bestParameter_13 {n : Nat} (hc : x3.category = 1) (h : AP M_L_bestParameter b 15 [x0, x1, x2, x3, .ref n] (st) hi g Φ) : AP M_L_bestParameter b 13 [x0, x1, x2, x3, x4] (.ref n :: st) hi g Φ := AP.astore (x := n) (i := 4) d_L_bestParameter_13 (by decide) (by simp [am_st, am_ci, am_cr, am_cl, am_cd, hc]) h
theorem d_L_bestParameter_15 : decode cL_bestParameter 15 = .ok (.iconst 1, 1) := by decide +kernel
theorem s_L_bestParameter_15 (h : AP M_L_bestParameter b 16 [x0, x1, x2, x3, x4] (.int 1 :: st) hi g Φ) : AP M_L_bestParameter b 15 [x0, x1, x2, x3, x4] (st) hi g Φ := AP.iconst (x := 1) d_L_bestParameter_15 (by decide) h
theorem d_L_bestParameter_16 : decode cL_bestParameter 16 = .ok (.ireturn, 1) := by decide +kernel
theorem s_L_bestParameter_16 {x : Int32} (h : Φ (.ok (some (.int x))) hi g) : AP M_L_bestParameter b 16 [x0, x1, x2, x3, x4] [.int x] hi g Φ := AP.iret d_L_bestParameter_16 rfl h
theorem d_L_bestParameter_17 : decode cL_bestParameter 17 = .ok (.astore 4, 2) := by decide +kernel
theorem s_L_bestParameter_17 {n : Nat} (hc : x3.category = 1) (h : AP M_L_bestParameter b 19 [x0, x1, x2, x3, .ref n] (st) hi g Φ) : AP M_L_bestParameter b 17 [x0, x1, x2, x3, x4] (.ref n :: st) hi g Φ := AP.astore (x := n) (i := 4) d_L_bestParameter_17 (by decide) (by simp [am_st, am_ci, am_cr, am_cl, am_cd, hc]) h
theorem d_L_bestParameter_19 : decode cL_bestParameter 19 = .ok (.iconst 2, 1) := by decide +kernel
theorem s_L_bestParameter_19 (h : AP M_L_bestParameter b 20 [x0, x1, x2, x3, x4] (.int 2 :: st) hi g Φ) : AP M_L_bestParameter b 19 [x0, x1, x2, x3, x4] (st) hi g Φ := AP.iconst (x := 2) d_L_bestParameter_19 (by decide) h
theorem d_L_bestParameter_20 : decode cL_bestParameter 20 = .ok (.ireturn, 1) := by decide +kernel
theorem s_L_bestParameter_20 {x : Int32} (h : Φ (.ok (some (.int x))) hi g) : AP M_L_bestParameter b 20 [x0, x1, x2, x3, x4] [.int x] hi g Φ := AP.iret d_L_bestParameter_20 rfl h
theorem d_L_bestParameter_21 : decode cL_bestParameter 21 = .ok (.iconst 0, 1) := by decide +kernel
theorem s_L_bestParameter_21 (h : AP M_L_bestParameter b 22 [x0, x1, x2, x3, x4] (.int 0 :: st) hi g Φ) : AP M_L_bestParameter b 21 [x0, x1, x2, x3, x4] (st) hi g Φ := AP.iconst (x := 0) d_L_bestParameter_21 (by decide) h
theorem d_L_bestParameter_22 : decode cL_bestParameter 22 = .ok (.ireturn, 1) := by decide +kernel
theorem s_L_bestParameter_22 {x : Int32} (h : Φ (.ok (some (.int x))) hi g) : AP M_L_bestParameter b 22 [x0, x1, x2, x3, x4] [.int x] hi g Φ := AP.iret d_L_bestParameter_22 rfl h
end
section
variable {b : Nat × Nat} {st : List Value} {hi : am_HI} {g : am_G} {Φ : am_P} {x0 x1 x2 x3 : Value}
theorem d_L_bitsIfOnly_0 : decode cL_bitsIfOnly 0 = .ok (.aload_n 2, 1) := by decide +kernel
theorem s_L_bitsIfOnly_0 {n : Nat} (h : AP M_L_bitsIfOnly b 1 [x0, x1, .ref n, x3] (.ref n :: st) hi g Φ) : AP M_L_bitsIfOnly b 0 [x0, x1, .ref n, x3] (st) hi g Φ := AP.aload_n (x := n) (i := 2) d_L_bitsIfOnly_0 rfl rfl h
theorem d_L_bitsIfOnly_1 : decode cL_bitsIfOnly 1 = .ok (.iconst 0, 1) := by decide +kernel
theorem s_L_bitsIfOnly_1 (h : AP M_L_bitsIfOnly b 2 [x0, x1, x2, x3] (.int 0 :: st) hi g Φ) : AP M_L_bitsIfOnly b 1 [x0, x1, x2, x3] (st) hi g Φ := AP.iconst (x := 0) d_L_bitsIfOnly_1 (by decide) h
theorem d_L_bitsIfOnly_2 : decode cL_bitsIfOnly 2 = .ok (.aload_n 0, 1) := by decide +kernel
theorem s_L_bitsIfOnly_2 {n : Nat} (h : AP M_L_bitsIfOnly b 3 [.ref n, x1, x2, x3] (.ref n :: st) hi g Φ) : AP M_L_bitsIfOnly b 2 [.ref n, x1, x2, x3] (st) hi g Φ := AP.aload_n (x := n) (i := 0) d_L_bitsIfOnly_2 rfl rfl h
theorem d_L_bitsIfOnly_3 : decode cL_bitsIfOnly 3 = .ok (.iload_n 1, 1) := by decide +kernel
theorem s_L_bitsIfOnly_3 {n : Int32} (h : AP M_L_bitsIfOnly b 4 [x0, .int n, x2, x3] (.int n :: st) hi g Φ) : AP M_L_bitsIfOnly b 3 [x0, .int n, x2, x3] (st) hi g Φ := AP.iload_n (x := n) (i := 1) d_L_bitsIfOnly_3 rfl rfl h
theorem d_L_bitsIfOnly_4 : decode cL_bitsIfOnly 4 = .ok (.invokevirtual 92, 3) := by decide +kernel
theorem s_L_bitsIfOnly_4 {a0 : Int32} {k : Nat} {r0 : Int32} {P : am_HI → Prop} (hI : am_Inv g) (hs : am_SH k = (0, 9)) (hk : k < 134) (hst : (st.map Value.category).sum ≤ 8) (hc : am_Cr M_X9_bitsIfOnly [.ref k, .int a0] hi g (some (.int r0)) P) (h : ∀ hi' : am_HI, P hi' → AP M_L_bitsIfOnly b 7 [x0, x1, x2, x3] (.int r0 :: st) hi' g Φ) : AP M_L_bitsIfOnly b 4 [x0, x1, x2, x3] (.int a0 :: .ref k :: st) hi g Φ := AP.callVr (As := [.int a0]) (q := (RX9, TX9, 7)) hI hc k_L_bitsIfOnly_92 d_L_bitsIfOnly_4 rfl hs hk rfl rfl hst h
theorem d_L_bitsIfOnly_7 : decode cL_bitsIfOnly 7 = .ok (.i2l, 1) := by decide +kernel
theorem s_L_bitsIfOnly_7 {x : Int32} (h : AP M_L_bitsIfOnly b 8 [x0, x1, x2, x3] (.long x.toInt64 :: st) hi g Φ) : AP M_L_bitsIfOnly b 7 [x0, x1, x2, x3] (.int x :: st) hi g Φ := AP.i2l d_L_bitsIfOnly_7 h
theorem d_L_bitsIfOnly_8 : decode cL_bitsIfOnly 8 = .ok (.lastore, 1) := by decide +kernel
theorem s_L_bitsIfOnly_8 {k n j : Nat} {i : Int32} {x : Int64} (hI : am_Inv g) (hs : am_SH k = (4, n)) (hk : k < 134) (hn : n < 2 ^ 31) (hx : i = nI j) (hj : j < n) (h : AP M_L_bitsIfOnly b 9 [x0, x1, x2, x3] (st) hi (am_upl g k j x) Φ) : AP M_L_bitsIfOnly b 8 [x0, x1, x2, x3] (.long x :: .int i :: .ref k :: st) hi g Φ := AP.last d_L_bitsIfOnly_8 hs (hI.lt hk) hn hx hj h
theorem d_L_bitsIfOnly_9 : decode cL_bitsIfOnly 9 = .ok (.goto 6, 3) := by decide +kernel
theorem s_L_bitsIfOnly_9 (h : AP M_L_bitsIfOnly b 15 [x0, x1, x2, x3] st hi g Φ) : AP M_L_bitsIfOnly b 9 [x0, x1, x2, x3] st hi g Φ := AP.goto d_L_bitsIfOnly_9 (by decide) h
theorem d_L_bitsIfOnly_12 : decode cL_bitsIfOnly 12 = .ok (.astore_n 3, 1) := by decide +kernel
theorem s_L_bitsIfOnly_12 {n : Nat} (hc : x2.category = 1) (h : AP M_L_bitsIfOnly b 13 [x0, x1, x2, .ref n] (st) hi g Φ) : AP M_L_bitsIfOnly b 12 [x0, x1, x2, x3] (.ref n :: st) hi g Φ := AP.astore_n (x := n) (i := 3) d_L_bitsIfOnly_12 rfl (by decide) (by simp [am_st, am_ci, am_cr, am_cl, am_cd, hc]) h
theorem d_L_bitsIfOnly_13 : decode cL_bitsIfOnly 13 = .ok (.iconst 1, 1) := by decide +kernel
theorem s_L_bitsIfOnly_13 (h : AP M_L_bitsIfOnly b 14 [x0, x1, x2, x3] (.int 1 :: st) hi g Φ) : AP M_L_bitsIfOnly b 13 [x0, x1, x2, x3] (st) hi g Φ := AP.iconst (x := 1) d_L_bitsIfOnly_13 (by decide) h
theorem d_L_bitsIfOnly_14 : decode cL_bitsIfOnly 14 = .ok (.ireturn, 1) := by decide +kernel
theorem s_L_bitsIfOnly_14 {x : Int32} (h : Φ (.ok (some (.int x))) hi g) : AP M_L_bitsIfOnly b 14 [x0, x1, x2, x3] [.int x] hi g Φ := AP.iret d_L_bitsIfOnly_14 rfl h
theorem d_L_bitsIfOnly_15 : decode cL_bitsIfOnly 15 = .ok (.iconst 0, 1) := by decide +kernel
theorem s_L_bitsIfOnly_15 (h : AP M_L_bitsIfOnly b 16 [x0, x1, x2, x3] (.int 0 :: st) hi g Φ) : AP M_L_bitsIfOnly b 15 [x0, x1, x2, x3] (st) hi g Φ := AP.iconst (x := 0) d_L_bitsIfOnly_15 (by decide) h
theorem d_L_bitsIfOnly_16 : decode cL_bitsIfOnly 16 = .ok (.ireturn, 1) := by decide +kernel
theorem s_L_bitsIfOnly_16 {x : Int32} (h : Φ (.ok (some (.int x))) hi g) : AP M_L_bitsIfOnly b 16 [x0, x1, x2, x3] [.int x] hi g Φ := AP.iret d_L_bitsIfOnly_16 rfl h
end
section
variable {b : Nat × Nat} {st : List Value} {hi : am_HI} {g : am_G} {Φ : am_P} {x0 x1 x2 x3 x4 x5 : Value}
theorem d_L_bitsWith_0 : decode cL_bitsWith 0 = .ok (.aload 4, 2) := by decide +kernel
theorem s_L_bitsWith_0 {n : Nat} (h : AP M_L_bitsWith b 2 [x0, x1, x2, x3, .ref n, x5] (.ref n :: st) hi g Φ) : AP M_L_bitsWith b 0 [x0, x1, x2, x3, .ref n, x5] (st) hi g Φ := AP.aload (x := n) (i := 4) d_L_bitsWith_0 rfl h
theorem d_L_bitsWith_2 : decode cL_bitsWith 2 = .ok (.iconst 0, 1) := by decide +kernel
theorem s_L_bitsWith_2 (h : AP M_L_bitsWith b 3 [x0, x1, x2, x3, x4, x5] (.int 0 :: st) hi g Φ) : AP M_L_bitsWith b 2 [x0, x1, x2, x3, x4, x5] (st) hi g Φ := AP.iconst (x := 0) d_L_bitsWith_2 (by decide) h
theorem d_L_bitsWith_3 : decode cL_bitsWith 3 = .ok (.aload_n 0, 1) := by decide +kernel
theorem s_L_bitsWith_3 {n : Nat} (h : AP M_L_bitsWith b 4 [.ref n, x1, x2, x3, x4, x5] (.ref n :: st) hi g Φ) : AP M_L_bitsWith b 3 [.ref n, x1, x2, x3, x4, x5] (st) hi g Φ := AP.aload_n (x := n) (i := 0) d_L_bitsWith_3 rfl rfl h
theorem d_L_bitsWith_4 : decode cL_bitsWith 4 = .ok (.iload_n 1, 1) := by decide +kernel
theorem s_L_bitsWith_4 {n : Int32} (h : AP M_L_bitsWith b 5 [x0, .int n, x2, x3, x4, x5] (.int n :: st) hi g Φ) : AP M_L_bitsWith b 4 [x0, .int n, x2, x3, x4, x5] (st) hi g Φ := AP.iload_n (x := n) (i := 1) d_L_bitsWith_4 rfl rfl h
theorem d_L_bitsWith_5 : decode cL_bitsWith 5 = .ok (.iload_n 2, 1) := by decide +kernel
theorem s_L_bitsWith_5 {n : Int32} (h : AP M_L_bitsWith b 6 [x0, x1, .int n, x3, x4, x5] (.int n :: st) hi g Φ) : AP M_L_bitsWith b 5 [x0, x1, .int n, x3, x4, x5] (st) hi g Φ := AP.iload_n (x := n) (i := 2) d_L_bitsWith_5 rfl rfl h
theorem d_L_bitsWith_6 : decode cL_bitsWith 6 = .ok (.iload_n 3, 1) := by decide +kernel
theorem s_L_bitsWith_6 {n : Int32} (h : AP M_L_bitsWith b 7 [x0, x1, x2, .int n, x4, x5] (.int n :: st) hi g Φ) : AP M_L_bitsWith b 6 [x0, x1, x2, .int n, x4, x5] (st) hi g Φ := AP.iload_n (x := n) (i := 3) d_L_bitsWith_6 rfl rfl h
theorem d_L_bitsWith_7 : decode cL_bitsWith 7 = .ok (.invokevirtual 77, 3) := by decide +kernel
theorem s_L_bitsWith_7 {a0 : Int32} {a1 : Int32} {a2 : Int32} {k : Nat} {r0 : Int32} {P : am_HI → Prop} (hI : am_Inv g) (hs : am_SH k = (0, 9)) (hk : k < 134) (hst : (st.map Value.category).sum ≤ 8) (hc : am_Cr M_X9_bitsWith [.ref k, .int a0, .int a1, .int a2] hi g (some (.int r0)) P) (h : ∀ hi' : am_HI, P hi' → AP M_L_bitsWith b 10 [x0, x1, x2, x3, x4, x5] (.int r0 :: st) hi' g Φ) : AP M_L_bitsWith b 7 [x0, x1, x2, x3, x4, x5] (.int a2 :: .int a1 :: .int a0 :: .ref k :: st) hi g Φ := AP.callVr (As := [.int a0, .int a1, .int a2]) (q := (RX9, TX9, 7)) hI hc k_L_bitsWith_77 d_L_bitsWith_7 rfl hs hk rfl rfl hst h
theorem d_L_bitsWith_10 : decode cL_bitsWith 10 = .ok (.i2l, 1) := by decide +kernel
theorem s_L_bitsWith_10 {x : Int32} (h : AP M_L_bitsWith b 11 [x0, x1, x2, x3, x4, x5] (.long x.toInt64 :: st) hi g Φ) : AP M_L_bitsWith b 10 [x0, x1, x2, x3, x4, x5] (.int x :: st) hi g Φ := AP.i2l d_L_bitsWith_10 h
theorem d_L_bitsWith_11 : decode cL_bitsWith 11 = .ok (.lastore, 1) := by decide +kernel
theorem s_L_bitsWith_11 {k n j : Nat} {i : Int32} {x : Int64} (hI : am_Inv g) (hs : am_SH k = (4, n)) (hk : k < 134) (hn : n < 2 ^ 31) (hx : i = nI j) (hj : j < n) (h : AP M_L_bitsWith b 12 [x0, x1, x2, x3, x4, x5] (st) hi (am_upl g k j x) Φ) : AP M_L_bitsWith b 11 [x0, x1, x2, x3, x4, x5] (.long x :: .int i :: .ref k :: st) hi g Φ := AP.last d_L_bitsWith_11 hs (hI.lt hk) hn hx hj h
theorem d_L_bitsWith_12 : decode cL_bitsWith 12 = .ok (.goto 11, 3) := by decide +kernel
theorem s_L_bitsWith_12 (h : AP M_L_bitsWith b 23 [x0, x1, x2, x3, x4, x5] st hi g Φ) : AP M_L_bitsWith b 12 [x0, x1, x2, x3, x4, x5] st hi g Φ := AP.goto d_L_bitsWith_12 (by decide) h
theorem d_L_bitsWith_15 : decode cL_bitsWith 15 = .ok (.astore 5, 2) := by decide +kernel
theorem s_L_bitsWith_15 {n : Nat} (hc : x4.category = 1) (h : AP M_L_bitsWith b 17 [x0, x1, x2, x3, x4, .ref n] (st) hi g Φ) : AP M_L_bitsWith b 15 [x0, x1, x2, x3, x4, x5] (.ref n :: st) hi g Φ := AP.astore (x := n) (i := 5) d_L_bitsWith_15 (by decide) (by simp [am_st, am_ci, am_cr, am_cl, am_cd, hc]) h
theorem d_L_bitsWith_17 : decode cL_bitsWith 17 = .ok (.iconst 1, 1) := by decide +kernel
theorem s_L_bitsWith_17 (h : AP M_L_bitsWith b 18 [x0, x1, x2, x3, x4, x5] (.int 1 :: st) hi g Φ) : AP M_L_bitsWith b 17 [x0, x1, x2, x3, x4, x5] (st) hi g Φ := AP.iconst (x := 1) d_L_bitsWith_17 (by decide) h
theorem d_L_bitsWith_18 : decode cL_bitsWith 18 = .ok (.ireturn, 1) := by decide +kernel
theorem s_L_bitsWith_18 {x : Int32} (h : Φ (.ok (some (.int x))) hi g) : AP M_L_bitsWith b 18 [x0, x1, x2, x3, x4, x5] [.int x] hi g Φ := AP.iret d_L_bitsWith_18 rfl h
theorem d_L_bitsWith_19 : decode cL_bitsWith 19 = .ok (.astore 5, 2) := by decide +kernel
theorem s_L_bitsWith_19 {n : Nat} (hc : x4.category = 1) (h : AP M_L_bitsWith b 21 [x0, x1, x2, x3, x4, .ref n] (st) hi g Φ) : AP M_L_bitsWith b 19 [x0, x1, x2, x3, x4, x5] (.ref n :: st) hi g Φ := AP.astore (x := n) (i := 5) d_L_bitsWith_19 (by decide) (by simp [am_st, am_ci, am_cr, am_cl, am_cd, hc]) h
theorem d_L_bitsWith_21 : decode cL_bitsWith 21 = .ok (.iconst 2, 1) := by decide +kernel
theorem s_L_bitsWith_21 (h : AP M_L_bitsWith b 22 [x0, x1, x2, x3, x4, x5] (.int 2 :: st) hi g Φ) : AP M_L_bitsWith b 21 [x0, x1, x2, x3, x4, x5] (st) hi g Φ := AP.iconst (x := 2) d_L_bitsWith_21 (by decide) h
theorem d_L_bitsWith_22 : decode cL_bitsWith 22 = .ok (.ireturn, 1) := by decide +kernel
theorem s_L_bitsWith_22 {x : Int32} (h : Φ (.ok (some (.int x))) hi g) : AP M_L_bitsWith b 22 [x0, x1, x2, x3, x4, x5] [.int x] hi g Φ := AP.iret d_L_bitsWith_22 rfl h
theorem d_L_bitsWith_23 : decode cL_bitsWith 23 = .ok (.iconst 0, 1) := by decide +kernel
theorem s_L_bitsWith_23 (h : AP M_L_bitsWith b 24 [x0, x1, x2, x3, x4, x5] (.int 0 :: st) hi g Φ) : AP M_L_bitsWith b 23 [x0, x1, x2, x3, x4, x5] (st) hi g Φ := AP.iconst (x := 0) d_L_bitsWith_23 (by decide) h
theorem d_L_bitsWith_24 : decode cL_bitsWith 24 = .ok (.ireturn, 1) := by decide +kernel
theorem s_L_bitsWith_24 {x : Int32} (h : Φ (.ok (some (.int x))) hi g) : AP M_L_bitsWith b 24 [x0, x1, x2, x3, x4, x5] [.int x] hi g Φ := AP.iret d_L_bitsWith_24 rfl h
end
section
variable {b : Nat × Nat} {st : List Value} {hi : am_HI} {g : am_G} {Φ : am_P} {x0 x1 x2 x3 : Value}
theorem d_L_blocksWith_0 : decode cL_blocksWith 0 = .ok (.aload_n 2, 1) := by decide +kernel
theorem s_L_blocksWith_0 {n : Nat} (h : AP M_L_blocksWith b 1 [x0, x1, .ref n, x3] (.ref n :: st) hi g Φ) : AP M_L_blocksWith b 0 [x0, x1, .ref n, x3] (st) hi g Φ := AP.aload_n (x := n) (i := 2) d_L_blocksWith_0 rfl rfl h
theorem d_L_blocksWith_1 : decode cL_blocksWith 1 = .ok (.iconst 0, 1) := by decide +kernel
theorem s_L_blocksWith_1 (h : AP M_L_blocksWith b 2 [x0, x1, x2, x3] (.int 0 :: st) hi g Φ) : AP M_L_blocksWith b 1 [x0, x1, x2, x3] (st) hi g Φ := AP.iconst (x := 0) d_L_blocksWith_1 (by decide) h
theorem d_L_blocksWith_2 : decode cL_blocksWith 2 = .ok (.aload_n 0, 1) := by decide +kernel
theorem s_L_blocksWith_2 {n : Nat} (h : AP M_L_blocksWith b 3 [.ref n, x1, x2, x3] (.ref n :: st) hi g Φ) : AP M_L_blocksWith b 2 [.ref n, x1, x2, x3] (st) hi g Φ := AP.aload_n (x := n) (i := 0) d_L_blocksWith_2 rfl rfl h
theorem d_L_blocksWith_3 : decode cL_blocksWith 3 = .ok (.iload_n 1, 1) := by decide +kernel
theorem s_L_blocksWith_3 {n : Int32} (h : AP M_L_blocksWith b 4 [x0, .int n, x2, x3] (.int n :: st) hi g Φ) : AP M_L_blocksWith b 3 [x0, .int n, x2, x3] (st) hi g Φ := AP.iload_n (x := n) (i := 1) d_L_blocksWith_3 rfl rfl h
theorem d_L_blocksWith_4 : decode cL_blocksWith 4 = .ok (.invokevirtual 89, 3) := by decide +kernel
theorem s_L_blocksWith_4 {a0 : Int32} {k : Nat} {r0 : Int32} {P : am_HI → Prop} (hI : am_Inv g) (hs : am_SH k = (0, 9)) (hk : k < 134) (hst : (st.map Value.category).sum ≤ 8) (hc : am_Cr M_X9_blocksWith [.ref k, .int a0] hi g (some (.int r0)) P) (h : ∀ hi' : am_HI, P hi' → AP M_L_blocksWith b 7 [x0, x1, x2, x3] (.int r0 :: st) hi' g Φ) : AP M_L_blocksWith b 4 [x0, x1, x2, x3] (.int a0 :: .ref k :: st) hi g Φ := AP.callVr (As := [.int a0]) (q := (RX9, TX9, 7)) hI hc k_L_blocksWith_89 d_L_blocksWith_4 rfl hs hk rfl rfl hst h
theorem d_L_blocksWith_7 : decode cL_blocksWith 7 = .ok (.i2l, 1) := by decide +kernel
theorem s_L_blocksWith_7 {x : Int32} (h : AP M_L_blocksWith b 8 [x0, x1, x2, x3] (.long x.toInt64 :: st) hi g Φ) : AP M_L_blocksWith b 7 [x0, x1, x2, x3] (.int x :: st) hi g Φ := AP.i2l d_L_blocksWith_7 h
theorem d_L_blocksWith_8 : decode cL_blocksWith 8 = .ok (.lastore, 1) := by decide +kernel
theorem s_L_blocksWith_8 {k n j : Nat} {i : Int32} {x : Int64} (hI : am_Inv g) (hs : am_SH k = (4, n)) (hk : k < 134) (hn : n < 2 ^ 31) (hx : i = nI j) (hj : j < n) (h : AP M_L_blocksWith b 9 [x0, x1, x2, x3] (st) hi (am_upl g k j x) Φ) : AP M_L_blocksWith b 8 [x0, x1, x2, x3] (.long x :: .int i :: .ref k :: st) hi g Φ := AP.last d_L_blocksWith_8 hs (hI.lt hk) hn hx hj h
theorem d_L_blocksWith_9 : decode cL_blocksWith 9 = .ok (.goto 6, 3) := by decide +kernel
theorem s_L_blocksWith_9 (h : AP M_L_blocksWith b 15 [x0, x1, x2, x3] st hi g Φ) : AP M_L_blocksWith b 9 [x0, x1, x2, x3] st hi g Φ := AP.goto d_L_blocksWith_9 (by decide) h
theorem d_L_blocksWith_12 : decode cL_blocksWith 12 = .ok (.astore_n 3, 1) := by decide +kernel
theorem s_L_blocksWith_12 {n : Nat} (hc : x2.category = 1) (h : AP M_L_blocksWith b 13 [x0, x1, x2, .ref n] (st) hi g Φ) : AP M_L_blocksWith b 12 [x0, x1, x2, x3] (.ref n :: st) hi g Φ := AP.astore_n (x := n) (i := 3) d_L_blocksWith_12 rfl (by decide) (by simp [am_st, am_ci, am_cr, am_cl, am_cd, hc]) h
theorem d_L_blocksWith_13 : decode cL_blocksWith 13 = .ok (.iconst 1, 1) := by decide +kernel
theorem s_L_blocksWith_13 (h : AP M_L_blocksWith b 14 [x0, x1, x2, x3] (.int 1 :: st) hi g Φ) : AP M_L_blocksWith b 13 [x0, x1, x2, x3] (st) hi g Φ := AP.iconst (x := 1) d_L_blocksWith_13 (by decide) h
theorem d_L_blocksWith_14 : decode cL_blocksWith 14 = .ok (.ireturn, 1) := by decide +kernel
theorem s_L_blocksWith_14 {x : Int32} (h : Φ (.ok (some (.int x))) hi g) : AP M_L_blocksWith b 14 [x0, x1, x2, x3] [.int x] hi g Φ := AP.iret d_L_blocksWith_14 rfl h
theorem d_L_blocksWith_15 : decode cL_blocksWith 15 = .ok (.iconst 0, 1) := by decide +kernel
theorem s_L_blocksWith_15 (h : AP M_L_blocksWith b 16 [x0, x1, x2, x3] (.int 0 :: st) hi g Φ) : AP M_L_blocksWith b 15 [x0, x1, x2, x3] (st) hi g Φ := AP.iconst (x := 0) d_L_blocksWith_15 (by decide) h
theorem d_L_blocksWith_16 : decode cL_blocksWith 16 = .ok (.ireturn, 1) := by decide +kernel
theorem s_L_blocksWith_16 {x : Int32} (h : Φ (.ok (some (.int x))) hi g) : AP M_L_blocksWith b 16 [x0, x1, x2, x3] [.int x] hi g Φ := AP.iret d_L_blocksWith_16 rfl h
end
section
variable {b : Nat × Nat} {st : List Value} {hi : am_HI} {g : am_G} {Φ : am_P} {x0 x1 x2 x3 x4 : Value}
theorem d_L_change_0 : decode cL_change 0 = .ok (.aload_n 3, 1) := by decide +kernel
theorem s_L_change_0 {n : Nat} (h : AP M_L_change b 1 [x0, x1, x2, .ref n, x4] (.ref n :: st) hi g Φ) : AP M_L_change b 0 [x0, x1, x2, .ref n, x4] (st) hi g Φ := AP.aload_n (x := n) (i := 3) d_L_change_0 rfl rfl h
theorem d_L_change_1 : decode cL_change 1 = .ok (.iconst 0, 1) := by decide +kernel
theorem s_L_change_1 (h : AP M_L_change b 2 [x0, x1, x2, x3, x4] (.int 0 :: st) hi g Φ) : AP M_L_change b 1 [x0, x1, x2, x3, x4] (st) hi g Φ := AP.iconst (x := 0) d_L_change_1 (by decide) h
theorem d_L_change_2 : decode cL_change 2 = .ok (.aload_n 0, 1) := by decide +kernel
theorem s_L_change_2 {n : Nat} (h : AP M_L_change b 3 [.ref n, x1, x2, x3, x4] (.ref n :: st) hi g Φ) : AP M_L_change b 2 [.ref n, x1, x2, x3, x4] (st) hi g Φ := AP.aload_n (x := n) (i := 0) d_L_change_2 rfl rfl h
theorem d_L_change_3 : decode cL_change 3 = .ok (.iload_n 1, 1) := by decide +kernel
theorem s_L_change_3 {n : Int32} (h : AP M_L_change b 4 [x0, .int n, x2, x3, x4] (.int n :: st) hi g Φ) : AP M_L_change b 3 [x0, .int n, x2, x3, x4] (st) hi g Φ := AP.iload_n (x := n) (i := 1) d_L_change_3 rfl rfl h
theorem d_L_change_4 : decode cL_change 4 = .ok (.iload_n 2, 1) := by decide +kernel
theorem s_L_change_4 {n : Int32} (h : AP M_L_change b 5 [x0, x1, .int n, x3, x4] (.int n :: st) hi g Φ) : AP M_L_change b 4 [x0, x1, .int n, x3, x4] (st) hi g Φ := AP.iload_n (x := n) (i := 2) d_L_change_4 rfl rfl h
theorem d_L_change_5 : decode cL_change 5 = .ok (.invokevirtual 21, 3) := by decide +kernel
theorem s_L_change_5 {a0 : Int32} {a1 : Int32} {k : Nat} {r0 : Int32} {P : am_HI → Prop} (hI : am_Inv g) (hs : am_SH k = (0, 9)) (hk : k < 134) (hst : (st.map Value.category).sum ≤ 8) (hc : am_Cr M_X9_change [.ref k, .int a0, .int a1] hi g (some (.int r0)) P) (h : ∀ hi' : am_HI, P hi' → AP M_L_change b 8 [x0, x1, x2, x3, x4] (.int r0 :: st) hi' g Φ) : AP M_L_change b 5 [x0, x1, x2, x3, x4] (.int a1 :: .int a0 :: .ref k :: st) hi g Φ := AP.callVr (As := [.int a0, .int a1]) (q := (RX9, TX9, 7)) hI hc k_L_change_21 d_L_change_5 rfl hs hk rfl rfl hst h
theorem d_L_change_8 : decode cL_change 8 = .ok (.i2l, 1) := by decide +kernel
theorem s_L_change_8 {x : Int32} (h : AP M_L_change b 9 [x0, x1, x2, x3, x4] (.long x.toInt64 :: st) hi g Φ) : AP M_L_change b 8 [x0, x1, x2, x3, x4] (.int x :: st) hi g Φ := AP.i2l d_L_change_8 h
theorem d_L_change_9 : decode cL_change 9 = .ok (.lastore, 1) := by decide +kernel
theorem s_L_change_9 {k n j : Nat} {i : Int32} {x : Int64} (hI : am_Inv g) (hs : am_SH k = (4, n)) (hk : k < 134) (hn : n < 2 ^ 31) (hx : i = nI j) (hj : j < n) (h : AP M_L_change b 10 [x0, x1, x2, x3, x4] (st) hi (am_upl g k j x) Φ) : AP M_L_change b 9 [x0, x1, x2, x3, x4] (.long x :: .int i :: .ref k :: st) hi g Φ := AP.last d_L_change_9 hs (hI.lt hk) hn hx hj h
theorem d_L_change_10 : decode cL_change 10 = .ok (.goto 11, 3) := by decide +kernel
theorem s_L_change_10 (h : AP M_L_change b 21 [x0, x1, x2, x3, x4] st hi g Φ) : AP M_L_change b 10 [x0, x1, x2, x3, x4] st hi g Φ := AP.goto d_L_change_10 (by decide) h
theorem d_L_change_13 : decode cL_change 13 = .ok (.astore 4, 2) := by decide +kernel
theorem s_L_change_13 {n : Nat} (hc : x3.category = 1) (h : AP M_L_change b 15 [x0, x1, x2, x3, .ref n] (st) hi g Φ) : AP M_L_change b 13 [x0, x1, x2, x3, x4] (.ref n :: st) hi g Φ := AP.astore (x := n) (i := 4) d_L_change_13 (by decide) (by simp [am_st, am_ci, am_cr, am_cl, am_cd, hc]) h
theorem d_L_change_15 : decode cL_change 15 = .ok (.iconst 1, 1) := by decide +kernel
theorem s_L_change_15 (h : AP M_L_change b 16 [x0, x1, x2, x3, x4] (.int 1 :: st) hi g Φ) : AP M_L_change b 15 [x0, x1, x2, x3, x4] (st) hi g Φ := AP.iconst (x := 1) d_L_change_15 (by decide) h
theorem d_L_change_16 : decode cL_change 16 = .ok (.ireturn, 1) := by decide +kernel
theorem s_L_change_16 {x : Int32} (h : Φ (.ok (some (.int x))) hi g) : AP M_L_change b 16 [x0, x1, x2, x3, x4] [.int x] hi g Φ := AP.iret d_L_change_16 rfl h
theorem d_L_change_17 : decode cL_change 17 = .ok (.astore 4, 2) := by decide +kernel
theorem s_L_change_17 {n : Nat} (hc : x3.category = 1) (h : AP M_L_change b 19 [x0, x1, x2, x3, .ref n] (st) hi g Φ) : AP M_L_change b 17 [x0, x1, x2, x3, x4] (.ref n :: st) hi g Φ := AP.astore (x := n) (i := 4) d_L_change_17 (by decide) (by simp [am_st, am_ci, am_cr, am_cl, am_cd, hc]) h
theorem d_L_change_19 : decode cL_change 19 = .ok (.iconst 2, 1) := by decide +kernel
theorem s_L_change_19 (h : AP M_L_change b 20 [x0, x1, x2, x3, x4] (.int 2 :: st) hi g Φ) : AP M_L_change b 19 [x0, x1, x2, x3, x4] (st) hi g Φ := AP.iconst (x := 2) d_L_change_19 (by decide) h
theorem d_L_change_20 : decode cL_change 20 = .ok (.ireturn, 1) := by decide +kernel
theorem s_L_change_20 {x : Int32} (h : Φ (.ok (some (.int x))) hi g) : AP M_L_change b 20 [x0, x1, x2, x3, x4] [.int x] hi g Φ := AP.iret d_L_change_20 rfl h
theorem d_L_change_21 : decode cL_change 21 = .ok (.iconst 0, 1) := by decide +kernel
theorem s_L_change_21 (h : AP M_L_change b 22 [x0, x1, x2, x3, x4] (.int 0 :: st) hi g Φ) : AP M_L_change b 21 [x0, x1, x2, x3, x4] (st) hi g Φ := AP.iconst (x := 0) d_L_change_21 (by decide) h
theorem d_L_change_22 : decode cL_change 22 = .ok (.ireturn, 1) := by decide +kernel
theorem s_L_change_22 {x : Int32} (h : Φ (.ok (some (.int x))) hi g) : AP M_L_change b 22 [x0, x1, x2, x3, x4] [.int x] hi g Φ := AP.iret d_L_change_22 rfl h
end
section
variable {b : Nat × Nat} {st : List Value} {hi : am_HI} {g : am_G} {Φ : am_P} {x0 x1 x2 : Value}
theorem d_L_doWorks_0 : decode cL_doWorks 0 = .ok (.aload_n 1, 1) := by decide +kernel
theorem s_L_doWorks_0 {n : Nat} (h : AP M_L_doWorks b 1 [x0, .ref n, x2] (.ref n :: st) hi g Φ) : AP M_L_doWorks b 0 [x0, .ref n, x2] (st) hi g Φ := AP.aload_n (x := n) (i := 1) d_L_doWorks_0 rfl rfl h
theorem d_L_doWorks_1 : decode cL_doWorks 1 = .ok (.iconst 0, 1) := by decide +kernel
theorem s_L_doWorks_1 (h : AP M_L_doWorks b 2 [x0, x1, x2] (.int 0 :: st) hi g Φ) : AP M_L_doWorks b 1 [x0, x1, x2] (st) hi g Φ := AP.iconst (x := 0) d_L_doWorks_1 (by decide) h
theorem d_L_doWorks_2 : decode cL_doWorks 2 = .ok (.aload_n 0, 1) := by decide +kernel
theorem s_L_doWorks_2 {n : Nat} (h : AP M_L_doWorks b 3 [.ref n, x1, x2] (.ref n :: st) hi g Φ) : AP M_L_doWorks b 2 [.ref n, x1, x2] (st) hi g Φ := AP.aload_n (x := n) (i := 0) d_L_doWorks_2 rfl rfl h
theorem d_L_doWorks_3 : decode cL_doWorks 3 = .ok (.invokevirtual 125, 3) := by decide +kernel
theorem s_L_doWorks_3  {k : Nat} {r0 : Int32} {P : am_HI → Prop} (hI : am_Inv g) (hs : am_SH k = (0, 9)) (hk : k < 134) (hst : (st.map Value.category).sum ≤ 8) (hc : am_Cr M_X9_doWorks [.ref k] hi g (some (.int r0)) P) (h : ∀ hi' : am_HI, P hi' → AP M_L_doWorks b 6 [x0, x1, x2] (.int r0 :: st) hi' g Φ) : AP M_L_doWorks b 3 [x0, x1, x2] (.ref k :: st) hi g Φ := AP.callVr (As := []) (q := (RX9, TX9, 7)) hI hc k_L_doWorks_125 d_L_doWorks_3 rfl hs hk rfl rfl hst h
theorem d_L_doWorks_6 : decode cL_doWorks 6 = .ok (.i2l, 1) := by decide +kernel
theorem s_L_doWorks_6 {x : Int32} (h : AP M_L_doWorks b 7 [x0, x1, x2] (.long x.toInt64 :: st) hi g Φ) : AP M_L_doWorks b 6 [x0, x1, x2] (.int x :: st) hi g Φ := AP.i2l d_L_doWorks_6 h
theorem d_L_doWorks_7 : decode cL_doWorks 7 = .ok (.lastore, 1) := by decide +kernel
theorem s_L_doWorks_7 {k n j : Nat} {i : Int32} {x : Int64} (hI : am_Inv g) (hs : am_SH k = (4, n)) (hk : k < 134) (hn : n < 2 ^ 31) (hx : i = nI j) (hj : j < n) (h : AP M_L_doWorks b 8 [x0, x1, x2] (st) hi (am_upl g k j x) Φ) : AP M_L_doWorks b 7 [x0, x1, x2] (.long x :: .int i :: .ref k :: st) hi g Φ := AP.last d_L_doWorks_7 hs (hI.lt hk) hn hx hj h
theorem d_L_doWorks_8 : decode cL_doWorks 8 = .ok (.goto 6, 3) := by decide +kernel
theorem s_L_doWorks_8 (h : AP M_L_doWorks b 14 [x0, x1, x2] st hi g Φ) : AP M_L_doWorks b 8 [x0, x1, x2] st hi g Φ := AP.goto d_L_doWorks_8 (by decide) h
theorem d_L_doWorks_11 : decode cL_doWorks 11 = .ok (.astore_n 2, 1) := by decide +kernel
theorem s_L_doWorks_11 {n : Nat} (hc : x1.category = 1) (h : AP M_L_doWorks b 12 [x0, x1, .ref n] (st) hi g Φ) : AP M_L_doWorks b 11 [x0, x1, x2] (.ref n :: st) hi g Φ := AP.astore_n (x := n) (i := 2) d_L_doWorks_11 rfl (by decide) (by simp [am_st, am_ci, am_cr, am_cl, am_cd, hc]) h
theorem d_L_doWorks_12 : decode cL_doWorks 12 = .ok (.iconst 1, 1) := by decide +kernel
theorem s_L_doWorks_12 (h : AP M_L_doWorks b 13 [x0, x1, x2] (.int 1 :: st) hi g Φ) : AP M_L_doWorks b 12 [x0, x1, x2] (st) hi g Φ := AP.iconst (x := 1) d_L_doWorks_12 (by decide) h
theorem d_L_doWorks_13 : decode cL_doWorks 13 = .ok (.ireturn, 1) := by decide +kernel
theorem s_L_doWorks_13 {x : Int32} (h : Φ (.ok (some (.int x))) hi g) : AP M_L_doWorks b 13 [x0, x1, x2] [.int x] hi g Φ := AP.iret d_L_doWorks_13 rfl h
theorem d_L_doWorks_14 : decode cL_doWorks 14 = .ok (.iconst 0, 1) := by decide +kernel
theorem s_L_doWorks_14 (h : AP M_L_doWorks b 15 [x0, x1, x2] (.int 0 :: st) hi g Φ) : AP M_L_doWorks b 14 [x0, x1, x2] (st) hi g Φ := AP.iconst (x := 0) d_L_doWorks_14 (by decide) h
theorem d_L_doWorks_15 : decode cL_doWorks 15 = .ok (.ireturn, 1) := by decide +kernel
theorem s_L_doWorks_15 {x : Int32} (h : Φ (.ok (some (.int x))) hi g) : AP M_L_doWorks b 15 [x0, x1, x2] [.int x] hi g Φ := AP.iret d_L_doWorks_15 rfl h
end
section
variable {b : Nat × Nat} {st : List Value} {hi : am_HI} {g : am_G} {Φ : am_P} {x0 x1 x2 : Value}
theorem d_L_drop_0 : decode cL_drop 0 = .ok (.aload_n 1, 1) := by decide +kernel
theorem s_L_drop_0 {n : Nat} (h : AP M_L_drop b 1 [x0, .ref n, x2] (.ref n :: st) hi g Φ) : AP M_L_drop b 0 [x0, .ref n, x2] (st) hi g Φ := AP.aload_n (x := n) (i := 1) d_L_drop_0 rfl rfl h
theorem d_L_drop_1 : decode cL_drop 1 = .ok (.iconst 0, 1) := by decide +kernel
theorem s_L_drop_1 (h : AP M_L_drop b 2 [x0, x1, x2] (.int 0 :: st) hi g Φ) : AP M_L_drop b 1 [x0, x1, x2] (st) hi g Φ := AP.iconst (x := 0) d_L_drop_1 (by decide) h
theorem d_L_drop_2 : decode cL_drop 2 = .ok (.aload_n 0, 1) := by decide +kernel
theorem s_L_drop_2 {n : Nat} (h : AP M_L_drop b 3 [.ref n, x1, x2] (.ref n :: st) hi g Φ) : AP M_L_drop b 2 [.ref n, x1, x2] (st) hi g Φ := AP.aload_n (x := n) (i := 0) d_L_drop_2 rfl rfl h
theorem d_L_drop_3 : decode cL_drop 3 = .ok (.invokevirtual 27, 3) := by decide +kernel
theorem s_L_drop_3  {k : Nat} {r0 : Int32} {P : am_HI → Prop} (hI : am_Inv g) (hs : am_SH k = (0, 9)) (hk : k < 134) (hst : (st.map Value.category).sum ≤ 8) (hc : am_Cr M_X9_drop [.ref k] hi g (some (.int r0)) P) (h : ∀ hi' : am_HI, P hi' → AP M_L_drop b 6 [x0, x1, x2] (.int r0 :: st) hi' g Φ) : AP M_L_drop b 3 [x0, x1, x2] (.ref k :: st) hi g Φ := AP.callVr (As := []) (q := (RX9, TX9, 7)) hI hc k_L_drop_27 d_L_drop_3 rfl hs hk rfl rfl hst h
theorem d_L_drop_6 : decode cL_drop 6 = .ok (.i2l, 1) := by decide +kernel
theorem s_L_drop_6 {x : Int32} (h : AP M_L_drop b 7 [x0, x1, x2] (.long x.toInt64 :: st) hi g Φ) : AP M_L_drop b 6 [x0, x1, x2] (.int x :: st) hi g Φ := AP.i2l d_L_drop_6 h
theorem d_L_drop_7 : decode cL_drop 7 = .ok (.lastore, 1) := by decide +kernel
theorem s_L_drop_7 {k n j : Nat} {i : Int32} {x : Int64} (hI : am_Inv g) (hs : am_SH k = (4, n)) (hk : k < 134) (hn : n < 2 ^ 31) (hx : i = nI j) (hj : j < n) (h : AP M_L_drop b 8 [x0, x1, x2] (st) hi (am_upl g k j x) Φ) : AP M_L_drop b 7 [x0, x1, x2] (.long x :: .int i :: .ref k :: st) hi g Φ := AP.last d_L_drop_7 hs (hI.lt hk) hn hx hj h
theorem d_L_drop_8 : decode cL_drop 8 = .ok (.goto 6, 3) := by decide +kernel
theorem s_L_drop_8 (h : AP M_L_drop b 14 [x0, x1, x2] st hi g Φ) : AP M_L_drop b 8 [x0, x1, x2] st hi g Φ := AP.goto d_L_drop_8 (by decide) h
theorem d_L_drop_11 : decode cL_drop 11 = .ok (.astore_n 2, 1) := by decide +kernel
theorem s_L_drop_11 {n : Nat} (hc : x1.category = 1) (h : AP M_L_drop b 12 [x0, x1, .ref n] (st) hi g Φ) : AP M_L_drop b 11 [x0, x1, x2] (.ref n :: st) hi g Φ := AP.astore_n (x := n) (i := 2) d_L_drop_11 rfl (by decide) (by simp [am_st, am_ci, am_cr, am_cl, am_cd, hc]) h
theorem d_L_drop_12 : decode cL_drop 12 = .ok (.iconst 1, 1) := by decide +kernel
theorem s_L_drop_12 (h : AP M_L_drop b 13 [x0, x1, x2] (.int 1 :: st) hi g Φ) : AP M_L_drop b 12 [x0, x1, x2] (st) hi g Φ := AP.iconst (x := 1) d_L_drop_12 (by decide) h
theorem d_L_drop_13 : decode cL_drop 13 = .ok (.ireturn, 1) := by decide +kernel
theorem s_L_drop_13 {x : Int32} (h : Φ (.ok (some (.int x))) hi g) : AP M_L_drop b 13 [x0, x1, x2] [.int x] hi g Φ := AP.iret d_L_drop_13 rfl h
theorem d_L_drop_14 : decode cL_drop 14 = .ok (.iconst 0, 1) := by decide +kernel
theorem s_L_drop_14 (h : AP M_L_drop b 15 [x0, x1, x2] (.int 0 :: st) hi g Φ) : AP M_L_drop b 14 [x0, x1, x2] (st) hi g Φ := AP.iconst (x := 0) d_L_drop_14 (by decide) h
theorem d_L_drop_15 : decode cL_drop 15 = .ok (.ireturn, 1) := by decide +kernel
theorem s_L_drop_15 {x : Int32} (h : Φ (.ok (some (.int x))) hi g) : AP M_L_drop b 15 [x0, x1, x2] [.int x] hi g Φ := AP.iret d_L_drop_15 rfl h
end
section
variable {b : Nat × Nat} {st : List Value} {hi : am_HI} {g : am_G} {Φ : am_P} {x0 x1 x2 x3 x4 x5 : Value}
theorem d_L_echo_0 : decode cL_echo 0 = .ok (.aload 4, 2) := by decide +kernel
theorem s_L_echo_0 {n : Nat} (h : AP M_L_echo b 2 [x0, x1, x2, x3, .ref n, x5] (.ref n :: st) hi g Φ) : AP M_L_echo b 0 [x0, x1, x2, x3, .ref n, x5] (st) hi g Φ := AP.aload (x := n) (i := 4) d_L_echo_0 rfl h
theorem d_L_echo_2 : decode cL_echo 2 = .ok (.iconst 0, 1) := by decide +kernel
theorem s_L_echo_2 (h : AP M_L_echo b 3 [x0, x1, x2, x3, x4, x5] (.int 0 :: st) hi g Φ) : AP M_L_echo b 2 [x0, x1, x2, x3, x4, x5] (st) hi g Φ := AP.iconst (x := 0) d_L_echo_2 (by decide) h
theorem d_L_echo_3 : decode cL_echo 3 = .ok (.aload_n 0, 1) := by decide +kernel
theorem s_L_echo_3 {n : Nat} (h : AP M_L_echo b 4 [.ref n, x1, x2, x3, x4, x5] (.ref n :: st) hi g Φ) : AP M_L_echo b 3 [.ref n, x1, x2, x3, x4, x5] (st) hi g Φ := AP.aload_n (x := n) (i := 0) d_L_echo_3 rfl rfl h
theorem d_L_echo_4 : decode cL_echo 4 = .ok (.iload_n 1, 1) := by decide +kernel
theorem s_L_echo_4 {n : Int32} (h : AP M_L_echo b 5 [x0, .int n, x2, x3, x4, x5] (.int n :: st) hi g Φ) : AP M_L_echo b 4 [x0, .int n, x2, x3, x4, x5] (st) hi g Φ := AP.iload_n (x := n) (i := 1) d_L_echo_4 rfl rfl h
theorem d_L_echo_5 : decode cL_echo 5 = .ok (.iload_n 2, 1) := by decide +kernel
theorem s_L_echo_5 {n : Int32} (h : AP M_L_echo b 6 [x0, x1, .int n, x3, x4, x5] (.int n :: st) hi g Φ) : AP M_L_echo b 5 [x0, x1, .int n, x3, x4, x5] (st) hi g Φ := AP.iload_n (x := n) (i := 2) d_L_echo_5 rfl rfl h
theorem d_L_echo_6 : decode cL_echo 6 = .ok (.iload_n 3, 1) := by decide +kernel
theorem s_L_echo_6 {n : Int32} (h : AP M_L_echo b 7 [x0, x1, x2, .int n, x4, x5] (.int n :: st) hi g Φ) : AP M_L_echo b 6 [x0, x1, x2, .int n, x4, x5] (st) hi g Φ := AP.iload_n (x := n) (i := 3) d_L_echo_6 rfl rfl h
theorem d_L_echo_7 : decode cL_echo 7 = .ok (.invokevirtual 17, 3) := by decide +kernel
theorem s_L_echo_7 {a0 : Int32} {a1 : Int32} {a2 : Int32} {k : Nat} {r0 : Int32} {P : am_HI → Prop} (hI : am_Inv g) (hs : am_SH k = (0, 9)) (hk : k < 134) (hst : (st.map Value.category).sum ≤ 8) (hc : am_Cr M_X9_echo [.ref k, .int a0, .int a1, .int a2] hi g (some (.int r0)) P) (h : ∀ hi' : am_HI, P hi' → AP M_L_echo b 10 [x0, x1, x2, x3, x4, x5] (.int r0 :: st) hi' g Φ) : AP M_L_echo b 7 [x0, x1, x2, x3, x4, x5] (.int a2 :: .int a1 :: .int a0 :: .ref k :: st) hi g Φ := AP.callVr (As := [.int a0, .int a1, .int a2]) (q := (RX9, TX9, 7)) hI hc k_L_echo_17 d_L_echo_7 rfl hs hk rfl rfl hst h
theorem d_L_echo_10 : decode cL_echo 10 = .ok (.i2l, 1) := by decide +kernel
theorem s_L_echo_10 {x : Int32} (h : AP M_L_echo b 11 [x0, x1, x2, x3, x4, x5] (.long x.toInt64 :: st) hi g Φ) : AP M_L_echo b 10 [x0, x1, x2, x3, x4, x5] (.int x :: st) hi g Φ := AP.i2l d_L_echo_10 h
theorem d_L_echo_11 : decode cL_echo 11 = .ok (.lastore, 1) := by decide +kernel
theorem s_L_echo_11 {k n j : Nat} {i : Int32} {x : Int64} (hI : am_Inv g) (hs : am_SH k = (4, n)) (hk : k < 134) (hn : n < 2 ^ 31) (hx : i = nI j) (hj : j < n) (h : AP M_L_echo b 12 [x0, x1, x2, x3, x4, x5] (st) hi (am_upl g k j x) Φ) : AP M_L_echo b 11 [x0, x1, x2, x3, x4, x5] (.long x :: .int i :: .ref k :: st) hi g Φ := AP.last d_L_echo_11 hs (hI.lt hk) hn hx hj h
theorem d_L_echo_12 : decode cL_echo 12 = .ok (.goto 11, 3) := by decide +kernel
theorem s_L_echo_12 (h : AP M_L_echo b 23 [x0, x1, x2, x3, x4, x5] st hi g Φ) : AP M_L_echo b 12 [x0, x1, x2, x3, x4, x5] st hi g Φ := AP.goto d_L_echo_12 (by decide) h
theorem d_L_echo_15 : decode cL_echo 15 = .ok (.astore 5, 2) := by decide +kernel
theorem s_L_echo_15 {n : Nat} (hc : x4.category = 1) (h : AP M_L_echo b 17 [x0, x1, x2, x3, x4, .ref n] (st) hi g Φ) : AP M_L_echo b 15 [x0, x1, x2, x3, x4, x5] (.ref n :: st) hi g Φ := AP.astore (x := n) (i := 5) d_L_echo_15 (by decide) (by simp [am_st, am_ci, am_cr, am_cl, am_cd, hc]) h
theorem d_L_echo_17 : decode cL_echo 17 = .ok (.iconst 1, 1) := by decide +kernel
theorem s_L_echo_17 (h : AP M_L_echo b 18 [x0, x1, x2, x3, x4, x5] (.int 1 :: st) hi g Φ) : AP M_L_echo b 17 [x0, x1, x2, x3, x4, x5] (st) hi g Φ := AP.iconst (x := 1) d_L_echo_17 (by decide) h
theorem d_L_echo_18 : decode cL_echo 18 = .ok (.ireturn, 1) := by decide +kernel
theorem s_L_echo_18 {x : Int32} (h : Φ (.ok (some (.int x))) hi g) : AP M_L_echo b 18 [x0, x1, x2, x3, x4, x5] [.int x] hi g Φ := AP.iret d_L_echo_18 rfl h
theorem d_L_echo_19 : decode cL_echo 19 = .ok (.astore 5, 2) := by decide +kernel
theorem s_L_echo_19 {n : Nat} (hc : x4.category = 1) (h : AP M_L_echo b 21 [x0, x1, x2, x3, x4, .ref n] (st) hi g Φ) : AP M_L_echo b 19 [x0, x1, x2, x3, x4, x5] (.ref n :: st) hi g Φ := AP.astore (x := n) (i := 5) d_L_echo_19 (by decide) (by simp [am_st, am_ci, am_cr, am_cl, am_cd, hc]) h
theorem d_L_echo_21 : decode cL_echo 21 = .ok (.iconst 2, 1) := by decide +kernel
theorem s_L_echo_21 (h : AP M_L_echo b 22 [x0, x1, x2, x3, x4, x5] (.int 2 :: st) hi g Φ) : AP M_L_echo b 21 [x0, x1, x2, x3, x4, x5] (st) hi g Φ := AP.iconst (x := 2) d_L_echo_21 (by decide) h
theorem d_L_echo_22 : decode cL_echo 22 = .ok (.ireturn, 1) := by decide +kernel
theorem s_L_echo_22 {x : Int32} (h : Φ (.ok (some (.int x))) hi g) : AP M_L_echo b 22 [x0, x1, x2, x3, x4, x5] [.int x] hi g Φ := AP.iret d_L_echo_22 rfl h
theorem d_L_echo_23 : decode cL_echo 23 = .ok (.iconst 0, 1) := by decide +kernel
theorem s_L_echo_23 (h : AP M_L_echo b 24 [x0, x1, x2, x3, x4, x5] (.int 0 :: st) hi g Φ) : AP M_L_echo b 23 [x0, x1, x2, x3, x4, x5] (st) hi g Φ := AP.iconst (x := 0) d_L_echo_23 (by decide) h
theorem d_L_echo_24 : decode cL_echo 24 = .ok (.ireturn, 1) := by decide +kernel
theorem s_L_echo_24 {x : Int32} (h : Φ (.ok (some (.int x))) hi g) : AP M_L_echo b 24 [x0, x1, x2, x3, x4, x5] [.int x] hi g Φ := AP.iret d_L_echo_24 rfl h
end
section
variable {b : Nat × Nat} {st : List Value} {hi : am_HI} {g : am_G} {Φ : am_P} {x0 x1 x2 x3 : Value}
theorem d_L_firstWeight_0 : decode cL_firstWeight 0 = .ok (.aload_n 2, 1) := by decide +kernel
theorem s_L_firstWeight_0 {n : Nat} (h : AP M_L_firstWeight b 1 [x0, x1, .ref n, x3] (.ref n :: st) hi g Φ) : AP M_L_firstWeight b 0 [x0, x1, .ref n, x3] (st) hi g Φ := AP.aload_n (x := n) (i := 2) d_L_firstWeight_0 rfl rfl h
theorem d_L_firstWeight_1 : decode cL_firstWeight 1 = .ok (.iconst 0, 1) := by decide +kernel
theorem s_L_firstWeight_1 (h : AP M_L_firstWeight b 2 [x0, x1, x2, x3] (.int 0 :: st) hi g Φ) : AP M_L_firstWeight b 1 [x0, x1, x2, x3] (st) hi g Φ := AP.iconst (x := 0) d_L_firstWeight_1 (by decide) h
theorem d_L_firstWeight_2 : decode cL_firstWeight 2 = .ok (.aload_n 0, 1) := by decide +kernel
theorem s_L_firstWeight_2 {n : Nat} (h : AP M_L_firstWeight b 3 [.ref n, x1, x2, x3] (.ref n :: st) hi g Φ) : AP M_L_firstWeight b 2 [.ref n, x1, x2, x3] (st) hi g Φ := AP.aload_n (x := n) (i := 0) d_L_firstWeight_2 rfl rfl h
theorem d_L_firstWeight_3 : decode cL_firstWeight 3 = .ok (.iload_n 1, 1) := by decide +kernel
theorem s_L_firstWeight_3 {n : Int32} (h : AP M_L_firstWeight b 4 [x0, .int n, x2, x3] (.int n :: st) hi g Φ) : AP M_L_firstWeight b 3 [x0, .int n, x2, x3] (st) hi g Φ := AP.iload_n (x := n) (i := 1) d_L_firstWeight_3 rfl rfl h
theorem d_L_firstWeight_4 : decode cL_firstWeight 4 = .ok (.invokevirtual 53, 3) := by decide +kernel
theorem s_L_firstWeight_4 {a0 : Int32} {k : Nat} {r0 : Int32} {P : am_HI → Prop} (hI : am_Inv g) (hs : am_SH k = (0, 9)) (hk : k < 134) (hst : (st.map Value.category).sum ≤ 8) (hc : am_Cr M_X9_firstWeight [.ref k, .int a0] hi g (some (.int r0)) P) (h : ∀ hi' : am_HI, P hi' → AP M_L_firstWeight b 7 [x0, x1, x2, x3] (.int r0 :: st) hi' g Φ) : AP M_L_firstWeight b 4 [x0, x1, x2, x3] (.int a0 :: .ref k :: st) hi g Φ := AP.callVr (As := [.int a0]) (q := (RX9, TX9, 7)) hI hc k_L_firstWeight_53 d_L_firstWeight_4 rfl hs hk rfl rfl hst h
theorem d_L_firstWeight_7 : decode cL_firstWeight 7 = .ok (.i2l, 1) := by decide +kernel
theorem s_L_firstWeight_7 {x : Int32} (h : AP M_L_firstWeight b 8 [x0, x1, x2, x3] (.long x.toInt64 :: st) hi g Φ) : AP M_L_firstWeight b 7 [x0, x1, x2, x3] (.int x :: st) hi g Φ := AP.i2l d_L_firstWeight_7 h
theorem d_L_firstWeight_8 : decode cL_firstWeight 8 = .ok (.lastore, 1) := by decide +kernel
theorem s_L_firstWeight_8 {k n j : Nat} {i : Int32} {x : Int64} (hI : am_Inv g) (hs : am_SH k = (4, n)) (hk : k < 134) (hn : n < 2 ^ 31) (hx : i = nI j) (hj : j < n) (h : AP M_L_firstWeight b 9 [x0, x1, x2, x3] (st) hi (am_upl g k j x) Φ) : AP M_L_firstWeight b 8 [x0, x1, x2, x3] (.long x :: .int i :: .ref k :: st) hi g Φ := AP.last d_L_firstWeight_8 hs (hI.lt hk) hn hx hj h
theorem d_L_firstWeight_9 : decode cL_firstWeight 9 = .ok (.goto 6, 3) := by decide +kernel
theorem s_L_firstWeight_9 (h : AP M_L_firstWeight b 15 [x0, x1, x2, x3] st hi g Φ) : AP M_L_firstWeight b 9 [x0, x1, x2, x3] st hi g Φ := AP.goto d_L_firstWeight_9 (by decide) h
theorem d_L_firstWeight_12 : decode cL_firstWeight 12 = .ok (.astore_n 3, 1) := by decide +kernel
theorem s_L_firstWeight_12 {n : Nat} (hc : x2.category = 1) (h : AP M_L_firstWeight b 13 [x0, x1, x2, .ref n] (st) hi g Φ) : AP M_L_firstWeight b 12 [x0, x1, x2, x3] (.ref n :: st) hi g Φ := AP.astore_n (x := n) (i := 3) d_L_firstWeight_12 rfl (by decide) (by simp [am_st, am_ci, am_cr, am_cl, am_cd, hc]) h
theorem d_L_firstWeight_13 : decode cL_firstWeight 13 = .ok (.iconst 1, 1) := by decide +kernel
theorem s_L_firstWeight_13 (h : AP M_L_firstWeight b 14 [x0, x1, x2, x3] (.int 1 :: st) hi g Φ) : AP M_L_firstWeight b 13 [x0, x1, x2, x3] (st) hi g Φ := AP.iconst (x := 1) d_L_firstWeight_13 (by decide) h
theorem d_L_firstWeight_14 : decode cL_firstWeight 14 = .ok (.ireturn, 1) := by decide +kernel
theorem s_L_firstWeight_14 {x : Int32} (h : Φ (.ok (some (.int x))) hi g) : AP M_L_firstWeight b 14 [x0, x1, x2, x3] [.int x] hi g Φ := AP.iret d_L_firstWeight_14 rfl h
theorem d_L_firstWeight_15 : decode cL_firstWeight 15 = .ok (.iconst 0, 1) := by decide +kernel
theorem s_L_firstWeight_15 (h : AP M_L_firstWeight b 16 [x0, x1, x2, x3] (.int 0 :: st) hi g Φ) : AP M_L_firstWeight b 15 [x0, x1, x2, x3] (st) hi g Φ := AP.iconst (x := 0) d_L_firstWeight_15 (by decide) h
theorem d_L_firstWeight_16 : decode cL_firstWeight 16 = .ok (.ireturn, 1) := by decide +kernel
theorem s_L_firstWeight_16 {x : Int32} (h : Φ (.ok (some (.int x))) hi g) : AP M_L_firstWeight b 16 [x0, x1, x2, x3] [.int x] hi g Φ := AP.iret d_L_firstWeight_16 rfl h
end
section
variable {b : Nat × Nat} {st : List Value} {hi : am_HI} {g : am_G} {Φ : am_P} {x0 x1 x2 x3 x4 : Value}
theorem d_L_foretold_0 : decode cL_foretold 0 = .ok (.aload_n 3, 1) := by decide +kernel
theorem s_L_foretold_0 {n : Nat} (h : AP M_L_foretold b 1 [x0, x1, x2, .ref n, x4] (.ref n :: st) hi g Φ) : AP M_L_foretold b 0 [x0, x1, x2, .ref n, x4] (st) hi g Φ := AP.aload_n (x := n) (i := 3) d_L_foretold_0 rfl rfl h
theorem d_L_foretold_1 : decode cL_foretold 1 = .ok (.iconst 0, 1) := by decide +kernel
theorem s_L_foretold_1 (h : AP M_L_foretold b 2 [x0, x1, x2, x3, x4] (.int 0 :: st) hi g Φ) : AP M_L_foretold b 1 [x0, x1, x2, x3, x4] (st) hi g Φ := AP.iconst (x := 0) d_L_foretold_1 (by decide) h
theorem d_L_foretold_2 : decode cL_foretold 2 = .ok (.aload_n 0, 1) := by decide +kernel
theorem s_L_foretold_2 {n : Nat} (h : AP M_L_foretold b 3 [.ref n, x1, x2, x3, x4] (.ref n :: st) hi g Φ) : AP M_L_foretold b 2 [.ref n, x1, x2, x3, x4] (st) hi g Φ := AP.aload_n (x := n) (i := 0) d_L_foretold_2 rfl rfl h
theorem d_L_foretold_3 : decode cL_foretold 3 = .ok (.iload_n 1, 1) := by decide +kernel
theorem s_L_foretold_3 {n : Int32} (h : AP M_L_foretold b 4 [x0, .int n, x2, x3, x4] (.int n :: st) hi g Φ) : AP M_L_foretold b 3 [x0, .int n, x2, x3, x4] (st) hi g Φ := AP.iload_n (x := n) (i := 1) d_L_foretold_3 rfl rfl h
theorem d_L_foretold_4 : decode cL_foretold 4 = .ok (.iload_n 2, 1) := by decide +kernel
theorem s_L_foretold_4 {n : Int32} (h : AP M_L_foretold b 5 [x0, x1, .int n, x3, x4] (.int n :: st) hi g Φ) : AP M_L_foretold b 4 [x0, x1, .int n, x3, x4] (st) hi g Φ := AP.iload_n (x := n) (i := 2) d_L_foretold_4 rfl rfl h
theorem d_L_foretold_5 : decode cL_foretold 5 = .ok (.invokevirtual 62, 3) := by decide +kernel
theorem s_L_foretold_5 {a0 : Int32} {a1 : Int32} {k : Nat} {r0 : Int32} {P : am_HI → Prop} (hI : am_Inv g) (hs : am_SH k = (0, 9)) (hk : k < 134) (hst : (st.map Value.category).sum ≤ 8) (hc : am_Cr M_X9_foretold [.ref k, .int a0, .int a1] hi g (some (.int r0)) P) (h : ∀ hi' : am_HI, P hi' → AP M_L_foretold b 8 [x0, x1, x2, x3, x4] (.int r0 :: st) hi' g Φ) : AP M_L_foretold b 5 [x0, x1, x2, x3, x4] (.int a1 :: .int a0 :: .ref k :: st) hi g Φ := AP.callVr (As := [.int a0, .int a1]) (q := (RX9, TX9, 7)) hI hc k_L_foretold_62 d_L_foretold_5 rfl hs hk rfl rfl hst h
theorem d_L_foretold_8 : decode cL_foretold 8 = .ok (.i2l, 1) := by decide +kernel
theorem s_L_foretold_8 {x : Int32} (h : AP M_L_foretold b 9 [x0, x1, x2, x3, x4] (.long x.toInt64 :: st) hi g Φ) : AP M_L_foretold b 8 [x0, x1, x2, x3, x4] (.int x :: st) hi g Φ := AP.i2l d_L_foretold_8 h
theorem d_L_foretold_9 : decode cL_foretold 9 = .ok (.lastore, 1) := by decide +kernel
theorem s_L_foretold_9 {k n j : Nat} {i : Int32} {x : Int64} (hI : am_Inv g) (hs : am_SH k = (4, n)) (hk : k < 134) (hn : n < 2 ^ 31) (hx : i = nI j) (hj : j < n) (h : AP M_L_foretold b 10 [x0, x1, x2, x3, x4] (st) hi (am_upl g k j x) Φ) : AP M_L_foretold b 9 [x0, x1, x2, x3, x4] (.long x :: .int i :: .ref k :: st) hi g Φ := AP.last d_L_foretold_9 hs (hI.lt hk) hn hx hj h
theorem d_L_foretold_10 : decode cL_foretold 10 = .ok (.goto 11, 3) := by decide +kernel
theorem s_L_foretold_10 (h : AP M_L_foretold b 21 [x0, x1, x2, x3, x4] st hi g Φ) : AP M_L_foretold b 10 [x0, x1, x2, x3, x4] st hi g Φ := AP.goto d_L_foretold_10 (by decide) h
theorem d_L_foretold_13 : decode cL_foretold 13 = .ok (.astore 4, 2) := by decide +kernel
theorem s_L_foretold_13 {n : Nat} (hc : x3.category = 1) (h : AP M_L_foretold b 15 [x0, x1, x2, x3, .ref n] (st) hi g Φ) : AP M_L_foretold b 13 [x0, x1, x2, x3, x4] (.ref n :: st) hi g Φ := AP.astore (x := n) (i := 4) d_L_foretold_13 (by decide) (by simp [am_st, am_ci, am_cr, am_cl, am_cd, hc]) h
theorem d_L_foretold_15 : decode cL_foretold 15 = .ok (.iconst 1, 1) := by decide +kernel
theorem s_L_foretold_15 (h : AP M_L_foretold b 16 [x0, x1, x2, x3, x4] (.int 1 :: st) hi g Φ) : AP M_L_foretold b 15 [x0, x1, x2, x3, x4] (st) hi g Φ := AP.iconst (x := 1) d_L_foretold_15 (by decide) h
theorem d_L_foretold_16 : decode cL_foretold 16 = .ok (.ireturn, 1) := by decide +kernel
theorem s_L_foretold_16 {x : Int32} (h : Φ (.ok (some (.int x))) hi g) : AP M_L_foretold b 16 [x0, x1, x2, x3, x4] [.int x] hi g Φ := AP.iret d_L_foretold_16 rfl h
theorem d_L_foretold_17 : decode cL_foretold 17 = .ok (.astore 4, 2) := by decide +kernel
theorem s_L_foretold_17 {n : Nat} (hc : x3.category = 1) (h : AP M_L_foretold b 19 [x0, x1, x2, x3, .ref n] (st) hi g Φ) : AP M_L_foretold b 17 [x0, x1, x2, x3, x4] (.ref n :: st) hi g Φ := AP.astore (x := n) (i := 4) d_L_foretold_17 (by decide) (by simp [am_st, am_ci, am_cr, am_cl, am_cd, hc]) h
theorem d_L_foretold_19 : decode cL_foretold 19 = .ok (.iconst 2, 1) := by decide +kernel
theorem s_L_foretold_19 (h : AP M_L_foretold b 20 [x0, x1, x2, x3, x4] (.int 2 :: st) hi g Φ) : AP M_L_foretold b 19 [x0, x1, x2, x3, x4] (st) hi g Φ := AP.iconst (x := 2) d_L_foretold_19 (by decide) h
theorem d_L_foretold_20 : decode cL_foretold 20 = .ok (.ireturn, 1) := by decide +kernel
theorem s_L_foretold_20 {x : Int32} (h : Φ (.ok (some (.int x))) hi g) : AP M_L_foretold b 20 [x0, x1, x2, x3, x4] [.int x] hi g Φ := AP.iret d_L_foretold_20 rfl h
theorem d_L_foretold_21 : decode cL_foretold 21 = .ok (.iconst 0, 1) := by decide +kernel
theorem s_L_foretold_21 (h : AP M_L_foretold b 22 [x0, x1, x2, x3, x4] (.int 0 :: st) hi g Φ) : AP M_L_foretold b 21 [x0, x1, x2, x3, x4] (st) hi g Φ := AP.iconst (x := 0) d_L_foretold_21 (by decide) h
theorem d_L_foretold_22 : decode cL_foretold 22 = .ok (.ireturn, 1) := by decide +kernel
theorem s_L_foretold_22 {x : Int32} (h : Φ (.ok (some (.int x))) hi g) : AP M_L_foretold b 22 [x0, x1, x2, x3, x4] [.int x] hi g Φ := AP.iret d_L_foretold_22 rfl h
end
section
variable {b : Nat × Nat} {st : List Value} {hi : am_HI} {g : am_G} {Φ : am_P} {x0 x1 x2 x3 : Value}
theorem d_L_goBack_0 : decode cL_goBack 0 = .ok (.aload_n 2, 1) := by decide +kernel
theorem s_L_goBack_0 {n : Nat} (h : AP M_L_goBack b 1 [x0, x1, .ref n, x3] (.ref n :: st) hi g Φ) : AP M_L_goBack b 0 [x0, x1, .ref n, x3] (st) hi g Φ := AP.aload_n (x := n) (i := 2) d_L_goBack_0 rfl rfl h
theorem d_L_goBack_1 : decode cL_goBack 1 = .ok (.iconst 0, 1) := by decide +kernel
theorem s_L_goBack_1 (h : AP M_L_goBack b 2 [x0, x1, x2, x3] (.int 0 :: st) hi g Φ) : AP M_L_goBack b 1 [x0, x1, x2, x3] (st) hi g Φ := AP.iconst (x := 0) d_L_goBack_1 (by decide) h
theorem d_L_goBack_2 : decode cL_goBack 2 = .ok (.aload_n 0, 1) := by decide +kernel
theorem s_L_goBack_2 {n : Nat} (h : AP M_L_goBack b 3 [.ref n, x1, x2, x3] (.ref n :: st) hi g Φ) : AP M_L_goBack b 2 [.ref n, x1, x2, x3] (st) hi g Φ := AP.aload_n (x := n) (i := 0) d_L_goBack_2 rfl rfl h
theorem d_L_goBack_3 : decode cL_goBack 3 = .ok (.iload_n 1, 1) := by decide +kernel
theorem s_L_goBack_3 {n : Int32} (h : AP M_L_goBack b 4 [x0, .int n, x2, x3] (.int n :: st) hi g Φ) : AP M_L_goBack b 3 [x0, .int n, x2, x3] (st) hi g Φ := AP.iload_n (x := n) (i := 1) d_L_goBack_3 rfl rfl h
theorem d_L_goBack_4 : decode cL_goBack 4 = .ok (.invokevirtual 119, 3) := by decide +kernel
theorem s_L_goBack_4 {a0 : Int32} {k : Nat} {r0 : Int32} {P : am_HI → Prop} (hI : am_Inv g) (hs : am_SH k = (0, 9)) (hk : k < 134) (hst : (st.map Value.category).sum ≤ 8) (hc : am_Cr M_X9_goBack [.ref k, .int a0] hi g (some (.int r0)) P) (h : ∀ hi' : am_HI, P hi' → AP M_L_goBack b 7 [x0, x1, x2, x3] (.int r0 :: st) hi' g Φ) : AP M_L_goBack b 4 [x0, x1, x2, x3] (.int a0 :: .ref k :: st) hi g Φ := AP.callVr (As := [.int a0]) (q := (RX9, TX9, 7)) hI hc k_L_goBack_119 d_L_goBack_4 rfl hs hk rfl rfl hst h
theorem d_L_goBack_7 : decode cL_goBack 7 = .ok (.i2l, 1) := by decide +kernel
theorem s_L_goBack_7 {x : Int32} (h : AP M_L_goBack b 8 [x0, x1, x2, x3] (.long x.toInt64 :: st) hi g Φ) : AP M_L_goBack b 7 [x0, x1, x2, x3] (.int x :: st) hi g Φ := AP.i2l d_L_goBack_7 h
theorem d_L_goBack_8 : decode cL_goBack 8 = .ok (.lastore, 1) := by decide +kernel
theorem s_L_goBack_8 {k n j : Nat} {i : Int32} {x : Int64} (hI : am_Inv g) (hs : am_SH k = (4, n)) (hk : k < 134) (hn : n < 2 ^ 31) (hx : i = nI j) (hj : j < n) (h : AP M_L_goBack b 9 [x0, x1, x2, x3] (st) hi (am_upl g k j x) Φ) : AP M_L_goBack b 8 [x0, x1, x2, x3] (.long x :: .int i :: .ref k :: st) hi g Φ := AP.last d_L_goBack_8 hs (hI.lt hk) hn hx hj h
theorem d_L_goBack_9 : decode cL_goBack 9 = .ok (.goto 9, 3) := by decide +kernel
theorem s_L_goBack_9 (h : AP M_L_goBack b 18 [x0, x1, x2, x3] st hi g Φ) : AP M_L_goBack b 9 [x0, x1, x2, x3] st hi g Φ := AP.goto d_L_goBack_9 (by decide) h
theorem d_L_goBack_12 : decode cL_goBack 12 = .ok (.astore_n 3, 1) := by decide +kernel
theorem s_L_goBack_12 {n : Nat} (hc : x2.category = 1) (h : AP M_L_goBack b 13 [x0, x1, x2, .ref n] (st) hi g Φ) : AP M_L_goBack b 12 [x0, x1, x2, x3] (.ref n :: st) hi g Φ := AP.astore_n (x := n) (i := 3) d_L_goBack_12 rfl (by decide) (by simp [am_st, am_ci, am_cr, am_cl, am_cd, hc]) h
theorem d_L_goBack_13 : decode cL_goBack 13 = .ok (.iconst 1, 1) := by decide +kernel
theorem s_L_goBack_13 (h : AP M_L_goBack b 14 [x0, x1, x2, x3] (.int 1 :: st) hi g Φ) : AP M_L_goBack b 13 [x0, x1, x2, x3] (st) hi g Φ := AP.iconst (x := 1) d_L_goBack_13 (by decide) h
theorem d_L_goBack_14 : decode cL_goBack 14 = .ok (.ireturn, 1) := by decide +kernel
theorem s_L_goBack_14 {x : Int32} (h : Φ (.ok (some (.int x))) hi g) : AP M_L_goBack b 14 [x0, x1, x2, x3] [.int x] hi g Φ := AP.iret d_L_goBack_14 rfl h
theorem d_L_goBack_15 : decode cL_goBack 15 = .ok (.astore_n 3, 1) := by decide +kernel
theorem s_L_goBack_15 {n : Nat} (hc : x2.category = 1) (h : AP M_L_goBack b 16 [x0, x1, x2, .ref n] (st) hi g Φ) : AP M_L_goBack b 15 [x0, x1, x2, x3] (.ref n :: st) hi g Φ := AP.astore_n (x := n) (i := 3) d_L_goBack_15 rfl (by decide) (by simp [am_st, am_ci, am_cr, am_cl, am_cd, hc]) h
theorem d_L_goBack_16 : decode cL_goBack 16 = .ok (.iconst 2, 1) := by decide +kernel
theorem s_L_goBack_16 (h : AP M_L_goBack b 17 [x0, x1, x2, x3] (.int 2 :: st) hi g Φ) : AP M_L_goBack b 16 [x0, x1, x2, x3] (st) hi g Φ := AP.iconst (x := 2) d_L_goBack_16 (by decide) h
theorem d_L_goBack_17 : decode cL_goBack 17 = .ok (.ireturn, 1) := by decide +kernel
theorem s_L_goBack_17 {x : Int32} (h : Φ (.ok (some (.int x))) hi g) : AP M_L_goBack b 17 [x0, x1, x2, x3] [.int x] hi g Φ := AP.iret d_L_goBack_17 rfl h
theorem d_L_goBack_18 : decode cL_goBack 18 = .ok (.iconst 0, 1) := by decide +kernel
theorem s_L_goBack_18 (h : AP M_L_goBack b 19 [x0, x1, x2, x3] (.int 0 :: st) hi g Φ) : AP M_L_goBack b 18 [x0, x1, x2, x3] (st) hi g Φ := AP.iconst (x := 0) d_L_goBack_18 (by decide) h
theorem d_L_goBack_19 : decode cL_goBack 19 = .ok (.ireturn, 1) := by decide +kernel
theorem s_L_goBack_19 {x : Int32} (h : Φ (.ok (some (.int x))) hi g) : AP M_L_goBack b 19 [x0, x1, x2, x3] [.int x] hi g Φ := AP.iret d_L_goBack_19 rfl h
end
section
variable {b : Nat × Nat} {st : List Value} {hi : am_HI} {g : am_G} {Φ : am_P} {x0 x1 x2 x3 : Value}
theorem d_L_harm_0 : decode cL_harm 0 = .ok (.aload_n 2, 1) := by decide +kernel
theorem s_L_harm_0 {n : Nat} (h : AP M_L_harm b 1 [x0, x1, .ref n, x3] (.ref n :: st) hi g Φ) : AP M_L_harm b 0 [x0, x1, .ref n, x3] (st) hi g Φ := AP.aload_n (x := n) (i := 2) d_L_harm_0 rfl rfl h
theorem d_L_harm_1 : decode cL_harm 1 = .ok (.iconst 0, 1) := by decide +kernel
theorem s_L_harm_1 (h : AP M_L_harm b 2 [x0, x1, x2, x3] (.int 0 :: st) hi g Φ) : AP M_L_harm b 1 [x0, x1, x2, x3] (st) hi g Φ := AP.iconst (x := 0) d_L_harm_1 (by decide) h
theorem d_L_harm_2 : decode cL_harm 2 = .ok (.aload_n 0, 1) := by decide +kernel
theorem s_L_harm_2 {n : Nat} (h : AP M_L_harm b 3 [.ref n, x1, x2, x3] (.ref n :: st) hi g Φ) : AP M_L_harm b 2 [.ref n, x1, x2, x3] (st) hi g Φ := AP.aload_n (x := n) (i := 0) d_L_harm_2 rfl rfl h
theorem d_L_harm_3 : decode cL_harm 3 = .ok (.iload_n 1, 1) := by decide +kernel
theorem s_L_harm_3 {n : Int32} (h : AP M_L_harm b 4 [x0, .int n, x2, x3] (.int n :: st) hi g Φ) : AP M_L_harm b 3 [x0, .int n, x2, x3] (st) hi g Φ := AP.iload_n (x := n) (i := 1) d_L_harm_3 rfl rfl h
theorem d_L_harm_4 : decode cL_harm 4 = .ok (.invokevirtual 113, 3) := by decide +kernel
theorem s_L_harm_4 {a0 : Int32} {k : Nat} {r0 : Int32} {P : am_HI → Prop} (hI : am_Inv g) (hs : am_SH k = (0, 9)) (hk : k < 134) (hst : (st.map Value.category).sum ≤ 8) (hc : am_Cr M_X9_harm [.ref k, .int a0] hi g (some (.int r0)) P) (h : ∀ hi' : am_HI, P hi' → AP M_L_harm b 7 [x0, x1, x2, x3] (.int r0 :: st) hi' g Φ) : AP M_L_harm b 4 [x0, x1, x2, x3] (.int a0 :: .ref k :: st) hi g Φ := AP.callVr (As := [.int a0]) (q := (RX9, TX9, 7)) hI hc k_L_harm_113 d_L_harm_4 rfl hs hk rfl rfl hst h
theorem d_L_harm_7 : decode cL_harm 7 = .ok (.i2l, 1) := by decide +kernel
theorem s_L_harm_7 {x : Int32} (h : AP M_L_harm b 8 [x0, x1, x2, x3] (.long x.toInt64 :: st) hi g Φ) : AP M_L_harm b 7 [x0, x1, x2, x3] (.int x :: st) hi g Φ := AP.i2l d_L_harm_7 h
theorem d_L_harm_8 : decode cL_harm 8 = .ok (.lastore, 1) := by decide +kernel
theorem s_L_harm_8 {k n j : Nat} {i : Int32} {x : Int64} (hI : am_Inv g) (hs : am_SH k = (4, n)) (hk : k < 134) (hn : n < 2 ^ 31) (hx : i = nI j) (hj : j < n) (h : AP M_L_harm b 9 [x0, x1, x2, x3] (st) hi (am_upl g k j x) Φ) : AP M_L_harm b 8 [x0, x1, x2, x3] (.long x :: .int i :: .ref k :: st) hi g Φ := AP.last d_L_harm_8 hs (hI.lt hk) hn hx hj h
theorem d_L_harm_9 : decode cL_harm 9 = .ok (.goto 6, 3) := by decide +kernel
theorem s_L_harm_9 (h : AP M_L_harm b 15 [x0, x1, x2, x3] st hi g Φ) : AP M_L_harm b 9 [x0, x1, x2, x3] st hi g Φ := AP.goto d_L_harm_9 (by decide) h
theorem d_L_harm_12 : decode cL_harm 12 = .ok (.astore_n 3, 1) := by decide +kernel
theorem s_L_harm_12 {n : Nat} (hc : x2.category = 1) (h : AP M_L_harm b 13 [x0, x1, x2, .ref n] (st) hi g Φ) : AP M_L_harm b 12 [x0, x1, x2, x3] (.ref n :: st) hi g Φ := AP.astore_n (x := n) (i := 3) d_L_harm_12 rfl (by decide) (by simp [am_st, am_ci, am_cr, am_cl, am_cd, hc]) h
theorem d_L_harm_13 : decode cL_harm 13 = .ok (.iconst 1, 1) := by decide +kernel
theorem s_L_harm_13 (h : AP M_L_harm b 14 [x0, x1, x2, x3] (.int 1 :: st) hi g Φ) : AP M_L_harm b 13 [x0, x1, x2, x3] (st) hi g Φ := AP.iconst (x := 1) d_L_harm_13 (by decide) h
theorem d_L_harm_14 : decode cL_harm 14 = .ok (.ireturn, 1) := by decide +kernel
theorem s_L_harm_14 {x : Int32} (h : Φ (.ok (some (.int x))) hi g) : AP M_L_harm b 14 [x0, x1, x2, x3] [.int x] hi g Φ := AP.iret d_L_harm_14 rfl h
theorem d_L_harm_15 : decode cL_harm 15 = .ok (.iconst 0, 1) := by decide +kernel
theorem s_L_harm_15 (h : AP M_L_harm b 16 [x0, x1, x2, x3] (.int 0 :: st) hi g Φ) : AP M_L_harm b 15 [x0, x1, x2, x3] (st) hi g Φ := AP.iconst (x := 0) d_L_harm_15 (by decide) h
theorem d_L_harm_16 : decode cL_harm 16 = .ok (.ireturn, 1) := by decide +kernel
theorem s_L_harm_16 {x : Int32} (h : Φ (.ok (some (.int x))) hi g) : AP M_L_harm b 16 [x0, x1, x2, x3] [.int x] hi g Φ := AP.iret d_L_harm_16 rfl h
end
section
variable {b : Nat × Nat} {st : List Value} {hi : am_HI} {g : am_G} {Φ : am_P} {x0 x1 x2 x3 : Value}
theorem d_L_heard_0 : decode cL_heard 0 = .ok (.aload_n 2, 1) := by decide +kernel
theorem s_L_heard_0 {n : Nat} (h : AP M_L_heard b 1 [x0, x1, .ref n, x3] (.ref n :: st) hi g Φ) : AP M_L_heard b 0 [x0, x1, .ref n, x3] (st) hi g Φ := AP.aload_n (x := n) (i := 2) d_L_heard_0 rfl rfl h
theorem d_L_heard_1 : decode cL_heard 1 = .ok (.iconst 0, 1) := by decide +kernel
theorem s_L_heard_1 (h : AP M_L_heard b 2 [x0, x1, x2, x3] (.int 0 :: st) hi g Φ) : AP M_L_heard b 1 [x0, x1, x2, x3] (st) hi g Φ := AP.iconst (x := 0) d_L_heard_1 (by decide) h
theorem d_L_heard_2 : decode cL_heard 2 = .ok (.aload_n 0, 1) := by decide +kernel
theorem s_L_heard_2 {n : Nat} (h : AP M_L_heard b 3 [.ref n, x1, x2, x3] (.ref n :: st) hi g Φ) : AP M_L_heard b 2 [.ref n, x1, x2, x3] (st) hi g Φ := AP.aload_n (x := n) (i := 0) d_L_heard_2 rfl rfl h
theorem d_L_heard_3 : decode cL_heard 3 = .ok (.iload_n 1, 1) := by decide +kernel
theorem s_L_heard_3 {n : Int32} (h : AP M_L_heard b 4 [x0, .int n, x2, x3] (.int n :: st) hi g Φ) : AP M_L_heard b 3 [x0, .int n, x2, x3] (st) hi g Φ := AP.iload_n (x := n) (i := 1) d_L_heard_3 rfl rfl h
theorem d_L_heard_4 : decode cL_heard 4 = .ok (.invokevirtual 107, 3) := by decide +kernel
theorem s_L_heard_4 {a0 : Int32} {k : Nat} {r0 : Int32} {P : am_HI → Prop} (hI : am_Inv g) (hs : am_SH k = (0, 9)) (hk : k < 134) (hst : (st.map Value.category).sum ≤ 8) (hc : am_Cr M_X9_heard [.ref k, .int a0] hi g (some (.int r0)) P) (h : ∀ hi' : am_HI, P hi' → AP M_L_heard b 7 [x0, x1, x2, x3] (.int r0 :: st) hi' g Φ) : AP M_L_heard b 4 [x0, x1, x2, x3] (.int a0 :: .ref k :: st) hi g Φ := AP.callVr (As := [.int a0]) (q := (RX9, TX9, 7)) hI hc k_L_heard_107 d_L_heard_4 rfl hs hk rfl rfl hst h
theorem d_L_heard_7 : decode cL_heard 7 = .ok (.i2l, 1) := by decide +kernel
theorem s_L_heard_7 {x : Int32} (h : AP M_L_heard b 8 [x0, x1, x2, x3] (.long x.toInt64 :: st) hi g Φ) : AP M_L_heard b 7 [x0, x1, x2, x3] (.int x :: st) hi g Φ := AP.i2l d_L_heard_7 h
theorem d_L_heard_8 : decode cL_heard 8 = .ok (.lastore, 1) := by decide +kernel
theorem s_L_heard_8 {k n j : Nat} {i : Int32} {x : Int64} (hI : am_Inv g) (hs : am_SH k = (4, n)) (hk : k < 134) (hn : n < 2 ^ 31) (hx : i = nI j) (hj : j < n) (h : AP M_L_heard b 9 [x0, x1, x2, x3] (st) hi (am_upl g k j x) Φ) : AP M_L_heard b 8 [x0, x1, x2, x3] (.long x :: .int i :: .ref k :: st) hi g Φ := AP.last d_L_heard_8 hs (hI.lt hk) hn hx hj h
theorem d_L_heard_9 : decode cL_heard 9 = .ok (.goto 6, 3) := by decide +kernel
theorem s_L_heard_9 (h : AP M_L_heard b 15 [x0, x1, x2, x3] st hi g Φ) : AP M_L_heard b 9 [x0, x1, x2, x3] st hi g Φ := AP.goto d_L_heard_9 (by decide) h
theorem d_L_heard_12 : decode cL_heard 12 = .ok (.astore_n 3, 1) := by decide +kernel
theorem s_L_heard_12 {n : Nat} (hc : x2.category = 1) (h : AP M_L_heard b 13 [x0, x1, x2, .ref n] (st) hi g Φ) : AP M_L_heard b 12 [x0, x1, x2, x3] (.ref n :: st) hi g Φ := AP.astore_n (x := n) (i := 3) d_L_heard_12 rfl (by decide) (by simp [am_st, am_ci, am_cr, am_cl, am_cd, hc]) h
theorem d_L_heard_13 : decode cL_heard 13 = .ok (.iconst 1, 1) := by decide +kernel
theorem s_L_heard_13 (h : AP M_L_heard b 14 [x0, x1, x2, x3] (.int 1 :: st) hi g Φ) : AP M_L_heard b 13 [x0, x1, x2, x3] (st) hi g Φ := AP.iconst (x := 1) d_L_heard_13 (by decide) h
theorem d_L_heard_14 : decode cL_heard 14 = .ok (.ireturn, 1) := by decide +kernel
theorem s_L_heard_14 {x : Int32} (h : Φ (.ok (some (.int x))) hi g) : AP M_L_heard b 14 [x0, x1, x2, x3] [.int x] hi g Φ := AP.iret d_L_heard_14 rfl h
theorem d_L_heard_15 : decode cL_heard 15 = .ok (.iconst 0, 1) := by decide +kernel
theorem s_L_heard_15 (h : AP M_L_heard b 16 [x0, x1, x2, x3] (.int 0 :: st) hi g Φ) : AP M_L_heard b 15 [x0, x1, x2, x3] (st) hi g Φ := AP.iconst (x := 0) d_L_heard_15 (by decide) h
theorem d_L_heard_16 : decode cL_heard 16 = .ok (.ireturn, 1) := by decide +kernel
theorem s_L_heard_16 {x : Int32} (h : Φ (.ok (some (.int x))) hi g) : AP M_L_heard b 16 [x0, x1, x2, x3] [.int x] hi g Φ := AP.iret d_L_heard_16 rfl h
end
section
variable {b : Nat × Nat} {st : List Value} {hi : am_HI} {g : am_G} {Φ : am_P} {x0 x1 x2 x3 : Value}
theorem d_L_heardByBits_0 : decode cL_heardByBits 0 = .ok (.aload_n 2, 1) := by decide +kernel
theorem s_L_heardByBits_0 {n : Nat} (h : AP M_L_heardByBits b 1 [x0, x1, .ref n, x3] (.ref n :: st) hi g Φ) : AP M_L_heardByBits b 0 [x0, x1, .ref n, x3] (st) hi g Φ := AP.aload_n (x := n) (i := 2) d_L_heardByBits_0 rfl rfl h
theorem d_L_heardByBits_1 : decode cL_heardByBits 1 = .ok (.iconst 0, 1) := by decide +kernel
theorem s_L_heardByBits_1 (h : AP M_L_heardByBits b 2 [x0, x1, x2, x3] (.int 0 :: st) hi g Φ) : AP M_L_heardByBits b 1 [x0, x1, x2, x3] (st) hi g Φ := AP.iconst (x := 0) d_L_heardByBits_1 (by decide) h
theorem d_L_heardByBits_2 : decode cL_heardByBits 2 = .ok (.aload_n 0, 1) := by decide +kernel
theorem s_L_heardByBits_2 {n : Nat} (h : AP M_L_heardByBits b 3 [.ref n, x1, x2, x3] (.ref n :: st) hi g Φ) : AP M_L_heardByBits b 2 [.ref n, x1, x2, x3] (st) hi g Φ := AP.aload_n (x := n) (i := 0) d_L_heardByBits_2 rfl rfl h
theorem d_L_heardByBits_3 : decode cL_heardByBits 3 = .ok (.iload_n 1, 1) := by decide +kernel
theorem s_L_heardByBits_3 {n : Int32} (h : AP M_L_heardByBits b 4 [x0, .int n, x2, x3] (.int n :: st) hi g Φ) : AP M_L_heardByBits b 3 [x0, .int n, x2, x3] (st) hi g Φ := AP.iload_n (x := n) (i := 1) d_L_heardByBits_3 rfl rfl h
theorem d_L_heardByBits_4 : decode cL_heardByBits 4 = .ok (.invokevirtual 110, 3) := by decide +kernel
theorem s_L_heardByBits_4 {a0 : Int32} {k : Nat} {r0 : Int32} {P : am_HI → Prop} (hI : am_Inv g) (hs : am_SH k = (0, 9)) (hk : k < 134) (hst : (st.map Value.category).sum ≤ 8) (hc : am_Cr M_X9_heardByBits [.ref k, .int a0] hi g (some (.int r0)) P) (h : ∀ hi' : am_HI, P hi' → AP M_L_heardByBits b 7 [x0, x1, x2, x3] (.int r0 :: st) hi' g Φ) : AP M_L_heardByBits b 4 [x0, x1, x2, x3] (.int a0 :: .ref k :: st) hi g Φ := AP.callVr (As := [.int a0]) (q := (RX9, TX9, 7)) hI hc k_L_heardByBits_110 d_L_heardByBits_4 rfl hs hk rfl rfl hst h
theorem d_L_heardByBits_7 : decode cL_heardByBits 7 = .ok (.i2l, 1) := by decide +kernel
theorem s_L_heardByBits_7 {x : Int32} (h : AP M_L_heardByBits b 8 [x0, x1, x2, x3] (.long x.toInt64 :: st) hi g Φ) : AP M_L_heardByBits b 7 [x0, x1, x2, x3] (.int x :: st) hi g Φ := AP.i2l d_L_heardByBits_7 h
theorem d_L_heardByBits_8 : decode cL_heardByBits 8 = .ok (.lastore, 1) := by decide +kernel
theorem s_L_heardByBits_8 {k n j : Nat} {i : Int32} {x : Int64} (hI : am_Inv g) (hs : am_SH k = (4, n)) (hk : k < 134) (hn : n < 2 ^ 31) (hx : i = nI j) (hj : j < n) (h : AP M_L_heardByBits b 9 [x0, x1, x2, x3] (st) hi (am_upl g k j x) Φ) : AP M_L_heardByBits b 8 [x0, x1, x2, x3] (.long x :: .int i :: .ref k :: st) hi g Φ := AP.last d_L_heardByBits_8 hs (hI.lt hk) hn hx hj h
theorem d_L_heardByBits_9 : decode cL_heardByBits 9 = .ok (.goto 6, 3) := by decide +kernel
theorem s_L_heardByBits_9 (h : AP M_L_heardByBits b 15 [x0, x1, x2, x3] st hi g Φ) : AP M_L_heardByBits b 9 [x0, x1, x2, x3] st hi g Φ := AP.goto d_L_heardByBits_9 (by decide) h
theorem d_L_heardByBits_12 : decode cL_heardByBits 12 = .ok (.astore_n 3, 1) := by decide +kernel
theorem s_L_heardByBits_12 {n : Nat} (hc : x2.category = 1) (h : AP M_L_heardByBits b 13 [x0, x1, x2, .ref n] (st) hi g Φ) : AP M_L_heardByBits b 12 [x0, x1, x2, x3] (.ref n :: st) hi g Φ := AP.astore_n (x := n) (i := 3) d_L_heardByBits_12 rfl (by decide) (by simp [am_st, am_ci, am_cr, am_cl, am_cd, hc]) h
theorem d_L_heardByBits_13 : decode cL_heardByBits 13 = .ok (.iconst 1, 1) := by decide +kernel
theorem s_L_heardByBits_13 (h : AP M_L_heardByBits b 14 [x0, x1, x2, x3] (.int 1 :: st) hi g Φ) : AP M_L_heardByBits b 13 [x0, x1, x2, x3] (st) hi g Φ := AP.iconst (x := 1) d_L_heardByBits_13 (by decide) h
theorem d_L_heardByBits_14 : decode cL_heardByBits 14 = .ok (.ireturn, 1) := by decide +kernel
theorem s_L_heardByBits_14 {x : Int32} (h : Φ (.ok (some (.int x))) hi g) : AP M_L_heardByBits b 14 [x0, x1, x2, x3] [.int x] hi g Φ := AP.iret d_L_heardByBits_14 rfl h
theorem d_L_heardByBits_15 : decode cL_heardByBits 15 = .ok (.iconst 0, 1) := by decide +kernel
theorem s_L_heardByBits_15 (h : AP M_L_heardByBits b 16 [x0, x1, x2, x3] (.int 0 :: st) hi g Φ) : AP M_L_heardByBits b 15 [x0, x1, x2, x3] (st) hi g Φ := AP.iconst (x := 0) d_L_heardByBits_15 (by decide) h
theorem d_L_heardByBits_16 : decode cL_heardByBits 16 = .ok (.ireturn, 1) := by decide +kernel
theorem s_L_heardByBits_16 {x : Int32} (h : Φ (.ok (some (.int x))) hi g) : AP M_L_heardByBits b 16 [x0, x1, x2, x3] [.int x] hi g Φ := AP.iret d_L_heardByBits_16 rfl h
end
section
variable {b : Nat × Nat} {st : List Value} {hi : am_HI} {g : am_G} {Φ : am_P} {x0 x1 x2 x3 : Value}
theorem d_L_keep_0 : decode cL_keep 0 = .ok (.aload_n 2, 1) := by decide +kernel
theorem s_L_keep_0 {n : Nat} (h : AP M_L_keep b 1 [x0, x1, .ref n, x3] (.ref n :: st) hi g Φ) : AP M_L_keep b 0 [x0, x1, .ref n, x3] (st) hi g Φ := AP.aload_n (x := n) (i := 2) d_L_keep_0 rfl rfl h
theorem d_L_keep_1 : decode cL_keep 1 = .ok (.iconst 0, 1) := by decide +kernel
theorem s_L_keep_1 (h : AP M_L_keep b 2 [x0, x1, x2, x3] (.int 0 :: st) hi g Φ) : AP M_L_keep b 1 [x0, x1, x2, x3] (st) hi g Φ := AP.iconst (x := 0) d_L_keep_1 (by decide) h
theorem d_L_keep_2 : decode cL_keep 2 = .ok (.aload_n 0, 1) := by decide +kernel
theorem s_L_keep_2 {n : Nat} (h : AP M_L_keep b 3 [.ref n, x1, x2, x3] (.ref n :: st) hi g Φ) : AP M_L_keep b 2 [.ref n, x1, x2, x3] (st) hi g Φ := AP.aload_n (x := n) (i := 0) d_L_keep_2 rfl rfl h
theorem d_L_keep_3 : decode cL_keep 3 = .ok (.iload_n 1, 1) := by decide +kernel
theorem s_L_keep_3 {n : Int32} (h : AP M_L_keep b 4 [x0, .int n, x2, x3] (.int n :: st) hi g Φ) : AP M_L_keep b 3 [x0, .int n, x2, x3] (st) hi g Φ := AP.iload_n (x := n) (i := 1) d_L_keep_3 rfl rfl h
theorem d_L_keep_4 : decode cL_keep 4 = .ok (.invokevirtual 116, 3) := by decide +kernel
theorem s_L_keep_4 {a0 : Int32} {k : Nat} {r0 : Int32} {P : am_HI → Prop} (hI : am_Inv g) (hs : am_SH k = (0, 9)) (hk : k < 134) (hst : (st.map Value.category).sum ≤ 8) (hc : am_Cr M_X9_keep [.ref k, .int a0] hi g (some (.int r0)) P) (h : ∀ hi' : am_HI, P hi' → AP M_L_keep b 7 [x0, x1, x2, x3] (.int r0 :: st) hi' g Φ) : AP M_L_keep b 4 [x0, x1, x2, x3] (.int a0 :: .ref k :: st) hi g Φ := AP.callVr (As := [.int a0]) (q := (RX9, TX9, 7)) hI hc k_L_keep_116 d_L_keep_4 rfl hs hk rfl rfl hst h
theorem d_L_keep_7 : decode cL_keep 7 = .ok (.i2l, 1) := by decide +kernel
theorem s_L_keep_7 {x : Int32} (h : AP M_L_keep b 8 [x0, x1, x2, x3] (.long x.toInt64 :: st) hi g Φ) : AP M_L_keep b 7 [x0, x1, x2, x3] (.int x :: st) hi g Φ := AP.i2l d_L_keep_7 h
theorem d_L_keep_8 : decode cL_keep 8 = .ok (.lastore, 1) := by decide +kernel
theorem s_L_keep_8 {k n j : Nat} {i : Int32} {x : Int64} (hI : am_Inv g) (hs : am_SH k = (4, n)) (hk : k < 134) (hn : n < 2 ^ 31) (hx : i = nI j) (hj : j < n) (h : AP M_L_keep b 9 [x0, x1, x2, x3] (st) hi (am_upl g k j x) Φ) : AP M_L_keep b 8 [x0, x1, x2, x3] (.long x :: .int i :: .ref k :: st) hi g Φ := AP.last d_L_keep_8 hs (hI.lt hk) hn hx hj h
theorem d_L_keep_9 : decode cL_keep 9 = .ok (.goto 6, 3) := by decide +kernel
theorem s_L_keep_9 (h : AP M_L_keep b 15 [x0, x1, x2, x3] st hi g Φ) : AP M_L_keep b 9 [x0, x1, x2, x3] st hi g Φ := AP.goto d_L_keep_9 (by decide) h
theorem d_L_keep_12 : decode cL_keep 12 = .ok (.astore_n 3, 1) := by decide +kernel
theorem s_L_keep_12 {n : Nat} (hc : x2.category = 1) (h : AP M_L_keep b 13 [x0, x1, x2, .ref n] (st) hi g Φ) : AP M_L_keep b 12 [x0, x1, x2, x3] (.ref n :: st) hi g Φ := AP.astore_n (x := n) (i := 3) d_L_keep_12 rfl (by decide) (by simp [am_st, am_ci, am_cr, am_cl, am_cd, hc]) h
theorem d_L_keep_13 : decode cL_keep 13 = .ok (.iconst 1, 1) := by decide +kernel
theorem s_L_keep_13 (h : AP M_L_keep b 14 [x0, x1, x2, x3] (.int 1 :: st) hi g Φ) : AP M_L_keep b 13 [x0, x1, x2, x3] (st) hi g Φ := AP.iconst (x := 1) d_L_keep_13 (by decide) h
theorem d_L_keep_14 : decode cL_keep 14 = .ok (.ireturn, 1) := by decide +kernel
theorem s_L_keep_14 {x : Int32} (h : Φ (.ok (some (.int x))) hi g) : AP M_L_keep b 14 [x0, x1, x2, x3] [.int x] hi g Φ := AP.iret d_L_keep_14 rfl h
theorem d_L_keep_15 : decode cL_keep 15 = .ok (.iconst 0, 1) := by decide +kernel
theorem s_L_keep_15 (h : AP M_L_keep b 16 [x0, x1, x2, x3] (.int 0 :: st) hi g Φ) : AP M_L_keep b 15 [x0, x1, x2, x3] (st) hi g Φ := AP.iconst (x := 0) d_L_keep_15 (by decide) h
theorem d_L_keep_16 : decode cL_keep 16 = .ok (.ireturn, 1) := by decide +kernel
theorem s_L_keep_16 {x : Int32} (h : Φ (.ok (some (.int x))) hi g) : AP M_L_keep b 16 [x0, x1, x2, x3] [.int x] hi g Φ := AP.iret d_L_keep_16 rfl h
end
section
variable {b : Nat × Nat} {st : List Value} {hi : am_HI} {g : am_G} {Φ : am_P} {x0 x1 x2 x3 x4 : Value}
theorem d_L_leftOver_0 : decode cL_leftOver 0 = .ok (.aload_n 3, 1) := by decide +kernel
theorem s_L_leftOver_0 {n : Nat} (h : AP M_L_leftOver b 1 [x0, x1, x2, .ref n, x4] (.ref n :: st) hi g Φ) : AP M_L_leftOver b 0 [x0, x1, x2, .ref n, x4] (st) hi g Φ := AP.aload_n (x := n) (i := 3) d_L_leftOver_0 rfl rfl h
theorem d_L_leftOver_1 : decode cL_leftOver 1 = .ok (.iconst 0, 1) := by decide +kernel
theorem s_L_leftOver_1 (h : AP M_L_leftOver b 2 [x0, x1, x2, x3, x4] (.int 0 :: st) hi g Φ) : AP M_L_leftOver b 1 [x0, x1, x2, x3, x4] (st) hi g Φ := AP.iconst (x := 0) d_L_leftOver_1 (by decide) h
theorem d_L_leftOver_2 : decode cL_leftOver 2 = .ok (.aload_n 0, 1) := by decide +kernel
theorem s_L_leftOver_2 {n : Nat} (h : AP M_L_leftOver b 3 [.ref n, x1, x2, x3, x4] (.ref n :: st) hi g Φ) : AP M_L_leftOver b 2 [.ref n, x1, x2, x3, x4] (st) hi g Φ := AP.aload_n (x := n) (i := 0) d_L_leftOver_2 rfl rfl h
theorem d_L_leftOver_3 : decode cL_leftOver 3 = .ok (.iload_n 1, 1) := by decide +kernel
theorem s_L_leftOver_3 {n : Int32} (h : AP M_L_leftOver b 4 [x0, .int n, x2, x3, x4] (.int n :: st) hi g Φ) : AP M_L_leftOver b 3 [x0, .int n, x2, x3, x4] (st) hi g Φ := AP.iload_n (x := n) (i := 1) d_L_leftOver_3 rfl rfl h
theorem d_L_leftOver_4 : decode cL_leftOver 4 = .ok (.iload_n 2, 1) := by decide +kernel
theorem s_L_leftOver_4 {n : Int32} (h : AP M_L_leftOver b 5 [x0, x1, .int n, x3, x4] (.int n :: st) hi g Φ) : AP M_L_leftOver b 4 [x0, x1, .int n, x3, x4] (st) hi g Φ := AP.iload_n (x := n) (i := 2) d_L_leftOver_4 rfl rfl h
theorem d_L_leftOver_5 : decode cL_leftOver 5 = .ok (.invokevirtual 65, 3) := by decide +kernel
theorem s_L_leftOver_5 {a0 : Int32} {a1 : Int32} {k : Nat} {r0 : Int32} {P : am_HI → Prop} (hI : am_Inv g) (hs : am_SH k = (0, 9)) (hk : k < 134) (hst : (st.map Value.category).sum ≤ 8) (hc : am_Cr M_X9_leftOver [.ref k, .int a0, .int a1] hi g (some (.int r0)) P) (h : ∀ hi' : am_HI, P hi' → AP M_L_leftOver b 8 [x0, x1, x2, x3, x4] (.int r0 :: st) hi' g Φ) : AP M_L_leftOver b 5 [x0, x1, x2, x3, x4] (.int a1 :: .int a0 :: .ref k :: st) hi g Φ := AP.callVr (As := [.int a0, .int a1]) (q := (RX9, TX9, 7)) hI hc k_L_leftOver_65 d_L_leftOver_5 rfl hs hk rfl rfl hst h
theorem d_L_leftOver_8 : decode cL_leftOver 8 = .ok (.i2l, 1) := by decide +kernel
theorem s_L_leftOver_8 {x : Int32} (h : AP M_L_leftOver b 9 [x0, x1, x2, x3, x4] (.long x.toInt64 :: st) hi g Φ) : AP M_L_leftOver b 8 [x0, x1, x2, x3, x4] (.int x :: st) hi g Φ := AP.i2l d_L_leftOver_8 h
theorem d_L_leftOver_9 : decode cL_leftOver 9 = .ok (.lastore, 1) := by decide +kernel
theorem s_L_leftOver_9 {k n j : Nat} {i : Int32} {x : Int64} (hI : am_Inv g) (hs : am_SH k = (4, n)) (hk : k < 134) (hn : n < 2 ^ 31) (hx : i = nI j) (hj : j < n) (h : AP M_L_leftOver b 10 [x0, x1, x2, x3, x4] (st) hi (am_upl g k j x) Φ) : AP M_L_leftOver b 9 [x0, x1, x2, x3, x4] (.long x :: .int i :: .ref k :: st) hi g Φ := AP.last d_L_leftOver_9 hs (hI.lt hk) hn hx hj h
theorem d_L_leftOver_10 : decode cL_leftOver 10 = .ok (.goto 11, 3) := by decide +kernel
theorem s_L_leftOver_10 (h : AP M_L_leftOver b 21 [x0, x1, x2, x3, x4] st hi g Φ) : AP M_L_leftOver b 10 [x0, x1, x2, x3, x4] st hi g Φ := AP.goto d_L_leftOver_10 (by decide) h
theorem d_L_leftOver_13 : decode cL_leftOver 13 = .ok (.astore 4, 2) := by decide +kernel
theorem s_L_leftOver_13 {n : Nat} (hc : x3.category = 1) (h : AP M_L_leftOver b 15 [x0, x1, x2, x3, .ref n] (st) hi g Φ) : AP M_L_leftOver b 13 [x0, x1, x2, x3, x4] (.ref n :: st) hi g Φ := AP.astore (x := n) (i := 4) d_L_leftOver_13 (by decide) (by simp [am_st, am_ci, am_cr, am_cl, am_cd, hc]) h
theorem d_L_leftOver_15 : decode cL_leftOver 15 = .ok (.iconst 1, 1) := by decide +kernel
theorem s_L_leftOver_15 (h : AP M_L_leftOver b 16 [x0, x1, x2, x3, x4] (.int 1 :: st) hi g Φ) : AP M_L_leftOver b 15 [x0, x1, x2, x3, x4] (st) hi g Φ := AP.iconst (x := 1) d_L_leftOver_15 (by decide) h
theorem d_L_leftOver_16 : decode cL_leftOver 16 = .ok (.ireturn, 1) := by decide +kernel
theorem s_L_leftOver_16 {x : Int32} (h : Φ (.ok (some (.int x))) hi g) : AP M_L_leftOver b 16 [x0, x1, x2, x3, x4] [.int x] hi g Φ := AP.iret d_L_leftOver_16 rfl h
theorem d_L_leftOver_17 : decode cL_leftOver 17 = .ok (.astore 4, 2) := by decide +kernel
theorem s_L_leftOver_17 {n : Nat} (hc : x3.category = 1) (h : AP M_L_leftOver b 19 [x0, x1, x2, x3, .ref n] (st) hi g Φ) : AP M_L_leftOver b 17 [x0, x1, x2, x3, x4] (.ref n :: st) hi g Φ := AP.astore (x := n) (i := 4) d_L_leftOver_17 (by decide) (by simp [am_st, am_ci, am_cr, am_cl, am_cd, hc]) h
theorem d_L_leftOver_19 : decode cL_leftOver 19 = .ok (.iconst 2, 1) := by decide +kernel
theorem s_L_leftOver_19 (h : AP M_L_leftOver b 20 [x0, x1, x2, x3, x4] (.int 2 :: st) hi g Φ) : AP M_L_leftOver b 19 [x0, x1, x2, x3, x4] (st) hi g Φ := AP.iconst (x := 2) d_L_leftOver_19 (by decide) h
theorem d_L_leftOver_20 : decode cL_leftOver 20 = .ok (.ireturn, 1) := by decide +kernel
theorem s_L_leftOver_20 {x : Int32} (h : Φ (.ok (some (.int x))) hi g) : AP M_L_leftOver b 20 [x0, x1, x2, x3, x4] [.int x] hi g Φ := AP.iret d_L_leftOver_20 rfl h
theorem d_L_leftOver_21 : decode cL_leftOver 21 = .ok (.iconst 0, 1) := by decide +kernel
theorem s_L_leftOver_21 (h : AP M_L_leftOver b 22 [x0, x1, x2, x3, x4] (.int 0 :: st) hi g Φ) : AP M_L_leftOver b 21 [x0, x1, x2, x3, x4] (st) hi g Φ := AP.iconst (x := 0) d_L_leftOver_21 (by decide) h
theorem d_L_leftOver_22 : decode cL_leftOver 22 = .ok (.ireturn, 1) := by decide +kernel
theorem s_L_leftOver_22 {x : Int32} (h : Φ (.ok (some (.int x))) hi g) : AP M_L_leftOver b 22 [x0, x1, x2, x3, x4] [.int x] hi g Φ := AP.iret d_L_leftOver_22 rfl h
end
section
variable {b : Nat × Nat} {st : List Value} {hi : am_HI} {g : am_G} {Φ : am_P} {x0 x1 x2 x3 : Value}
theorem d_L_letterBit_0 : decode cL_letterBit 0 = .ok (.aload_n 2, 1) := by decide +kernel
theorem s_L_letterBit_0 {n : Nat} (h : AP M_L_letterBit b 1 [x0, x1, .ref n, x3] (.ref n :: st) hi g Φ) : AP M_L_letterBit b 0 [x0, x1, .ref n, x3] (st) hi g Φ := AP.aload_n (x := n) (i := 2) d_L_letterBit_0 rfl rfl h
theorem d_L_letterBit_1 : decode cL_letterBit 1 = .ok (.iconst 0, 1) := by decide +kernel
theorem s_L_letterBit_1 (h : AP M_L_letterBit b 2 [x0, x1, x2, x3] (.int 0 :: st) hi g Φ) : AP M_L_letterBit b 1 [x0, x1, x2, x3] (st) hi g Φ := AP.iconst (x := 0) d_L_letterBit_1 (by decide) h
theorem d_L_letterBit_2 : decode cL_letterBit 2 = .ok (.aload_n 0, 1) := by decide +kernel
theorem s_L_letterBit_2 {n : Nat} (h : AP M_L_letterBit b 3 [.ref n, x1, x2, x3] (.ref n :: st) hi g Φ) : AP M_L_letterBit b 2 [.ref n, x1, x2, x3] (st) hi g Φ := AP.aload_n (x := n) (i := 0) d_L_letterBit_2 rfl rfl h
theorem d_L_letterBit_3 : decode cL_letterBit 3 = .ok (.iload_n 1, 1) := by decide +kernel
theorem s_L_letterBit_3 {n : Int32} (h : AP M_L_letterBit b 4 [x0, .int n, x2, x3] (.int n :: st) hi g Φ) : AP M_L_letterBit b 3 [x0, .int n, x2, x3] (st) hi g Φ := AP.iload_n (x := n) (i := 1) d_L_letterBit_3 rfl rfl h
theorem d_L_letterBit_4 : decode cL_letterBit 4 = .ok (.invokevirtual 104, 3) := by decide +kernel
theorem s_L_letterBit_4 {a0 : Int32} {k : Nat} {r0 : Int32} {P : am_HI → Prop} (hI : am_Inv g) (hs : am_SH k = (0, 9)) (hk : k < 134) (hst : (st.map Value.category).sum ≤ 8) (hc : am_Cr M_X9_letterBit [.ref k, .int a0] hi g (some (.int r0)) P) (h : ∀ hi' : am_HI, P hi' → AP M_L_letterBit b 7 [x0, x1, x2, x3] (.int r0 :: st) hi' g Φ) : AP M_L_letterBit b 4 [x0, x1, x2, x3] (.int a0 :: .ref k :: st) hi g Φ := AP.callVr (As := [.int a0]) (q := (RX9, TX9, 7)) hI hc k_L_letterBit_104 d_L_letterBit_4 rfl hs hk rfl rfl hst h
theorem d_L_letterBit_7 : decode cL_letterBit 7 = .ok (.ifCond .eq 7, 3) := by decide +kernel
theorem s_L_letterBit_7 {x : Int32} (h1 : x = 0 → AP M_L_letterBit b 14 [x0, x1, x2, x3] st hi g Φ) (h2 : ¬ x = 0 → AP M_L_letterBit b 10 [x0, x1, x2, x3] st hi g Φ) : AP M_L_letterBit b 7 [x0, x1, x2, x3] (.int x :: st) hi g Φ := AP.if_eq d_L_letterBit_7 (by decide) h1 h2
theorem d_L_letterBit_10 : decode cL_letterBit 10 = .ok (.lconst 1, 1) := by decide +kernel
theorem s_L_letterBit_10 (h : AP M_L_letterBit b 11 [x0, x1, x2, x3] (.long 1 :: st) hi g Φ) : AP M_L_letterBit b 10 [x0, x1, x2, x3] (st) hi g Φ := AP.lconst (x := 1) d_L_letterBit_10 (by decide) h
theorem d_L_letterBit_11 : decode cL_letterBit 11 = .ok (.goto 4, 3) := by decide +kernel
theorem s_L_letterBit_11 (h : AP M_L_letterBit b 15 [x0, x1, x2, x3] st hi g Φ) : AP M_L_letterBit b 11 [x0, x1, x2, x3] st hi g Φ := AP.goto d_L_letterBit_11 (by decide) h
theorem d_L_letterBit_14 : decode cL_letterBit 14 = .ok (.lconst 0, 1) := by decide +kernel
theorem s_L_letterBit_14 (h : AP M_L_letterBit b 15 [x0, x1, x2, x3] (.long 0 :: st) hi g Φ) : AP M_L_letterBit b 14 [x0, x1, x2, x3] (st) hi g Φ := AP.lconst (x := 0) d_L_letterBit_14 (by decide) h
theorem d_L_letterBit_15 : decode cL_letterBit 15 = .ok (.lastore, 1) := by decide +kernel
theorem s_L_letterBit_15 {k n j : Nat} {i : Int32} {x : Int64} (hI : am_Inv g) (hs : am_SH k = (4, n)) (hk : k < 134) (hn : n < 2 ^ 31) (hx : i = nI j) (hj : j < n) (h : AP M_L_letterBit b 16 [x0, x1, x2, x3] (st) hi (am_upl g k j x) Φ) : AP M_L_letterBit b 15 [x0, x1, x2, x3] (.long x :: .int i :: .ref k :: st) hi g Φ := AP.last d_L_letterBit_15 hs (hI.lt hk) hn hx hj h
theorem d_L_letterBit_16 : decode cL_letterBit 16 = .ok (.goto 6, 3) := by decide +kernel
theorem s_L_letterBit_16 (h : AP M_L_letterBit b 22 [x0, x1, x2, x3] st hi g Φ) : AP M_L_letterBit b 16 [x0, x1, x2, x3] st hi g Φ := AP.goto d_L_letterBit_16 (by decide) h
theorem d_L_letterBit_19 : decode cL_letterBit 19 = .ok (.astore_n 3, 1) := by decide +kernel
theorem s_L_letterBit_19 {n : Nat} (hc : x2.category = 1) (h : AP M_L_letterBit b 20 [x0, x1, x2, .ref n] (st) hi g Φ) : AP M_L_letterBit b 19 [x0, x1, x2, x3] (.ref n :: st) hi g Φ := AP.astore_n (x := n) (i := 3) d_L_letterBit_19 rfl (by decide) (by simp [am_st, am_ci, am_cr, am_cl, am_cd, hc]) h
theorem d_L_letterBit_20 : decode cL_letterBit 20 = .ok (.iconst 1, 1) := by decide +kernel
theorem s_L_letterBit_20 (h : AP M_L_letterBit b 21 [x0, x1, x2, x3] (.int 1 :: st) hi g Φ) : AP M_L_letterBit b 20 [x0, x1, x2, x3] (st) hi g Φ := AP.iconst (x := 1) d_L_letterBit_20 (by decide) h
theorem d_L_letterBit_21 : decode cL_letterBit 21 = .ok (.ireturn, 1) := by decide +kernel
theorem s_L_letterBit_21 {x : Int32} (h : Φ (.ok (some (.int x))) hi g) : AP M_L_letterBit b 21 [x0, x1, x2, x3] [.int x] hi g Φ := AP.iret d_L_letterBit_21 rfl h
theorem d_L_letterBit_22 : decode cL_letterBit 22 = .ok (.iconst 0, 1) := by decide +kernel
theorem s_L_letterBit_22 (h : AP M_L_letterBit b 23 [x0, x1, x2, x3] (.int 0 :: st) hi g Φ) : AP M_L_letterBit b 22 [x0, x1, x2, x3] (st) hi g Φ := AP.iconst (x := 0) d_L_letterBit_22 (by decide) h
theorem d_L_letterBit_23 : decode cL_letterBit 23 = .ok (.ireturn, 1) := by decide +kernel
theorem s_L_letterBit_23 {x : Int32} (h : Φ (.ok (some (.int x))) hi g) : AP M_L_letterBit b 23 [x0, x1, x2, x3] [.int x] hi g Φ := AP.iret d_L_letterBit_23 rfl h
end
section
variable {b : Nat × Nat} {st : List Value} {hi : am_HI} {g : am_G} {Φ : am_P} {x0 x1 x2 x3 : Value}
theorem d_L_letterKind_0 : decode cL_letterKind 0 = .ok (.aload_n 2, 1) := by decide +kernel
theorem s_L_letterKind_0 {n : Nat} (h : AP M_L_letterKind b 1 [x0, x1, .ref n, x3] (.ref n :: st) hi g Φ) : AP M_L_letterKind b 0 [x0, x1, .ref n, x3] (st) hi g Φ := AP.aload_n (x := n) (i := 2) d_L_letterKind_0 rfl rfl h
theorem d_L_letterKind_1 : decode cL_letterKind 1 = .ok (.iconst 0, 1) := by decide +kernel
theorem s_L_letterKind_1 (h : AP M_L_letterKind b 2 [x0, x1, x2, x3] (.int 0 :: st) hi g Φ) : AP M_L_letterKind b 1 [x0, x1, x2, x3] (st) hi g Φ := AP.iconst (x := 0) d_L_letterKind_1 (by decide) h
theorem d_L_letterKind_2 : decode cL_letterKind 2 = .ok (.aload_n 0, 1) := by decide +kernel
theorem s_L_letterKind_2 {n : Nat} (h : AP M_L_letterKind b 3 [.ref n, x1, x2, x3] (.ref n :: st) hi g Φ) : AP M_L_letterKind b 2 [.ref n, x1, x2, x3] (st) hi g Φ := AP.aload_n (x := n) (i := 0) d_L_letterKind_2 rfl rfl h
theorem d_L_letterKind_3 : decode cL_letterKind 3 = .ok (.iload_n 1, 1) := by decide +kernel
theorem s_L_letterKind_3 {n : Int32} (h : AP M_L_letterKind b 4 [x0, .int n, x2, x3] (.int n :: st) hi g Φ) : AP M_L_letterKind b 3 [x0, .int n, x2, x3] (st) hi g Φ := AP.iload_n (x := n) (i := 1) d_L_letterKind_3 rfl rfl h
theorem d_L_letterKind_4 : decode cL_letterKind 4 = .ok (.invokevirtual 95, 3) := by decide +kernel
theorem s_L_letterKind_4 {a0 : Int32} {k : Nat} {r0 : Int32} {P : am_HI → Prop} (hI : am_Inv g) (hs : am_SH k = (0, 9)) (hk : k < 134) (hst : (st.map Value.category).sum ≤ 8) (hc : am_Cr M_X9_letterKind [.ref k, .int a0] hi g (some (.int r0)) P) (h : ∀ hi' : am_HI, P hi' → AP M_L_letterKind b 7 [x0, x1, x2, x3] (.int r0 :: st) hi' g Φ) : AP M_L_letterKind b 4 [x0, x1, x2, x3] (.int a0 :: .ref k :: st) hi g Φ := AP.callVr (As := [.int a0]) (q := (RX9, TX9, 7)) hI hc k_L_letterKind_95 d_L_letterKind_4 rfl hs hk rfl rfl hst h
theorem d_L_letterKind_7 : decode cL_letterKind 7 = .ok (.i2l, 1) := by decide +kernel
theorem s_L_letterKind_7 {x : Int32} (h : AP M_L_letterKind b 8 [x0, x1, x2, x3] (.long x.toInt64 :: st) hi g Φ) : AP M_L_letterKind b 7 [x0, x1, x2, x3] (.int x :: st) hi g Φ := AP.i2l d_L_letterKind_7 h
theorem d_L_letterKind_8 : decode cL_letterKind 8 = .ok (.lastore, 1) := by decide +kernel
theorem s_L_letterKind_8 {k n j : Nat} {i : Int32} {x : Int64} (hI : am_Inv g) (hs : am_SH k = (4, n)) (hk : k < 134) (hn : n < 2 ^ 31) (hx : i = nI j) (hj : j < n) (h : AP M_L_letterKind b 9 [x0, x1, x2, x3] (st) hi (am_upl g k j x) Φ) : AP M_L_letterKind b 8 [x0, x1, x2, x3] (.long x :: .int i :: .ref k :: st) hi g Φ := AP.last d_L_letterKind_8 hs (hI.lt hk) hn hx hj h
theorem d_L_letterKind_9 : decode cL_letterKind 9 = .ok (.goto 6, 3) := by decide +kernel
theorem s_L_letterKind_9 (h : AP M_L_letterKind b 15 [x0, x1, x2, x3] st hi g Φ) : AP M_L_letterKind b 9 [x0, x1, x2, x3] st hi g Φ := AP.goto d_L_letterKind_9 (by decide) h
theorem d_L_letterKind_12 : decode cL_letterKind 12 = .ok (.astore_n 3, 1) := by decide +kernel
theorem s_L_letterKind_12 {n : Nat} (hc : x2.category = 1) (h : AP M_L_letterKind b 13 [x0, x1, x2, .ref n] (st) hi g Φ) : AP M_L_letterKind b 12 [x0, x1, x2, x3] (.ref n :: st) hi g Φ := AP.astore_n (x := n) (i := 3) d_L_letterKind_12 rfl (by decide) (by simp [am_st, am_ci, am_cr, am_cl, am_cd, hc]) h
theorem d_L_letterKind_13 : decode cL_letterKind 13 = .ok (.iconst 1, 1) := by decide +kernel
theorem s_L_letterKind_13 (h : AP M_L_letterKind b 14 [x0, x1, x2, x3] (.int 1 :: st) hi g Φ) : AP M_L_letterKind b 13 [x0, x1, x2, x3] (st) hi g Φ := AP.iconst (x := 1) d_L_letterKind_13 (by decide) h
theorem d_L_letterKind_14 : decode cL_letterKind 14 = .ok (.ireturn, 1) := by decide +kernel
theorem s_L_letterKind_14 {x : Int32} (h : Φ (.ok (some (.int x))) hi g) : AP M_L_letterKind b 14 [x0, x1, x2, x3] [.int x] hi g Φ := AP.iret d_L_letterKind_14 rfl h
theorem d_L_letterKind_15 : decode cL_letterKind 15 = .ok (.iconst 0, 1) := by decide +kernel
theorem s_L_letterKind_15 (h : AP M_L_letterKind b 16 [x0, x1, x2, x3] (.int 0 :: st) hi g Φ) : AP M_L_letterKind b 15 [x0, x1, x2, x3] (st) hi g Φ := AP.iconst (x := 0) d_L_letterKind_15 (by decide) h
theorem d_L_letterKind_16 : decode cL_letterKind 16 = .ok (.ireturn, 1) := by decide +kernel
theorem s_L_letterKind_16 {x : Int32} (h : Φ (.ok (some (.int x))) hi g) : AP M_L_letterKind b 16 [x0, x1, x2, x3] [.int x] hi g Φ := AP.iret d_L_letterKind_16 rfl h
end
section
variable {b : Nat × Nat} {st : List Value} {hi : am_HI} {g : am_G} {Φ : am_P} {x0 x1 x2 x3 : Value}
theorem d_L_letterLeft_0 : decode cL_letterLeft 0 = .ok (.aload_n 2, 1) := by decide +kernel
theorem s_L_letterLeft_0 {n : Nat} (h : AP M_L_letterLeft b 1 [x0, x1, .ref n, x3] (.ref n :: st) hi g Φ) : AP M_L_letterLeft b 0 [x0, x1, .ref n, x3] (st) hi g Φ := AP.aload_n (x := n) (i := 2) d_L_letterLeft_0 rfl rfl h
theorem d_L_letterLeft_1 : decode cL_letterLeft 1 = .ok (.iconst 0, 1) := by decide +kernel
theorem s_L_letterLeft_1 (h : AP M_L_letterLeft b 2 [x0, x1, x2, x3] (.int 0 :: st) hi g Φ) : AP M_L_letterLeft b 1 [x0, x1, x2, x3] (st) hi g Φ := AP.iconst (x := 0) d_L_letterLeft_1 (by decide) h
theorem d_L_letterLeft_2 : decode cL_letterLeft 2 = .ok (.aload_n 0, 1) := by decide +kernel
theorem s_L_letterLeft_2 {n : Nat} (h : AP M_L_letterLeft b 3 [.ref n, x1, x2, x3] (.ref n :: st) hi g Φ) : AP M_L_letterLeft b 2 [.ref n, x1, x2, x3] (st) hi g Φ := AP.aload_n (x := n) (i := 0) d_L_letterLeft_2 rfl rfl h
theorem d_L_letterLeft_3 : decode cL_letterLeft 3 = .ok (.iload_n 1, 1) := by decide +kernel
theorem s_L_letterLeft_3 {n : Int32} (h : AP M_L_letterLeft b 4 [x0, .int n, x2, x3] (.int n :: st) hi g Φ) : AP M_L_letterLeft b 3 [x0, .int n, x2, x3] (st) hi g Φ := AP.iload_n (x := n) (i := 1) d_L_letterLeft_3 rfl rfl h
theorem d_L_letterLeft_4 : decode cL_letterLeft 4 = .ok (.invokevirtual 101, 3) := by decide +kernel
theorem s_L_letterLeft_4 {a0 : Int32} {k : Nat} {r0 : Int32} {P : am_HI → Prop} (hI : am_Inv g) (hs : am_SH k = (0, 9)) (hk : k < 134) (hst : (st.map Value.category).sum ≤ 8) (hc : am_Cr M_X9_letterLeft [.ref k, .int a0] hi g (some (.int r0)) P) (h : ∀ hi' : am_HI, P hi' → AP M_L_letterLeft b 7 [x0, x1, x2, x3] (.int r0 :: st) hi' g Φ) : AP M_L_letterLeft b 4 [x0, x1, x2, x3] (.int a0 :: .ref k :: st) hi g Φ := AP.callVr (As := [.int a0]) (q := (RX9, TX9, 7)) hI hc k_L_letterLeft_101 d_L_letterLeft_4 rfl hs hk rfl rfl hst h
theorem d_L_letterLeft_7 : decode cL_letterLeft 7 = .ok (.i2l, 1) := by decide +kernel
theorem s_L_letterLeft_7 {x : Int32} (h : AP M_L_letterLeft b 8 [x0, x1, x2, x3] (.long x.toInt64 :: st) hi g Φ) : AP M_L_letterLeft b 7 [x0, x1, x2, x3] (.int x :: st) hi g Φ := AP.i2l d_L_letterLeft_7 h
theorem d_L_letterLeft_8 : decode cL_letterLeft 8 = .ok (.lastore, 1) := by decide +kernel
theorem s_L_letterLeft_8 {k n j : Nat} {i : Int32} {x : Int64} (hI : am_Inv g) (hs : am_SH k = (4, n)) (hk : k < 134) (hn : n < 2 ^ 31) (hx : i = nI j) (hj : j < n) (h : AP M_L_letterLeft b 9 [x0, x1, x2, x3] (st) hi (am_upl g k j x) Φ) : AP M_L_letterLeft b 8 [x0, x1, x2, x3] (.long x :: .int i :: .ref k :: st) hi g Φ := AP.last d_L_letterLeft_8 hs (hI.lt hk) hn hx hj h
theorem d_L_letterLeft_9 : decode cL_letterLeft 9 = .ok (.goto 6, 3) := by decide +kernel
theorem s_L_letterLeft_9 (h : AP M_L_letterLeft b 15 [x0, x1, x2, x3] st hi g Φ) : AP M_L_letterLeft b 9 [x0, x1, x2, x3] st hi g Φ := AP.goto d_L_letterLeft_9 (by decide) h
theorem d_L_letterLeft_12 : decode cL_letterLeft 12 = .ok (.astore_n 3, 1) := by decide +kernel
theorem s_L_letterLeft_12 {n : Nat} (hc : x2.category = 1) (h : AP M_L_letterLeft b 13 [x0, x1, x2, .ref n] (st) hi g Φ) : AP M_L_letterLeft b 12 [x0, x1, x2, x3] (.ref n :: st) hi g Φ := AP.astore_n (x := n) (i := 3) d_L_letterLeft_12 rfl (by decide) (by simp [am_st, am_ci, am_cr, am_cl, am_cd, hc]) h
theorem d_L_letterLeft_13 : decode cL_letterLeft 13 = .ok (.iconst 1, 1) := by decide +kernel
theorem s_L_letterLeft_13 (h : AP M_L_letterLeft b 14 [x0, x1, x2, x3] (.int 1 :: st) hi g Φ) : AP M_L_letterLeft b 13 [x0, x1, x2, x3] (st) hi g Φ := AP.iconst (x := 1) d_L_letterLeft_13 (by decide) h
theorem d_L_letterLeft_14 : decode cL_letterLeft 14 = .ok (.ireturn, 1) := by decide +kernel
theorem s_L_letterLeft_14 {x : Int32} (h : Φ (.ok (some (.int x))) hi g) : AP M_L_letterLeft b 14 [x0, x1, x2, x3] [.int x] hi g Φ := AP.iret d_L_letterLeft_14 rfl h
theorem d_L_letterLeft_15 : decode cL_letterLeft 15 = .ok (.iconst 0, 1) := by decide +kernel
theorem s_L_letterLeft_15 (h : AP M_L_letterLeft b 16 [x0, x1, x2, x3] (.int 0 :: st) hi g Φ) : AP M_L_letterLeft b 15 [x0, x1, x2, x3] (st) hi g Φ := AP.iconst (x := 0) d_L_letterLeft_15 (by decide) h
theorem d_L_letterLeft_16 : decode cL_letterLeft 16 = .ok (.ireturn, 1) := by decide +kernel
theorem s_L_letterLeft_16 {x : Int32} (h : Φ (.ok (some (.int x))) hi g) : AP M_L_letterLeft b 16 [x0, x1, x2, x3] [.int x] hi g Φ := AP.iret d_L_letterLeft_16 rfl h
end
section
variable {b : Nat × Nat} {st : List Value} {hi : am_HI} {g : am_G} {Φ : am_P} {x0 x1 x2 x3 : Value}
theorem d_L_letterParameter_0 : decode cL_letterParameter 0 = .ok (.aload_n 2, 1) := by decide +kernel
theorem s_L_letterParameter_0 {n : Nat} (h : AP M_L_letterParameter b 1 [x0, x1, .ref n, x3] (.ref n :: st) hi g Φ) : AP M_L_letterParameter b 0 [x0, x1, .ref n, x3] (st) hi g Φ := AP.aload_n (x := n) (i := 2) d_L_letterParameter_0 rfl rfl h
theorem d_L_letterParameter_1 : decode cL_letterParameter 1 = .ok (.iconst 0, 1) := by decide +kernel
theorem s_L_letterParameter_1 (h : AP M_L_letterParameter b 2 [x0, x1, x2, x3] (.int 0 :: st) hi g Φ) : AP M_L_letterParameter b 1 [x0, x1, x2, x3] (st) hi g Φ := AP.iconst (x := 0) d_L_letterParameter_1 (by decide) h
theorem d_L_letterParameter_2 : decode cL_letterParameter 2 = .ok (.aload_n 0, 1) := by decide +kernel
theorem s_L_letterParameter_2 {n : Nat} (h : AP M_L_letterParameter b 3 [.ref n, x1, x2, x3] (.ref n :: st) hi g Φ) : AP M_L_letterParameter b 2 [.ref n, x1, x2, x3] (st) hi g Φ := AP.aload_n (x := n) (i := 0) d_L_letterParameter_2 rfl rfl h
theorem d_L_letterParameter_3 : decode cL_letterParameter 3 = .ok (.iload_n 1, 1) := by decide +kernel
theorem s_L_letterParameter_3 {n : Int32} (h : AP M_L_letterParameter b 4 [x0, .int n, x2, x3] (.int n :: st) hi g Φ) : AP M_L_letterParameter b 3 [x0, .int n, x2, x3] (st) hi g Φ := AP.iload_n (x := n) (i := 1) d_L_letterParameter_3 rfl rfl h
theorem d_L_letterParameter_4 : decode cL_letterParameter 4 = .ok (.invokevirtual 98, 3) := by decide +kernel
theorem s_L_letterParameter_4 {a0 : Int32} {k : Nat} {r0 : Int32} {P : am_HI → Prop} (hI : am_Inv g) (hs : am_SH k = (0, 9)) (hk : k < 134) (hst : (st.map Value.category).sum ≤ 8) (hc : am_Cr M_X9_letterParameter [.ref k, .int a0] hi g (some (.int r0)) P) (h : ∀ hi' : am_HI, P hi' → AP M_L_letterParameter b 7 [x0, x1, x2, x3] (.int r0 :: st) hi' g Φ) : AP M_L_letterParameter b 4 [x0, x1, x2, x3] (.int a0 :: .ref k :: st) hi g Φ := AP.callVr (As := [.int a0]) (q := (RX9, TX9, 7)) hI hc k_L_letterParameter_98 d_L_letterParameter_4 rfl hs hk rfl rfl hst h
theorem d_L_letterParameter_7 : decode cL_letterParameter 7 = .ok (.i2l, 1) := by decide +kernel
theorem s_L_letterParameter_7 {x : Int32} (h : AP M_L_letterParameter b 8 [x0, x1, x2, x3] (.long x.toInt64 :: st) hi g Φ) : AP M_L_letterParameter b 7 [x0, x1, x2, x3] (.int x :: st) hi g Φ := AP.i2l d_L_letterParameter_7 h
theorem d_L_letterParameter_8 : decode cL_letterParameter 8 = .ok (.lastore, 1) := by decide +kernel
theorem s_L_letterParameter_8 {k n j : Nat} {i : Int32} {x : Int64} (hI : am_Inv g) (hs : am_SH k = (4, n)) (hk : k < 134) (hn : n < 2 ^ 31) (hx : i = nI j) (hj : j < n) (h : AP M_L_letterParameter b 9 [x0, x1, x2, x3] (st) hi (am_upl g k j x) Φ) : AP M_L_letterParameter b 8 [x0, x1, x2, x3] (.long x :: .int i :: .ref k :: st) hi g Φ := AP.last d_L_letterParameter_8 hs (hI.lt hk) hn hx hj h
theorem d_L_letterParameter_9 : decode cL_letterParameter 9 = .ok (.goto 6, 3) := by decide +kernel
theorem s_L_letterParameter_9 (h : AP M_L_letterParameter b 15 [x0, x1, x2, x3] st hi g Φ) : AP M_L_letterParameter b 9 [x0, x1, x2, x3] st hi g Φ := AP.goto d_L_letterParameter_9 (by decide) h
theorem d_L_letterParameter_12 : decode cL_letterParameter 12 = .ok (.astore_n 3, 1) := by decide +kernel
theorem s_L_letterParameter_12 {n : Nat} (hc : x2.category = 1) (h : AP M_L_letterParameter b 13 [x0, x1, x2, .ref n] (st) hi g Φ) : AP M_L_letterParameter b 12 [x0, x1, x2, x3] (.ref n :: st) hi g Φ := AP.astore_n (x := n) (i := 3) d_L_letterParameter_12 rfl (by decide) (by simp [am_st, am_ci, am_cr, am_cl, am_cd, hc]) h
theorem d_L_letterParameter_13 : decode cL_letterParameter 13 = .ok (.iconst 1, 1) := by decide +kernel
theorem s_L_letterParameter_13 (h : AP M_L_letterParameter b 14 [x0, x1, x2, x3] (.int 1 :: st) hi g Φ) : AP M_L_letterParameter b 13 [x0, x1, x2, x3] (st) hi g Φ := AP.iconst (x := 1) d_L_letterParameter_13 (by decide) h
theorem d_L_letterParameter_14 : decode cL_letterParameter 14 = .ok (.ireturn, 1) := by decide +kernel
theorem s_L_letterParameter_14 {x : Int32} (h : Φ (.ok (some (.int x))) hi g) : AP M_L_letterParameter b 14 [x0, x1, x2, x3] [.int x] hi g Φ := AP.iret d_L_letterParameter_14 rfl h
theorem d_L_letterParameter_15 : decode cL_letterParameter 15 = .ok (.iconst 0, 1) := by decide +kernel
theorem s_L_letterParameter_15 (h : AP M_L_letterParameter b 16 [x0, x1, x2, x3] (.int 0 :: st) hi g Φ) : AP M_L_letterParameter b 15 [x0, x1, x2, x3] (st) hi g Φ := AP.iconst (x := 0) d_L_letterParameter_15 (by decide) h
theorem d_L_letterParameter_16 : decode cL_letterParameter 16 = .ok (.ireturn, 1) := by decide +kernel
theorem s_L_letterParameter_16 {x : Int32} (h : Φ (.ok (some (.int x))) hi g) : AP M_L_letterParameter b 16 [x0, x1, x2, x3] [.int x] hi g Φ := AP.iret d_L_letterParameter_16 rfl h
end
section
variable {b : Nat × Nat} {st : List Value} {hi : am_HI} {g : am_G} {Φ : am_P} {x0 x1 x2 x3 : Value}
theorem d_L_sampleAt_0 : decode cL_sampleAt 0 = .ok (.aload_n 2, 1) := by decide +kernel
theorem s_L_sampleAt_0 {n : Nat} (h : AP M_L_sampleAt b 1 [x0, x1, .ref n, x3] (.ref n :: st) hi g Φ) : AP M_L_sampleAt b 0 [x0, x1, .ref n, x3] (st) hi g Φ := AP.aload_n (x := n) (i := 2) d_L_sampleAt_0 rfl rfl h
theorem d_L_sampleAt_1 : decode cL_sampleAt 1 = .ok (.iconst 0, 1) := by decide +kernel
theorem s_L_sampleAt_1 (h : AP M_L_sampleAt b 2 [x0, x1, x2, x3] (.int 0 :: st) hi g Φ) : AP M_L_sampleAt b 1 [x0, x1, x2, x3] (st) hi g Φ := AP.iconst (x := 0) d_L_sampleAt_1 (by decide) h
theorem d_L_sampleAt_2 : decode cL_sampleAt 2 = .ok (.aload_n 0, 1) := by decide +kernel
theorem s_L_sampleAt_2 {n : Nat} (h : AP M_L_sampleAt b 3 [.ref n, x1, x2, x3] (.ref n :: st) hi g Φ) : AP M_L_sampleAt b 2 [.ref n, x1, x2, x3] (st) hi g Φ := AP.aload_n (x := n) (i := 0) d_L_sampleAt_2 rfl rfl h
theorem d_L_sampleAt_3 : decode cL_sampleAt 3 = .ok (.iload_n 1, 1) := by decide +kernel
theorem s_L_sampleAt_3 {n : Int32} (h : AP M_L_sampleAt b 4 [x0, .int n, x2, x3] (.int n :: st) hi g Φ) : AP M_L_sampleAt b 3 [x0, .int n, x2, x3] (st) hi g Φ := AP.iload_n (x := n) (i := 1) d_L_sampleAt_3 rfl rfl h
theorem d_L_sampleAt_4 : decode cL_sampleAt 4 = .ok (.invokevirtual 50, 3) := by decide +kernel
theorem s_L_sampleAt_4 {a0 : Int32} {k : Nat} {r0 : Int32} {P : am_HI → Prop} (hI : am_Inv g) (hs : am_SH k = (0, 9)) (hk : k < 134) (hst : (st.map Value.category).sum ≤ 8) (hc : am_Cr M_X9_sampleAt [.ref k, .int a0] hi g (some (.int r0)) P) (h : ∀ hi' : am_HI, P hi' → AP M_L_sampleAt b 7 [x0, x1, x2, x3] (.int r0 :: st) hi' g Φ) : AP M_L_sampleAt b 4 [x0, x1, x2, x3] (.int a0 :: .ref k :: st) hi g Φ := AP.callVr (As := [.int a0]) (q := (RX9, TX9, 7)) hI hc k_L_sampleAt_50 d_L_sampleAt_4 rfl hs hk rfl rfl hst h
theorem d_L_sampleAt_7 : decode cL_sampleAt 7 = .ok (.i2l, 1) := by decide +kernel
theorem s_L_sampleAt_7 {x : Int32} (h : AP M_L_sampleAt b 8 [x0, x1, x2, x3] (.long x.toInt64 :: st) hi g Φ) : AP M_L_sampleAt b 7 [x0, x1, x2, x3] (.int x :: st) hi g Φ := AP.i2l d_L_sampleAt_7 h
theorem d_L_sampleAt_8 : decode cL_sampleAt 8 = .ok (.lastore, 1) := by decide +kernel
theorem s_L_sampleAt_8 {k n j : Nat} {i : Int32} {x : Int64} (hI : am_Inv g) (hs : am_SH k = (4, n)) (hk : k < 134) (hn : n < 2 ^ 31) (hx : i = nI j) (hj : j < n) (h : AP M_L_sampleAt b 9 [x0, x1, x2, x3] (st) hi (am_upl g k j x) Φ) : AP M_L_sampleAt b 8 [x0, x1, x2, x3] (.long x :: .int i :: .ref k :: st) hi g Φ := AP.last d_L_sampleAt_8 hs (hI.lt hk) hn hx hj h
theorem d_L_sampleAt_9 : decode cL_sampleAt 9 = .ok (.goto 6, 3) := by decide +kernel
theorem s_L_sampleAt_9 (h : AP M_L_sampleAt b 15 [x0, x1, x2, x3] st hi g Φ) : AP M_L_sampleAt b 9 [x0, x1, x2, x3] st hi g Φ := AP.goto d_L_sampleAt_9 (by decide) h
theorem d_L_sampleAt_12 : decode cL_sampleAt 12 = .ok (.astore_n 3, 1) := by decide +kernel
theorem s_L_sampleAt_12 {n : Nat} (hc : x2.category = 1) (h : AP M_L_sampleAt b 13 [x0, x1, x2, .ref n] (st) hi g Φ) : AP M_L_sampleAt b 12 [x0, x1, x2, x3] (.ref n :: st) hi g Φ := AP.astore_n (x := n) (i := 3) d_L_sampleAt_12 rfl (by decide) (by simp [am_st, am_ci, am_cr, am_cl, am_cd, hc]) h
theorem d_L_sampleAt_13 : decode cL_sampleAt 13 = .ok (.iconst 1, 1) := by decide +kernel
theorem s_L_sampleAt_13 (h : AP M_L_sampleAt b 14 [x0, x1, x2, x3] (.int 1 :: st) hi g Φ) : AP M_L_sampleAt b 13 [x0, x1, x2, x3] (st) hi g Φ := AP.iconst (x := 1) d_L_sampleAt_13 (by decide) h
theorem d_L_sampleAt_14 : decode cL_sampleAt 14 = .ok (.ireturn, 1) := by decide +kernel
theorem s_L_sampleAt_14 {x : Int32} (h : Φ (.ok (some (.int x))) hi g) : AP M_L_sampleAt b 14 [x0, x1, x2, x3] [.int x] hi g Φ := AP.iret d_L_sampleAt_14 rfl h
theorem d_L_sampleAt_15 : decode cL_sampleAt 15 = .ok (.iconst 0, 1) := by decide +kernel
theorem s_L_sampleAt_15 (h : AP M_L_sampleAt b 16 [x0, x1, x2, x3] (.int 0 :: st) hi g Φ) : AP M_L_sampleAt b 15 [x0, x1, x2, x3] (st) hi g Φ := AP.iconst (x := 0) d_L_sampleAt_15 (by decide) h
theorem d_L_sampleAt_16 : decode cL_sampleAt 16 = .ok (.ireturn, 1) := by decide +kernel
theorem s_L_sampleAt_16 {x : Int32} (h : Φ (.ok (some (.int x))) hi g) : AP M_L_sampleAt b 16 [x0, x1, x2, x3] [.int x] hi g Φ := AP.iret d_L_sampleAt_16 rfl h
end
section
variable {b : Nat × Nat} {st : List Value} {hi : am_HI} {g : am_G} {Φ : am_P} {x0 x1 x2 : Value}
theorem d_L_send_0 : decode cL_send 0 = .ok (.aload_n 1, 1) := by decide +kernel
theorem s_L_send_0 {n : Nat} (h : AP M_L_send b 1 [x0, .ref n, x2] (.ref n :: st) hi g Φ) : AP M_L_send b 0 [x0, .ref n, x2] (st) hi g Φ := AP.aload_n (x := n) (i := 1) d_L_send_0 rfl rfl h
theorem d_L_send_1 : decode cL_send 1 = .ok (.iconst 0, 1) := by decide +kernel
theorem s_L_send_1 (h : AP M_L_send b 2 [x0, x1, x2] (.int 0 :: st) hi g Φ) : AP M_L_send b 1 [x0, x1, x2] (st) hi g Φ := AP.iconst (x := 0) d_L_send_1 (by decide) h
theorem d_L_send_2 : decode cL_send 2 = .ok (.aload_n 0, 1) := by decide +kernel
theorem s_L_send_2 {n : Nat} (h : AP M_L_send b 3 [.ref n, x1, x2] (.ref n :: st) hi g Φ) : AP M_L_send b 2 [.ref n, x1, x2] (st) hi g Φ := AP.aload_n (x := n) (i := 0) d_L_send_2 rfl rfl h
theorem d_L_send_3 : decode cL_send 3 = .ok (.invokevirtual 44, 3) := by decide +kernel
theorem s_L_send_3  {k : Nat} {r0 : Int32} {P : am_HI → Prop} (hI : am_Inv g) (hs : am_SH k = (0, 9)) (hk : k < 134) (hst : (st.map Value.category).sum ≤ 8) (hc : am_Cr M_X9_send [.ref k] hi g (some (.int r0)) P) (h : ∀ hi' : am_HI, P hi' → AP M_L_send b 6 [x0, x1, x2] (.int r0 :: st) hi' g Φ) : AP M_L_send b 3 [x0, x1, x2] (.ref k :: st) hi g Φ := AP.callVr (As := []) (q := (RX9, TX9, 7)) hI hc k_L_send_44 d_L_send_3 rfl hs hk rfl rfl hst h
theorem d_L_send_6 : decode cL_send 6 = .ok (.i2l, 1) := by decide +kernel
theorem s_L_send_6 {x : Int32} (h : AP M_L_send b 7 [x0, x1, x2] (.long x.toInt64 :: st) hi g Φ) : AP M_L_send b 6 [x0, x1, x2] (.int x :: st) hi g Φ := AP.i2l d_L_send_6 h
theorem d_L_send_7 : decode cL_send 7 = .ok (.lastore, 1) := by decide +kernel
theorem s_L_send_7 {k n j : Nat} {i : Int32} {x : Int64} (hI : am_Inv g) (hs : am_SH k = (4, n)) (hk : k < 134) (hn : n < 2 ^ 31) (hx : i = nI j) (hj : j < n) (h : AP M_L_send b 8 [x0, x1, x2] (st) hi (am_upl g k j x) Φ) : AP M_L_send b 7 [x0, x1, x2] (.long x :: .int i :: .ref k :: st) hi g Φ := AP.last d_L_send_7 hs (hI.lt hk) hn hx hj h
theorem d_L_send_8 : decode cL_send 8 = .ok (.goto 6, 3) := by decide +kernel
theorem s_L_send_8 (h : AP M_L_send b 14 [x0, x1, x2] st hi g Φ) : AP M_L_send b 8 [x0, x1, x2] st hi g Φ := AP.goto d_L_send_8 (by decide) h
theorem d_L_send_11 : decode cL_send 11 = .ok (.astore_n 2, 1) := by decide +kernel
theorem s_L_send_11 {n : Nat} (hc : x1.category = 1) (h : AP M_L_send b 12 [x0, x1, .ref n] (st) hi g Φ) : AP M_L_send b 11 [x0, x1, x2] (.ref n :: st) hi g Φ := AP.astore_n (x := n) (i := 2) d_L_send_11 rfl (by decide) (by simp [am_st, am_ci, am_cr, am_cl, am_cd, hc]) h
theorem d_L_send_12 : decode cL_send 12 = .ok (.iconst 1, 1) := by decide +kernel
theorem s_L_send_12 (h : AP M_L_send b 13 [x0, x1, x2] (.int 1 :: st) hi g Φ) : AP M_L_send b 12 [x0, x1, x2] (st) hi g Φ := AP.iconst (x := 1) d_L_send_12 (by decide) h
theorem d_L_send_13 : decode cL_send 13 = .ok (.ireturn, 1) := by decide +kernel
theorem s_L_send_13 {x : Int32} (h : Φ (.ok (some (.int x))) hi g) : AP M_L_send b 13 [x0, x1, x2] [.int x] hi g Φ := AP.iret d_L_send_13 rfl h
theorem d_L_send_14 : decode cL_send 14 = .ok (.iconst 0, 1) := by decide +kernel
theorem s_L_send_14 (h : AP M_L_send b 15 [x0, x1, x2] (.int 0 :: st) hi g Φ) : AP M_L_send b 14 [x0, x1, x2] (st) hi g Φ := AP.iconst (x := 0) d_L_send_14 (by decide) h
theorem d_L_send_15 : decode cL_send 15 = .ok (.ireturn, 1) := by decide +kernel
theorem s_L_send_15 {x : Int32} (h : Φ (.ok (some (.int x))) hi g) : AP M_L_send b 15 [x0, x1, x2] [.int x] hi g Φ := AP.iret d_L_send_15 rfl h
end
section
variable {b : Nat × Nat} {st : List Value} {hi : am_HI} {g : am_G} {Φ : am_P} {x0 x1 x2 x3 : Value}
theorem d_L_setDelay_0 : decode cL_setDelay 0 = .ok (.aload_n 2, 1) := by decide +kernel
theorem s_L_setDelay_0 {n : Nat} (h : AP M_L_setDelay b 1 [x0, x1, .ref n, x3] (.ref n :: st) hi g Φ) : AP M_L_setDelay b 0 [x0, x1, .ref n, x3] (st) hi g Φ := AP.aload_n (x := n) (i := 2) d_L_setDelay_0 rfl rfl h
theorem d_L_setDelay_1 : decode cL_setDelay 1 = .ok (.iconst 0, 1) := by decide +kernel
theorem s_L_setDelay_1 (h : AP M_L_setDelay b 2 [x0, x1, x2, x3] (.int 0 :: st) hi g Φ) : AP M_L_setDelay b 1 [x0, x1, x2, x3] (st) hi g Φ := AP.iconst (x := 0) d_L_setDelay_1 (by decide) h
theorem d_L_setDelay_2 : decode cL_setDelay 2 = .ok (.aload_n 0, 1) := by decide +kernel
theorem s_L_setDelay_2 {n : Nat} (h : AP M_L_setDelay b 3 [.ref n, x1, x2, x3] (.ref n :: st) hi g Φ) : AP M_L_setDelay b 2 [.ref n, x1, x2, x3] (st) hi g Φ := AP.aload_n (x := n) (i := 0) d_L_setDelay_2 rfl rfl h
theorem d_L_setDelay_3 : decode cL_setDelay 3 = .ok (.iload_n 1, 1) := by decide +kernel
theorem s_L_setDelay_3 {n : Int32} (h : AP M_L_setDelay b 4 [x0, .int n, x2, x3] (.int n :: st) hi g Φ) : AP M_L_setDelay b 3 [x0, .int n, x2, x3] (st) hi g Φ := AP.iload_n (x := n) (i := 1) d_L_setDelay_3 rfl rfl h
theorem d_L_setDelay_4 : decode cL_setDelay 4 = .ok (.invokevirtual 31, 3) := by decide +kernel
theorem s_L_setDelay_4 {a0 : Int32} {k : Nat} {r0 : Int32} {P : am_HI → Prop} (hI : am_Inv g) (hs : am_SH k = (0, 9)) (hk : k < 134) (hst : (st.map Value.category).sum ≤ 8) (hc : am_Cr M_X9_setDelay [.ref k, .int a0] hi g (some (.int r0)) P) (h : ∀ hi' : am_HI, P hi' → AP M_L_setDelay b 7 [x0, x1, x2, x3] (.int r0 :: st) hi' g Φ) : AP M_L_setDelay b 4 [x0, x1, x2, x3] (.int a0 :: .ref k :: st) hi g Φ := AP.callVr (As := [.int a0]) (q := (RX9, TX9, 7)) hI hc k_L_setDelay_31 d_L_setDelay_4 rfl hs hk rfl rfl hst h
theorem d_L_setDelay_7 : decode cL_setDelay 7 = .ok (.i2l, 1) := by decide +kernel
theorem s_L_setDelay_7 {x : Int32} (h : AP M_L_setDelay b 8 [x0, x1, x2, x3] (.long x.toInt64 :: st) hi g Φ) : AP M_L_setDelay b 7 [x0, x1, x2, x3] (.int x :: st) hi g Φ := AP.i2l d_L_setDelay_7 h
theorem d_L_setDelay_8 : decode cL_setDelay 8 = .ok (.lastore, 1) := by decide +kernel
theorem s_L_setDelay_8 {k n j : Nat} {i : Int32} {x : Int64} (hI : am_Inv g) (hs : am_SH k = (4, n)) (hk : k < 134) (hn : n < 2 ^ 31) (hx : i = nI j) (hj : j < n) (h : AP M_L_setDelay b 9 [x0, x1, x2, x3] (st) hi (am_upl g k j x) Φ) : AP M_L_setDelay b 8 [x0, x1, x2, x3] (.long x :: .int i :: .ref k :: st) hi g Φ := AP.last d_L_setDelay_8 hs (hI.lt hk) hn hx hj h
theorem d_L_setDelay_9 : decode cL_setDelay 9 = .ok (.goto 6, 3) := by decide +kernel
theorem s_L_setDelay_9 (h : AP M_L_setDelay b 15 [x0, x1, x2, x3] st hi g Φ) : AP M_L_setDelay b 9 [x0, x1, x2, x3] st hi g Φ := AP.goto d_L_setDelay_9 (by decide) h
theorem d_L_setDelay_12 : decode cL_setDelay 12 = .ok (.astore_n 3, 1) := by decide +kernel
theorem s_L_setDelay_12 {n : Nat} (hc : x2.category = 1) (h : AP M_L_setDelay b 13 [x0, x1, x2, .ref n] (st) hi g Φ) : AP M_L_setDelay b 12 [x0, x1, x2, x3] (.ref n :: st) hi g Φ := AP.astore_n (x := n) (i := 3) d_L_setDelay_12 rfl (by decide) (by simp [am_st, am_ci, am_cr, am_cl, am_cd, hc]) h
theorem d_L_setDelay_13 : decode cL_setDelay 13 = .ok (.iconst 1, 1) := by decide +kernel
theorem s_L_setDelay_13 (h : AP M_L_setDelay b 14 [x0, x1, x2, x3] (.int 1 :: st) hi g Φ) : AP M_L_setDelay b 13 [x0, x1, x2, x3] (st) hi g Φ := AP.iconst (x := 1) d_L_setDelay_13 (by decide) h
theorem d_L_setDelay_14 : decode cL_setDelay 14 = .ok (.ireturn, 1) := by decide +kernel
theorem s_L_setDelay_14 {x : Int32} (h : Φ (.ok (some (.int x))) hi g) : AP M_L_setDelay b 14 [x0, x1, x2, x3] [.int x] hi g Φ := AP.iret d_L_setDelay_14 rfl h
theorem d_L_setDelay_15 : decode cL_setDelay 15 = .ok (.iconst 0, 1) := by decide +kernel
theorem s_L_setDelay_15 (h : AP M_L_setDelay b 16 [x0, x1, x2, x3] (.int 0 :: st) hi g Φ) : AP M_L_setDelay b 15 [x0, x1, x2, x3] (st) hi g Φ := AP.iconst (x := 0) d_L_setDelay_15 (by decide) h
theorem d_L_setDelay_16 : decode cL_setDelay 16 = .ok (.ireturn, 1) := by decide +kernel
theorem s_L_setDelay_16 {x : Int32} (h : Φ (.ok (some (.int x))) hi g) : AP M_L_setDelay b 16 [x0, x1, x2, x3] [.int x] hi g Φ := AP.iret d_L_setDelay_16 rfl h
end
section
variable {b : Nat × Nat} {st : List Value} {hi : am_HI} {g : am_G} {Φ : am_P} {x0 x1 x2 x3 : Value}
theorem d_L_setSpeed_0 : decode cL_setSpeed 0 = .ok (.aload_n 2, 1) := by decide +kernel
theorem s_L_setSpeed_0 {n : Nat} (h : AP M_L_setSpeed b 1 [x0, x1, .ref n, x3] (.ref n :: st) hi g Φ) : AP M_L_setSpeed b 0 [x0, x1, .ref n, x3] (st) hi g Φ := AP.aload_n (x := n) (i := 2) d_L_setSpeed_0 rfl rfl h
theorem d_L_setSpeed_1 : decode cL_setSpeed 1 = .ok (.iconst 0, 1) := by decide +kernel
theorem s_L_setSpeed_1 (h : AP M_L_setSpeed b 2 [x0, x1, x2, x3] (.int 0 :: st) hi g Φ) : AP M_L_setSpeed b 1 [x0, x1, x2, x3] (st) hi g Φ := AP.iconst (x := 0) d_L_setSpeed_1 (by decide) h
theorem d_L_setSpeed_2 : decode cL_setSpeed 2 = .ok (.aload_n 0, 1) := by decide +kernel
theorem s_L_setSpeed_2 {n : Nat} (h : AP M_L_setSpeed b 3 [.ref n, x1, x2, x3] (.ref n :: st) hi g Φ) : AP M_L_setSpeed b 2 [.ref n, x1, x2, x3] (st) hi g Φ := AP.aload_n (x := n) (i := 0) d_L_setSpeed_2 rfl rfl h
theorem d_L_setSpeed_3 : decode cL_setSpeed 3 = .ok (.iload_n 1, 1) := by decide +kernel
theorem s_L_setSpeed_3 {n : Int32} (h : AP M_L_setSpeed b 4 [x0, .int n, x2, x3] (.int n :: st) hi g Φ) : AP M_L_setSpeed b 3 [x0, .int n, x2, x3] (st) hi g Φ := AP.iload_n (x := n) (i := 1) d_L_setSpeed_3 rfl rfl h
theorem d_L_setSpeed_4 : decode cL_setSpeed 4 = .ok (.invokevirtual 34, 3) := by decide +kernel
theorem s_L_setSpeed_4 {a0 : Int32} {k : Nat} {r0 : Int32} {P : am_HI → Prop} (hI : am_Inv g) (hs : am_SH k = (0, 9)) (hk : k < 134) (hst : (st.map Value.category).sum ≤ 8) (hc : am_Cr M_X9_setSpeed [.ref k, .int a0] hi g (some (.int r0)) P) (h : ∀ hi' : am_HI, P hi' → AP M_L_setSpeed b 7 [x0, x1, x2, x3] (.int r0 :: st) hi' g Φ) : AP M_L_setSpeed b 4 [x0, x1, x2, x3] (.int a0 :: .ref k :: st) hi g Φ := AP.callVr (As := [.int a0]) (q := (RX9, TX9, 7)) hI hc k_L_setSpeed_34 d_L_setSpeed_4 rfl hs hk rfl rfl hst h
theorem d_L_setSpeed_7 : decode cL_setSpeed 7 = .ok (.i2l, 1) := by decide +kernel
theorem s_L_setSpeed_7 {x : Int32} (h : AP M_L_setSpeed b 8 [x0, x1, x2, x3] (.long x.toInt64 :: st) hi g Φ) : AP M_L_setSpeed b 7 [x0, x1, x2, x3] (.int x :: st) hi g Φ := AP.i2l d_L_setSpeed_7 h
theorem d_L_setSpeed_8 : decode cL_setSpeed 8 = .ok (.lastore, 1) := by decide +kernel
theorem s_L_setSpeed_8 {k n j : Nat} {i : Int32} {x : Int64} (hI : am_Inv g) (hs : am_SH k = (4, n)) (hk : k < 134) (hn : n < 2 ^ 31) (hx : i = nI j) (hj : j < n) (h : AP M_L_setSpeed b 9 [x0, x1, x2, x3] (st) hi (am_upl g k j x) Φ) : AP M_L_setSpeed b 8 [x0, x1, x2, x3] (.long x :: .int i :: .ref k :: st) hi g Φ := AP.last d_L_setSpeed_8 hs (hI.lt hk) hn hx hj h
theorem d_L_setSpeed_9 : decode cL_setSpeed 9 = .ok (.goto 6, 3) := by decide +kernel
theorem s_L_setSpeed_9 (h : AP M_L_setSpeed b 15 [x0, x1, x2, x3] st hi g Φ) : AP M_L_setSpeed b 9 [x0, x1, x2, x3] st hi g Φ := AP.goto d_L_setSpeed_9 (by decide) h
theorem d_L_setSpeed_12 : decode cL_setSpeed 12 = .ok (.astore_n 3, 1) := by decide +kernel
theorem s_L_setSpeed_12 {n : Nat} (hc : x2.category = 1) (h : AP M_L_setSpeed b 13 [x0, x1, x2, .ref n] (st) hi g Φ) : AP M_L_setSpeed b 12 [x0, x1, x2, x3] (.ref n :: st) hi g Φ := AP.astore_n (x := n) (i := 3) d_L_setSpeed_12 rfl (by decide) (by simp [am_st, am_ci, am_cr, am_cl, am_cd, hc]) h
theorem d_L_setSpeed_13 : decode cL_setSpeed 13 = .ok (.iconst 1, 1) := by decide +kernel
theorem s_L_setSpeed_13 (h : AP M_L_setSpeed b 14 [x0, x1, x2, x3] (.int 1 :: st) hi g Φ) : AP M_L_setSpeed b 13 [x0, x1, x2, x3] (st) hi g Φ := AP.iconst (x := 1) d_L_setSpeed_13 (by decide) h
theorem d_L_setSpeed_14 : decode cL_setSpeed 14 = .ok (.ireturn, 1) := by decide +kernel
theorem s_L_setSpeed_14 {x : Int32} (h : Φ (.ok (some (.int x))) hi g) : AP M_L_setSpeed b 14 [x0, x1, x2, x3] [.int x] hi g Φ := AP.iret d_L_setSpeed_14 rfl h
theorem d_L_setSpeed_15 : decode cL_setSpeed 15 = .ok (.iconst 0, 1) := by decide +kernel
theorem s_L_setSpeed_15 (h : AP M_L_setSpeed b 16 [x0, x1, x2, x3] (.int 0 :: st) hi g Φ) : AP M_L_setSpeed b 15 [x0, x1, x2, x3] (st) hi g Φ := AP.iconst (x := 0) d_L_setSpeed_15 (by decide) h
theorem d_L_setSpeed_16 : decode cL_setSpeed 16 = .ok (.ireturn, 1) := by decide +kernel
theorem s_L_setSpeed_16 {x : Int32} (h : Φ (.ok (some (.int x))) hi g) : AP M_L_setSpeed b 16 [x0, x1, x2, x3] [.int x] hi g Φ := AP.iret d_L_setSpeed_16 rfl h
end
section
variable {b : Nat × Nat} {st : List Value} {hi : am_HI} {g : am_G} {Φ : am_P} {x0 x1 x2 x3 x4 : Value}
theorem d_L_setWeight_0 : decode cL_setWeight 0 = .ok (.aload_n 3, 1) := by decide +kernel
theorem s_L_setWeight_0 {n : Nat} (h : AP M_L_setWeight b 1 [x0, x1, x2, .ref n, x4] (.ref n :: st) hi g Φ) : AP M_L_setWeight b 0 [x0, x1, x2, .ref n, x4] (st) hi g Φ := AP.aload_n (x := n) (i := 3) d_L_setWeight_0 rfl rfl h
theorem d_L_setWeight_1 : decode cL_setWeight 1 = .ok (.iconst 0, 1) := by decide +kernel
theorem s_L_setWeight_1 (h : AP M_L_setWeight b 2 [x0, x1, x2, x3, x4] (.int 0 :: st) hi g Φ) : AP M_L_setWeight b 1 [x0, x1, x2, x3, x4] (st) hi g Φ := AP.iconst (x := 0) d_L_setWeight_1 (by decide) h
theorem d_L_setWeight_2 : decode cL_setWeight 2 = .ok (.aload_n 0, 1) := by decide +kernel
theorem s_L_setWeight_2 {n : Nat} (h : AP M_L_setWeight b 3 [.ref n, x1, x2, x3, x4] (.ref n :: st) hi g Φ) : AP M_L_setWeight b 2 [.ref n, x1, x2, x3, x4] (st) hi g Φ := AP.aload_n (x := n) (i := 0) d_L_setWeight_2 rfl rfl h
theorem d_L_setWeight_3 : decode cL_setWeight 3 = .ok (.iload_n 1, 1) := by decide +kernel
theorem s_L_setWeight_3 {n : Int32} (h : AP M_L_setWeight b 4 [x0, .int n, x2, x3, x4] (.int n :: st) hi g Φ) : AP M_L_setWeight b 3 [x0, .int n, x2, x3, x4] (st) hi g Φ := AP.iload_n (x := n) (i := 1) d_L_setWeight_3 rfl rfl h
theorem d_L_setWeight_4 : decode cL_setWeight 4 = .ok (.iload_n 2, 1) := by decide +kernel
theorem s_L_setWeight_4 {n : Int32} (h : AP M_L_setWeight b 5 [x0, x1, .int n, x3, x4] (.int n :: st) hi g Φ) : AP M_L_setWeight b 4 [x0, x1, .int n, x3, x4] (st) hi g Φ := AP.iload_n (x := n) (i := 2) d_L_setWeight_4 rfl rfl h
theorem d_L_setWeight_5 : decode cL_setWeight 5 = .ok (.invokevirtual 37, 3) := by decide +kernel
theorem s_L_setWeight_5 {a0 : Int32} {a1 : Int32} {k : Nat} {r0 : Int32} {P : am_HI → Prop} (hI : am_Inv g) (hs : am_SH k = (0, 9)) (hk : k < 134) (hst : (st.map Value.category).sum ≤ 8) (hc : am_Cr M_X9_setWeight [.ref k, .int a0, .int a1] hi g (some (.int r0)) P) (h : ∀ hi' : am_HI, P hi' → AP M_L_setWeight b 8 [x0, x1, x2, x3, x4] (.int r0 :: st) hi' g Φ) : AP M_L_setWeight b 5 [x0, x1, x2, x3, x4] (.int a1 :: .int a0 :: .ref k :: st) hi g Φ := AP.callVr (As := [.int a0, .int a1]) (q := (RX9, TX9, 7)) hI hc k_L_setWeight_37 d_L_setWeight_5 rfl hs hk rfl rfl hst h
theorem d_L_setWeight_8 : decode cL_setWeight 8 = .ok (.i2l, 1) := by decide +kernel
theorem s_L_setWeight_8 {x : Int32} (h : AP M_L_setWeight b 9 [x0, x1, x2, x3, x4] (.long x.toInt64 :: st) hi g Φ) : AP M_L_setWeight b 8 [x0, x1, x2, x3, x4] (.int x :: st) hi g Φ := AP.i2l d_L_setWeight_8 h
theorem d_L_setWeight_9 : decode cL_setWeight 9 = .ok (.lastore, 1) := by decide +kernel
theorem s_L_setWeight_9 {k n j : Nat} {i : Int32} {x : Int64} (hI : am_Inv g) (hs : am_SH k = (4, n)) (hk : k < 134) (hn : n < 2 ^ 31) (hx : i = nI j) (hj : j < n) (h : AP M_L_setWeight b 10 [x0, x1, x2, x3, x4] (st) hi (am_upl g k j x) Φ) : AP M_L_setWeight b 9 [x0, x1, x2, x3, x4] (.long x :: .int i :: .ref k :: st) hi g Φ := AP.last d_L_setWeight_9 hs (hI.lt hk) hn hx hj h
theorem d_L_setWeight_10 : decode cL_setWeight 10 = .ok (.goto 7, 3) := by decide +kernel
theorem s_L_setWeight_10 (h : AP M_L_setWeight b 17 [x0, x1, x2, x3, x4] st hi g Φ) : AP M_L_setWeight b 10 [x0, x1, x2, x3, x4] st hi g Φ := AP.goto d_L_setWeight_10 (by decide) h
theorem d_L_setWeight_13 : decode cL_setWeight 13 = .ok (.astore 4, 2) := by decide +kernel
theorem s_L_setWeight_13 {n : Nat} (hc : x3.category = 1) (h : AP M_L_setWeight b 15 [x0, x1, x2, x3, .ref n] (st) hi g Φ) : AP M_L_setWeight b 13 [x0, x1, x2, x3, x4] (.ref n :: st) hi g Φ := AP.astore (x := n) (i := 4) d_L_setWeight_13 (by decide) (by simp [am_st, am_ci, am_cr, am_cl, am_cd, hc]) h
theorem d_L_setWeight_15 : decode cL_setWeight 15 = .ok (.iconst 1, 1) := by decide +kernel
theorem s_L_setWeight_15 (h : AP M_L_setWeight b 16 [x0, x1, x2, x3, x4] (.int 1 :: st) hi g Φ) : AP M_L_setWeight b 15 [x0, x1, x2, x3, x4] (st) hi g Φ := AP.iconst (x := 1) d_L_setWeight_15 (by decide) h
theorem d_L_setWeight_16 : decode cL_setWeight 16 = .ok (.ireturn, 1) := by decide +kernel
theorem s_L_setWeight_16 {x : Int32} (h : Φ (.ok (some (.int x))) hi g) : AP M_L_setWeight b 16 [x0, x1, x2, x3, x4] [.int x] hi g Φ := AP.iret d_L_setWeight_16 rfl h
theorem d_L_setWeight_17 : decode cL_setWeight 17 = .ok (.iconst 0, 1) := by decide +kernel
theorem s_L_setWeight_17 (h : AP M_L_setWeight b 18 [x0, x1, x2, x3, x4] (.int 0 :: st) hi g Φ) : AP M_L_setWeight b 17 [x0, x1, x2, x3, x4] (st) hi g Φ := AP.iconst (x := 0) d_L_setWeight_17 (by decide) h
theorem d_L_setWeight_18 : decode cL_setWeight 18 = .ok (.ireturn, 1) := by decide +kernel
theorem s_L_setWeight_18 {x : Int32} (h : Φ (.ok (some (.int x))) hi g) : AP M_L_setWeight b 18 [x0, x1, x2, x3, x4] [.int x] hi g Φ := AP.iret d_L_setWeight_18 rfl h
end
section
variable {b : Nat × Nat} {st : List Value} {hi : am_HI} {g : am_G} {Φ : am_P} {x0 x1 x2 x3 : Value}
theorem d_L_sumOf_0 : decode cL_sumOf 0 = .ok (.aload_n 2, 1) := by decide +kernel
theorem s_L_sumOf_0 {n : Nat} (h : AP M_L_sumOf b 1 [x0, x1, .ref n, x3] (.ref n :: st) hi g Φ) : AP M_L_sumOf b 0 [x0, x1, .ref n, x3] (st) hi g Φ := AP.aload_n (x := n) (i := 2) d_L_sumOf_0 rfl rfl h
theorem d_L_sumOf_1 : decode cL_sumOf 1 = .ok (.iconst 0, 1) := by decide +kernel
theorem s_L_sumOf_1 (h : AP M_L_sumOf b 2 [x0, x1, x2, x3] (.int 0 :: st) hi g Φ) : AP M_L_sumOf b 1 [x0, x1, x2, x3] (st) hi g Φ := AP.iconst (x := 0) d_L_sumOf_1 (by decide) h
theorem d_L_sumOf_2 : decode cL_sumOf 2 = .ok (.aload_n 0, 1) := by decide +kernel
theorem s_L_sumOf_2 {n : Nat} (h : AP M_L_sumOf b 3 [.ref n, x1, x2, x3] (.ref n :: st) hi g Φ) : AP M_L_sumOf b 2 [.ref n, x1, x2, x3] (st) hi g Φ := AP.aload_n (x := n) (i := 0) d_L_sumOf_2 rfl rfl h
theorem d_L_sumOf_3 : decode cL_sumOf 3 = .ok (.iload_n 1, 1) := by decide +kernel
theorem s_L_sumOf_3 {n : Int32} (h : AP M_L_sumOf b 4 [x0, .int n, x2, x3] (.int n :: st) hi g Φ) : AP M_L_sumOf b 3 [x0, .int n, x2, x3] (st) hi g Φ := AP.iload_n (x := n) (i := 1) d_L_sumOf_3 rfl rfl h
theorem d_L_sumOf_4 : decode cL_sumOf 4 = .ok (.invokevirtual 68, 3) := by decide +kernel
theorem s_L_sumOf_4 {a0 : Int32} {k : Nat} {r0 : Int32} {P : am_HI → Prop} (hI : am_Inv g) (hs : am_SH k = (0, 9)) (hk : k < 134) (hst : (st.map Value.category).sum ≤ 8) (hc : am_Cr M_X9_sumOf [.ref k, .int a0] hi g (some (.int r0)) P) (h : ∀ hi' : am_HI, P hi' → AP M_L_sumOf b 7 [x0, x1, x2, x3] (.int r0 :: st) hi' g Φ) : AP M_L_sumOf b 4 [x0, x1, x2, x3] (.int a0 :: .ref k :: st) hi g Φ := AP.callVr (As := [.int a0]) (q := (RX9, TX9, 7)) hI hc k_L_sumOf_68 d_L_sumOf_4 rfl hs hk rfl rfl hst h
theorem d_L_sumOf_7 : decode cL_sumOf 7 = .ok (.i2l, 1) := by decide +kernel
theorem s_L_sumOf_7 {x : Int32} (h : AP M_L_sumOf b 8 [x0, x1, x2, x3] (.long x.toInt64 :: st) hi g Φ) : AP M_L_sumOf b 7 [x0, x1, x2, x3] (.int x :: st) hi g Φ := AP.i2l d_L_sumOf_7 h
theorem d_L_sumOf_8 : decode cL_sumOf 8 = .ok (.lastore, 1) := by decide +kernel
theorem s_L_sumOf_8 {k n j : Nat} {i : Int32} {x : Int64} (hI : am_Inv g) (hs : am_SH k = (4, n)) (hk : k < 134) (hn : n < 2 ^ 31) (hx : i = nI j) (hj : j < n) (h : AP M_L_sumOf b 9 [x0, x1, x2, x3] (st) hi (am_upl g k j x) Φ) : AP M_L_sumOf b 8 [x0, x1, x2, x3] (.long x :: .int i :: .ref k :: st) hi g Φ := AP.last d_L_sumOf_8 hs (hI.lt hk) hn hx hj h
theorem d_L_sumOf_9 : decode cL_sumOf 9 = .ok (.goto 6, 3) := by decide +kernel
theorem s_L_sumOf_9 (h : AP M_L_sumOf b 15 [x0, x1, x2, x3] st hi g Φ) : AP M_L_sumOf b 9 [x0, x1, x2, x3] st hi g Φ := AP.goto d_L_sumOf_9 (by decide) h
theorem d_L_sumOf_12 : decode cL_sumOf 12 = .ok (.astore_n 3, 1) := by decide +kernel
theorem s_L_sumOf_12 {n : Nat} (hc : x2.category = 1) (h : AP M_L_sumOf b 13 [x0, x1, x2, .ref n] (st) hi g Φ) : AP M_L_sumOf b 12 [x0, x1, x2, x3] (.ref n :: st) hi g Φ := AP.astore_n (x := n) (i := 3) d_L_sumOf_12 rfl (by decide) (by simp [am_st, am_ci, am_cr, am_cl, am_cd, hc]) h
theorem d_L_sumOf_13 : decode cL_sumOf 13 = .ok (.iconst 1, 1) := by decide +kernel
theorem s_L_sumOf_13 (h : AP M_L_sumOf b 14 [x0, x1, x2, x3] (.int 1 :: st) hi g Φ) : AP M_L_sumOf b 13 [x0, x1, x2, x3] (st) hi g Φ := AP.iconst (x := 1) d_L_sumOf_13 (by decide) h
theorem d_L_sumOf_14 : decode cL_sumOf 14 = .ok (.ireturn, 1) := by decide +kernel
theorem s_L_sumOf_14 {x : Int32} (h : Φ (.ok (some (.int x))) hi g) : AP M_L_sumOf b 14 [x0, x1, x2, x3] [.int x] hi g Φ := AP.iret d_L_sumOf_14 rfl h
theorem d_L_sumOf_15 : decode cL_sumOf 15 = .ok (.iconst 0, 1) := by decide +kernel
theorem s_L_sumOf_15 (h : AP M_L_sumOf b 16 [x0, x1, x2, x3] (.int 0 :: st) hi g Φ) : AP M_L_sumOf b 15 [x0, x1, x2, x3] (st) hi g Φ := AP.iconst (x := 0) d_L_sumOf_15 (by decide) h
theorem d_L_sumOf_16 : decode cL_sumOf 16 = .ok (.ireturn, 1) := by decide +kernel
theorem s_L_sumOf_16 {x : Int32} (h : Φ (.ok (some (.int x))) hi g) : AP M_L_sumOf b 16 [x0, x1, x2, x3] [.int x] hi g Φ := AP.iret d_L_sumOf_16 rfl h
end
section
variable {b : Nat × Nat} {st : List Value} {hi : am_HI} {g : am_G} {Φ : am_P} {x0 x1 x2 x3 : Value}
theorem d_L_sumWithDelay_0 : decode cL_sumWithDelay 0 = .ok (.aload_n 2, 1) := by decide +kernel
theorem s_L_sumWithDelay_0 {n : Nat} (h : AP M_L_sumWithDelay b 1 [x0, x1, .ref n, x3] (.ref n :: st) hi g Φ) : AP M_L_sumWithDelay b 0 [x0, x1, .ref n, x3] (st) hi g Φ := AP.aload_n (x := n) (i := 2) d_L_sumWithDelay_0 rfl rfl h
theorem d_L_sumWithDelay_1 : decode cL_sumWithDelay 1 = .ok (.iconst 0, 1) := by decide +kernel
theorem s_L_sumWithDelay_1 (h : AP M_L_sumWithDelay b 2 [x0, x1, x2, x3] (.int 0 :: st) hi g Φ) : AP M_L_sumWithDelay b 1 [x0, x1, x2, x3] (st) hi g Φ := AP.iconst (x := 0) d_L_sumWithDelay_1 (by decide) h
theorem d_L_sumWithDelay_2 : decode cL_sumWithDelay 2 = .ok (.aload_n 0, 1) := by decide +kernel
theorem s_L_sumWithDelay_2 {n : Nat} (h : AP M_L_sumWithDelay b 3 [.ref n, x1, x2, x3] (.ref n :: st) hi g Φ) : AP M_L_sumWithDelay b 2 [.ref n, x1, x2, x3] (st) hi g Φ := AP.aload_n (x := n) (i := 0) d_L_sumWithDelay_2 rfl rfl h
theorem d_L_sumWithDelay_3 : decode cL_sumWithDelay 3 = .ok (.iload_n 1, 1) := by decide +kernel
theorem s_L_sumWithDelay_3 {n : Int32} (h : AP M_L_sumWithDelay b 4 [x0, .int n, x2, x3] (.int n :: st) hi g Φ) : AP M_L_sumWithDelay b 3 [x0, .int n, x2, x3] (st) hi g Φ := AP.iload_n (x := n) (i := 1) d_L_sumWithDelay_3 rfl rfl h
theorem d_L_sumWithDelay_4 : decode cL_sumWithDelay 4 = .ok (.invokevirtual 71, 3) := by decide +kernel
theorem s_L_sumWithDelay_4 {a0 : Int32} {k : Nat} {r0 : Int32} {P : am_HI → Prop} (hI : am_Inv g) (hs : am_SH k = (0, 9)) (hk : k < 134) (hst : (st.map Value.category).sum ≤ 8) (hc : am_Cr M_X9_sumWithDelay [.ref k, .int a0] hi g (some (.int r0)) P) (h : ∀ hi' : am_HI, P hi' → AP M_L_sumWithDelay b 7 [x0, x1, x2, x3] (.int r0 :: st) hi' g Φ) : AP M_L_sumWithDelay b 4 [x0, x1, x2, x3] (.int a0 :: .ref k :: st) hi g Φ := AP.callVr (As := [.int a0]) (q := (RX9, TX9, 7)) hI hc k_L_sumWithDelay_71 d_L_sumWithDelay_4 rfl hs hk rfl rfl hst h
theorem d_L_sumWithDelay_7 : decode cL_sumWithDelay 7 = .ok (.i2l, 1) := by decide +kernel
theorem s_L_sumWithDelay_7 {x : Int32} (h : AP M_L_sumWithDelay b 8 [x0, x1, x2, x3] (.long x.toInt64 :: st) hi g Φ) : AP M_L_sumWithDelay b 7 [x0, x1, x2, x3] (.int x :: st) hi g Φ := AP.i2l d_L_sumWithDelay_7 h
theorem d_L_sumWithDelay_8 : decode cL_sumWithDelay 8 = .ok (.lastore, 1) := by decide +kernel
theorem s_L_sumWithDelay_8 {k n j : Nat} {i : Int32} {x : Int64} (hI : am_Inv g) (hs : am_SH k = (4, n)) (hk : k < 134) (hn : n < 2 ^ 31) (hx : i = nI j) (hj : j < n) (h : AP M_L_sumWithDelay b 9 [x0, x1, x2, x3] (st) hi (am_upl g k j x) Φ) : AP M_L_sumWithDelay b 8 [x0, x1, x2, x3] (.long x :: .int i :: .ref k :: st) hi g Φ := AP.last d_L_sumWithDelay_8 hs (hI.lt hk) hn hx hj h
theorem d_L_sumWithDelay_9 : decode cL_sumWithDelay 9 = .ok (.goto 6, 3) := by decide +kernel
theorem s_L_sumWithDelay_9 (h : AP M_L_sumWithDelay b 15 [x0, x1, x2, x3] st hi g Φ) : AP M_L_sumWithDelay b 9 [x0, x1, x2, x3] st hi g Φ := AP.goto d_L_sumWithDelay_9 (by decide) h
theorem d_L_sumWithDelay_12 : decode cL_sumWithDelay 12 = .ok (.astore_n 3, 1) := by decide +kernel
theorem s_L_sumWithDelay_12 {n : Nat} (hc : x2.category = 1) (h : AP M_L_sumWithDelay b 13 [x0, x1, x2, .ref n] (st) hi g Φ) : AP M_L_sumWithDelay b 12 [x0, x1, x2, x3] (.ref n :: st) hi g Φ := AP.astore_n (x := n) (i := 3) d_L_sumWithDelay_12 rfl (by decide) (by simp [am_st, am_ci, am_cr, am_cl, am_cd, hc]) h
theorem d_L_sumWithDelay_13 : decode cL_sumWithDelay 13 = .ok (.iconst 1, 1) := by decide +kernel
theorem s_L_sumWithDelay_13 (h : AP M_L_sumWithDelay b 14 [x0, x1, x2, x3] (.int 1 :: st) hi g Φ) : AP M_L_sumWithDelay b 13 [x0, x1, x2, x3] (st) hi g Φ := AP.iconst (x := 1) d_L_sumWithDelay_13 (by decide) h
theorem d_L_sumWithDelay_14 : decode cL_sumWithDelay 14 = .ok (.ireturn, 1) := by decide +kernel
theorem s_L_sumWithDelay_14 {x : Int32} (h : Φ (.ok (some (.int x))) hi g) : AP M_L_sumWithDelay b 14 [x0, x1, x2, x3] [.int x] hi g Φ := AP.iret d_L_sumWithDelay_14 rfl h
theorem d_L_sumWithDelay_15 : decode cL_sumWithDelay 15 = .ok (.iconst 0, 1) := by decide +kernel
theorem s_L_sumWithDelay_15 (h : AP M_L_sumWithDelay b 16 [x0, x1, x2, x3] (.int 0 :: st) hi g Φ) : AP M_L_sumWithDelay b 15 [x0, x1, x2, x3] (st) hi g Φ := AP.iconst (x := 0) d_L_sumWithDelay_15 (by decide) h
theorem d_L_sumWithDelay_16 : decode cL_sumWithDelay 16 = .ok (.ireturn, 1) := by decide +kernel
theorem s_L_sumWithDelay_16 {x : Int32} (h : Φ (.ok (some (.int x))) hi g) : AP M_L_sumWithDelay b 16 [x0, x1, x2, x3] [.int x] hi g Φ := AP.iret d_L_sumWithDelay_16 rfl h
end
section
variable {b : Nat × Nat} {st : List Value} {hi : am_HI} {g : am_G} {Φ : am_P} {x0 x1 x2 x3 x4 : Value}
theorem d_L_tamper_0 : decode cL_tamper 0 = .ok (.aload_n 3, 1) := by decide +kernel
theorem s_L_tamper_0 {n : Nat} (h : AP M_L_tamper b 1 [x0, x1, x2, .ref n, x4] (.ref n :: st) hi g Φ) : AP M_L_tamper b 0 [x0, x1, x2, .ref n, x4] (st) hi g Φ := AP.aload_n (x := n) (i := 3) d_L_tamper_0 rfl rfl h
theorem d_L_tamper_1 : decode cL_tamper 1 = .ok (.iconst 0, 1) := by decide +kernel
theorem s_L_tamper_1 (h : AP M_L_tamper b 2 [x0, x1, x2, x3, x4] (.int 0 :: st) hi g Φ) : AP M_L_tamper b 1 [x0, x1, x2, x3, x4] (st) hi g Φ := AP.iconst (x := 0) d_L_tamper_1 (by decide) h
theorem d_L_tamper_2 : decode cL_tamper 2 = .ok (.aload_n 0, 1) := by decide +kernel
theorem s_L_tamper_2 {n : Nat} (h : AP M_L_tamper b 3 [.ref n, x1, x2, x3, x4] (.ref n :: st) hi g Φ) : AP M_L_tamper b 2 [.ref n, x1, x2, x3, x4] (st) hi g Φ := AP.aload_n (x := n) (i := 0) d_L_tamper_2 rfl rfl h
theorem d_L_tamper_3 : decode cL_tamper 3 = .ok (.iload_n 1, 1) := by decide +kernel
theorem s_L_tamper_3 {n : Int32} (h : AP M_L_tamper b 4 [x0, .int n, x2, x3, x4] (.int n :: st) hi g Φ) : AP M_L_tamper b 3 [x0, .int n, x2, x3, x4] (st) hi g Φ := AP.iload_n (x := n) (i := 1) d_L_tamper_3 rfl rfl h
theorem d_L_tamper_4 : decode cL_tamper 4 = .ok (.iload_n 2, 1) := by decide +kernel
theorem s_L_tamper_4 {n : Int32} (h : AP M_L_tamper b 5 [x0, x1, .int n, x3, x4] (.int n :: st) hi g Φ) : AP M_L_tamper b 4 [x0, x1, .int n, x3, x4] (st) hi g Φ := AP.iload_n (x := n) (i := 2) d_L_tamper_4 rfl rfl h
theorem d_L_tamper_5 : decode cL_tamper 5 = .ok (.invokevirtual 47, 3) := by decide +kernel
theorem s_L_tamper_5 {a0 : Int32} {a1 : Int32} {k : Nat} {r0 : Int32} {P : am_HI → Prop} (hI : am_Inv g) (hs : am_SH k = (0, 9)) (hk : k < 134) (hst : (st.map Value.category).sum ≤ 8) (hc : am_Cr M_X9_tamper [.ref k, .int a0, .int a1] hi g (some (.int r0)) P) (h : ∀ hi' : am_HI, P hi' → AP M_L_tamper b 8 [x0, x1, x2, x3, x4] (.int r0 :: st) hi' g Φ) : AP M_L_tamper b 5 [x0, x1, x2, x3, x4] (.int a1 :: .int a0 :: .ref k :: st) hi g Φ := AP.callVr (As := [.int a0, .int a1]) (q := (RX9, TX9, 7)) hI hc k_L_tamper_47 d_L_tamper_5 rfl hs hk rfl rfl hst h
theorem d_L_tamper_8 : decode cL_tamper 8 = .ok (.i2l, 1) := by decide +kernel
theorem s_L_tamper_8 {x : Int32} (h : AP M_L_tamper b 9 [x0, x1, x2, x3, x4] (.long x.toInt64 :: st) hi g Φ) : AP M_L_tamper b 8 [x0, x1, x2, x3, x4] (.int x :: st) hi g Φ := AP.i2l d_L_tamper_8 h
theorem d_L_tamper_9 : decode cL_tamper 9 = .ok (.lastore, 1) := by decide +kernel
theorem s_L_tamper_9 {k n j : Nat} {i : Int32} {x : Int64} (hI : am_Inv g) (hs : am_SH k = (4, n)) (hk : k < 134) (hn : n < 2 ^ 31) (hx : i = nI j) (hj : j < n) (h : AP M_L_tamper b 10 [x0, x1, x2, x3, x4] (st) hi (am_upl g k j x) Φ) : AP M_L_tamper b 9 [x0, x1, x2, x3, x4] (.long x :: .int i :: .ref k :: st) hi g Φ := AP.last d_L_tamper_9 hs (hI.lt hk) hn hx hj h
theorem d_L_tamper_10 : decode cL_tamper 10 = .ok (.goto 11, 3) := by decide +kernel
theorem s_L_tamper_10 (h : AP M_L_tamper b 21 [x0, x1, x2, x3, x4] st hi g Φ) : AP M_L_tamper b 10 [x0, x1, x2, x3, x4] st hi g Φ := AP.goto d_L_tamper_10 (by decide) h
theorem d_L_tamper_13 : decode cL_tamper 13 = .ok (.astore 4, 2) := by decide +kernel
theorem s_L_tamper_13 {n : Nat} (hc : x3.category = 1) (h : AP M_L_tamper b 15 [x0, x1, x2, x3, .ref n] (st) hi g Φ) : AP M_L_tamper b 13 [x0, x1, x2, x3, x4] (.ref n :: st) hi g Φ := AP.astore (x := n) (i := 4) d_L_tamper_13 (by decide) (by simp [am_st, am_ci, am_cr, am_cl, am_cd, hc]) h
theorem d_L_tamper_15 : decode cL_tamper 15 = .ok (.iconst 1, 1) := by decide +kernel
theorem s_L_tamper_15 (h : AP M_L_tamper b 16 [x0, x1, x2, x3, x4] (.int 1 :: st) hi g Φ) : AP M_L_tamper b 15 [x0, x1, x2, x3, x4] (st) hi g Φ := AP.iconst (x := 1) d_L_tamper_15 (by decide) h
theorem d_L_tamper_16 : decode cL_tamper 16 = .ok (.ireturn, 1) := by decide +kernel
theorem s_L_tamper_16 {x : Int32} (h : Φ (.ok (some (.int x))) hi g) : AP M_L_tamper b 16 [x0, x1, x2, x3, x4] [.int x] hi g Φ := AP.iret d_L_tamper_16 rfl h
theorem d_L_tamper_17 : decode cL_tamper 17 = .ok (.astore 4, 2) := by decide +kernel
theorem s_L_tamper_17 {n : Nat} (hc : x3.category = 1) (h : AP M_L_tamper b 19 [x0, x1, x2, x3, .ref n] (st) hi g Φ) : AP M_L_tamper b 17 [x0, x1, x2, x3, x4] (.ref n :: st) hi g Φ := AP.astore (x := n) (i := 4) d_L_tamper_17 (by decide) (by simp [am_st, am_ci, am_cr, am_cl, am_cd, hc]) h
theorem d_L_tamper_19 : decode cL_tamper 19 = .ok (.iconst 2, 1) := by decide +kernel
theorem s_L_tamper_19 (h : AP M_L_tamper b 20 [x0, x1, x2, x3, x4] (.int 2 :: st) hi g Φ) : AP M_L_tamper b 19 [x0, x1, x2, x3, x4] (st) hi g Φ := AP.iconst (x := 2) d_L_tamper_19 (by decide) h
theorem d_L_tamper_20 : decode cL_tamper 20 = .ok (.ireturn, 1) := by decide +kernel
theorem s_L_tamper_20 {x : Int32} (h : Φ (.ok (some (.int x))) hi g) : AP M_L_tamper b 20 [x0, x1, x2, x3, x4] [.int x] hi g Φ := AP.iret d_L_tamper_20 rfl h
theorem d_L_tamper_21 : decode cL_tamper 21 = .ok (.iconst 0, 1) := by decide +kernel
theorem s_L_tamper_21 (h : AP M_L_tamper b 22 [x0, x1, x2, x3, x4] (.int 0 :: st) hi g Φ) : AP M_L_tamper b 21 [x0, x1, x2, x3, x4] (st) hi g Φ := AP.iconst (x := 0) d_L_tamper_21 (by decide) h
theorem d_L_tamper_22 : decode cL_tamper 22 = .ok (.ireturn, 1) := by decide +kernel
theorem s_L_tamper_22 {x : Int32} (h : Φ (.ok (some (.int x))) hi g) : AP M_L_tamper b 22 [x0, x1, x2, x3, x4] [.int x] hi g Φ := AP.iret d_L_tamper_22 rfl h
end
section
variable {b : Nat × Nat} {st : List Value} {hi : am_HI} {g : am_G} {Φ : am_P} {x0 x1 x2 x3 : Value}
theorem d_L_turnKind_0 : decode cL_turnKind 0 = .ok (.aload_n 2, 1) := by decide +kernel
theorem s_L_turnKind_0 {n : Nat} (h : AP M_L_turnKind b 1 [x0, x1, .ref n, x3] (.ref n :: st) hi g Φ) : AP M_L_turnKind b 0 [x0, x1, .ref n, x3] (st) hi g Φ := AP.aload_n (x := n) (i := 2) d_L_turnKind_0 rfl rfl h
theorem d_L_turnKind_1 : decode cL_turnKind 1 = .ok (.iconst 0, 1) := by decide +kernel
theorem s_L_turnKind_1 (h : AP M_L_turnKind b 2 [x0, x1, x2, x3] (.int 0 :: st) hi g Φ) : AP M_L_turnKind b 1 [x0, x1, x2, x3] (st) hi g Φ := AP.iconst (x := 0) d_L_turnKind_1 (by decide) h
theorem d_L_turnKind_2 : decode cL_turnKind 2 = .ok (.aload_n 0, 1) := by decide +kernel
theorem s_L_turnKind_2 {n : Nat} (h : AP M_L_turnKind b 3 [.ref n, x1, x2, x3] (.ref n :: st) hi g Φ) : AP M_L_turnKind b 2 [.ref n, x1, x2, x3] (st) hi g Φ := AP.aload_n (x := n) (i := 0) d_L_turnKind_2 rfl rfl h
theorem d_L_turnKind_3 : decode cL_turnKind 3 = .ok (.iload_n 1, 1) := by decide +kernel
theorem s_L_turnKind_3 {n : Int32} (h : AP M_L_turnKind b 4 [x0, .int n, x2, x3] (.int n :: st) hi g Φ) : AP M_L_turnKind b 3 [x0, .int n, x2, x3] (st) hi g Φ := AP.iload_n (x := n) (i := 1) d_L_turnKind_3 rfl rfl h
theorem d_L_turnKind_4 : decode cL_turnKind 4 = .ok (.invokevirtual 40, 3) := by decide +kernel
theorem s_L_turnKind_4 {a0 : Int32} {k : Nat} {r0 : Int32} {P : am_HI → Prop} (hI : am_Inv g) (hs : am_SH k = (0, 9)) (hk : k < 134) (hst : (st.map Value.category).sum ≤ 8) (hc : am_Cr M_X9_turnKind [.ref k, .int a0] hi g (some (.int r0)) P) (h : ∀ hi' : am_HI, P hi' → AP M_L_turnKind b 7 [x0, x1, x2, x3] (.int r0 :: st) hi' g Φ) : AP M_L_turnKind b 4 [x0, x1, x2, x3] (.int a0 :: .ref k :: st) hi g Φ := AP.callVr (As := [.int a0]) (q := (RX9, TX9, 7)) hI hc k_L_turnKind_40 d_L_turnKind_4 rfl hs hk rfl rfl hst h
theorem d_L_turnKind_7 : decode cL_turnKind 7 = .ok (.ifCond .eq 7, 3) := by decide +kernel
theorem s_L_turnKind_7 {x : Int32} (h1 : x = 0 → AP M_L_turnKind b 14 [x0, x1, x2, x3] st hi g Φ) (h2 : ¬ x = 0 → AP M_L_turnKind b 10 [x0, x1, x2, x3] st hi g Φ) : AP M_L_turnKind b 7 [x0, x1, x2, x3] (.int x :: st) hi g Φ := AP.if_eq d_L_turnKind_7 (by decide) h1 h2
theorem d_L_turnKind_10 : decode cL_turnKind 10 = .ok (.lconst 1, 1) := by decide +kernel
theorem s_L_turnKind_10 (h : AP M_L_turnKind b 11 [x0, x1, x2, x3] (.long 1 :: st) hi g Φ) : AP M_L_turnKind b 10 [x0, x1, x2, x3] (st) hi g Φ := AP.lconst (x := 1) d_L_turnKind_10 (by decide) h
theorem d_L_turnKind_11 : decode cL_turnKind 11 = .ok (.goto 4, 3) := by decide +kernel
theorem s_L_turnKind_11 (h : AP M_L_turnKind b 15 [x0, x1, x2, x3] st hi g Φ) : AP M_L_turnKind b 11 [x0, x1, x2, x3] st hi g Φ := AP.goto d_L_turnKind_11 (by decide) h
theorem d_L_turnKind_14 : decode cL_turnKind 14 = .ok (.lconst 0, 1) := by decide +kernel
theorem s_L_turnKind_14 (h : AP M_L_turnKind b 15 [x0, x1, x2, x3] (.long 0 :: st) hi g Φ) : AP M_L_turnKind b 14 [x0, x1, x2, x3] (st) hi g Φ := AP.lconst (x := 0) d_L_turnKind_14 (by decide) h
theorem d_L_turnKind_15 : decode cL_turnKind 15 = .ok (.lastore, 1) := by decide +kernel
theorem s_L_turnKind_15 {k n j : Nat} {i : Int32} {x : Int64} (hI : am_Inv g) (hs : am_SH k = (4, n)) (hk : k < 134) (hn : n < 2 ^ 31) (hx : i = nI j) (hj : j < n) (h : AP M_L_turnKind b 16 [x0, x1, x2, x3] (st) hi (am_upl g k j x) Φ) : AP M_L_turnKind b 15 [x0, x1, x2, x3] (.long x :: .int i :: .ref k :: st) hi g Φ := AP.last d_L_turnKind_15 hs (hI.lt hk) hn hx hj h
theorem d_L_turnKind_16 : decode cL_turnKind 16 = .ok (.goto 9, 3) := by decide +kernel
theorem s_L_turnKind_16 (h : AP M_L_turnKind b 25 [x0, x1, x2, x3] st hi g Φ) : AP M_L_turnKind b 16 [x0, x1, x2, x3] st hi g Φ := AP.goto d_L_turnKind_16 (by decide) h
theorem d_L_turnKind_19 : decode cL_turnKind 19 = .ok (.astore_n 3, 1) := by decide +kernel
theorem s_L_turnKind_19 {n : Nat} (hc : x2.category = 1) (h : AP M_L_turnKind b 20 [x0, x1, x2, .ref n] (st) hi g Φ) : AP M_L_turnKind b 19 [x0, x1, x2, x3] (.ref n :: st) hi g Φ := AP.astore_n (x := n) (i := 3) d_L_turnKind_19 rfl (by decide) (by simp [am_st, am_ci, am_cr, am_cl, am_cd, hc]) h
theorem d_L_turnKind_20 : decode cL_turnKind 20 = .ok (.iconst 1, 1) := by decide +kernel
theorem s_L_turnKind_20 (h : AP M_L_turnKind b 21 [x0, x1, x2, x3] (.int 1 :: st) hi g Φ) : AP M_L_turnKind b 20 [x0, x1, x2, x3] (st) hi g Φ := AP.iconst (x := 1) d_L_turnKind_20 (by decide) h
theorem d_L_turnKind_21 : decode cL_turnKind 21 = .ok (.ireturn, 1) := by decide +kernel
theorem s_L_turnKind_21 {x : Int32} (h : Φ (.ok (some (.int x))) hi g) : AP M_L_turnKind b 21 [x0, x1, x2, x3] [.int x] hi g Φ := AP.iret d_L_turnKind_21 rfl h
theorem d_L_turnKind_22 : decode cL_turnKind 22 = .ok (.astore_n 3, 1) := by decide +kernel
theorem s_L_turnKind_22 {n : Nat} (hc : x2.category = 1) (h : AP M_L_turnKind b 23 [x0, x1, x2, .ref n] (st) hi g Φ) : AP M_L_turnKind b 22 [x0, x1, x2, x3] (.ref n :: st) hi g Φ := AP.astore_n (x := n) (i := 3) d_L_turnKind_22 rfl (by decide) (by simp [am_st, am_ci, am_cr, am_cl, am_cd, hc]) h
theorem d_L_turnKind_23 : decode cL_turnKind 23 = .ok (.iconst 2, 1) := by decide +kernel
theorem s_L_turnKind_23 (h : AP M_L_turnKind b 24 [x0, x1, x2, x3] (.int 2 :: st) hi g Φ) : AP M_L_turnKind b 23 [x0, x1, x2, x3] (st) hi g Φ := AP.iconst (x := 2) d_L_turnKind_23 (by decide) h
theorem d_L_turnKind_24 : decode cL_turnKind 24 = .ok (.ireturn, 1) := by decide +kernel
theorem s_L_turnKind_24 {x : Int32} (h : Φ (.ok (some (.int x))) hi g) : AP M_L_turnKind b 24 [x0, x1, x2, x3] [.int x] hi g Φ := AP.iret d_L_turnKind_24 rfl h
theorem d_L_turnKind_25 : decode cL_turnKind 25 = .ok (.iconst 0, 1) := by decide +kernel
theorem s_L_turnKind_25 (h : AP M_L_turnKind b 26 [x0, x1, x2, x3] (.int 0 :: st) hi g Φ) : AP M_L_turnKind b 25 [x0, x1, x2, x3] (st) hi g Φ := AP.iconst (x := 0) d_L_turnKind_25 (by decide) h
theorem d_L_turnKind_26 : decode cL_turnKind 26 = .ok (.ireturn, 1) := by decide +kernel
theorem s_L_turnKind_26 {x : Int32} (h : Φ (.ok (some (.int x))) hi g) : AP M_L_turnKind b 26 [x0, x1, x2, x3] [.int x] hi g Φ := AP.iret d_L_turnKind_26 rfl h
end
section
variable {b : Nat × Nat} {st : List Value} {hi : am_HI} {g : am_G} {Φ : am_P} {x0 x1 x2 : Value}
theorem d_L_undo_0 : decode cL_undo 0 = .ok (.aload_n 1, 1) := by decide +kernel
theorem s_L_undo_0 {n : Nat} (h : AP M_L_undo b 1 [x0, .ref n, x2] (.ref n :: st) hi g Φ) : AP M_L_undo b 0 [x0, .ref n, x2] (st) hi g Φ := AP.aload_n (x := n) (i := 1) d_L_undo_0 rfl rfl h
theorem d_L_undo_1 : decode cL_undo 1 = .ok (.iconst 0, 1) := by decide +kernel
theorem s_L_undo_1 (h : AP M_L_undo b 2 [x0, x1, x2] (.int 0 :: st) hi g Φ) : AP M_L_undo b 1 [x0, x1, x2] (st) hi g Φ := AP.iconst (x := 0) d_L_undo_1 (by decide) h
theorem d_L_undo_2 : decode cL_undo 2 = .ok (.aload_n 0, 1) := by decide +kernel
theorem s_L_undo_2 {n : Nat} (h : AP M_L_undo b 3 [.ref n, x1, x2] (.ref n :: st) hi g Φ) : AP M_L_undo b 2 [.ref n, x1, x2] (st) hi g Φ := AP.aload_n (x := n) (i := 0) d_L_undo_2 rfl rfl h
theorem d_L_undo_3 : decode cL_undo 3 = .ok (.invokevirtual 128, 3) := by decide +kernel
theorem s_L_undo_3  {k : Nat} {r0 : Int32} {P : am_HI → Prop} (hI : am_Inv g) (hs : am_SH k = (0, 9)) (hk : k < 134) (hst : (st.map Value.category).sum ≤ 8) (hc : am_Cr M_X9_undo [.ref k] hi g (some (.int r0)) P) (h : ∀ hi' : am_HI, P hi' → AP M_L_undo b 6 [x0, x1, x2] (.int r0 :: st) hi' g Φ) : AP M_L_undo b 3 [x0, x1, x2] (.ref k :: st) hi g Φ := AP.callVr (As := []) (q := (RX9, TX9, 7)) hI hc k_L_undo_128 d_L_undo_3 rfl hs hk rfl rfl hst h
theorem d_L_undo_6 : decode cL_undo 6 = .ok (.i2l, 1) := by decide +kernel
theorem s_L_undo_6 {x : Int32} (h : AP M_L_undo b 7 [x0, x1, x2] (.long x.toInt64 :: st) hi g Φ) : AP M_L_undo b 6 [x0, x1, x2] (.int x :: st) hi g Φ := AP.i2l d_L_undo_6 h
theorem d_L_undo_7 : decode cL_undo 7 = .ok (.lastore, 1) := by decide +kernel
theorem s_L_undo_7 {k n j : Nat} {i : Int32} {x : Int64} (hI : am_Inv g) (hs : am_SH k = (4, n)) (hk : k < 134) (hn : n < 2 ^ 31) (hx : i = nI j) (hj : j < n) (h : AP M_L_undo b 8 [x0, x1, x2] (st) hi (am_upl g k j x) Φ) : AP M_L_undo b 7 [x0, x1, x2] (.long x :: .int i :: .ref k :: st) hi g Φ := AP.last d_L_undo_7 hs (hI.lt hk) hn hx hj h
theorem d_L_undo_8 : decode cL_undo 8 = .ok (.goto 6, 3) := by decide +kernel
theorem s_L_undo_8 (h : AP M_L_undo b 14 [x0, x1, x2] st hi g Φ) : AP M_L_undo b 8 [x0, x1, x2] st hi g Φ := AP.goto d_L_undo_8 (by decide) h
theorem d_L_undo_11 : decode cL_undo 11 = .ok (.astore_n 2, 1) := by decide +kernel
theorem s_L_undo_11 {n : Nat} (hc : x1.category = 1) (h : AP M_L_undo b 12 [x0, x1, .ref n] (st) hi g Φ) : AP M_L_undo b 11 [x0, x1, x2] (.ref n :: st) hi g Φ := AP.astore_n (x := n) (i := 2) d_L_undo_11 rfl (by decide) (by simp [am_st, am_ci, am_cr, am_cl, am_cd, hc]) h
theorem d_L_undo_12 : decode cL_undo 12 = .ok (.iconst 1, 1) := by decide +kernel
theorem s_L_undo_12 (h : AP M_L_undo b 13 [x0, x1, x2] (.int 1 :: st) hi g Φ) : AP M_L_undo b 12 [x0, x1, x2] (st) hi g Φ := AP.iconst (x := 1) d_L_undo_12 (by decide) h
theorem d_L_undo_13 : decode cL_undo 13 = .ok (.ireturn, 1) := by decide +kernel
theorem s_L_undo_13 {x : Int32} (h : Φ (.ok (some (.int x))) hi g) : AP M_L_undo b 13 [x0, x1, x2] [.int x] hi g Φ := AP.iret d_L_undo_13 rfl h
theorem d_L_undo_14 : decode cL_undo 14 = .ok (.iconst 0, 1) := by decide +kernel
theorem s_L_undo_14 (h : AP M_L_undo b 15 [x0, x1, x2] (.int 0 :: st) hi g Φ) : AP M_L_undo b 14 [x0, x1, x2] (st) hi g Φ := AP.iconst (x := 0) d_L_undo_14 (by decide) h
theorem d_L_undo_15 : decode cL_undo 15 = .ok (.ireturn, 1) := by decide +kernel
theorem s_L_undo_15 {x : Int32} (h : Φ (.ok (some (.int x))) hi g) : AP M_L_undo b 15 [x0, x1, x2] [.int x] hi g Φ := AP.iret d_L_undo_15 rfl h
end
section
variable {b : Nat × Nat} {st : List Value} {hi : am_HI} {g : am_G} {Φ : am_P} {x0 x1 x2 x3 x4 : Value}
theorem d_L_weightAt_0 : decode cL_weightAt 0 = .ok (.aload_n 3, 1) := by decide +kernel
theorem s_L_weightAt_0 {n : Nat} (h : AP M_L_weightAt b 1 [x0, x1, x2, .ref n, x4] (.ref n :: st) hi g Φ) : AP M_L_weightAt b 0 [x0, x1, x2, .ref n, x4] (st) hi g Φ := AP.aload_n (x := n) (i := 3) d_L_weightAt_0 rfl rfl h
theorem d_L_weightAt_1 : decode cL_weightAt 1 = .ok (.iconst 0, 1) := by decide +kernel
theorem s_L_weightAt_1 (h : AP M_L_weightAt b 2 [x0, x1, x2, x3, x4] (.int 0 :: st) hi g Φ) : AP M_L_weightAt b 1 [x0, x1, x2, x3, x4] (st) hi g Φ := AP.iconst (x := 0) d_L_weightAt_1 (by decide) h
theorem d_L_weightAt_2 : decode cL_weightAt 2 = .ok (.aload_n 0, 1) := by decide +kernel
theorem s_L_weightAt_2 {n : Nat} (h : AP M_L_weightAt b 3 [.ref n, x1, x2, x3, x4] (.ref n :: st) hi g Φ) : AP M_L_weightAt b 2 [.ref n, x1, x2, x3, x4] (st) hi g Φ := AP.aload_n (x := n) (i := 0) d_L_weightAt_2 rfl rfl h
theorem d_L_weightAt_3 : decode cL_weightAt 3 = .ok (.iload_n 1, 1) := by decide +kernel
theorem s_L_weightAt_3 {n : Int32} (h : AP M_L_weightAt b 4 [x0, .int n, x2, x3, x4] (.int n :: st) hi g Φ) : AP M_L_weightAt b 3 [x0, .int n, x2, x3, x4] (st) hi g Φ := AP.iload_n (x := n) (i := 1) d_L_weightAt_3 rfl rfl h
theorem d_L_weightAt_4 : decode cL_weightAt 4 = .ok (.iload_n 2, 1) := by decide +kernel
theorem s_L_weightAt_4 {n : Int32} (h : AP M_L_weightAt b 5 [x0, x1, .int n, x3, x4] (.int n :: st) hi g Φ) : AP M_L_weightAt b 4 [x0, x1, .int n, x3, x4] (st) hi g Φ := AP.iload_n (x := n) (i := 2) d_L_weightAt_4 rfl rfl h
theorem d_L_weightAt_5 : decode cL_weightAt 5 = .ok (.invokevirtual 56, 3) := by decide +kernel
theorem s_L_weightAt_5 {a0 : Int32} {a1 : Int32} {k : Nat} {r0 : Int32} {P : am_HI → Prop} (hI : am_Inv g) (hs : am_SH k = (0, 9)) (hk : k < 134) (hst : (st.map Value.category).sum ≤ 8) (hc : am_Cr M_X9_weightAt [.ref k, .int a0, .int a1] hi g (some (.int r0)) P) (h : ∀ hi' : am_HI, P hi' → AP M_L_weightAt b 8 [x0, x1, x2, x3, x4] (.int r0 :: st) hi' g Φ) : AP M_L_weightAt b 5 [x0, x1, x2, x3, x4] (.int a1 :: .int a0 :: .ref k :: st) hi g Φ := AP.callVr (As := [.int a0, .int a1]) (q := (RX9, TX9, 7)) hI hc k_L_weightAt_56 d_L_weightAt_5 rfl hs hk rfl rfl hst h
theorem d_L_weightAt_8 : decode cL_weightAt 8 = .ok (.i2l, 1) := by decide +kernel
theorem s_L_weightAt_8 {x : Int32} (h : AP M_L_weightAt b 9 [x0, x1, x2, x3, x4] (.long x.toInt64 :: st) hi g Φ) : AP M_L_weightAt b 8 [x0, x1, x2, x3, x4] (.int x :: st) hi g Φ := AP.i2l d_L_weightAt_8 h
theorem d_L_weightAt_9 : decode cL_weightAt 9 = .ok (.lastore, 1) := by decide +kernel
theorem s_L_weightAt_9 {k n j : Nat} {i : Int32} {x : Int64} (hI : am_Inv g) (hs : am_SH k = (4, n)) (hk : k < 134) (hn : n < 2 ^ 31) (hx : i = nI j) (hj : j < n) (h : AP M_L_weightAt b 10 [x0, x1, x2, x3, x4] (st) hi (am_upl g k j x) Φ) : AP M_L_weightAt b 9 [x0, x1, x2, x3, x4] (.long x :: .int i :: .ref k :: st) hi g Φ := AP.last d_L_weightAt_9 hs (hI.lt hk) hn hx hj h
theorem d_L_weightAt_10 : decode cL_weightAt 10 = .ok (.goto 11, 3) := by decide +kernel
theorem s_L_weightAt_10 (h : AP M_L_weightAt b 21 [x0, x1, x2, x3, x4] st hi g Φ) : AP M_L_weightAt b 10 [x0, x1, x2, x3, x4] st hi g Φ := AP.goto d_L_weightAt_10 (by decide) h
theorem d_L_weightAt_13 : decode cL_weightAt 13 = .ok (.astore 4, 2) := by decide +kernel
theorem s_L_weightAt_13 {n : Nat} (hc : x3.category = 1) (h : AP M_L_weightAt b 15 [x0, x1, x2, x3, .ref n] (st) hi g Φ) : AP M_L_weightAt b 13 [x0, x1, x2, x3, x4] (.ref n :: st) hi g Φ := AP.astore (x := n) (i := 4) d_L_weightAt_13 (by decide) (by simp [am_st, am_ci, am_cr, am_cl, am_cd, hc]) h
theorem d_L_weightAt_15 : decode cL_weightAt 15 = .ok (.iconst 1, 1) := by decide +kernel
theorem s_L_weightAt_15 (h : AP M_L_weightAt b 16 [x0, x1, x2, x3, x4] (.int 1 :: st) hi g Φ) : AP M_L_weightAt b 15 [x0, x1, x2, x3, x4] (st) hi g Φ := AP.iconst (x := 1) d_L_weightAt_15 (by decide) h
theorem d_L_weightAt_16 : decode cL_weightAt 16 = .ok (.ireturn, 1) := by decide +kernel
theorem s_L_weightAt_16 {x : Int32} (h : Φ (.ok (some (.int x))) hi g) : AP M_L_weightAt b 16 [x0, x1, x2, x3, x4] [.int x] hi g Φ := AP.iret d_L_weightAt_16 rfl h
theorem d_L_weightAt_17 : decode cL_weightAt 17 = .ok (.astore 4, 2) := by decide +kernel
theorem s_L_weightAt_17 {n : Nat} (hc : x3.category = 1) (h : AP M_L_weightAt b 19 [x0, x1, x2, x3, .ref n] (st) hi g Φ) : AP M_L_weightAt b 17 [x0, x1, x2, x3, x4] (.ref n :: st) hi g Φ := AP.astore (x := n) (i := 4) d_L_weightAt_17 (by decide) (by simp [am_st, am_ci, am_cr, am_cl, am_cd, hc]) h
theorem d_L_weightAt_19 : decode cL_weightAt 19 = .ok (.iconst 2, 1) := by decide +kernel
theorem s_L_weightAt_19 (h : AP M_L_weightAt b 20 [x0, x1, x2, x3, x4] (.int 2 :: st) hi g Φ) : AP M_L_weightAt b 19 [x0, x1, x2, x3, x4] (st) hi g Φ := AP.iconst (x := 2) d_L_weightAt_19 (by decide) h
theorem d_L_weightAt_20 : decode cL_weightAt 20 = .ok (.ireturn, 1) := by decide +kernel
theorem s_L_weightAt_20 {x : Int32} (h : Φ (.ok (some (.int x))) hi g) : AP M_L_weightAt b 20 [x0, x1, x2, x3, x4] [.int x] hi g Φ := AP.iret d_L_weightAt_20 rfl h
theorem d_L_weightAt_21 : decode cL_weightAt 21 = .ok (.iconst 0, 1) := by decide +kernel
theorem s_L_weightAt_21 (h : AP M_L_weightAt b 22 [x0, x1, x2, x3, x4] (.int 0 :: st) hi g Φ) : AP M_L_weightAt b 21 [x0, x1, x2, x3, x4] (st) hi g Φ := AP.iconst (x := 0) d_L_weightAt_21 (by decide) h
theorem d_L_weightAt_22 : decode cL_weightAt 22 = .ok (.ireturn, 1) := by decide +kernel
theorem s_L_weightAt_22 {x : Int32} (h : Φ (.ok (some (.int x))) hi g) : AP M_L_weightAt b 22 [x0, x1, x2, x3, x4] [.int x] hi g Φ := AP.iret d_L_weightAt_22 rfl h
end
section
variable {b : Nat × Nat} {st : List Value} {hi : am_HI} {g : am_G} {Φ : am_P} {x0 x1 x2 x3 x4 : Value}
theorem d_L_weightByCounting_0 : decode cL_weightByCounting 0 = .ok (.aload_n 3, 1) := by decide +kernel
theorem s_L_weightByCounting_0 {n : Nat} (h : AP M_L_weightByCounting b 1 [x0, x1, x2, .ref n, x4] (.ref n :: st) hi g Φ) : AP M_L_weightByCounting b 0 [x0, x1, x2, .ref n, x4] (st) hi g Φ := AP.aload_n (x := n) (i := 3) d_L_weightByCounting_0 rfl rfl h
theorem d_L_weightByCounting_1 : decode cL_weightByCounting 1 = .ok (.iconst 0, 1) := by decide +kernel
theorem s_L_weightByCounting_1 (h : AP M_L_weightByCounting b 2 [x0, x1, x2, x3, x4] (.int 0 :: st) hi g Φ) : AP M_L_weightByCounting b 1 [x0, x1, x2, x3, x4] (st) hi g Φ := AP.iconst (x := 0) d_L_weightByCounting_1 (by decide) h
theorem d_L_weightByCounting_2 : decode cL_weightByCounting 2 = .ok (.aload_n 0, 1) := by decide +kernel
theorem s_L_weightByCounting_2 {n : Nat} (h : AP M_L_weightByCounting b 3 [.ref n, x1, x2, x3, x4] (.ref n :: st) hi g Φ) : AP M_L_weightByCounting b 2 [.ref n, x1, x2, x3, x4] (st) hi g Φ := AP.aload_n (x := n) (i := 0) d_L_weightByCounting_2 rfl rfl h
theorem d_L_weightByCounting_3 : decode cL_weightByCounting 3 = .ok (.iload_n 1, 1) := by decide +kernel
theorem s_L_weightByCounting_3 {n : Int32} (h : AP M_L_weightByCounting b 4 [x0, .int n, x2, x3, x4] (.int n :: st) hi g Φ) : AP M_L_weightByCounting b 3 [x0, .int n, x2, x3, x4] (st) hi g Φ := AP.iload_n (x := n) (i := 1) d_L_weightByCounting_3 rfl rfl h
theorem d_L_weightByCounting_4 : decode cL_weightByCounting 4 = .ok (.iload_n 2, 1) := by decide +kernel
theorem s_L_weightByCounting_4 {n : Int32} (h : AP M_L_weightByCounting b 5 [x0, x1, .int n, x3, x4] (.int n :: st) hi g Φ) : AP M_L_weightByCounting b 4 [x0, x1, .int n, x3, x4] (st) hi g Φ := AP.iload_n (x := n) (i := 2) d_L_weightByCounting_4 rfl rfl h
theorem d_L_weightByCounting_5 : decode cL_weightByCounting 5 = .ok (.invokevirtual 59, 3) := by decide +kernel
theorem s_L_weightByCounting_5 {a0 : Int32} {a1 : Int32} {k : Nat} {r0 : Int32} {P : am_HI → Prop} (hI : am_Inv g) (hs : am_SH k = (0, 9)) (hk : k < 134) (hst : (st.map Value.category).sum ≤ 8) (hc : am_Cr M_X9_weightByCounting [.ref k, .int a0, .int a1] hi g (some (.int r0)) P) (h : ∀ hi' : am_HI, P hi' → AP M_L_weightByCounting b 8 [x0, x1, x2, x3, x4] (.int r0 :: st) hi' g Φ) : AP M_L_weightByCounting b 5 [x0, x1, x2, x3, x4] (.int a1 :: .int a0 :: .ref k :: st) hi g Φ := AP.callVr (As := [.int a0, .int a1]) (q := (RX9, TX9, 7)) hI hc k_L_weightByCounting_59 d_L_weightByCounting_5 rfl hs hk rfl rfl hst h
theorem d_L_weightByCounting_8 : decode cL_weightByCounting 8 = .ok (.i2l, 1) := by decide +kernel
theorem s_L_weightByCounting_8 {x : Int32} (h : AP M_L_weightByCounting b 9 [x0, x1, x2, x3, x4] (.long x.toInt64 :: st) hi g Φ) : AP M_L_weightByCounting b 8 [x0, x1, x2, x3, x4] (.int x :: st) hi g Φ := AP.i2l d_L_weightByCounting_8 h
theorem d_L_weightByCounting_9 : decode cL_weightByCounting 9 = .ok (.lastore, 1) := by decide +kernel
theorem s_L_weightByCounting_9 {k n j : Nat} {i : Int32} {x : Int64} (hI : am_Inv g) (hs : am_SH k = (4, n)) (hk : k < 134) (hn : n < 2 ^ 31) (hx : i = nI j) (hj : j < n) (h : AP M_L_weightByCounting b 10 [x0, x1, x2, x3, x4] (st) hi (am_upl g k j x) Φ) : AP M_L_weightByCounting b 9 [x0, x1, x2, x3, x4] (.long x :: .int i :: .ref k :: st) hi g Φ := AP.last d_L_weightByCounting_9 hs (hI.lt hk) hn hx hj h
theorem d_L_weightByCounting_10 : decode cL_weightByCounting 10 = .ok (.goto 11, 3) := by decide +kernel
theorem s_L_weightByCounting_10 (h : AP M_L_weightByCounting b 21 [x0, x1, x2, x3, x4] st hi g Φ) : AP M_L_weightByCounting b 10 [x0, x1, x2, x3, x4] st hi g Φ := AP.goto d_L_weightByCounting_10 (by decide) h
theorem d_L_weightByCounting_13 : decode cL_weightByCounting 13 = .ok (.astore 4, 2) := by decide +kernel
theorem s_L_weightByCounting_13 {n : Nat} (hc : x3.category = 1) (h : AP M_L_weightByCounting b 15 [x0, x1, x2, x3, .ref n] (st) hi g Φ) : AP M_L_weightByCounting b 13 [x0, x1, x2, x3, x4] (.ref n :: st) hi g Φ := AP.astore (x := n) (i := 4) d_L_weightByCounting_13 (by decide) (by simp [am_st, am_ci, am_cr, am_cl, am_cd, hc]) h
theorem d_L_weightByCounting_15 : decode cL_weightByCounting 15 = .ok (.iconst 1, 1) := by decide +kernel
theorem s_L_weightByCounting_15 (h : AP M_L_weightByCounting b 16 [x0, x1, x2, x3, x4] (.int 1 :: st) hi g Φ) : AP M_L_weightByCounting b 15 [x0, x1, x2, x3, x4] (st) hi g Φ := AP.iconst (x := 1) d_L_weightByCounting_15 (by decide) h
theorem d_L_weightByCounting_16 : decode cL_weightByCounting 16 = .ok (.ireturn, 1) := by decide +kernel
theorem s_L_weightByCounting_16 {x : Int32} (h : Φ (.ok (some (.int x))) hi g) : AP M_L_weightByCounting b 16 [x0, x1, x2, x3, x4] [.int x] hi g Φ := AP.iret d_L_weightByCounting_16 rfl h
theorem d_L_weightByCounting_17 : decode cL_weightByCounting 17 = .ok (.astore 4, 2) := by decide +kernel
theorem s_L_weightByCounting_17 {n : Nat} (hc : x3.category = 1) (h : AP M_L_weightByCounting b 19 [x0, x1, x2, x3, .ref n] (st) hi g Φ) : AP M_L_weightByCounting b 17 [x0, x1, x2, x3, x4] (.ref n :: st) hi g Φ := AP.astore (x := n) (i := 4) d_L_weightByCounting_17 (by decide) (by simp [am_st, am_ci, am_cr, am_cl, am_cd, hc]) h
theorem d_L_weightByCounting_19 : decode cL_weightByCounting 19 = .ok (.iconst 2, 1) := by decide +kernel
theorem s_L_weightByCounting_19 (h : AP M_L_weightByCounting b 20 [x0, x1, x2, x3, x4] (.int 2 :: st) hi g Φ) : AP M_L_weightByCounting b 19 [x0, x1, x2, x3, x4] (st) hi g Φ := AP.iconst (x := 2) d_L_weightByCounting_19 (by decide) h
theorem d_L_weightByCounting_20 : decode cL_weightByCounting 20 = .ok (.ireturn, 1) := by decide +kernel
theorem s_L_weightByCounting_20 {x : Int32} (h : Φ (.ok (some (.int x))) hi g) : AP M_L_weightByCounting b 20 [x0, x1, x2, x3, x4] [.int x] hi g Φ := AP.iret d_L_weightByCounting_20 rfl h
theorem d_L_weightByCounting_21 : decode cL_weightByCounting 21 = .ok (.iconst 0, 1) := by decide +kernel
theorem s_L_weightByCounting_21 (h : AP M_L_weightByCounting b 22 [x0, x1, x2, x3, x4] (.int 0 :: st) hi g Φ) : AP M_L_weightByCounting b 21 [x0, x1, x2, x3, x4] (st) hi g Φ := AP.iconst (x := 0) d_L_weightByCounting_21 (by decide) h
theorem d_L_weightByCounting_22 : decode cL_weightByCounting 22 = .ok (.ireturn, 1) := by decide +kernel
theorem s_L_weightByCounting_22 {x : Int32} (h : Φ (.ok (some (.int x))) hi g) : AP M_L_weightByCounting b 22 [x0, x1, x2, x3, x4] [.int x] hi g Φ := AP.iret d_L_weightByCounting_22 rfl h
end
section
variable {b : Nat × Nat} {st : List Value} {hi : am_HI} {g : am_G} {Φ : am_P} {x0 x1 x2 x3 : Value}
theorem d_L_whyBest_0 : decode cL_whyBest 0 = .ok (.aload_n 2, 1) := by decide +kernel
theorem s_L_whyBest_0 {n : Nat} (h : AP M_L_whyBest b 1 [x0, x1, .ref n, x3] (.ref n :: st) hi g Φ) : AP M_L_whyBest b 0 [x0, x1, .ref n, x3] (st) hi g Φ := AP.aload_n (x := n) (i := 2) d_L_whyBest_0 rfl rfl h
theorem d_L_whyBest_1 : decode cL_whyBest 1 = .ok (.iconst 0, 1) := by decide +kernel
theorem s_L_whyBest_1 (h : AP M_L_whyBest b 2 [x0, x1, x2, x3] (.int 0 :: st) hi g Φ) : AP M_L_whyBest b 1 [x0, x1, x2, x3] (st) hi g Φ := AP.iconst (x := 0) d_L_whyBest_1 (by decide) h
theorem d_L_whyBest_2 : decode cL_whyBest 2 = .ok (.aload_n 0, 1) := by decide +kernel
theorem s_L_whyBest_2 {n : Nat} (h : AP M_L_whyBest b 3 [.ref n, x1, x2, x3] (.ref n :: st) hi g Φ) : AP M_L_whyBest b 2 [.ref n, x1, x2, x3] (st) hi g Φ := AP.aload_n (x := n) (i := 0) d_L_whyBest_2 rfl rfl h
theorem d_L_whyBest_3 : decode cL_whyBest 3 = .ok (.iload_n 1, 1) := by decide +kernel
theorem s_L_whyBest_3 {n : Int32} (h : AP M_L_whyBest b 4 [x0, .int n, x2, x3] (.int n :: st) hi g Φ) : AP M_L_whyBest b 3 [x0, .int n, x2, x3] (st) hi g Φ := AP.iload_n (x := n) (i := 1) d_L_whyBest_3 rfl rfl h
theorem d_L_whyBest_4 : decode cL_whyBest 4 = .ok (.invokevirtual 86, 3) := by decide +kernel
theorem s_L_whyBest_4 {a0 : Int32} {k : Nat} {r0 : Int32} {P : am_HI → Prop} (hI : am_Inv g) (hs : am_SH k = (0, 9)) (hk : k < 134) (hst : (st.map Value.category).sum ≤ 8) (hc : am_Cr M_X9_whyBest [.ref k, .int a0] hi g (some (.int r0)) P) (h : ∀ hi' : am_HI, P hi' → AP M_L_whyBest b 7 [x0, x1, x2, x3] (.int r0 :: st) hi' g Φ) : AP M_L_whyBest b 4 [x0, x1, x2, x3] (.int a0 :: .ref k :: st) hi g Φ := AP.callVr (As := [.int a0]) (q := (RX9, TX9, 7)) hI hc k_L_whyBest_86 d_L_whyBest_4 rfl hs hk rfl rfl hst h
theorem d_L_whyBest_7 : decode cL_whyBest 7 = .ok (.i2l, 1) := by decide +kernel
theorem s_L_whyBest_7 {x : Int32} (h : AP M_L_whyBest b 8 [x0, x1, x2, x3] (.long x.toInt64 :: st) hi g Φ) : AP M_L_whyBest b 7 [x0, x1, x2, x3] (.int x :: st) hi g Φ := AP.i2l d_L_whyBest_7 h
theorem d_L_whyBest_8 : decode cL_whyBest 8 = .ok (.lastore, 1) := by decide +kernel
theorem s_L_whyBest_8 {k n j : Nat} {i : Int32} {x : Int64} (hI : am_Inv g) (hs : am_SH k = (4, n)) (hk : k < 134) (hn : n < 2 ^ 31) (hx : i = nI j) (hj : j < n) (h : AP M_L_whyBest b 9 [x0, x1, x2, x3] (st) hi (am_upl g k j x) Φ) : AP M_L_whyBest b 8 [x0, x1, x2, x3] (.long x :: .int i :: .ref k :: st) hi g Φ := AP.last d_L_whyBest_8 hs (hI.lt hk) hn hx hj h
theorem d_L_whyBest_9 : decode cL_whyBest 9 = .ok (.goto 6, 3) := by decide +kernel
theorem s_L_whyBest_9 (h : AP M_L_whyBest b 15 [x0, x1, x2, x3] st hi g Φ) : AP M_L_whyBest b 9 [x0, x1, x2, x3] st hi g Φ := AP.goto d_L_whyBest_9 (by decide) h
theorem d_L_whyBest_12 : decode cL_whyBest 12 = .ok (.astore_n 3, 1) := by decide +kernel
theorem s_L_whyBest_12 {n : Nat} (hc : x2.category = 1) (h : AP M_L_whyBest b 13 [x0, x1, x2, .ref n] (st) hi g Φ) : AP M_L_whyBest b 12 [x0, x1, x2, x3] (.ref n :: st) hi g Φ := AP.astore_n (x := n) (i := 3) d_L_whyBest_12 rfl (by decide) (by simp [am_st, am_ci, am_cr, am_cl, am_cd, hc]) h
theorem d_L_whyBest_13 : decode cL_whyBest 13 = .ok (.iconst 1, 1) := by decide +kernel
theorem s_L_whyBest_13 (h : AP M_L_whyBest b 14 [x0, x1, x2, x3] (.int 1 :: st) hi g Φ) : AP M_L_whyBest b 13 [x0, x1, x2, x3] (st) hi g Φ := AP.iconst (x := 1) d_L_whyBest_13 (by decide) h
theorem d_L_whyBest_14 : decode cL_whyBest 14 = .ok (.ireturn, 1) := by decide +kernel
theorem s_L_whyBest_14 {x : Int32} (h : Φ (.ok (some (.int x))) hi g) : AP M_L_whyBest b 14 [x0, x1, x2, x3] [.int x] hi g Φ := AP.iret d_L_whyBest_14 rfl h
theorem d_L_whyBest_15 : decode cL_whyBest 15 = .ok (.iconst 0, 1) := by decide +kernel
theorem s_L_whyBest_15 (h : AP M_L_whyBest b 16 [x0, x1, x2, x3] (.int 0 :: st) hi g Φ) : AP M_L_whyBest b 15 [x0, x1, x2, x3] (st) hi g Φ := AP.iconst (x := 0) d_L_whyBest_15 (by decide) h
theorem d_L_whyBest_16 : decode cL_whyBest 16 = .ok (.ireturn, 1) := by decide +kernel
theorem s_L_whyBest_16 {x : Int32} (h : Φ (.ok (some (.int x))) hi g) : AP M_L_whyBest b 16 [x0, x1, x2, x3] [.int x] hi g Φ := AP.iret d_L_whyBest_16 rfl h
end
section
variable {b : Nat × Nat} {st : List Value} {hi : am_HI} {g : am_G} {Φ : am_P} {x0 x1 x2 x3 x4 x5 x6 x7 x8 : Value}
theorem d_L_law_0 : decode code 0 = .ok (.new 8, 3) := by decide +kernel
-- s_L_law_0: .new 8
theorem d_L_law_3 : decode code 3 = .ok (.dup, 1) := by decide +kernel
theorem s_L_law_3 {u : Value} (hu : u.category = 1) (h : AP M_L_law b 4 [x0, x1, x2, x3, x4, x5, x6, x7, x8] (u :: u :: st) hi g Φ) : AP M_L_law b 3 [x0, x1, x2, x3, x4, x5, x6, x7, x8] (u :: st) hi g Φ := AP.dup d_L_law_3 hu h
theorem d_L_law_4 : decode code 4 = .ok (.invokespecial 131, 3) := by decide +kernel
-- s_L_law_4: .invokespecial 131
theorem d_L_law_7 : decode code 7 = .ok (.astore_n 1, 1) := by decide +kernel
theorem s_L_law_7 {n : Nat} (hc : x0.category = 1) (h : AP M_L_law b 8 [x0, .ref n, x2, x3, x4, x5, x6, x7, x8] (st) hi g Φ) : AP M_L_law b 7 [x0, x1, x2, x3, x4, x5, x6, x7, x8] (.ref n :: st) hi g Φ := AP.astore_n (x := n) (i := 1) d_L_law_7 rfl (by decide) (by simp [am_st, am_ci, am_cr, am_cl, am_cd, hc]) h
theorem d_L_law_8 : decode code 8 = .ok (.new 132, 3) := by decide +kernel
-- s_L_law_8: .new 132
theorem d_L_law_11 : decode code 11 = .ok (.dup, 1) := by decide +kernel
theorem s_L_law_11 {u : Value} (hu : u.category = 1) (h : AP M_L_law b 12 [x0, x1, x2, x3, x4, x5, x6, x7, x8] (u :: u :: st) hi g Φ) : AP M_L_law b 11 [x0, x1, x2, x3, x4, x5, x6, x7, x8] (u :: st) hi g Φ := AP.dup d_L_law_11 hu h
theorem d_L_law_12 : decode code 12 = .ok (.invokespecial 134, 3) := by decide +kernel
-- s_L_law_12: .invokespecial 134
theorem d_L_law_15 : decode code 15 = .ok (.astore_n 2, 1) := by decide +kernel
theorem s_L_law_15 {n : Nat} (hc : x1.category = 1) (h : AP M_L_law b 16 [x0, x1, .ref n, x3, x4, x5, x6, x7, x8] (st) hi g Φ) : AP M_L_law b 15 [x0, x1, x2, x3, x4, x5, x6, x7, x8] (.ref n :: st) hi g Φ := AP.astore_n (x := n) (i := 2) d_L_law_15 rfl (by decide) (by simp [am_st, am_ci, am_cr, am_cl, am_cd, hc]) h
theorem d_L_law_16 : decode code 16 = .ok (.iconst 1, 1) := by decide +kernel
theorem s_L_law_16 (h : AP M_L_law b 17 [x0, x1, x2, x3, x4, x5, x6, x7, x8] (.int 1 :: st) hi g Φ) : AP M_L_law b 16 [x0, x1, x2, x3, x4, x5, x6, x7, x8] (st) hi g Φ := AP.iconst (x := 1) d_L_law_16 (by decide) h
theorem d_L_law_17 : decode code 17 = .ok (.newarray .long, 2) := by decide +kernel
-- s_L_law_17: .newarray .long
theorem d_L_law_19 : decode code 19 = .ok (.astore_n 3, 1) := by decide +kernel
theorem s_L_law_19 {n : Nat} (hc : x2.category = 1) (h : AP M_L_law b 20 [x0, x1, x2, .ref n, x4, x5, x6, x7, x8] (st) hi g Φ) : AP M_L_law b 19 [x0, x1, x2, x3, x4, x5, x6, x7, x8] (.ref n :: st) hi g Φ := AP.astore_n (x := n) (i := 3) d_L_law_19 rfl (by decide) (by simp [am_st, am_ci, am_cr, am_cl, am_cd, hc]) h
theorem d_L_law_20 : decode code 20 = .ok (.iconst 0, 1) := by decide +kernel
theorem s_L_law_20 (h : AP M_L_law b 21 [x0, x1, x2, x3, x4, x5, x6, x7, x8] (.int 0 :: st) hi g Φ) : AP M_L_law b 20 [x0, x1, x2, x3, x4, x5, x6, x7, x8] (st) hi g Φ := AP.iconst (x := 0) d_L_law_20 (by decide) h
theorem d_L_law_21 : decode code 21 = .ok (.istore 4, 2) := by decide +kernel
theorem s_L_law_21 {n : Int32} (hc : x3.category = 1) (h : AP M_L_law b 23 [x0, x1, x2, x3, .int n, x5, x6, x7, x8] (st) hi g Φ) : AP M_L_law b 21 [x0, x1, x2, x3, x4, x5, x6, x7, x8] (.int n :: st) hi g Φ := AP.istore (x := n) (i := 4) d_L_law_21 (by decide) (by simp [am_st, am_ci, am_cr, am_cl, am_cd, hc]) h
theorem d_L_law_23 : decode code 23 = .ok (.iload 4, 2) := by decide +kernel
theorem s_L_law_23 {n : Int32} (h : AP M_L_law b 25 [x0, x1, x2, x3, .int n, x5, x6, x7, x8] (.int n :: st) hi g Φ) : AP M_L_law b 23 [x0, x1, x2, x3, .int n, x5, x6, x7, x8] (st) hi g Φ := AP.iload (x := n) (i := 4) d_L_law_23 rfl h
theorem d_L_law_25 : decode code 25 = .ok (.aload_n 0, 1) := by decide +kernel
theorem s_L_law_25 {n : Nat} (h : AP M_L_law b 26 [.ref n, x1, x2, x3, x4, x5, x6, x7, x8] (.ref n :: st) hi g Φ) : AP M_L_law b 25 [.ref n, x1, x2, x3, x4, x5, x6, x7, x8] (st) hi g Φ := AP.aload_n (x := n) (i := 0) d_L_law_25 rfl rfl h
theorem d_L_law_26 : decode code 26 = .ok (.arraylength, 1) := by decide +kernel
-- s_L_law_26: .arraylength
theorem d_L_law_27 : decode code 27 = .ok (.iconst 4, 1) := by decide +kernel
theorem s_L_law_27 (h : AP M_L_law b 28 [x0, x1, x2, x3, x4, x5, x6, x7, x8] (.int 4 :: st) hi g Φ) : AP M_L_law b 27 [x0, x1, x2, x3, x4, x5, x6, x7, x8] (st) hi g Φ := AP.iconst (x := 4) d_L_law_27 (by decide) h
theorem d_L_law_28 : decode code 28 = .ok (.isub, 1) := by decide +kernel
theorem s_L_law_28 {x y : Int32} (h : AP M_L_law b 29 [x0, x1, x2, x3, x4, x5, x6, x7, x8] (.int (x - y) :: st) hi g Φ) : AP M_L_law b 28 [x0, x1, x2, x3, x4, x5, x6, x7, x8] (.int y :: .int x :: st) hi g Φ := AP.isub d_L_law_28 h
theorem d_L_law_29 : decode code 29 = .ok (.if_icmp .gt 2728, 3) := by decide +kernel
theorem s_L_law_29 {x y : Int32} (h1 : y < x → AP M_L_law b 2757 [x0, x1, x2, x3, x4, x5, x6, x7, x8] st hi g Φ) (h2 : ¬ y < x → AP M_L_law b 32 [x0, x1, x2, x3, x4, x5, x6, x7, x8] st hi g Φ) : AP M_L_law b 29 [x0, x1, x2, x3, x4, x5, x6, x7, x8] (.int y :: .int x :: st) hi g Φ := AP.icmp_gt d_L_law_29 (by decide) h1 h2
theorem d_L_law_32 : decode code 32 = .ok (.aload_n 0, 1) := by decide +kernel
theorem s_L_law_32 {n : Nat} (h : AP M_L_law b 33 [.ref n, x1, x2, x3, x4, x5, x6, x7, x8] (.ref n :: st) hi g Φ) : AP M_L_law b 32 [.ref n, x1, x2, x3, x4, x5, x6, x7, x8] (st) hi g Φ := AP.aload_n (x := n) (i := 0) d_L_law_32 rfl rfl h
theorem d_L_law_33 : decode code 33 = .ok (.iload 4, 2) := by decide +kernel
theorem s_L_law_33 {n : Int32} (h : AP M_L_law b 35 [x0, x1, x2, x3, .int n, x5, x6, x7, x8] (.int n :: st) hi g Φ) : AP M_L_law b 33 [x0, x1, x2, x3, .int n, x5, x6, x7, x8] (st) hi g Φ := AP.iload (x := n) (i := 4) d_L_law_33 rfl h
theorem d_L_law_35 : decode code 35 = .ok (.iaload, 1) := by decide +kernel
theorem s_L_law_35 {k n j : Nat} {i : Int32} (hI : am_Inv g) (hs : am_SH k = (1, n)) (hk : k < 134) (hn : n < 2 ^ 31) (hx : i = nI j) (hj : j < n) (h : AP M_L_law b 36 [x0, x1, x2, x3, x4, x5, x6, x7, x8] (.int (hi k j) :: st) hi g Φ) : AP M_L_law b 35 [x0, x1, x2, x3, x4, x5, x6, x7, x8] (.int i :: .ref k :: st) hi g Φ := AP.iald d_L_law_35 hs (hI.lt hk) hn hx hj h
theorem d_L_law_36 : decode code 36 = .ok (.bipush 63, 2) := by decide +kernel
theorem s_L_law_36 (h : AP M_L_law b 38 [x0, x1, x2, x3, x4, x5, x6, x7, x8] (.int 63 :: st) hi g Φ) : AP M_L_law b 36 [x0, x1, x2, x3, x4, x5, x6, x7, x8] (st) hi g Φ := AP.bipush (x := 63) d_L_law_36 (by decide) h
theorem d_L_law_38 : decode code 38 = .ok (.iand, 1) := by decide +kernel
theorem s_L_law_38 {x y : Int32} (h : AP M_L_law b 39 [x0, x1, x2, x3, x4, x5, x6, x7, x8] (.int (x &&& y) :: st) hi g Φ) : AP M_L_law b 38 [x0, x1, x2, x3, x4, x5, x6, x7, x8] (.int y :: .int x :: st) hi g Φ := AP.iand d_L_law_38 h
theorem d_L_law_39 : decode code 39 = .ok (.tableswitch 2712 0 56 #[241, 297, 377, 445, 489, 502, 558, 614, 682, 745, 789, 857, 870, 926, 939, 952, 965, 978, 1034, 1075, 1143, 1211, 1279, 1347, 1403, 1459, 1472, 1485, 1541, 1621, 1689, 1745, 1801, 1814, 1827, 1883, 1939, 1952, 2008, 2064, 2120, 2133, 2196, 2252, 2308, 2321, 2334, 2390, 2403, 2416, 2472, 2528, 2584, 2597, 2610, 2654, 2698], 241) := by decide +kernel
-- s_L_law_39: .tableswitch 2712 0 56 #[241, 297, 377, 445, 489, 502, 558, 614, 682, 745, 789, 857, 870, 926, 939, 952, 965, 978, 1034, 1075, 1143, 1211, 1279, 1347, 1403, 1459, 1472, 1485, 1541, 1621, 1689, 1745, 1801, 1814, 1827, 1883, 1939, 1952, 2008, 2064, 2120, 2133, 2196, 2252, 2308, 2321, 2334, 2390, 2403, 2416, 2472, 2528, 2584, 2597, 2610, 2654, 2698]
theorem d_L_law_280 : decode code 280 = .ok (.aload_n 1, 1) := by decide +kernel
theorem s_L_law_280 {n : Nat} (h : AP M_L_law b 281 [x0, .ref n, x2, x3, x4, x5, x6, x7, x8] (.ref n :: st) hi g Φ) : AP M_L_law b 280 [x0, .ref n, x2, x3, x4, x5, x6, x7, x8] (st) hi g Φ := AP.aload_n (x := n) (i := 1) d_L_law_280 rfl rfl h
theorem d_L_law_281 : decode code 281 = .ok (.aload_n 0, 1) := by decide +kernel
theorem s_L_law_281 {n : Nat} (h : AP M_L_law b 282 [.ref n, x1, x2, x3, x4, x5, x6, x7, x8] (.ref n :: st) hi g Φ) : AP M_L_law b 281 [.ref n, x1, x2, x3, x4, x5, x6, x7, x8] (st) hi g Φ := AP.aload_n (x := n) (i := 0) d_L_law_281 rfl rfl h
theorem d_L_law_282 : decode code 282 = .ok (.iload 4, 2) := by decide +kernel
theorem s_L_law_282 {n : Int32} (h : AP M_L_law b 284 [x0, x1, x2, x3, .int n, x5, x6, x7, x8] (.int n :: st) hi g Φ) : AP M_L_law b 282 [x0, x1, x2, x3, .int n, x5, x6, x7, x8] (st) hi g Φ := AP.iload (x := n) (i := 4) d_L_law_282 rfl h
theorem d_L_law_284 : decode code 284 = .ok (.iconst 1, 1) := by decide +kernel
theorem s_L_law_284 (h : AP M_L_law b 285 [x0, x1, x2, x3, x4, x5, x6, x7, x8] (.int 1 :: st) hi g Φ) : AP M_L_law b 284 [x0, x1, x2, x3, x4, x5, x6, x7, x8] (st) hi g Φ := AP.iconst (x := 1) d_L_law_284 (by decide) h
theorem d_L_law_285 : decode code 285 = .ok (.iadd, 1) := by decide +kernel
theorem s_L_law_285 {x y : Int32} (h : AP M_L_law b 286 [x0, x1, x2, x3, x4, x5, x6, x7, x8] (.int (x + y) :: st) hi g Φ) : AP M_L_law b 285 [x0, x1, x2, x3, x4, x5, x6, x7, x8] (.int y :: .int x :: st) hi g Φ := AP.iadd d_L_law_285 h
theorem d_L_law_286 : decode code 286 = .ok (.iaload, 1) := by decide +kernel
theorem s_L_law_286 {k n j : Nat} {i : Int32} (hI : am_Inv g) (hs : am_SH k = (1, n)) (hk : k < 134) (hn : n < 2 ^ 31) (hx : i = nI j) (hj : j < n) (h : AP M_L_law b 287 [x0, x1, x2, x3, x4, x5, x6, x7, x8] (.int (hi k j) :: st) hi g Φ) : AP M_L_law b 286 [x0, x1, x2, x3, x4, x5, x6, x7, x8] (.int i :: .ref k :: st) hi g Φ := AP.iald d_L_law_286 hs (hI.lt hk) hn hx hj h
theorem d_L_law_287 : decode code 287 = .ok (.aload_n 3, 1) := by decide +kernel
theorem s_L_law_287 {n : Nat} (h : AP M_L_law b 288 [x0, x1, x2, .ref n, x4, x5, x6, x7, x8] (.ref n :: st) hi g Φ) : AP M_L_law b 287 [x0, x1, x2, .ref n, x4, x5, x6, x7, x8] (st) hi g Φ := AP.aload_n (x := n) (i := 3) d_L_law_287 rfl rfl h
theorem d_L_law_288 : decode code 288 = .ok (.invokestatic 135, 3) := by decide +kernel
-- s_L_law_288: a call apart
theorem d_L_law_291 : decode code 291 = .ok (.istore 5, 2) := by decide +kernel
theorem s_L_law_291 {n : Int32} (hc : x4.category = 1) (h : AP M_L_law b 293 [x0, x1, x2, x3, x4, .int n, x6, x7, x8] (st) hi g Φ) : AP M_L_law b 291 [x0, x1, x2, x3, x4, x5, x6, x7, x8] (.int n :: st) hi g Φ := AP.istore (x := n) (i := 5) d_L_law_291 (by decide) (by simp [am_st, am_ci, am_cr, am_cl, am_cd, hc]) h
theorem d_L_law_293 : decode code 293 = .ok (.aload_n 2, 1) := by decide +kernel
theorem s_L_law_293 {n : Nat} (h : AP M_L_law b 294 [x0, x1, .ref n, x3, x4, x5, x6, x7, x8] (.ref n :: st) hi g Φ) : AP M_L_law b 293 [x0, x1, .ref n, x3, x4, x5, x6, x7, x8] (st) hi g Φ := AP.aload_n (x := n) (i := 2) d_L_law_293 rfl rfl h
theorem d_L_law_294 : decode code 294 = .ok (.aload_n 0, 1) := by decide +kernel
theorem s_L_law_294 {n : Nat} (h : AP M_L_law b 295 [.ref n, x1, x2, x3, x4, x5, x6, x7, x8] (.ref n :: st) hi g Φ) : AP M_L_law b 294 [.ref n, x1, x2, x3, x4, x5, x6, x7, x8] (st) hi g Φ := AP.aload_n (x := n) (i := 0) d_L_law_294 rfl rfl h
theorem d_L_law_295 : decode code 295 = .ok (.iload 4, 2) := by decide +kernel
theorem s_L_law_295 {n : Int32} (h : AP M_L_law b 297 [x0, x1, x2, x3, .int n, x5, x6, x7, x8] (.int n :: st) hi g Φ) : AP M_L_law b 295 [x0, x1, x2, x3, .int n, x5, x6, x7, x8] (st) hi g Φ := AP.iload (x := n) (i := 4) d_L_law_295 rfl h
theorem d_L_law_297 : decode code 297 = .ok (.iconst 1, 1) := by decide +kernel
theorem s_L_law_297 (h : AP M_L_law b 298 [x0, x1, x2, x3, x4, x5, x6, x7, x8] (.int 1 :: st) hi g Φ) : AP M_L_law b 297 [x0, x1, x2, x3, x4, x5, x6, x7, x8] (st) hi g Φ := AP.iconst (x := 1) d_L_law_297 (by decide) h
theorem d_L_law_298 : decode code 298 = .ok (.iadd, 1) := by decide +kernel
theorem s_L_law_298 {x y : Int32} (h : AP M_L_law b 299 [x0, x1, x2, x3, x4, x5, x6, x7, x8] (.int (x + y) :: st) hi g Φ) : AP M_L_law b 298 [x0, x1, x2, x3, x4, x5, x6, x7, x8] (.int y :: .int x :: st) hi g Φ := AP.iadd d_L_law_298 h
theorem d_L_law_299 : decode code 299 = .ok (.iaload, 1) := by decide +kernel
theorem s_L_law_299 {k n j : Nat} {i : Int32} (hI : am_Inv g) (hs : am_SH k = (1, n)) (hk : k < 134) (hn : n < 2 ^ 31) (hx : i = nI j) (hj : j < n) (h : AP M_L_law b 300 [x0, x1, x2, x3, x4, x5, x6, x7, x8] (.int (hi k j) :: st) hi g Φ) : AP M_L_law b 299 [x0, x1, x2, x3, x4, x5, x6, x7, x8] (.int i :: .ref k :: st) hi g Φ := AP.iald d_L_law_299 hs (hI.lt hk) hn hx hj h
theorem d_L_law_300 : decode code 300 = .ok (.invokevirtual 140, 3) := by decide +kernel
theorem s_L_law_300 {a0 : Int32} {k : Nat} {r0 : Int32} {P : am_HI → Prop} (hI : am_Inv g) (hs : am_SH k = (0, 10)) (hk : k < 134) (hst : (st.map Value.category).sum ≤ 8) (hc : am_Cr M_X10_add [.ref k, .int a0] hi g (some (.int r0)) P) (h : ∀ hi' : am_HI, P hi' → AP M_L_law b 303 [x0, x1, x2, x3, x4, x5, x6, x7, x8] (.int r0 :: st) hi' g Φ) : AP M_L_law b 300 [x0, x1, x2, x3, x4, x5, x6, x7, x8] (.int a0 :: .ref k :: st) hi g Φ := AP.callVr (As := [.int a0]) (q := (RX10, TX10, 15)) hI hc k_L_law_140 d_L_law_300 rfl hs hk rfl rfl hst h
theorem d_L_law_303 : decode code 303 = .ok (.istore 6, 2) := by decide +kernel
theorem s_L_law_303 {n : Int32} (hc : x5.category = 1) (h : AP M_L_law b 305 [x0, x1, x2, x3, x4, x5, .int n, x7, x8] (st) hi g Φ) : AP M_L_law b 303 [x0, x1, x2, x3, x4, x5, x6, x7, x8] (.int n :: st) hi g Φ := AP.istore (x := n) (i := 6) d_L_law_303 (by decide) (by simp [am_st, am_ci, am_cr, am_cl, am_cd, hc]) h
theorem d_L_law_305 : decode code 305 = .ok (.aload_n 2, 1) := by decide +kernel
theorem s_L_law_305 {n : Nat} (h : AP M_L_law b 306 [x0, x1, .ref n, x3, x4, x5, x6, x7, x8] (.ref n :: st) hi g Φ) : AP M_L_law b 305 [x0, x1, .ref n, x3, x4, x5, x6, x7, x8] (st) hi g Φ := AP.aload_n (x := n) (i := 2) d_L_law_305 rfl rfl h
theorem d_L_law_306 : decode code 306 = .ok (.invokevirtual 141, 3) := by decide +kernel
theorem s_L_law_306  {k : Nat} {r0 : Int32} {P : am_HI → Prop} (hI : am_Inv g) (hs : am_SH k = (0, 10)) (hk : k < 134) (hst : (st.map Value.category).sum ≤ 8) (hc : am_Cr M_X10_thrown [.ref k] hi g (some (.int r0)) P) (h : ∀ hi' : am_HI, P hi' → AP M_L_law b 309 [x0, x1, x2, x3, x4, x5, x6, x7, x8] (.int r0 :: st) hi' g Φ) : AP M_L_law b 306 [x0, x1, x2, x3, x4, x5, x6, x7, x8] (.ref k :: st) hi g Φ := AP.callVr (As := []) (q := (RX10, TX10, 15)) hI hc k_L_law_141 d_L_law_306 rfl hs hk rfl rfl hst h
theorem d_L_law_309 : decode code 309 = .ok (.iload 5, 2) := by decide +kernel
theorem s_L_law_309 {n : Int32} (h : AP M_L_law b 311 [x0, x1, x2, x3, x4, .int n, x6, x7, x8] (.int n :: st) hi g Φ) : AP M_L_law b 309 [x0, x1, x2, x3, x4, .int n, x6, x7, x8] (st) hi g Φ := AP.iload (x := n) (i := 5) d_L_law_309 rfl h
theorem d_L_law_311 : decode code 311 = .ok (.if_icmp .eq 5, 3) := by decide +kernel
theorem s_L_law_311 {x y : Int32} (h1 : x = y → AP M_L_law b 316 [x0, x1, x2, x3, x4, x5, x6, x7, x8] st hi g Φ) (h2 : ¬ x = y → AP M_L_law b 314 [x0, x1, x2, x3, x4, x5, x6, x7, x8] st hi g Φ) : AP M_L_law b 311 [x0, x1, x2, x3, x4, x5, x6, x7, x8] (.int y :: .int x :: st) hi g Φ := AP.icmp_eq d_L_law_311 (by decide) h1 h2
theorem d_L_law_314 : decode code 314 = .ok (.iconst 0, 1) := by decide +kernel
theorem s_L_law_314 (h : AP M_L_law b 315 [x0, x1, x2, x3, x4, x5, x6, x7, x8] (.int 0 :: st) hi g Φ) : AP M_L_law b 314 [x0, x1, x2, x3, x4, x5, x6, x7, x8] (st) hi g Φ := AP.iconst (x := 0) d_L_law_314 (by decide) h
theorem d_L_law_315 : decode code 315 = .ok (.ireturn, 1) := by decide +kernel
theorem s_L_law_315 {x : Int32} (hx : x = 0 ∨ x = 1) (h : Φ (.ok (some (.int x))) hi g) : AP M_L_law b 315 [x0, x1, x2, x3, x4, x5, x6, x7, x8] [.int x] hi g Φ := AP.zret d_L_law_315 rfl hx h
theorem d_L_law_316 : decode code 316 = .ok (.iload 5, 2) := by decide +kernel
theorem s_L_law_316 {n : Int32} (h : AP M_L_law b 318 [x0, x1, x2, x3, x4, .int n, x6, x7, x8] (.int n :: st) hi g Φ) : AP M_L_law b 316 [x0, x1, x2, x3, x4, .int n, x6, x7, x8] (st) hi g Φ := AP.iload (x := n) (i := 5) d_L_law_316 rfl h
theorem d_L_law_318 : decode code 318 = .ok (.ifCond .ne 15, 3) := by decide +kernel
theorem s_L_law_318 {x : Int32} (h1 : ¬ x = 0 → AP M_L_law b 333 [x0, x1, x2, x3, x4, x5, x6, x7, x8] st hi g Φ) (h2 : x = 0 → AP M_L_law b 321 [x0, x1, x2, x3, x4, x5, x6, x7, x8] st hi g Φ) : AP M_L_law b 318 [x0, x1, x2, x3, x4, x5, x6, x7, x8] (.int x :: st) hi g Φ := AP.if_ne d_L_law_318 (by decide) h1 h2
theorem d_L_law_321 : decode code 321 = .ok (.aload_n 3, 1) := by decide +kernel
theorem s_L_law_321 {n : Nat} (h : AP M_L_law b 322 [x0, x1, x2, .ref n, x4, x5, x6, x7, x8] (.ref n :: st) hi g Φ) : AP M_L_law b 321 [x0, x1, x2, .ref n, x4, x5, x6, x7, x8] (st) hi g Φ := AP.aload_n (x := n) (i := 3) d_L_law_321 rfl rfl h
theorem d_L_law_322 : decode code 322 = .ok (.iconst 0, 1) := by decide +kernel
theorem s_L_law_322 (h : AP M_L_law b 323 [x0, x1, x2, x3, x4, x5, x6, x7, x8] (.int 0 :: st) hi g Φ) : AP M_L_law b 322 [x0, x1, x2, x3, x4, x5, x6, x7, x8] (st) hi g Φ := AP.iconst (x := 0) d_L_law_322 (by decide) h
theorem d_L_law_323 : decode code 323 = .ok (.laload, 1) := by decide +kernel
theorem s_L_law_323 {k n j : Nat} {i : Int32} (hI : am_Inv g) (hs : am_SH k = (4, n)) (hk : k < 134) (hn : n < 2 ^ 31) (hx : i = nI j) (hj : j < n) (h : AP M_L_law b 324 [x0, x1, x2, x3, x4, x5, x6, x7, x8] (.long (g.2.2 k j) :: st) hi g Φ) : AP M_L_law b 323 [x0, x1, x2, x3, x4, x5, x6, x7, x8] (.int i :: .ref k :: st) hi g Φ := AP.lald d_L_law_323 hs (hI.lt hk) hn hx hj h
theorem d_L_law_324 : decode code 324 = .ok (.iload 6, 2) := by decide +kernel
theorem s_L_law_324 {n : Int32} (h : AP M_L_law b 326 [x0, x1, x2, x3, x4, x5, .int n, x7, x8] (.int n :: st) hi g Φ) : AP M_L_law b 324 [x0, x1, x2, x3, x4, x5, .int n, x7, x8] (st) hi g Φ := AP.iload (x := n) (i := 6) d_L_law_324 rfl h
theorem d_L_law_326 : decode code 326 = .ok (.i2l, 1) := by decide +kernel
theorem s_L_law_326 {x : Int32} (h : AP M_L_law b 327 [x0, x1, x2, x3, x4, x5, x6, x7, x8] (.long x.toInt64 :: st) hi g Φ) : AP M_L_law b 326 [x0, x1, x2, x3, x4, x5, x6, x7, x8] (.int x :: st) hi g Φ := AP.i2l d_L_law_326 h
theorem d_L_law_327 : decode code 327 = .ok (.lcmp, 1) := by decide +kernel
theorem s_L_law_327 {x y : Int64} (h : AP M_L_law b 328 [x0, x1, x2, x3, x4, x5, x6, x7, x8] (.int (lg_cmp x y) :: st) hi g Φ) : AP M_L_law b 327 [x0, x1, x2, x3, x4, x5, x6, x7, x8] (.long y :: .long x :: st) hi g Φ := AP.lcmp d_L_law_327 h
theorem d_L_law_328 : decode code 328 = .ok (.ifCond .eq 5, 3) := by decide +kernel
theorem s_L_law_328 {x : Int32} (h1 : x = 0 → AP M_L_law b 333 [x0, x1, x2, x3, x4, x5, x6, x7, x8] st hi g Φ) (h2 : ¬ x = 0 → AP M_L_law b 331 [x0, x1, x2, x3, x4, x5, x6, x7, x8] st hi g Φ) : AP M_L_law b 328 [x0, x1, x2, x3, x4, x5, x6, x7, x8] (.int x :: st) hi g Φ := AP.if_eq d_L_law_328 (by decide) h1 h2
theorem d_L_law_331 : decode code 331 = .ok (.iconst 0, 1) := by decide +kernel
theorem s_L_law_331 (h : AP M_L_law b 332 [x0, x1, x2, x3, x4, x5, x6, x7, x8] (.int 0 :: st) hi g Φ) : AP M_L_law b 331 [x0, x1, x2, x3, x4, x5, x6, x7, x8] (st) hi g Φ := AP.iconst (x := 0) d_L_law_331 (by decide) h
theorem d_L_law_332 : decode code 332 = .ok (.ireturn, 1) := by decide +kernel
theorem s_L_law_332 {x : Int32} (hx : x = 0 ∨ x = 1) (h : Φ (.ok (some (.int x))) hi g) : AP M_L_law b 332 [x0, x1, x2, x3, x4, x5, x6, x7, x8] [.int x] hi g Φ := AP.zret d_L_law_332 rfl hx h
theorem d_L_law_333 : decode code 333 = .ok (.goto 2418, 3) := by decide +kernel
theorem s_L_law_333 (h : AP M_L_law b 2751 [x0, x1, x2, x3, x4, x5, x6, x7, x8] st hi g Φ) : AP M_L_law b 333 [x0, x1, x2, x3, x4, x5, x6, x7, x8] st hi g Φ := AP.goto d_L_law_333 (by decide) h
theorem d_L_law_336 : decode code 336 = .ok (.aload_n 1, 1) := by decide +kernel
theorem s_L_law_336 {n : Nat} (h : AP M_L_law b 337 [x0, .ref n, x2, x3, x4, x5, x6, x7, x8] (.ref n :: st) hi g Φ) : AP M_L_law b 336 [x0, .ref n, x2, x3, x4, x5, x6, x7, x8] (st) hi g Φ := AP.aload_n (x := n) (i := 1) d_L_law_336 rfl rfl h
theorem d_L_law_337 : decode code 337 = .ok (.aload_n 0, 1) := by decide +kernel
theorem s_L_law_337 {n : Nat} (h : AP M_L_law b 338 [.ref n, x1, x2, x3, x4, x5, x6, x7, x8] (.ref n :: st) hi g Φ) : AP M_L_law b 337 [.ref n, x1, x2, x3, x4, x5, x6, x7, x8] (st) hi g Φ := AP.aload_n (x := n) (i := 0) d_L_law_337 rfl rfl h
theorem d_L_law_338 : decode code 338 = .ok (.iload 4, 2) := by decide +kernel
theorem s_L_law_338 {n : Int32} (h : AP M_L_law b 340 [x0, x1, x2, x3, .int n, x5, x6, x7, x8] (.int n :: st) hi g Φ) : AP M_L_law b 338 [x0, x1, x2, x3, .int n, x5, x6, x7, x8] (st) hi g Φ := AP.iload (x := n) (i := 4) d_L_law_338 rfl h
theorem d_L_law_340 : decode code 340 = .ok (.iconst 1, 1) := by decide +kernel
theorem s_L_law_340 (h : AP M_L_law b 341 [x0, x1, x2, x3, x4, x5, x6, x7, x8] (.int 1 :: st) hi g Φ) : AP M_L_law b 340 [x0, x1, x2, x3, x4, x5, x6, x7, x8] (st) hi g Φ := AP.iconst (x := 1) d_L_law_340 (by decide) h
theorem d_L_law_341 : decode code 341 = .ok (.iadd, 1) := by decide +kernel
theorem s_L_law_341 {x y : Int32} (h : AP M_L_law b 342 [x0, x1, x2, x3, x4, x5, x6, x7, x8] (.int (x + y) :: st) hi g Φ) : AP M_L_law b 341 [x0, x1, x2, x3, x4, x5, x6, x7, x8] (.int y :: .int x :: st) hi g Φ := AP.iadd d_L_law_341 h
theorem d_L_law_342 : decode code 342 = .ok (.iaload, 1) := by decide +kernel
theorem s_L_law_342 {k n j : Nat} {i : Int32} (hI : am_Inv g) (hs : am_SH k = (1, n)) (hk : k < 134) (hn : n < 2 ^ 31) (hx : i = nI j) (hj : j < n) (h : AP M_L_law b 343 [x0, x1, x2, x3, x4, x5, x6, x7, x8] (.int (hi k j) :: st) hi g Φ) : AP M_L_law b 342 [x0, x1, x2, x3, x4, x5, x6, x7, x8] (.int i :: .ref k :: st) hi g Φ := AP.iald d_L_law_342 hs (hI.lt hk) hn hx hj h
theorem d_L_law_343 : decode code 343 = .ok (.aload_n 0, 1) := by decide +kernel
theorem s_L_law_343 {n : Nat} (h : AP M_L_law b 344 [.ref n, x1, x2, x3, x4, x5, x6, x7, x8] (.ref n :: st) hi g Φ) : AP M_L_law b 343 [.ref n, x1, x2, x3, x4, x5, x6, x7, x8] (st) hi g Φ := AP.aload_n (x := n) (i := 0) d_L_law_343 rfl rfl h
theorem d_L_law_344 : decode code 344 = .ok (.iload 4, 2) := by decide +kernel
theorem s_L_law_344 {n : Int32} (h : AP M_L_law b 346 [x0, x1, x2, x3, .int n, x5, x6, x7, x8] (.int n :: st) hi g Φ) : AP M_L_law b 344 [x0, x1, x2, x3, .int n, x5, x6, x7, x8] (st) hi g Φ := AP.iload (x := n) (i := 4) d_L_law_344 rfl h
theorem d_L_law_346 : decode code 346 = .ok (.iconst 2, 1) := by decide +kernel
theorem s_L_law_346 (h : AP M_L_law b 347 [x0, x1, x2, x3, x4, x5, x6, x7, x8] (.int 2 :: st) hi g Φ) : AP M_L_law b 346 [x0, x1, x2, x3, x4, x5, x6, x7, x8] (st) hi g Φ := AP.iconst (x := 2) d_L_law_346 (by decide) h
theorem d_L_law_347 : decode code 347 = .ok (.iadd, 1) := by decide +kernel
theorem s_L_law_347 {x y : Int32} (h : AP M_L_law b 348 [x0, x1, x2, x3, x4, x5, x6, x7, x8] (.int (x + y) :: st) hi g Φ) : AP M_L_law b 347 [x0, x1, x2, x3, x4, x5, x6, x7, x8] (.int y :: .int x :: st) hi g Φ := AP.iadd d_L_law_347 h
theorem d_L_law_348 : decode code 348 = .ok (.iaload, 1) := by decide +kernel
theorem s_L_law_348 {k n j : Nat} {i : Int32} (hI : am_Inv g) (hs : am_SH k = (1, n)) (hk : k < 134) (hn : n < 2 ^ 31) (hx : i = nI j) (hj : j < n) (h : AP M_L_law b 349 [x0, x1, x2, x3, x4, x5, x6, x7, x8] (.int (hi k j) :: st) hi g Φ) : AP M_L_law b 348 [x0, x1, x2, x3, x4, x5, x6, x7, x8] (.int i :: .ref k :: st) hi g Φ := AP.iald d_L_law_348 hs (hI.lt hk) hn hx hj h
theorem d_L_law_349 : decode code 349 = .ok (.aload_n 0, 1) := by decide +kernel
theorem s_L_law_349 {n : Nat} (h : AP M_L_law b 350 [.ref n, x1, x2, x3, x4, x5, x6, x7, x8] (.ref n :: st) hi g Φ) : AP M_L_law b 349 [.ref n, x1, x2, x3, x4, x5, x6, x7, x8] (st) hi g Φ := AP.aload_n (x := n) (i := 0) d_L_law_349 rfl rfl h
theorem d_L_law_350 : decode code 350 = .ok (.iload 4, 2) := by decide +kernel
theorem s_L_law_350 {n : Int32} (h : AP M_L_law b 352 [x0, x1, x2, x3, .int n, x5, x6, x7, x8] (.int n :: st) hi g Φ) : AP M_L_law b 350 [x0, x1, x2, x3, .int n, x5, x6, x7, x8] (st) hi g Φ := AP.iload (x := n) (i := 4) d_L_law_350 rfl h
theorem d_L_law_352 : decode code 352 = .ok (.iconst 3, 1) := by decide +kernel
theorem s_L_law_352 (h : AP M_L_law b 353 [x0, x1, x2, x3, x4, x5, x6, x7, x8] (.int 3 :: st) hi g Φ) : AP M_L_law b 352 [x0, x1, x2, x3, x4, x5, x6, x7, x8] (st) hi g Φ := AP.iconst (x := 3) d_L_law_352 (by decide) h
theorem d_L_law_353 : decode code 353 = .ok (.iadd, 1) := by decide +kernel
theorem s_L_law_353 {x y : Int32} (h : AP M_L_law b 354 [x0, x1, x2, x3, x4, x5, x6, x7, x8] (.int (x + y) :: st) hi g Φ) : AP M_L_law b 353 [x0, x1, x2, x3, x4, x5, x6, x7, x8] (.int y :: .int x :: st) hi g Φ := AP.iadd d_L_law_353 h
theorem d_L_law_354 : decode code 354 = .ok (.iaload, 1) := by decide +kernel
theorem s_L_law_354 {k n j : Nat} {i : Int32} (hI : am_Inv g) (hs : am_SH k = (1, n)) (hk : k < 134) (hn : n < 2 ^ 31) (hx : i = nI j) (hj : j < n) (h : AP M_L_law b 355 [x0, x1, x2, x3, x4, x5, x6, x7, x8] (.int (hi k j) :: st) hi g Φ) : AP M_L_law b 354 [x0, x1, x2, x3, x4, x5, x6, x7, x8] (.int i :: .ref k :: st) hi g Φ := AP.iald d_L_law_354 hs (hI.lt hk) hn hx hj h
theorem d_L_law_355 : decode code 355 = .ok (.aload_n 3, 1) := by decide +kernel
theorem s_L_law_355 {n : Nat} (h : AP M_L_law b 356 [x0, x1, x2, .ref n, x4, x5, x6, x7, x8] (.ref n :: st) hi g Φ) : AP M_L_law b 355 [x0, x1, x2, .ref n, x4, x5, x6, x7, x8] (st) hi g Φ := AP.aload_n (x := n) (i := 3) d_L_law_355 rfl rfl h
theorem d_L_law_356 : decode code 356 = .ok (.invokestatic 144, 3) := by decide +kernel
-- s_L_law_356: a call apart
theorem d_L_law_359 : decode code 359 = .ok (.istore 5, 2) := by decide +kernel
theorem s_L_law_359 {n : Int32} (hc : x4.category = 1) (h : AP M_L_law b 361 [x0, x1, x2, x3, x4, .int n, x6, x7, x8] (st) hi g Φ) : AP M_L_law b 359 [x0, x1, x2, x3, x4, x5, x6, x7, x8] (.int n :: st) hi g Φ := AP.istore (x := n) (i := 5) d_L_law_359 (by decide) (by simp [am_st, am_ci, am_cr, am_cl, am_cd, hc]) h
theorem d_L_law_361 : decode code 361 = .ok (.aload_n 2, 1) := by decide +kernel
theorem s_L_law_361 {n : Nat} (h : AP M_L_law b 362 [x0, x1, .ref n, x3, x4, x5, x6, x7, x8] (.ref n :: st) hi g Φ) : AP M_L_law b 361 [x0, x1, .ref n, x3, x4, x5, x6, x7, x8] (st) hi g Φ := AP.aload_n (x := n) (i := 2) d_L_law_361 rfl rfl h
theorem d_L_law_362 : decode code 362 = .ok (.aload_n 0, 1) := by decide +kernel
theorem s_L_law_362 {n : Nat} (h : AP M_L_law b 363 [.ref n, x1, x2, x3, x4, x5, x6, x7, x8] (.ref n :: st) hi g Φ) : AP M_L_law b 362 [.ref n, x1, x2, x3, x4, x5, x6, x7, x8] (st) hi g Φ := AP.aload_n (x := n) (i := 0) d_L_law_362 rfl rfl h
theorem d_L_law_363 : decode code 363 = .ok (.iload 4, 2) := by decide +kernel
theorem s_L_law_363 {n : Int32} (h : AP M_L_law b 365 [x0, x1, x2, x3, .int n, x5, x6, x7, x8] (.int n :: st) hi g Φ) : AP M_L_law b 363 [x0, x1, x2, x3, .int n, x5, x6, x7, x8] (st) hi g Φ := AP.iload (x := n) (i := 4) d_L_law_363 rfl h
theorem d_L_law_365 : decode code 365 = .ok (.iconst 1, 1) := by decide +kernel
theorem s_L_law_365 (h : AP M_L_law b 366 [x0, x1, x2, x3, x4, x5, x6, x7, x8] (.int 1 :: st) hi g Φ) : AP M_L_law b 365 [x0, x1, x2, x3, x4, x5, x6, x7, x8] (st) hi g Φ := AP.iconst (x := 1) d_L_law_365 (by decide) h
theorem d_L_law_366 : decode code 366 = .ok (.iadd, 1) := by decide +kernel
theorem s_L_law_366 {x y : Int32} (h : AP M_L_law b 367 [x0, x1, x2, x3, x4, x5, x6, x7, x8] (.int (x + y) :: st) hi g Φ) : AP M_L_law b 366 [x0, x1, x2, x3, x4, x5, x6, x7, x8] (.int y :: .int x :: st) hi g Φ := AP.iadd d_L_law_366 h
theorem d_L_law_367 : decode code 367 = .ok (.iaload, 1) := by decide +kernel
theorem s_L_law_367 {k n j : Nat} {i : Int32} (hI : am_Inv g) (hs : am_SH k = (1, n)) (hk : k < 134) (hn : n < 2 ^ 31) (hx : i = nI j) (hj : j < n) (h : AP M_L_law b 368 [x0, x1, x2, x3, x4, x5, x6, x7, x8] (.int (hi k j) :: st) hi g Φ) : AP M_L_law b 367 [x0, x1, x2, x3, x4, x5, x6, x7, x8] (.int i :: .ref k :: st) hi g Φ := AP.iald d_L_law_367 hs (hI.lt hk) hn hx hj h
theorem d_L_law_368 : decode code 368 = .ok (.aload_n 0, 1) := by decide +kernel
theorem s_L_law_368 {n : Nat} (h : AP M_L_law b 369 [.ref n, x1, x2, x3, x4, x5, x6, x7, x8] (.ref n :: st) hi g Φ) : AP M_L_law b 368 [.ref n, x1, x2, x3, x4, x5, x6, x7, x8] (st) hi g Φ := AP.aload_n (x := n) (i := 0) d_L_law_368 rfl rfl h
theorem d_L_law_369 : decode code 369 = .ok (.iload 4, 2) := by decide +kernel
theorem s_L_law_369 {n : Int32} (h : AP M_L_law b 371 [x0, x1, x2, x3, .int n, x5, x6, x7, x8] (.int n :: st) hi g Φ) : AP M_L_law b 369 [x0, x1, x2, x3, .int n, x5, x6, x7, x8] (st) hi g Φ := AP.iload (x := n) (i := 4) d_L_law_369 rfl h
theorem d_L_law_371 : decode code 371 = .ok (.iconst 2, 1) := by decide +kernel
theorem s_L_law_371 (h : AP M_L_law b 372 [x0, x1, x2, x3, x4, x5, x6, x7, x8] (.int 2 :: st) hi g Φ) : AP M_L_law b 371 [x0, x1, x2, x3, x4, x5, x6, x7, x8] (st) hi g Φ := AP.iconst (x := 2) d_L_law_371 (by decide) h
theorem d_L_law_372 : decode code 372 = .ok (.iadd, 1) := by decide +kernel
theorem s_L_law_372 {x y : Int32} (h : AP M_L_law b 373 [x0, x1, x2, x3, x4, x5, x6, x7, x8] (.int (x + y) :: st) hi g Φ) : AP M_L_law b 372 [x0, x1, x2, x3, x4, x5, x6, x7, x8] (.int y :: .int x :: st) hi g Φ := AP.iadd d_L_law_372 h
theorem d_L_law_373 : decode code 373 = .ok (.iaload, 1) := by decide +kernel
theorem s_L_law_373 {k n j : Nat} {i : Int32} (hI : am_Inv g) (hs : am_SH k = (1, n)) (hk : k < 134) (hn : n < 2 ^ 31) (hx : i = nI j) (hj : j < n) (h : AP M_L_law b 374 [x0, x1, x2, x3, x4, x5, x6, x7, x8] (.int (hi k j) :: st) hi g Φ) : AP M_L_law b 373 [x0, x1, x2, x3, x4, x5, x6, x7, x8] (.int i :: .ref k :: st) hi g Φ := AP.iald d_L_law_373 hs (hI.lt hk) hn hx hj h
theorem d_L_law_374 : decode code 374 = .ok (.aload_n 0, 1) := by decide +kernel
theorem s_L_law_374 {n : Nat} (h : AP M_L_law b 375 [.ref n, x1, x2, x3, x4, x5, x6, x7, x8] (.ref n :: st) hi g Φ) : AP M_L_law b 374 [.ref n, x1, x2, x3, x4, x5, x6, x7, x8] (st) hi g Φ := AP.aload_n (x := n) (i := 0) d_L_law_374 rfl rfl h
theorem d_L_law_375 : decode code 375 = .ok (.iload 4, 2) := by decide +kernel
theorem s_L_law_375 {n : Int32} (h : AP M_L_law b 377 [x0, x1, x2, x3, .int n, x5, x6, x7, x8] (.int n :: st) hi g Φ) : AP M_L_law b 375 [x0, x1, x2, x3, .int n, x5, x6, x7, x8] (st) hi g Φ := AP.iload (x := n) (i := 4) d_L_law_375 rfl h
theorem d_L_law_377 : decode code 377 = .ok (.iconst 3, 1) := by decide +kernel
theorem s_L_law_377 (h : AP M_L_law b 378 [x0, x1, x2, x3, x4, x5, x6, x7, x8] (.int 3 :: st) hi g Φ) : AP M_L_law b 377 [x0, x1, x2, x3, x4, x5, x6, x7, x8] (st) hi g Φ := AP.iconst (x := 3) d_L_law_377 (by decide) h
theorem d_L_law_378 : decode code 378 = .ok (.iadd, 1) := by decide +kernel
theorem s_L_law_378 {x y : Int32} (h : AP M_L_law b 379 [x0, x1, x2, x3, x4, x5, x6, x7, x8] (.int (x + y) :: st) hi g Φ) : AP M_L_law b 378 [x0, x1, x2, x3, x4, x5, x6, x7, x8] (.int y :: .int x :: st) hi g Φ := AP.iadd d_L_law_378 h
theorem d_L_law_379 : decode code 379 = .ok (.iaload, 1) := by decide +kernel
theorem s_L_law_379 {k n j : Nat} {i : Int32} (hI : am_Inv g) (hs : am_SH k = (1, n)) (hk : k < 134) (hn : n < 2 ^ 31) (hx : i = nI j) (hj : j < n) (h : AP M_L_law b 380 [x0, x1, x2, x3, x4, x5, x6, x7, x8] (.int (hi k j) :: st) hi g Φ) : AP M_L_law b 379 [x0, x1, x2, x3, x4, x5, x6, x7, x8] (.int i :: .ref k :: st) hi g Φ := AP.iald d_L_law_379 hs (hI.lt hk) hn hx hj h
theorem d_L_law_380 : decode code 380 = .ok (.invokevirtual 147, 3) := by decide +kernel
theorem s_L_law_380 {a0 : Int32} {a1 : Int32} {a2 : Int32} {k : Nat} {r0 : Int32} {P : am_HI → Prop} (hI : am_Inv g) (hs : am_SH k = (0, 10)) (hk : k < 134) (hst : (st.map Value.category).sum ≤ 8) (hc : am_Cr M_X10_echo [.ref k, .int a0, .int a1, .int a2] hi g (some (.int r0)) P) (h : ∀ hi' : am_HI, P hi' → AP M_L_law b 383 [x0, x1, x2, x3, x4, x5, x6, x7, x8] (.int r0 :: st) hi' g Φ) : AP M_L_law b 380 [x0, x1, x2, x3, x4, x5, x6, x7, x8] (.int a2 :: .int a1 :: .int a0 :: .ref k :: st) hi g Φ := AP.callVr (As := [.int a0, .int a1, .int a2]) (q := (RX10, TX10, 15)) hI hc k_L_law_147 d_L_law_380 rfl hs hk rfl rfl hst h
theorem d_L_law_383 : decode code 383 = .ok (.istore 6, 2) := by decide +kernel
theorem s_L_law_383 {n : Int32} (hc : x5.category = 1) (h : AP M_L_law b 385 [x0, x1, x2, x3, x4, x5, .int n, x7, x8] (st) hi g Φ) : AP M_L_law b 383 [x0, x1, x2, x3, x4, x5, x6, x7, x8] (.int n :: st) hi g Φ := AP.istore (x := n) (i := 6) d_L_law_383 (by decide) (by simp [am_st, am_ci, am_cr, am_cl, am_cd, hc]) h
theorem d_L_law_385 : decode code 385 = .ok (.aload_n 2, 1) := by decide +kernel
theorem s_L_law_385 {n : Nat} (h : AP M_L_law b 386 [x0, x1, .ref n, x3, x4, x5, x6, x7, x8] (.ref n :: st) hi g Φ) : AP M_L_law b 385 [x0, x1, .ref n, x3, x4, x5, x6, x7, x8] (st) hi g Φ := AP.aload_n (x := n) (i := 2) d_L_law_385 rfl rfl h
theorem d_L_law_386 : decode code 386 = .ok (.invokevirtual 141, 3) := by decide +kernel
theorem s_L_law_386  {k : Nat} {r0 : Int32} {P : am_HI → Prop} (hI : am_Inv g) (hs : am_SH k = (0, 10)) (hk : k < 134) (hst : (st.map Value.category).sum ≤ 8) (hc : am_Cr M_X10_thrown [.ref k] hi g (some (.int r0)) P) (h : ∀ hi' : am_HI, P hi' → AP M_L_law b 389 [x0, x1, x2, x3, x4, x5, x6, x7, x8] (.int r0 :: st) hi' g Φ) : AP M_L_law b 386 [x0, x1, x2, x3, x4, x5, x6, x7, x8] (.ref k :: st) hi g Φ := AP.callVr (As := []) (q := (RX10, TX10, 15)) hI hc k_L_law_141 d_L_law_386 rfl hs hk rfl rfl hst h
theorem d_L_law_389 : decode code 389 = .ok (.iload 5, 2) := by decide +kernel
theorem s_L_law_389 {n : Int32} (h : AP M_L_law b 391 [x0, x1, x2, x3, x4, .int n, x6, x7, x8] (.int n :: st) hi g Φ) : AP M_L_law b 389 [x0, x1, x2, x3, x4, .int n, x6, x7, x8] (st) hi g Φ := AP.iload (x := n) (i := 5) d_L_law_389 rfl h
theorem d_L_law_391 : decode code 391 = .ok (.if_icmp .eq 5, 3) := by decide +kernel
theorem s_L_law_391 {x y : Int32} (h1 : x = y → AP M_L_law b 396 [x0, x1, x2, x3, x4, x5, x6, x7, x8] st hi g Φ) (h2 : ¬ x = y → AP M_L_law b 394 [x0, x1, x2, x3, x4, x5, x6, x7, x8] st hi g Φ) : AP M_L_law b 391 [x0, x1, x2, x3, x4, x5, x6, x7, x8] (.int y :: .int x :: st) hi g Φ := AP.icmp_eq d_L_law_391 (by decide) h1 h2
theorem d_L_law_394 : decode code 394 = .ok (.iconst 0, 1) := by decide +kernel
theorem s_L_law_394 (h : AP M_L_law b 395 [x0, x1, x2, x3, x4, x5, x6, x7, x8] (.int 0 :: st) hi g Φ) : AP M_L_law b 394 [x0, x1, x2, x3, x4, x5, x6, x7, x8] (st) hi g Φ := AP.iconst (x := 0) d_L_law_394 (by decide) h
theorem d_L_law_395 : decode code 395 = .ok (.ireturn, 1) := by decide +kernel
theorem s_L_law_395 {x : Int32} (hx : x = 0 ∨ x = 1) (h : Φ (.ok (some (.int x))) hi g) : AP M_L_law b 395 [x0, x1, x2, x3, x4, x5, x6, x7, x8] [.int x] hi g Φ := AP.zret d_L_law_395 rfl hx h
theorem d_L_law_396 : decode code 396 = .ok (.iload 5, 2) := by decide +kernel
theorem s_L_law_396 {n : Int32} (h : AP M_L_law b 398 [x0, x1, x2, x3, x4, .int n, x6, x7, x8] (.int n :: st) hi g Φ) : AP M_L_law b 396 [x0, x1, x2, x3, x4, .int n, x6, x7, x8] (st) hi g Φ := AP.iload (x := n) (i := 5) d_L_law_396 rfl h
theorem d_L_law_398 : decode code 398 = .ok (.ifCond .ne 15, 3) := by decide +kernel
theorem s_L_law_398 {x : Int32} (h1 : ¬ x = 0 → AP M_L_law b 413 [x0, x1, x2, x3, x4, x5, x6, x7, x8] st hi g Φ) (h2 : x = 0 → AP M_L_law b 401 [x0, x1, x2, x3, x4, x5, x6, x7, x8] st hi g Φ) : AP M_L_law b 398 [x0, x1, x2, x3, x4, x5, x6, x7, x8] (.int x :: st) hi g Φ := AP.if_ne d_L_law_398 (by decide) h1 h2
theorem d_L_law_401 : decode code 401 = .ok (.aload_n 3, 1) := by decide +kernel
theorem s_L_law_401 {n : Nat} (h : AP M_L_law b 402 [x0, x1, x2, .ref n, x4, x5, x6, x7, x8] (.ref n :: st) hi g Φ) : AP M_L_law b 401 [x0, x1, x2, .ref n, x4, x5, x6, x7, x8] (st) hi g Φ := AP.aload_n (x := n) (i := 3) d_L_law_401 rfl rfl h
theorem d_L_law_402 : decode code 402 = .ok (.iconst 0, 1) := by decide +kernel
theorem s_L_law_402 (h : AP M_L_law b 403 [x0, x1, x2, x3, x4, x5, x6, x7, x8] (.int 0 :: st) hi g Φ) : AP M_L_law b 402 [x0, x1, x2, x3, x4, x5, x6, x7, x8] (st) hi g Φ := AP.iconst (x := 0) d_L_law_402 (by decide) h
theorem d_L_law_403 : decode code 403 = .ok (.laload, 1) := by decide +kernel
theorem s_L_law_403 {k n j : Nat} {i : Int32} (hI : am_Inv g) (hs : am_SH k = (4, n)) (hk : k < 134) (hn : n < 2 ^ 31) (hx : i = nI j) (hj : j < n) (h : AP M_L_law b 404 [x0, x1, x2, x3, x4, x5, x6, x7, x8] (.long (g.2.2 k j) :: st) hi g Φ) : AP M_L_law b 403 [x0, x1, x2, x3, x4, x5, x6, x7, x8] (.int i :: .ref k :: st) hi g Φ := AP.lald d_L_law_403 hs (hI.lt hk) hn hx hj h
theorem d_L_law_404 : decode code 404 = .ok (.iload 6, 2) := by decide +kernel
theorem s_L_law_404 {n : Int32} (h : AP M_L_law b 406 [x0, x1, x2, x3, x4, x5, .int n, x7, x8] (.int n :: st) hi g Φ) : AP M_L_law b 404 [x0, x1, x2, x3, x4, x5, .int n, x7, x8] (st) hi g Φ := AP.iload (x := n) (i := 6) d_L_law_404 rfl h
theorem d_L_law_406 : decode code 406 = .ok (.i2l, 1) := by decide +kernel
theorem s_L_law_406 {x : Int32} (h : AP M_L_law b 407 [x0, x1, x2, x3, x4, x5, x6, x7, x8] (.long x.toInt64 :: st) hi g Φ) : AP M_L_law b 406 [x0, x1, x2, x3, x4, x5, x6, x7, x8] (.int x :: st) hi g Φ := AP.i2l d_L_law_406 h
theorem d_L_law_407 : decode code 407 = .ok (.lcmp, 1) := by decide +kernel
theorem s_L_law_407 {x y : Int64} (h : AP M_L_law b 408 [x0, x1, x2, x3, x4, x5, x6, x7, x8] (.int (lg_cmp x y) :: st) hi g Φ) : AP M_L_law b 407 [x0, x1, x2, x3, x4, x5, x6, x7, x8] (.long y :: .long x :: st) hi g Φ := AP.lcmp d_L_law_407 h
theorem d_L_law_408 : decode code 408 = .ok (.ifCond .eq 5, 3) := by decide +kernel
theorem s_L_law_408 {x : Int32} (h1 : x = 0 → AP M_L_law b 413 [x0, x1, x2, x3, x4, x5, x6, x7, x8] st hi g Φ) (h2 : ¬ x = 0 → AP M_L_law b 411 [x0, x1, x2, x3, x4, x5, x6, x7, x8] st hi g Φ) : AP M_L_law b 408 [x0, x1, x2, x3, x4, x5, x6, x7, x8] (.int x :: st) hi g Φ := AP.if_eq d_L_law_408 (by decide) h1 h2
theorem d_L_law_411 : decode code 411 = .ok (.iconst 0, 1) := by decide +kernel
theorem s_L_law_411 (h : AP M_L_law b 412 [x0, x1, x2, x3, x4, x5, x6, x7, x8] (.int 0 :: st) hi g Φ) : AP M_L_law b 411 [x0, x1, x2, x3, x4, x5, x6, x7, x8] (st) hi g Φ := AP.iconst (x := 0) d_L_law_411 (by decide) h
theorem d_L_law_412 : decode code 412 = .ok (.ireturn, 1) := by decide +kernel
theorem s_L_law_412 {x : Int32} (hx : x = 0 ∨ x = 1) (h : Φ (.ok (some (.int x))) hi g) : AP M_L_law b 412 [x0, x1, x2, x3, x4, x5, x6, x7, x8] [.int x] hi g Φ := AP.zret d_L_law_412 rfl hx h
theorem d_L_law_413 : decode code 413 = .ok (.goto 2338, 3) := by decide +kernel
theorem s_L_law_413 (h : AP M_L_law b 2751 [x0, x1, x2, x3, x4, x5, x6, x7, x8] st hi g Φ) : AP M_L_law b 413 [x0, x1, x2, x3, x4, x5, x6, x7, x8] st hi g Φ := AP.goto d_L_law_413 (by decide) h
theorem d_L_law_416 : decode code 416 = .ok (.aload_n 1, 1) := by decide +kernel
theorem s_L_law_416 {n : Nat} (h : AP M_L_law b 417 [x0, .ref n, x2, x3, x4, x5, x6, x7, x8] (.ref n :: st) hi g Φ) : AP M_L_law b 416 [x0, .ref n, x2, x3, x4, x5, x6, x7, x8] (st) hi g Φ := AP.aload_n (x := n) (i := 1) d_L_law_416 rfl rfl h
theorem d_L_law_417 : decode code 417 = .ok (.aload_n 0, 1) := by decide +kernel
theorem s_L_law_417 {n : Nat} (h : AP M_L_law b 418 [.ref n, x1, x2, x3, x4, x5, x6, x7, x8] (.ref n :: st) hi g Φ) : AP M_L_law b 417 [.ref n, x1, x2, x3, x4, x5, x6, x7, x8] (st) hi g Φ := AP.aload_n (x := n) (i := 0) d_L_law_417 rfl rfl h
theorem d_L_law_418 : decode code 418 = .ok (.iload 4, 2) := by decide +kernel
theorem s_L_law_418 {n : Int32} (h : AP M_L_law b 420 [x0, x1, x2, x3, .int n, x5, x6, x7, x8] (.int n :: st) hi g Φ) : AP M_L_law b 418 [x0, x1, x2, x3, .int n, x5, x6, x7, x8] (st) hi g Φ := AP.iload (x := n) (i := 4) d_L_law_418 rfl h
theorem d_L_law_420 : decode code 420 = .ok (.iconst 1, 1) := by decide +kernel
theorem s_L_law_420 (h : AP M_L_law b 421 [x0, x1, x2, x3, x4, x5, x6, x7, x8] (.int 1 :: st) hi g Φ) : AP M_L_law b 420 [x0, x1, x2, x3, x4, x5, x6, x7, x8] (st) hi g Φ := AP.iconst (x := 1) d_L_law_420 (by decide) h
theorem d_L_law_421 : decode code 421 = .ok (.iadd, 1) := by decide +kernel
theorem s_L_law_421 {x y : Int32} (h : AP M_L_law b 422 [x0, x1, x2, x3, x4, x5, x6, x7, x8] (.int (x + y) :: st) hi g Φ) : AP M_L_law b 421 [x0, x1, x2, x3, x4, x5, x6, x7, x8] (.int y :: .int x :: st) hi g Φ := AP.iadd d_L_law_421 h
theorem d_L_law_422 : decode code 422 = .ok (.iaload, 1) := by decide +kernel
theorem s_L_law_422 {k n j : Nat} {i : Int32} (hI : am_Inv g) (hs : am_SH k = (1, n)) (hk : k < 134) (hn : n < 2 ^ 31) (hx : i = nI j) (hj : j < n) (h : AP M_L_law b 423 [x0, x1, x2, x3, x4, x5, x6, x7, x8] (.int (hi k j) :: st) hi g Φ) : AP M_L_law b 422 [x0, x1, x2, x3, x4, x5, x6, x7, x8] (.int i :: .ref k :: st) hi g Φ := AP.iald d_L_law_422 hs (hI.lt hk) hn hx hj h
theorem d_L_law_423 : decode code 423 = .ok (.aload_n 0, 1) := by decide +kernel
theorem s_L_law_423 {n : Nat} (h : AP M_L_law b 424 [.ref n, x1, x2, x3, x4, x5, x6, x7, x8] (.ref n :: st) hi g Φ) : AP M_L_law b 423 [.ref n, x1, x2, x3, x4, x5, x6, x7, x8] (st) hi g Φ := AP.aload_n (x := n) (i := 0) d_L_law_423 rfl rfl h
theorem d_L_law_424 : decode code 424 = .ok (.iload 4, 2) := by decide +kernel
theorem s_L_law_424 {n : Int32} (h : AP M_L_law b 426 [x0, x1, x2, x3, .int n, x5, x6, x7, x8] (.int n :: st) hi g Φ) : AP M_L_law b 424 [x0, x1, x2, x3, .int n, x5, x6, x7, x8] (st) hi g Φ := AP.iload (x := n) (i := 4) d_L_law_424 rfl h
theorem d_L_law_426 : decode code 426 = .ok (.iconst 2, 1) := by decide +kernel
theorem s_L_law_426 (h : AP M_L_law b 427 [x0, x1, x2, x3, x4, x5, x6, x7, x8] (.int 2 :: st) hi g Φ) : AP M_L_law b 426 [x0, x1, x2, x3, x4, x5, x6, x7, x8] (st) hi g Φ := AP.iconst (x := 2) d_L_law_426 (by decide) h
theorem d_L_law_427 : decode code 427 = .ok (.iadd, 1) := by decide +kernel
theorem s_L_law_427 {x y : Int32} (h : AP M_L_law b 428 [x0, x1, x2, x3, x4, x5, x6, x7, x8] (.int (x + y) :: st) hi g Φ) : AP M_L_law b 427 [x0, x1, x2, x3, x4, x5, x6, x7, x8] (.int y :: .int x :: st) hi g Φ := AP.iadd d_L_law_427 h
theorem d_L_law_428 : decode code 428 = .ok (.iaload, 1) := by decide +kernel
theorem s_L_law_428 {k n j : Nat} {i : Int32} (hI : am_Inv g) (hs : am_SH k = (1, n)) (hk : k < 134) (hn : n < 2 ^ 31) (hx : i = nI j) (hj : j < n) (h : AP M_L_law b 429 [x0, x1, x2, x3, x4, x5, x6, x7, x8] (.int (hi k j) :: st) hi g Φ) : AP M_L_law b 428 [x0, x1, x2, x3, x4, x5, x6, x7, x8] (.int i :: .ref k :: st) hi g Φ := AP.iald d_L_law_428 hs (hI.lt hk) hn hx hj h
theorem d_L_law_429 : decode code 429 = .ok (.aload_n 3, 1) := by decide +kernel
theorem s_L_law_429 {n : Nat} (h : AP M_L_law b 430 [x0, x1, x2, .ref n, x4, x5, x6, x7, x8] (.ref n :: st) hi g Φ) : AP M_L_law b 429 [x0, x1, x2, .ref n, x4, x5, x6, x7, x8] (st) hi g Φ := AP.aload_n (x := n) (i := 3) d_L_law_429 rfl rfl h
theorem d_L_law_430 : decode code 430 = .ok (.invokestatic 148, 3) := by decide +kernel
-- s_L_law_430: a call apart
theorem d_L_law_433 : decode code 433 = .ok (.istore 5, 2) := by decide +kernel
theorem s_L_law_433 {n : Int32} (hc : x4.category = 1) (h : AP M_L_law b 435 [x0, x1, x2, x3, x4, .int n, x6, x7, x8] (st) hi g Φ) : AP M_L_law b 433 [x0, x1, x2, x3, x4, x5, x6, x7, x8] (.int n :: st) hi g Φ := AP.istore (x := n) (i := 5) d_L_law_433 (by decide) (by simp [am_st, am_ci, am_cr, am_cl, am_cd, hc]) h
theorem d_L_law_435 : decode code 435 = .ok (.aload_n 2, 1) := by decide +kernel
theorem s_L_law_435 {n : Nat} (h : AP M_L_law b 436 [x0, x1, .ref n, x3, x4, x5, x6, x7, x8] (.ref n :: st) hi g Φ) : AP M_L_law b 435 [x0, x1, .ref n, x3, x4, x5, x6, x7, x8] (st) hi g Φ := AP.aload_n (x := n) (i := 2) d_L_law_435 rfl rfl h
theorem d_L_law_436 : decode code 436 = .ok (.aload_n 0, 1) := by decide +kernel
theorem s_L_law_436 {n : Nat} (h : AP M_L_law b 437 [.ref n, x1, x2, x3, x4, x5, x6, x7, x8] (.ref n :: st) hi g Φ) : AP M_L_law b 436 [.ref n, x1, x2, x3, x4, x5, x6, x7, x8] (st) hi g Φ := AP.aload_n (x := n) (i := 0) d_L_law_436 rfl rfl h
theorem d_L_law_437 : decode code 437 = .ok (.iload 4, 2) := by decide +kernel
theorem s_L_law_437 {n : Int32} (h : AP M_L_law b 439 [x0, x1, x2, x3, .int n, x5, x6, x7, x8] (.int n :: st) hi g Φ) : AP M_L_law b 437 [x0, x1, x2, x3, .int n, x5, x6, x7, x8] (st) hi g Φ := AP.iload (x := n) (i := 4) d_L_law_437 rfl h
theorem d_L_law_439 : decode code 439 = .ok (.iconst 1, 1) := by decide +kernel
theorem s_L_law_439 (h : AP M_L_law b 440 [x0, x1, x2, x3, x4, x5, x6, x7, x8] (.int 1 :: st) hi g Φ) : AP M_L_law b 439 [x0, x1, x2, x3, x4, x5, x6, x7, x8] (st) hi g Φ := AP.iconst (x := 1) d_L_law_439 (by decide) h
theorem d_L_law_440 : decode code 440 = .ok (.iadd, 1) := by decide +kernel
theorem s_L_law_440 {x y : Int32} (h : AP M_L_law b 441 [x0, x1, x2, x3, x4, x5, x6, x7, x8] (.int (x + y) :: st) hi g Φ) : AP M_L_law b 440 [x0, x1, x2, x3, x4, x5, x6, x7, x8] (.int y :: .int x :: st) hi g Φ := AP.iadd d_L_law_440 h
theorem d_L_law_441 : decode code 441 = .ok (.iaload, 1) := by decide +kernel
theorem s_L_law_441 {k n j : Nat} {i : Int32} (hI : am_Inv g) (hs : am_SH k = (1, n)) (hk : k < 134) (hn : n < 2 ^ 31) (hx : i = nI j) (hj : j < n) (h : AP M_L_law b 442 [x0, x1, x2, x3, x4, x5, x6, x7, x8] (.int (hi k j) :: st) hi g Φ) : AP M_L_law b 441 [x0, x1, x2, x3, x4, x5, x6, x7, x8] (.int i :: .ref k :: st) hi g Φ := AP.iald d_L_law_441 hs (hI.lt hk) hn hx hj h
theorem d_L_law_442 : decode code 442 = .ok (.aload_n 0, 1) := by decide +kernel
theorem s_L_law_442 {n : Nat} (h : AP M_L_law b 443 [.ref n, x1, x2, x3, x4, x5, x6, x7, x8] (.ref n :: st) hi g Φ) : AP M_L_law b 442 [.ref n, x1, x2, x3, x4, x5, x6, x7, x8] (st) hi g Φ := AP.aload_n (x := n) (i := 0) d_L_law_442 rfl rfl h
theorem d_L_law_443 : decode code 443 = .ok (.iload 4, 2) := by decide +kernel
theorem s_L_law_443 {n : Int32} (h : AP M_L_law b 445 [x0, x1, x2, x3, .int n, x5, x6, x7, x8] (.int n :: st) hi g Φ) : AP M_L_law b 443 [x0, x1, x2, x3, .int n, x5, x6, x7, x8] (st) hi g Φ := AP.iload (x := n) (i := 4) d_L_law_443 rfl h
theorem d_L_law_445 : decode code 445 = .ok (.iconst 2, 1) := by decide +kernel
theorem s_L_law_445 (h : AP M_L_law b 446 [x0, x1, x2, x3, x4, x5, x6, x7, x8] (.int 2 :: st) hi g Φ) : AP M_L_law b 445 [x0, x1, x2, x3, x4, x5, x6, x7, x8] (st) hi g Φ := AP.iconst (x := 2) d_L_law_445 (by decide) h
theorem d_L_law_446 : decode code 446 = .ok (.iadd, 1) := by decide +kernel
theorem s_L_law_446 {x y : Int32} (h : AP M_L_law b 447 [x0, x1, x2, x3, x4, x5, x6, x7, x8] (.int (x + y) :: st) hi g Φ) : AP M_L_law b 446 [x0, x1, x2, x3, x4, x5, x6, x7, x8] (.int y :: .int x :: st) hi g Φ := AP.iadd d_L_law_446 h
theorem d_L_law_447 : decode code 447 = .ok (.iaload, 1) := by decide +kernel
theorem s_L_law_447 {k n j : Nat} {i : Int32} (hI : am_Inv g) (hs : am_SH k = (1, n)) (hk : k < 134) (hn : n < 2 ^ 31) (hx : i = nI j) (hj : j < n) (h : AP M_L_law b 448 [x0, x1, x2, x3, x4, x5, x6, x7, x8] (.int (hi k j) :: st) hi g Φ) : AP M_L_law b 447 [x0, x1, x2, x3, x4, x5, x6, x7, x8] (.int i :: .ref k :: st) hi g Φ := AP.iald d_L_law_447 hs (hI.lt hk) hn hx hj h
theorem d_L_law_448 : decode code 448 = .ok (.invokevirtual 151, 3) := by decide +kernel
theorem s_L_law_448 {a0 : Int32} {a1 : Int32} {k : Nat} {r0 : Int32} {P : am_HI → Prop} (hI : am_Inv g) (hs : am_SH k = (0, 10)) (hk : k < 134) (hst : (st.map Value.category).sum ≤ 8) (hc : am_Cr M_X10_change [.ref k, .int a0, .int a1] hi g (some (.int r0)) P) (h : ∀ hi' : am_HI, P hi' → AP M_L_law b 451 [x0, x1, x2, x3, x4, x5, x6, x7, x8] (.int r0 :: st) hi' g Φ) : AP M_L_law b 448 [x0, x1, x2, x3, x4, x5, x6, x7, x8] (.int a1 :: .int a0 :: .ref k :: st) hi g Φ := AP.callVr (As := [.int a0, .int a1]) (q := (RX10, TX10, 15)) hI hc k_L_law_151 d_L_law_448 rfl hs hk rfl rfl hst h
theorem d_L_law_451 : decode code 451 = .ok (.istore 6, 2) := by decide +kernel
theorem s_L_law_451 {n : Int32} (hc : x5.category = 1) (h : AP M_L_law b 453 [x0, x1, x2, x3, x4, x5, .int n, x7, x8] (st) hi g Φ) : AP M_L_law b 451 [x0, x1, x2, x3, x4, x5, x6, x7, x8] (.int n :: st) hi g Φ := AP.istore (x := n) (i := 6) d_L_law_451 (by decide) (by simp [am_st, am_ci, am_cr, am_cl, am_cd, hc]) h
theorem d_L_law_453 : decode code 453 = .ok (.aload_n 2, 1) := by decide +kernel
theorem s_L_law_453 {n : Nat} (h : AP M_L_law b 454 [x0, x1, .ref n, x3, x4, x5, x6, x7, x8] (.ref n :: st) hi g Φ) : AP M_L_law b 453 [x0, x1, .ref n, x3, x4, x5, x6, x7, x8] (st) hi g Φ := AP.aload_n (x := n) (i := 2) d_L_law_453 rfl rfl h
theorem d_L_law_454 : decode code 454 = .ok (.invokevirtual 141, 3) := by decide +kernel
theorem s_L_law_454  {k : Nat} {r0 : Int32} {P : am_HI → Prop} (hI : am_Inv g) (hs : am_SH k = (0, 10)) (hk : k < 134) (hst : (st.map Value.category).sum ≤ 8) (hc : am_Cr M_X10_thrown [.ref k] hi g (some (.int r0)) P) (h : ∀ hi' : am_HI, P hi' → AP M_L_law b 457 [x0, x1, x2, x3, x4, x5, x6, x7, x8] (.int r0 :: st) hi' g Φ) : AP M_L_law b 454 [x0, x1, x2, x3, x4, x5, x6, x7, x8] (.ref k :: st) hi g Φ := AP.callVr (As := []) (q := (RX10, TX10, 15)) hI hc k_L_law_141 d_L_law_454 rfl hs hk rfl rfl hst h
theorem d_L_law_457 : decode code 457 = .ok (.iload 5, 2) := by decide +kernel
theorem s_L_law_457 {n : Int32} (h : AP M_L_law b 459 [x0, x1, x2, x3, x4, .int n, x6, x7, x8] (.int n :: st) hi g Φ) : AP M_L_law b 457 [x0, x1, x2, x3, x4, .int n, x6, x7, x8] (st) hi g Φ := AP.iload (x := n) (i := 5) d_L_law_457 rfl h
theorem d_L_law_459 : decode code 459 = .ok (.if_icmp .eq 5, 3) := by decide +kernel
theorem s_L_law_459 {x y : Int32} (h1 : x = y → AP M_L_law b 464 [x0, x1, x2, x3, x4, x5, x6, x7, x8] st hi g Φ) (h2 : ¬ x = y → AP M_L_law b 462 [x0, x1, x2, x3, x4, x5, x6, x7, x8] st hi g Φ) : AP M_L_law b 459 [x0, x1, x2, x3, x4, x5, x6, x7, x8] (.int y :: .int x :: st) hi g Φ := AP.icmp_eq d_L_law_459 (by decide) h1 h2
theorem d_L_law_462 : decode code 462 = .ok (.iconst 0, 1) := by decide +kernel
theorem s_L_law_462 (h : AP M_L_law b 463 [x0, x1, x2, x3, x4, x5, x6, x7, x8] (.int 0 :: st) hi g Φ) : AP M_L_law b 462 [x0, x1, x2, x3, x4, x5, x6, x7, x8] (st) hi g Φ := AP.iconst (x := 0) d_L_law_462 (by decide) h
theorem d_L_law_463 : decode code 463 = .ok (.ireturn, 1) := by decide +kernel
theorem s_L_law_463 {x : Int32} (hx : x = 0 ∨ x = 1) (h : Φ (.ok (some (.int x))) hi g) : AP M_L_law b 463 [x0, x1, x2, x3, x4, x5, x6, x7, x8] [.int x] hi g Φ := AP.zret d_L_law_463 rfl hx h
theorem d_L_law_464 : decode code 464 = .ok (.iload 5, 2) := by decide +kernel
theorem s_L_law_464 {n : Int32} (h : AP M_L_law b 466 [x0, x1, x2, x3, x4, .int n, x6, x7, x8] (.int n :: st) hi g Φ) : AP M_L_law b 464 [x0, x1, x2, x3, x4, .int n, x6, x7, x8] (st) hi g Φ := AP.iload (x := n) (i := 5) d_L_law_464 rfl h
theorem d_L_law_466 : decode code 466 = .ok (.ifCond .ne 15, 3) := by decide +kernel
theorem s_L_law_466 {x : Int32} (h1 : ¬ x = 0 → AP M_L_law b 481 [x0, x1, x2, x3, x4, x5, x6, x7, x8] st hi g Φ) (h2 : x = 0 → AP M_L_law b 469 [x0, x1, x2, x3, x4, x5, x6, x7, x8] st hi g Φ) : AP M_L_law b 466 [x0, x1, x2, x3, x4, x5, x6, x7, x8] (.int x :: st) hi g Φ := AP.if_ne d_L_law_466 (by decide) h1 h2
theorem d_L_law_469 : decode code 469 = .ok (.aload_n 3, 1) := by decide +kernel
theorem s_L_law_469 {n : Nat} (h : AP M_L_law b 470 [x0, x1, x2, .ref n, x4, x5, x6, x7, x8] (.ref n :: st) hi g Φ) : AP M_L_law b 469 [x0, x1, x2, .ref n, x4, x5, x6, x7, x8] (st) hi g Φ := AP.aload_n (x := n) (i := 3) d_L_law_469 rfl rfl h
theorem d_L_law_470 : decode code 470 = .ok (.iconst 0, 1) := by decide +kernel
theorem s_L_law_470 (h : AP M_L_law b 471 [x0, x1, x2, x3, x4, x5, x6, x7, x8] (.int 0 :: st) hi g Φ) : AP M_L_law b 470 [x0, x1, x2, x3, x4, x5, x6, x7, x8] (st) hi g Φ := AP.iconst (x := 0) d_L_law_470 (by decide) h
theorem d_L_law_471 : decode code 471 = .ok (.laload, 1) := by decide +kernel
theorem s_L_law_471 {k n j : Nat} {i : Int32} (hI : am_Inv g) (hs : am_SH k = (4, n)) (hk : k < 134) (hn : n < 2 ^ 31) (hx : i = nI j) (hj : j < n) (h : AP M_L_law b 472 [x0, x1, x2, x3, x4, x5, x6, x7, x8] (.long (g.2.2 k j) :: st) hi g Φ) : AP M_L_law b 471 [x0, x1, x2, x3, x4, x5, x6, x7, x8] (.int i :: .ref k :: st) hi g Φ := AP.lald d_L_law_471 hs (hI.lt hk) hn hx hj h
theorem d_L_law_472 : decode code 472 = .ok (.iload 6, 2) := by decide +kernel
theorem s_L_law_472 {n : Int32} (h : AP M_L_law b 474 [x0, x1, x2, x3, x4, x5, .int n, x7, x8] (.int n :: st) hi g Φ) : AP M_L_law b 472 [x0, x1, x2, x3, x4, x5, .int n, x7, x8] (st) hi g Φ := AP.iload (x := n) (i := 6) d_L_law_472 rfl h
theorem d_L_law_474 : decode code 474 = .ok (.i2l, 1) := by decide +kernel
theorem s_L_law_474 {x : Int32} (h : AP M_L_law b 475 [x0, x1, x2, x3, x4, x5, x6, x7, x8] (.long x.toInt64 :: st) hi g Φ) : AP M_L_law b 474 [x0, x1, x2, x3, x4, x5, x6, x7, x8] (.int x :: st) hi g Φ := AP.i2l d_L_law_474 h
theorem d_L_law_475 : decode code 475 = .ok (.lcmp, 1) := by decide +kernel
theorem s_L_law_475 {x y : Int64} (h : AP M_L_law b 476 [x0, x1, x2, x3, x4, x5, x6, x7, x8] (.int (lg_cmp x y) :: st) hi g Φ) : AP M_L_law b 475 [x0, x1, x2, x3, x4, x5, x6, x7, x8] (.long y :: .long x :: st) hi g Φ := AP.lcmp d_L_law_475 h
theorem d_L_law_476 : decode code 476 = .ok (.ifCond .eq 5, 3) := by decide +kernel
theorem s_L_law_476 {x : Int32} (h1 : x = 0 → AP M_L_law b 481 [x0, x1, x2, x3, x4, x5, x6, x7, x8] st hi g Φ) (h2 : ¬ x = 0 → AP M_L_law b 479 [x0, x1, x2, x3, x4, x5, x6, x7, x8] st hi g Φ) : AP M_L_law b 476 [x0, x1, x2, x3, x4, x5, x6, x7, x8] (.int x :: st) hi g Φ := AP.if_eq d_L_law_476 (by decide) h1 h2
theorem d_L_law_479 : decode code 479 = .ok (.iconst 0, 1) := by decide +kernel
theorem s_L_law_479 (h : AP M_L_law b 480 [x0, x1, x2, x3, x4, x5, x6, x7, x8] (.int 0 :: st) hi g Φ) : AP M_L_law b 479 [x0, x1, x2, x3, x4, x5, x6, x7, x8] (st) hi g Φ := AP.iconst (x := 0) d_L_law_479 (by decide) h
theorem d_L_law_480 : decode code 480 = .ok (.ireturn, 1) := by decide +kernel
theorem s_L_law_480 {x : Int32} (hx : x = 0 ∨ x = 1) (h : Φ (.ok (some (.int x))) hi g) : AP M_L_law b 480 [x0, x1, x2, x3, x4, x5, x6, x7, x8] [.int x] hi g Φ := AP.zret d_L_law_480 rfl hx h
theorem d_L_law_481 : decode code 481 = .ok (.goto 2270, 3) := by decide +kernel
theorem s_L_law_481 (h : AP M_L_law b 2751 [x0, x1, x2, x3, x4, x5, x6, x7, x8] st hi g Φ) : AP M_L_law b 481 [x0, x1, x2, x3, x4, x5, x6, x7, x8] st hi g Φ := AP.goto d_L_law_481 (by decide) h
theorem d_L_law_484 : decode code 484 = .ok (.aload_n 1, 1) := by decide +kernel
theorem s_L_law_484 {n : Nat} (h : AP M_L_law b 485 [x0, .ref n, x2, x3, x4, x5, x6, x7, x8] (.ref n :: st) hi g Φ) : AP M_L_law b 484 [x0, .ref n, x2, x3, x4, x5, x6, x7, x8] (st) hi g Φ := AP.aload_n (x := n) (i := 1) d_L_law_484 rfl rfl h
theorem d_L_law_485 : decode code 485 = .ok (.aload_n 3, 1) := by decide +kernel
theorem s_L_law_485 {n : Nat} (h : AP M_L_law b 486 [x0, x1, x2, .ref n, x4, x5, x6, x7, x8] (.ref n :: st) hi g Φ) : AP M_L_law b 485 [x0, x1, x2, .ref n, x4, x5, x6, x7, x8] (st) hi g Φ := AP.aload_n (x := n) (i := 3) d_L_law_485 rfl rfl h
theorem d_L_law_486 : decode code 486 = .ok (.invokestatic 152, 3) := by decide +kernel
-- s_L_law_486: a call apart
theorem d_L_law_489 : decode code 489 = .ok (.istore 5, 2) := by decide +kernel
theorem s_L_law_489 {n : Int32} (hc : x4.category = 1) (h : AP M_L_law b 491 [x0, x1, x2, x3, x4, .int n, x6, x7, x8] (st) hi g Φ) : AP M_L_law b 489 [x0, x1, x2, x3, x4, x5, x6, x7, x8] (.int n :: st) hi g Φ := AP.istore (x := n) (i := 5) d_L_law_489 (by decide) (by simp [am_st, am_ci, am_cr, am_cl, am_cd, hc]) h
theorem d_L_law_491 : decode code 491 = .ok (.aload_n 2, 1) := by decide +kernel
theorem s_L_law_491 {n : Nat} (h : AP M_L_law b 492 [x0, x1, .ref n, x3, x4, x5, x6, x7, x8] (.ref n :: st) hi g Φ) : AP M_L_law b 491 [x0, x1, .ref n, x3, x4, x5, x6, x7, x8] (st) hi g Φ := AP.aload_n (x := n) (i := 2) d_L_law_491 rfl rfl h
theorem d_L_law_492 : decode code 492 = .ok (.invokevirtual 155, 3) := by decide +kernel
theorem s_L_law_492  {k : Nat} {r0 : Int32} {P : am_HI → Prop} (hI : am_Inv g) (hs : am_SH k = (0, 10)) (hk : k < 134) (hst : (st.map Value.category).sum ≤ 8) (hc : am_Cr M_X10_drop [.ref k] hi g (some (.int r0)) P) (h : ∀ hi' : am_HI, P hi' → AP M_L_law b 495 [x0, x1, x2, x3, x4, x5, x6, x7, x8] (.int r0 :: st) hi' g Φ) : AP M_L_law b 492 [x0, x1, x2, x3, x4, x5, x6, x7, x8] (.ref k :: st) hi g Φ := AP.callVr (As := []) (q := (RX10, TX10, 15)) hI hc k_L_law_155 d_L_law_492 rfl hs hk rfl rfl hst h
theorem d_L_law_495 : decode code 495 = .ok (.istore 6, 2) := by decide +kernel
theorem s_L_law_495 {n : Int32} (hc : x5.category = 1) (h : AP M_L_law b 497 [x0, x1, x2, x3, x4, x5, .int n, x7, x8] (st) hi g Φ) : AP M_L_law b 495 [x0, x1, x2, x3, x4, x5, x6, x7, x8] (.int n :: st) hi g Φ := AP.istore (x := n) (i := 6) d_L_law_495 (by decide) (by simp [am_st, am_ci, am_cr, am_cl, am_cd, hc]) h
theorem d_L_law_497 : decode code 497 = .ok (.aload_n 2, 1) := by decide +kernel
theorem s_L_law_497 {n : Nat} (h : AP M_L_law b 498 [x0, x1, .ref n, x3, x4, x5, x6, x7, x8] (.ref n :: st) hi g Φ) : AP M_L_law b 497 [x0, x1, .ref n, x3, x4, x5, x6, x7, x8] (st) hi g Φ := AP.aload_n (x := n) (i := 2) d_L_law_497 rfl rfl h
theorem d_L_law_498 : decode code 498 = .ok (.invokevirtual 141, 3) := by decide +kernel
theorem s_L_law_498  {k : Nat} {r0 : Int32} {P : am_HI → Prop} (hI : am_Inv g) (hs : am_SH k = (0, 10)) (hk : k < 134) (hst : (st.map Value.category).sum ≤ 8) (hc : am_Cr M_X10_thrown [.ref k] hi g (some (.int r0)) P) (h : ∀ hi' : am_HI, P hi' → AP M_L_law b 501 [x0, x1, x2, x3, x4, x5, x6, x7, x8] (.int r0 :: st) hi' g Φ) : AP M_L_law b 498 [x0, x1, x2, x3, x4, x5, x6, x7, x8] (.ref k :: st) hi g Φ := AP.callVr (As := []) (q := (RX10, TX10, 15)) hI hc k_L_law_141 d_L_law_498 rfl hs hk rfl rfl hst h
theorem d_L_law_501 : decode code 501 = .ok (.iload 5, 2) := by decide +kernel
theorem s_L_law_501 {n : Int32} (h : AP M_L_law b 503 [x0, x1, x2, x3, x4, .int n, x6, x7, x8] (.int n :: st) hi g Φ) : AP M_L_law b 501 [x0, x1, x2, x3, x4, .int n, x6, x7, x8] (st) hi g Φ := AP.iload (x := n) (i := 5) d_L_law_501 rfl h
theorem d_L_law_503 : decode code 503 = .ok (.if_icmp .eq 5, 3) := by decide +kernel
theorem s_L_law_503 {x y : Int32} (h1 : x = y → AP M_L_law b 508 [x0, x1, x2, x3, x4, x5, x6, x7, x8] st hi g Φ) (h2 : ¬ x = y → AP M_L_law b 506 [x0, x1, x2, x3, x4, x5, x6, x7, x8] st hi g Φ) : AP M_L_law b 503 [x0, x1, x2, x3, x4, x5, x6, x7, x8] (.int y :: .int x :: st) hi g Φ := AP.icmp_eq d_L_law_503 (by decide) h1 h2
theorem d_L_law_506 : decode code 506 = .ok (.iconst 0, 1) := by decide +kernel
theorem s_L_law_506 (h : AP M_L_law b 507 [x0, x1, x2, x3, x4, x5, x6, x7, x8] (.int 0 :: st) hi g Φ) : AP M_L_law b 506 [x0, x1, x2, x3, x4, x5, x6, x7, x8] (st) hi g Φ := AP.iconst (x := 0) d_L_law_506 (by decide) h
theorem d_L_law_507 : decode code 507 = .ok (.ireturn, 1) := by decide +kernel
theorem s_L_law_507 {x : Int32} (hx : x = 0 ∨ x = 1) (h : Φ (.ok (some (.int x))) hi g) : AP M_L_law b 507 [x0, x1, x2, x3, x4, x5, x6, x7, x8] [.int x] hi g Φ := AP.zret d_L_law_507 rfl hx h
theorem d_L_law_508 : decode code 508 = .ok (.iload 5, 2) := by decide +kernel
theorem s_L_law_508 {n : Int32} (h : AP M_L_law b 510 [x0, x1, x2, x3, x4, .int n, x6, x7, x8] (.int n :: st) hi g Φ) : AP M_L_law b 508 [x0, x1, x2, x3, x4, .int n, x6, x7, x8] (st) hi g Φ := AP.iload (x := n) (i := 5) d_L_law_508 rfl h
theorem d_L_law_510 : decode code 510 = .ok (.ifCond .ne 15, 3) := by decide +kernel
theorem s_L_law_510 {x : Int32} (h1 : ¬ x = 0 → AP M_L_law b 525 [x0, x1, x2, x3, x4, x5, x6, x7, x8] st hi g Φ) (h2 : x = 0 → AP M_L_law b 513 [x0, x1, x2, x3, x4, x5, x6, x7, x8] st hi g Φ) : AP M_L_law b 510 [x0, x1, x2, x3, x4, x5, x6, x7, x8] (.int x :: st) hi g Φ := AP.if_ne d_L_law_510 (by decide) h1 h2
theorem d_L_law_513 : decode code 513 = .ok (.aload_n 3, 1) := by decide +kernel
theorem s_L_law_513 {n : Nat} (h : AP M_L_law b 514 [x0, x1, x2, .ref n, x4, x5, x6, x7, x8] (.ref n :: st) hi g Φ) : AP M_L_law b 513 [x0, x1, x2, .ref n, x4, x5, x6, x7, x8] (st) hi g Φ := AP.aload_n (x := n) (i := 3) d_L_law_513 rfl rfl h
theorem d_L_law_514 : decode code 514 = .ok (.iconst 0, 1) := by decide +kernel
theorem s_L_law_514 (h : AP M_L_law b 515 [x0, x1, x2, x3, x4, x5, x6, x7, x8] (.int 0 :: st) hi g Φ) : AP M_L_law b 514 [x0, x1, x2, x3, x4, x5, x6, x7, x8] (st) hi g Φ := AP.iconst (x := 0) d_L_law_514 (by decide) h
theorem d_L_law_515 : decode code 515 = .ok (.laload, 1) := by decide +kernel
theorem s_L_law_515 {k n j : Nat} {i : Int32} (hI : am_Inv g) (hs : am_SH k = (4, n)) (hk : k < 134) (hn : n < 2 ^ 31) (hx : i = nI j) (hj : j < n) (h : AP M_L_law b 516 [x0, x1, x2, x3, x4, x5, x6, x7, x8] (.long (g.2.2 k j) :: st) hi g Φ) : AP M_L_law b 515 [x0, x1, x2, x3, x4, x5, x6, x7, x8] (.int i :: .ref k :: st) hi g Φ := AP.lald d_L_law_515 hs (hI.lt hk) hn hx hj h
theorem d_L_law_516 : decode code 516 = .ok (.iload 6, 2) := by decide +kernel
theorem s_L_law_516 {n : Int32} (h : AP M_L_law b 518 [x0, x1, x2, x3, x4, x5, .int n, x7, x8] (.int n :: st) hi g Φ) : AP M_L_law b 516 [x0, x1, x2, x3, x4, x5, .int n, x7, x8] (st) hi g Φ := AP.iload (x := n) (i := 6) d_L_law_516 rfl h
theorem d_L_law_518 : decode code 518 = .ok (.i2l, 1) := by decide +kernel
theorem s_L_law_518 {x : Int32} (h : AP M_L_law b 519 [x0, x1, x2, x3, x4, x5, x6, x7, x8] (.long x.toInt64 :: st) hi g Φ) : AP M_L_law b 518 [x0, x1, x2, x3, x4, x5, x6, x7, x8] (.int x :: st) hi g Φ := AP.i2l d_L_law_518 h
theorem d_L_law_519 : decode code 519 = .ok (.lcmp, 1) := by decide +kernel
theorem s_L_law_519 {x y : Int64} (h : AP M_L_law b 520 [x0, x1, x2, x3, x4, x5, x6, x7, x8] (.int (lg_cmp x y) :: st) hi g Φ) : AP M_L_law b 519 [x0, x1, x2, x3, x4, x5, x6, x7, x8] (.long y :: .long x :: st) hi g Φ := AP.lcmp d_L_law_519 h
theorem d_L_law_520 : decode code 520 = .ok (.ifCond .eq 5, 3) := by decide +kernel
theorem s_L_law_520 {x : Int32} (h1 : x = 0 → AP M_L_law b 525 [x0, x1, x2, x3, x4, x5, x6, x7, x8] st hi g Φ) (h2 : ¬ x = 0 → AP M_L_law b 523 [x0, x1, x2, x3, x4, x5, x6, x7, x8] st hi g Φ) : AP M_L_law b 520 [x0, x1, x2, x3, x4, x5, x6, x7, x8] (.int x :: st) hi g Φ := AP.if_eq d_L_law_520 (by decide) h1 h2
theorem d_L_law_523 : decode code 523 = .ok (.iconst 0, 1) := by decide +kernel
theorem s_L_law_523 (h : AP M_L_law b 524 [x0, x1, x2, x3, x4, x5, x6, x7, x8] (.int 0 :: st) hi g Φ) : AP M_L_law b 523 [x0, x1, x2, x3, x4, x5, x6, x7, x8] (st) hi g Φ := AP.iconst (x := 0) d_L_law_523 (by decide) h
theorem d_L_law_524 : decode code 524 = .ok (.ireturn, 1) := by decide +kernel
theorem s_L_law_524 {x : Int32} (hx : x = 0 ∨ x = 1) (h : Φ (.ok (some (.int x))) hi g) : AP M_L_law b 524 [x0, x1, x2, x3, x4, x5, x6, x7, x8] [.int x] hi g Φ := AP.zret d_L_law_524 rfl hx h
theorem d_L_law_525 : decode code 525 = .ok (.goto 2226, 3) := by decide +kernel
theorem s_L_law_525 (h : AP M_L_law b 2751 [x0, x1, x2, x3, x4, x5, x6, x7, x8] st hi g Φ) : AP M_L_law b 525 [x0, x1, x2, x3, x4, x5, x6, x7, x8] st hi g Φ := AP.goto d_L_law_525 (by decide) h
theorem d_L_law_528 : decode code 528 = .ok (.aload_n 1, 1) := by decide +kernel
theorem s_L_law_528 {n : Nat} (h : AP M_L_law b 529 [x0, .ref n, x2, x3, x4, x5, x6, x7, x8] (.ref n :: st) hi g Φ) : AP M_L_law b 528 [x0, .ref n, x2, x3, x4, x5, x6, x7, x8] (st) hi g Φ := AP.aload_n (x := n) (i := 1) d_L_law_528 rfl rfl h
theorem d_L_law_529 : decode code 529 = .ok (.invokevirtual 156, 3) := by decide +kernel
theorem s_L_law_529  {k : Nat} {r0 : Int32} {P : am_HI → Prop} (hI : am_Inv g) (hs : am_SH k = (0, 9)) (hk : k < 134) (hst : (st.map Value.category).sum ≤ 8) (hc : am_Cr M_X9_empty [.ref k] hi g (some (.int r0)) P) (h : ∀ hi' : am_HI, P hi' → AP M_L_law b 532 [x0, x1, x2, x3, x4, x5, x6, x7, x8] (.int r0 :: st) hi' g Φ) : AP M_L_law b 529 [x0, x1, x2, x3, x4, x5, x6, x7, x8] (.ref k :: st) hi g Φ := AP.callVr (As := []) (q := (RX9, TX9, 7)) hI hc k_L_law_156 d_L_law_529 rfl hs hk rfl rfl hst h
theorem d_L_law_532 : decode code 532 = .ok (.aload_n 2, 1) := by decide +kernel
theorem s_L_law_532 {n : Nat} (h : AP M_L_law b 533 [x0, x1, .ref n, x3, x4, x5, x6, x7, x8] (.ref n :: st) hi g Φ) : AP M_L_law b 532 [x0, x1, .ref n, x3, x4, x5, x6, x7, x8] (st) hi g Φ := AP.aload_n (x := n) (i := 2) d_L_law_532 rfl rfl h
theorem d_L_law_533 : decode code 533 = .ok (.invokevirtual 159, 3) := by decide +kernel
theorem s_L_law_533  {k : Nat} {r0 : Int32} {P : am_HI → Prop} (hI : am_Inv g) (hs : am_SH k = (0, 10)) (hk : k < 134) (hst : (st.map Value.category).sum ≤ 8) (hc : am_Cr M_X10_empty [.ref k] hi g (some (.int r0)) P) (h : ∀ hi' : am_HI, P hi' → AP M_L_law b 536 [x0, x1, x2, x3, x4, x5, x6, x7, x8] (.int r0 :: st) hi' g Φ) : AP M_L_law b 533 [x0, x1, x2, x3, x4, x5, x6, x7, x8] (.ref k :: st) hi g Φ := AP.callVr (As := []) (q := (RX10, TX10, 15)) hI hc k_L_law_159 d_L_law_533 rfl hs hk rfl rfl hst h
theorem d_L_law_536 : decode code 536 = .ok (.if_icmp .eq 2215, 3) := by decide +kernel
theorem s_L_law_536 {x y : Int32} (h1 : x = y → AP M_L_law b 2751 [x0, x1, x2, x3, x4, x5, x6, x7, x8] st hi g Φ) (h2 : ¬ x = y → AP M_L_law b 539 [x0, x1, x2, x3, x4, x5, x6, x7, x8] st hi g Φ) : AP M_L_law b 536 [x0, x1, x2, x3, x4, x5, x6, x7, x8] (.int y :: .int x :: st) hi g Φ := AP.icmp_eq d_L_law_536 (by decide) h1 h2
theorem d_L_law_539 : decode code 539 = .ok (.iconst 0, 1) := by decide +kernel
theorem s_L_law_539 (h : AP M_L_law b 540 [x0, x1, x2, x3, x4, x5, x6, x7, x8] (.int 0 :: st) hi g Φ) : AP M_L_law b 539 [x0, x1, x2, x3, x4, x5, x6, x7, x8] (st) hi g Φ := AP.iconst (x := 0) d_L_law_539 (by decide) h
theorem d_L_law_540 : decode code 540 = .ok (.ireturn, 1) := by decide +kernel
theorem s_L_law_540 {x : Int32} (hx : x = 0 ∨ x = 1) (h : Φ (.ok (some (.int x))) hi g) : AP M_L_law b 540 [x0, x1, x2, x3, x4, x5, x6, x7, x8] [.int x] hi g Φ := AP.zret d_L_law_540 rfl hx h
theorem d_L_law_541 : decode code 541 = .ok (.aload_n 1, 1) := by decide +kernel
theorem s_L_law_541 {n : Nat} (h : AP M_L_law b 542 [x0, .ref n, x2, x3, x4, x5, x6, x7, x8] (.ref n :: st) hi g Φ) : AP M_L_law b 541 [x0, .ref n, x2, x3, x4, x5, x6, x7, x8] (st) hi g Φ := AP.aload_n (x := n) (i := 1) d_L_law_541 rfl rfl h
theorem d_L_law_542 : decode code 542 = .ok (.aload_n 0, 1) := by decide +kernel
theorem s_L_law_542 {n : Nat} (h : AP M_L_law b 543 [.ref n, x1, x2, x3, x4, x5, x6, x7, x8] (.ref n :: st) hi g Φ) : AP M_L_law b 542 [.ref n, x1, x2, x3, x4, x5, x6, x7, x8] (st) hi g Φ := AP.aload_n (x := n) (i := 0) d_L_law_542 rfl rfl h
theorem d_L_law_543 : decode code 543 = .ok (.iload 4, 2) := by decide +kernel
theorem s_L_law_543 {n : Int32} (h : AP M_L_law b 545 [x0, x1, x2, x3, .int n, x5, x6, x7, x8] (.int n :: st) hi g Φ) : AP M_L_law b 543 [x0, x1, x2, x3, .int n, x5, x6, x7, x8] (st) hi g Φ := AP.iload (x := n) (i := 4) d_L_law_543 rfl h
theorem d_L_law_545 : decode code 545 = .ok (.iconst 1, 1) := by decide +kernel
theorem s_L_law_545 (h : AP M_L_law b 546 [x0, x1, x2, x3, x4, x5, x6, x7, x8] (.int 1 :: st) hi g Φ) : AP M_L_law b 545 [x0, x1, x2, x3, x4, x5, x6, x7, x8] (st) hi g Φ := AP.iconst (x := 1) d_L_law_545 (by decide) h
theorem d_L_law_546 : decode code 546 = .ok (.iadd, 1) := by decide +kernel
theorem s_L_law_546 {x y : Int32} (h : AP M_L_law b 547 [x0, x1, x2, x3, x4, x5, x6, x7, x8] (.int (x + y) :: st) hi g Φ) : AP M_L_law b 546 [x0, x1, x2, x3, x4, x5, x6, x7, x8] (.int y :: .int x :: st) hi g Φ := AP.iadd d_L_law_546 h
theorem d_L_law_547 : decode code 547 = .ok (.iaload, 1) := by decide +kernel
theorem s_L_law_547 {k n j : Nat} {i : Int32} (hI : am_Inv g) (hs : am_SH k = (1, n)) (hk : k < 134) (hn : n < 2 ^ 31) (hx : i = nI j) (hj : j < n) (h : AP M_L_law b 548 [x0, x1, x2, x3, x4, x5, x6, x7, x8] (.int (hi k j) :: st) hi g Φ) : AP M_L_law b 547 [x0, x1, x2, x3, x4, x5, x6, x7, x8] (.int i :: .ref k :: st) hi g Φ := AP.iald d_L_law_547 hs (hI.lt hk) hn hx hj h
theorem d_L_law_548 : decode code 548 = .ok (.aload_n 3, 1) := by decide +kernel
theorem s_L_law_548 {n : Nat} (h : AP M_L_law b 549 [x0, x1, x2, .ref n, x4, x5, x6, x7, x8] (.ref n :: st) hi g Φ) : AP M_L_law b 548 [x0, x1, x2, .ref n, x4, x5, x6, x7, x8] (st) hi g Φ := AP.aload_n (x := n) (i := 3) d_L_law_548 rfl rfl h
theorem d_L_law_549 : decode code 549 = .ok (.invokestatic 160, 3) := by decide +kernel
-- s_L_law_549: a call apart
theorem d_L_law_552 : decode code 552 = .ok (.istore 5, 2) := by decide +kernel
theorem s_L_law_552 {n : Int32} (hc : x4.category = 1) (h : AP M_L_law b 554 [x0, x1, x2, x3, x4, .int n, x6, x7, x8] (st) hi g Φ) : AP M_L_law b 552 [x0, x1, x2, x3, x4, x5, x6, x7, x8] (.int n :: st) hi g Φ := AP.istore (x := n) (i := 5) d_L_law_552 (by decide) (by simp [am_st, am_ci, am_cr, am_cl, am_cd, hc]) h
theorem d_L_law_554 : decode code 554 = .ok (.aload_n 2, 1) := by decide +kernel
theorem s_L_law_554 {n : Nat} (h : AP M_L_law b 555 [x0, x1, .ref n, x3, x4, x5, x6, x7, x8] (.ref n :: st) hi g Φ) : AP M_L_law b 554 [x0, x1, .ref n, x3, x4, x5, x6, x7, x8] (st) hi g Φ := AP.aload_n (x := n) (i := 2) d_L_law_554 rfl rfl h
theorem d_L_law_555 : decode code 555 = .ok (.aload_n 0, 1) := by decide +kernel
theorem s_L_law_555 {n : Nat} (h : AP M_L_law b 556 [.ref n, x1, x2, x3, x4, x5, x6, x7, x8] (.ref n :: st) hi g Φ) : AP M_L_law b 555 [.ref n, x1, x2, x3, x4, x5, x6, x7, x8] (st) hi g Φ := AP.aload_n (x := n) (i := 0) d_L_law_555 rfl rfl h
theorem d_L_law_556 : decode code 556 = .ok (.iload 4, 2) := by decide +kernel
theorem s_L_law_556 {n : Int32} (h : AP M_L_law b 558 [x0, x1, x2, x3, .int n, x5, x6, x7, x8] (.int n :: st) hi g Φ) : AP M_L_law b 556 [x0, x1, x2, x3, .int n, x5, x6, x7, x8] (st) hi g Φ := AP.iload (x := n) (i := 4) d_L_law_556 rfl h
theorem d_L_law_558 : decode code 558 = .ok (.iconst 1, 1) := by decide +kernel
theorem s_L_law_558 (h : AP M_L_law b 559 [x0, x1, x2, x3, x4, x5, x6, x7, x8] (.int 1 :: st) hi g Φ) : AP M_L_law b 558 [x0, x1, x2, x3, x4, x5, x6, x7, x8] (st) hi g Φ := AP.iconst (x := 1) d_L_law_558 (by decide) h
theorem d_L_law_559 : decode code 559 = .ok (.iadd, 1) := by decide +kernel
theorem s_L_law_559 {x y : Int32} (h : AP M_L_law b 560 [x0, x1, x2, x3, x4, x5, x6, x7, x8] (.int (x + y) :: st) hi g Φ) : AP M_L_law b 559 [x0, x1, x2, x3, x4, x5, x6, x7, x8] (.int y :: .int x :: st) hi g Φ := AP.iadd d_L_law_559 h
theorem d_L_law_560 : decode code 560 = .ok (.iaload, 1) := by decide +kernel
theorem s_L_law_560 {k n j : Nat} {i : Int32} (hI : am_Inv g) (hs : am_SH k = (1, n)) (hk : k < 134) (hn : n < 2 ^ 31) (hx : i = nI j) (hj : j < n) (h : AP M_L_law b 561 [x0, x1, x2, x3, x4, x5, x6, x7, x8] (.int (hi k j) :: st) hi g Φ) : AP M_L_law b 560 [x0, x1, x2, x3, x4, x5, x6, x7, x8] (.int i :: .ref k :: st) hi g Φ := AP.iald d_L_law_560 hs (hI.lt hk) hn hx hj h
theorem d_L_law_561 : decode code 561 = .ok (.invokevirtual 162, 3) := by decide +kernel
theorem s_L_law_561 {a0 : Int32} {k : Nat} {r0 : Int32} {P : am_HI → Prop} (hI : am_Inv g) (hs : am_SH k = (0, 10)) (hk : k < 134) (hst : (st.map Value.category).sum ≤ 8) (hc : am_Cr M_X10_setDelay [.ref k, .int a0] hi g (some (.int r0)) P) (h : ∀ hi' : am_HI, P hi' → AP M_L_law b 564 [x0, x1, x2, x3, x4, x5, x6, x7, x8] (.int r0 :: st) hi' g Φ) : AP M_L_law b 561 [x0, x1, x2, x3, x4, x5, x6, x7, x8] (.int a0 :: .ref k :: st) hi g Φ := AP.callVr (As := [.int a0]) (q := (RX10, TX10, 15)) hI hc k_L_law_162 d_L_law_561 rfl hs hk rfl rfl hst h
theorem d_L_law_564 : decode code 564 = .ok (.istore 6, 2) := by decide +kernel
theorem s_L_law_564 {n : Int32} (hc : x5.category = 1) (h : AP M_L_law b 566 [x0, x1, x2, x3, x4, x5, .int n, x7, x8] (st) hi g Φ) : AP M_L_law b 564 [x0, x1, x2, x3, x4, x5, x6, x7, x8] (.int n :: st) hi g Φ := AP.istore (x := n) (i := 6) d_L_law_564 (by decide) (by simp [am_st, am_ci, am_cr, am_cl, am_cd, hc]) h
theorem d_L_law_566 : decode code 566 = .ok (.aload_n 2, 1) := by decide +kernel
theorem s_L_law_566 {n : Nat} (h : AP M_L_law b 567 [x0, x1, .ref n, x3, x4, x5, x6, x7, x8] (.ref n :: st) hi g Φ) : AP M_L_law b 566 [x0, x1, .ref n, x3, x4, x5, x6, x7, x8] (st) hi g Φ := AP.aload_n (x := n) (i := 2) d_L_law_566 rfl rfl h
theorem d_L_law_567 : decode code 567 = .ok (.invokevirtual 141, 3) := by decide +kernel
theorem s_L_law_567  {k : Nat} {r0 : Int32} {P : am_HI → Prop} (hI : am_Inv g) (hs : am_SH k = (0, 10)) (hk : k < 134) (hst : (st.map Value.category).sum ≤ 8) (hc : am_Cr M_X10_thrown [.ref k] hi g (some (.int r0)) P) (h : ∀ hi' : am_HI, P hi' → AP M_L_law b 570 [x0, x1, x2, x3, x4, x5, x6, x7, x8] (.int r0 :: st) hi' g Φ) : AP M_L_law b 567 [x0, x1, x2, x3, x4, x5, x6, x7, x8] (.ref k :: st) hi g Φ := AP.callVr (As := []) (q := (RX10, TX10, 15)) hI hc k_L_law_141 d_L_law_567 rfl hs hk rfl rfl hst h
theorem d_L_law_570 : decode code 570 = .ok (.iload 5, 2) := by decide +kernel
theorem s_L_law_570 {n : Int32} (h : AP M_L_law b 572 [x0, x1, x2, x3, x4, .int n, x6, x7, x8] (.int n :: st) hi g Φ) : AP M_L_law b 570 [x0, x1, x2, x3, x4, .int n, x6, x7, x8] (st) hi g Φ := AP.iload (x := n) (i := 5) d_L_law_570 rfl h
theorem d_L_law_572 : decode code 572 = .ok (.if_icmp .eq 5, 3) := by decide +kernel
theorem s_L_law_572 {x y : Int32} (h1 : x = y → AP M_L_law b 577 [x0, x1, x2, x3, x4, x5, x6, x7, x8] st hi g Φ) (h2 : ¬ x = y → AP M_L_law b 575 [x0, x1, x2, x3, x4, x5, x6, x7, x8] st hi g Φ) : AP M_L_law b 572 [x0, x1, x2, x3, x4, x5, x6, x7, x8] (.int y :: .int x :: st) hi g Φ := AP.icmp_eq d_L_law_572 (by decide) h1 h2
theorem d_L_law_575 : decode code 575 = .ok (.iconst 0, 1) := by decide +kernel
theorem s_L_law_575 (h : AP M_L_law b 576 [x0, x1, x2, x3, x4, x5, x6, x7, x8] (.int 0 :: st) hi g Φ) : AP M_L_law b 575 [x0, x1, x2, x3, x4, x5, x6, x7, x8] (st) hi g Φ := AP.iconst (x := 0) d_L_law_575 (by decide) h
theorem d_L_law_576 : decode code 576 = .ok (.ireturn, 1) := by decide +kernel
theorem s_L_law_576 {x : Int32} (hx : x = 0 ∨ x = 1) (h : Φ (.ok (some (.int x))) hi g) : AP M_L_law b 576 [x0, x1, x2, x3, x4, x5, x6, x7, x8] [.int x] hi g Φ := AP.zret d_L_law_576 rfl hx h
theorem d_L_law_577 : decode code 577 = .ok (.iload 5, 2) := by decide +kernel
theorem s_L_law_577 {n : Int32} (h : AP M_L_law b 579 [x0, x1, x2, x3, x4, .int n, x6, x7, x8] (.int n :: st) hi g Φ) : AP M_L_law b 577 [x0, x1, x2, x3, x4, .int n, x6, x7, x8] (st) hi g Φ := AP.iload (x := n) (i := 5) d_L_law_577 rfl h
theorem d_L_law_579 : decode code 579 = .ok (.ifCond .ne 15, 3) := by decide +kernel
theorem s_L_law_579 {x : Int32} (h1 : ¬ x = 0 → AP M_L_law b 594 [x0, x1, x2, x3, x4, x5, x6, x7, x8] st hi g Φ) (h2 : x = 0 → AP M_L_law b 582 [x0, x1, x2, x3, x4, x5, x6, x7, x8] st hi g Φ) : AP M_L_law b 579 [x0, x1, x2, x3, x4, x5, x6, x7, x8] (.int x :: st) hi g Φ := AP.if_ne d_L_law_579 (by decide) h1 h2
theorem d_L_law_582 : decode code 582 = .ok (.aload_n 3, 1) := by decide +kernel
theorem s_L_law_582 {n : Nat} (h : AP M_L_law b 583 [x0, x1, x2, .ref n, x4, x5, x6, x7, x8] (.ref n :: st) hi g Φ) : AP M_L_law b 582 [x0, x1, x2, .ref n, x4, x5, x6, x7, x8] (st) hi g Φ := AP.aload_n (x := n) (i := 3) d_L_law_582 rfl rfl h
theorem d_L_law_583 : decode code 583 = .ok (.iconst 0, 1) := by decide +kernel
theorem s_L_law_583 (h : AP M_L_law b 584 [x0, x1, x2, x3, x4, x5, x6, x7, x8] (.int 0 :: st) hi g Φ) : AP M_L_law b 583 [x0, x1, x2, x3, x4, x5, x6, x7, x8] (st) hi g Φ := AP.iconst (x := 0) d_L_law_583 (by decide) h
theorem d_L_law_584 : decode code 584 = .ok (.laload, 1) := by decide +kernel
theorem s_L_law_584 {k n j : Nat} {i : Int32} (hI : am_Inv g) (hs : am_SH k = (4, n)) (hk : k < 134) (hn : n < 2 ^ 31) (hx : i = nI j) (hj : j < n) (h : AP M_L_law b 585 [x0, x1, x2, x3, x4, x5, x6, x7, x8] (.long (g.2.2 k j) :: st) hi g Φ) : AP M_L_law b 584 [x0, x1, x2, x3, x4, x5, x6, x7, x8] (.int i :: .ref k :: st) hi g Φ := AP.lald d_L_law_584 hs (hI.lt hk) hn hx hj h
theorem d_L_law_585 : decode code 585 = .ok (.iload 6, 2) := by decide +kernel
theorem s_L_law_585 {n : Int32} (h : AP M_L_law b 587 [x0, x1, x2, x3, x4, x5, .int n, x7, x8] (.int n :: st) hi g Φ) : AP M_L_law b 585 [x0, x1, x2, x3, x4, x5, .int n, x7, x8] (st) hi g Φ := AP.iload (x := n) (i := 6) d_L_law_585 rfl h
theorem d_L_law_587 : decode code 587 = .ok (.i2l, 1) := by decide +kernel
theorem s_L_law_587 {x : Int32} (h : AP M_L_law b 588 [x0, x1, x2, x3, x4, x5, x6, x7, x8] (.long x.toInt64 :: st) hi g Φ) : AP M_L_law b 587 [x0, x1, x2, x3, x4, x5, x6, x7, x8] (.int x :: st) hi g Φ := AP.i2l d_L_law_587 h
theorem d_L_law_588 : decode code 588 = .ok (.lcmp, 1) := by decide +kernel
theorem s_L_law_588 {x y : Int64} (h : AP M_L_law b 589 [x0, x1, x2, x3, x4, x5, x6, x7, x8] (.int (lg_cmp x y) :: st) hi g Φ) : AP M_L_law b 588 [x0, x1, x2, x3, x4, x5, x6, x7, x8] (.long y :: .long x :: st) hi g Φ := AP.lcmp d_L_law_588 h
theorem d_L_law_589 : decode code 589 = .ok (.ifCond .eq 5, 3) := by decide +kernel
theorem s_L_law_589 {x : Int32} (h1 : x = 0 → AP M_L_law b 594 [x0, x1, x2, x3, x4, x5, x6, x7, x8] st hi g Φ) (h2 : ¬ x = 0 → AP M_L_law b 592 [x0, x1, x2, x3, x4, x5, x6, x7, x8] st hi g Φ) : AP M_L_law b 589 [x0, x1, x2, x3, x4, x5, x6, x7, x8] (.int x :: st) hi g Φ := AP.if_eq d_L_law_589 (by decide) h1 h2
theorem d_L_law_592 : decode code 592 = .ok (.iconst 0, 1) := by decide +kernel
theorem s_L_law_592 (h : AP M_L_law b 593 [x0, x1, x2, x3, x4, x5, x6, x7, x8] (.int 0 :: st) hi g Φ) : AP M_L_law b 592 [x0, x1, x2, x3, x4, x5, x6, x7, x8] (st) hi g Φ := AP.iconst (x := 0) d_L_law_592 (by decide) h
theorem d_L_law_593 : decode code 593 = .ok (.ireturn, 1) := by decide +kernel
theorem s_L_law_593 {x : Int32} (hx : x = 0 ∨ x = 1) (h : Φ (.ok (some (.int x))) hi g) : AP M_L_law b 593 [x0, x1, x2, x3, x4, x5, x6, x7, x8] [.int x] hi g Φ := AP.zret d_L_law_593 rfl hx h
theorem d_L_law_594 : decode code 594 = .ok (.goto 2157, 3) := by decide +kernel
theorem s_L_law_594 (h : AP M_L_law b 2751 [x0, x1, x2, x3, x4, x5, x6, x7, x8] st hi g Φ) : AP M_L_law b 594 [x0, x1, x2, x3, x4, x5, x6, x7, x8] st hi g Φ := AP.goto d_L_law_594 (by decide) h
theorem d_L_law_597 : decode code 597 = .ok (.aload_n 1, 1) := by decide +kernel
theorem s_L_law_597 {n : Nat} (h : AP M_L_law b 598 [x0, .ref n, x2, x3, x4, x5, x6, x7, x8] (.ref n :: st) hi g Φ) : AP M_L_law b 597 [x0, .ref n, x2, x3, x4, x5, x6, x7, x8] (st) hi g Φ := AP.aload_n (x := n) (i := 1) d_L_law_597 rfl rfl h
theorem d_L_law_598 : decode code 598 = .ok (.aload_n 0, 1) := by decide +kernel
theorem s_L_law_598 {n : Nat} (h : AP M_L_law b 599 [.ref n, x1, x2, x3, x4, x5, x6, x7, x8] (.ref n :: st) hi g Φ) : AP M_L_law b 598 [.ref n, x1, x2, x3, x4, x5, x6, x7, x8] (st) hi g Φ := AP.aload_n (x := n) (i := 0) d_L_law_598 rfl rfl h
theorem d_L_law_599 : decode code 599 = .ok (.iload 4, 2) := by decide +kernel
theorem s_L_law_599 {n : Int32} (h : AP M_L_law b 601 [x0, x1, x2, x3, .int n, x5, x6, x7, x8] (.int n :: st) hi g Φ) : AP M_L_law b 599 [x0, x1, x2, x3, .int n, x5, x6, x7, x8] (st) hi g Φ := AP.iload (x := n) (i := 4) d_L_law_599 rfl h
theorem d_L_law_601 : decode code 601 = .ok (.iconst 1, 1) := by decide +kernel
theorem s_L_law_601 (h : AP M_L_law b 602 [x0, x1, x2, x3, x4, x5, x6, x7, x8] (.int 1 :: st) hi g Φ) : AP M_L_law b 601 [x0, x1, x2, x3, x4, x5, x6, x7, x8] (st) hi g Φ := AP.iconst (x := 1) d_L_law_601 (by decide) h
theorem d_L_law_602 : decode code 602 = .ok (.iadd, 1) := by decide +kernel
theorem s_L_law_602 {x y : Int32} (h : AP M_L_law b 603 [x0, x1, x2, x3, x4, x5, x6, x7, x8] (.int (x + y) :: st) hi g Φ) : AP M_L_law b 602 [x0, x1, x2, x3, x4, x5, x6, x7, x8] (.int y :: .int x :: st) hi g Φ := AP.iadd d_L_law_602 h
theorem d_L_law_603 : decode code 603 = .ok (.iaload, 1) := by decide +kernel
theorem s_L_law_603 {k n j : Nat} {i : Int32} (hI : am_Inv g) (hs : am_SH k = (1, n)) (hk : k < 134) (hn : n < 2 ^ 31) (hx : i = nI j) (hj : j < n) (h : AP M_L_law b 604 [x0, x1, x2, x3, x4, x5, x6, x7, x8] (.int (hi k j) :: st) hi g Φ) : AP M_L_law b 603 [x0, x1, x2, x3, x4, x5, x6, x7, x8] (.int i :: .ref k :: st) hi g Φ := AP.iald d_L_law_603 hs (hI.lt hk) hn hx hj h
theorem d_L_law_604 : decode code 604 = .ok (.aload_n 3, 1) := by decide +kernel
theorem s_L_law_604 {n : Nat} (h : AP M_L_law b 605 [x0, x1, x2, .ref n, x4, x5, x6, x7, x8] (.ref n :: st) hi g Φ) : AP M_L_law b 604 [x0, x1, x2, .ref n, x4, x5, x6, x7, x8] (st) hi g Φ := AP.aload_n (x := n) (i := 3) d_L_law_604 rfl rfl h
theorem d_L_law_605 : decode code 605 = .ok (.invokestatic 163, 3) := by decide +kernel
-- s_L_law_605: a call apart
theorem d_L_law_608 : decode code 608 = .ok (.istore 5, 2) := by decide +kernel
theorem s_L_law_608 {n : Int32} (hc : x4.category = 1) (h : AP M_L_law b 610 [x0, x1, x2, x3, x4, .int n, x6, x7, x8] (st) hi g Φ) : AP M_L_law b 608 [x0, x1, x2, x3, x4, x5, x6, x7, x8] (.int n :: st) hi g Φ := AP.istore (x := n) (i := 5) d_L_law_608 (by decide) (by simp [am_st, am_ci, am_cr, am_cl, am_cd, hc]) h
theorem d_L_law_610 : decode code 610 = .ok (.aload_n 2, 1) := by decide +kernel
theorem s_L_law_610 {n : Nat} (h : AP M_L_law b 611 [x0, x1, .ref n, x3, x4, x5, x6, x7, x8] (.ref n :: st) hi g Φ) : AP M_L_law b 610 [x0, x1, .ref n, x3, x4, x5, x6, x7, x8] (st) hi g Φ := AP.aload_n (x := n) (i := 2) d_L_law_610 rfl rfl h
theorem d_L_law_611 : decode code 611 = .ok (.aload_n 0, 1) := by decide +kernel
theorem s_L_law_611 {n : Nat} (h : AP M_L_law b 612 [.ref n, x1, x2, x3, x4, x5, x6, x7, x8] (.ref n :: st) hi g Φ) : AP M_L_law b 611 [.ref n, x1, x2, x3, x4, x5, x6, x7, x8] (st) hi g Φ := AP.aload_n (x := n) (i := 0) d_L_law_611 rfl rfl h
theorem d_L_law_612 : decode code 612 = .ok (.iload 4, 2) := by decide +kernel
theorem s_L_law_612 {n : Int32} (h : AP M_L_law b 614 [x0, x1, x2, x3, .int n, x5, x6, x7, x8] (.int n :: st) hi g Φ) : AP M_L_law b 612 [x0, x1, x2, x3, .int n, x5, x6, x7, x8] (st) hi g Φ := AP.iload (x := n) (i := 4) d_L_law_612 rfl h
theorem d_L_law_614 : decode code 614 = .ok (.iconst 1, 1) := by decide +kernel
theorem s_L_law_614 (h : AP M_L_law b 615 [x0, x1, x2, x3, x4, x5, x6, x7, x8] (.int 1 :: st) hi g Φ) : AP M_L_law b 614 [x0, x1, x2, x3, x4, x5, x6, x7, x8] (st) hi g Φ := AP.iconst (x := 1) d_L_law_614 (by decide) h
theorem d_L_law_615 : decode code 615 = .ok (.iadd, 1) := by decide +kernel
theorem s_L_law_615 {x y : Int32} (h : AP M_L_law b 616 [x0, x1, x2, x3, x4, x5, x6, x7, x8] (.int (x + y) :: st) hi g Φ) : AP M_L_law b 615 [x0, x1, x2, x3, x4, x5, x6, x7, x8] (.int y :: .int x :: st) hi g Φ := AP.iadd d_L_law_615 h
theorem d_L_law_616 : decode code 616 = .ok (.iaload, 1) := by decide +kernel
theorem s_L_law_616 {k n j : Nat} {i : Int32} (hI : am_Inv g) (hs : am_SH k = (1, n)) (hk : k < 134) (hn : n < 2 ^ 31) (hx : i = nI j) (hj : j < n) (h : AP M_L_law b 617 [x0, x1, x2, x3, x4, x5, x6, x7, x8] (.int (hi k j) :: st) hi g Φ) : AP M_L_law b 616 [x0, x1, x2, x3, x4, x5, x6, x7, x8] (.int i :: .ref k :: st) hi g Φ := AP.iald d_L_law_616 hs (hI.lt hk) hn hx hj h
theorem d_L_law_617 : decode code 617 = .ok (.invokevirtual 165, 3) := by decide +kernel
theorem s_L_law_617 {a0 : Int32} {k : Nat} {r0 : Int32} {P : am_HI → Prop} (hI : am_Inv g) (hs : am_SH k = (0, 10)) (hk : k < 134) (hst : (st.map Value.category).sum ≤ 8) (hc : am_Cr M_X10_setSpeed [.ref k, .int a0] hi g (some (.int r0)) P) (h : ∀ hi' : am_HI, P hi' → AP M_L_law b 620 [x0, x1, x2, x3, x4, x5, x6, x7, x8] (.int r0 :: st) hi' g Φ) : AP M_L_law b 617 [x0, x1, x2, x3, x4, x5, x6, x7, x8] (.int a0 :: .ref k :: st) hi g Φ := AP.callVr (As := [.int a0]) (q := (RX10, TX10, 15)) hI hc k_L_law_165 d_L_law_617 rfl hs hk rfl rfl hst h
theorem d_L_law_620 : decode code 620 = .ok (.istore 6, 2) := by decide +kernel
theorem s_L_law_620 {n : Int32} (hc : x5.category = 1) (h : AP M_L_law b 622 [x0, x1, x2, x3, x4, x5, .int n, x7, x8] (st) hi g Φ) : AP M_L_law b 620 [x0, x1, x2, x3, x4, x5, x6, x7, x8] (.int n :: st) hi g Φ := AP.istore (x := n) (i := 6) d_L_law_620 (by decide) (by simp [am_st, am_ci, am_cr, am_cl, am_cd, hc]) h
theorem d_L_law_622 : decode code 622 = .ok (.aload_n 2, 1) := by decide +kernel
theorem s_L_law_622 {n : Nat} (h : AP M_L_law b 623 [x0, x1, .ref n, x3, x4, x5, x6, x7, x8] (.ref n :: st) hi g Φ) : AP M_L_law b 622 [x0, x1, .ref n, x3, x4, x5, x6, x7, x8] (st) hi g Φ := AP.aload_n (x := n) (i := 2) d_L_law_622 rfl rfl h
theorem d_L_law_623 : decode code 623 = .ok (.invokevirtual 141, 3) := by decide +kernel
theorem s_L_law_623  {k : Nat} {r0 : Int32} {P : am_HI → Prop} (hI : am_Inv g) (hs : am_SH k = (0, 10)) (hk : k < 134) (hst : (st.map Value.category).sum ≤ 8) (hc : am_Cr M_X10_thrown [.ref k] hi g (some (.int r0)) P) (h : ∀ hi' : am_HI, P hi' → AP M_L_law b 626 [x0, x1, x2, x3, x4, x5, x6, x7, x8] (.int r0 :: st) hi' g Φ) : AP M_L_law b 623 [x0, x1, x2, x3, x4, x5, x6, x7, x8] (.ref k :: st) hi g Φ := AP.callVr (As := []) (q := (RX10, TX10, 15)) hI hc k_L_law_141 d_L_law_623 rfl hs hk rfl rfl hst h
theorem d_L_law_626 : decode code 626 = .ok (.iload 5, 2) := by decide +kernel
theorem s_L_law_626 {n : Int32} (h : AP M_L_law b 628 [x0, x1, x2, x3, x4, .int n, x6, x7, x8] (.int n :: st) hi g Φ) : AP M_L_law b 626 [x0, x1, x2, x3, x4, .int n, x6, x7, x8] (st) hi g Φ := AP.iload (x := n) (i := 5) d_L_law_626 rfl h
theorem d_L_law_628 : decode code 628 = .ok (.if_icmp .eq 5, 3) := by decide +kernel
theorem s_L_law_628 {x y : Int32} (h1 : x = y → AP M_L_law b 633 [x0, x1, x2, x3, x4, x5, x6, x7, x8] st hi g Φ) (h2 : ¬ x = y → AP M_L_law b 631 [x0, x1, x2, x3, x4, x5, x6, x7, x8] st hi g Φ) : AP M_L_law b 628 [x0, x1, x2, x3, x4, x5, x6, x7, x8] (.int y :: .int x :: st) hi g Φ := AP.icmp_eq d_L_law_628 (by decide) h1 h2
theorem d_L_law_631 : decode code 631 = .ok (.iconst 0, 1) := by decide +kernel
theorem s_L_law_631 (h : AP M_L_law b 632 [x0, x1, x2, x3, x4, x5, x6, x7, x8] (.int 0 :: st) hi g Φ) : AP M_L_law b 631 [x0, x1, x2, x3, x4, x5, x6, x7, x8] (st) hi g Φ := AP.iconst (x := 0) d_L_law_631 (by decide) h
theorem d_L_law_632 : decode code 632 = .ok (.ireturn, 1) := by decide +kernel
theorem s_L_law_632 {x : Int32} (hx : x = 0 ∨ x = 1) (h : Φ (.ok (some (.int x))) hi g) : AP M_L_law b 632 [x0, x1, x2, x3, x4, x5, x6, x7, x8] [.int x] hi g Φ := AP.zret d_L_law_632 rfl hx h
theorem d_L_law_633 : decode code 633 = .ok (.iload 5, 2) := by decide +kernel
theorem s_L_law_633 {n : Int32} (h : AP M_L_law b 635 [x0, x1, x2, x3, x4, .int n, x6, x7, x8] (.int n :: st) hi g Φ) : AP M_L_law b 633 [x0, x1, x2, x3, x4, .int n, x6, x7, x8] (st) hi g Φ := AP.iload (x := n) (i := 5) d_L_law_633 rfl h
theorem d_L_law_635 : decode code 635 = .ok (.ifCond .ne 15, 3) := by decide +kernel
theorem s_L_law_635 {x : Int32} (h1 : ¬ x = 0 → AP M_L_law b 650 [x0, x1, x2, x3, x4, x5, x6, x7, x8] st hi g Φ) (h2 : x = 0 → AP M_L_law b 638 [x0, x1, x2, x3, x4, x5, x6, x7, x8] st hi g Φ) : AP M_L_law b 635 [x0, x1, x2, x3, x4, x5, x6, x7, x8] (.int x :: st) hi g Φ := AP.if_ne d_L_law_635 (by decide) h1 h2
theorem d_L_law_638 : decode code 638 = .ok (.aload_n 3, 1) := by decide +kernel
theorem s_L_law_638 {n : Nat} (h : AP M_L_law b 639 [x0, x1, x2, .ref n, x4, x5, x6, x7, x8] (.ref n :: st) hi g Φ) : AP M_L_law b 638 [x0, x1, x2, .ref n, x4, x5, x6, x7, x8] (st) hi g Φ := AP.aload_n (x := n) (i := 3) d_L_law_638 rfl rfl h
theorem d_L_law_639 : decode code 639 = .ok (.iconst 0, 1) := by decide +kernel
theorem s_L_law_639 (h : AP M_L_law b 640 [x0, x1, x2, x3, x4, x5, x6, x7, x8] (.int 0 :: st) hi g Φ) : AP M_L_law b 639 [x0, x1, x2, x3, x4, x5, x6, x7, x8] (st) hi g Φ := AP.iconst (x := 0) d_L_law_639 (by decide) h
theorem d_L_law_640 : decode code 640 = .ok (.laload, 1) := by decide +kernel
theorem s_L_law_640 {k n j : Nat} {i : Int32} (hI : am_Inv g) (hs : am_SH k = (4, n)) (hk : k < 134) (hn : n < 2 ^ 31) (hx : i = nI j) (hj : j < n) (h : AP M_L_law b 641 [x0, x1, x2, x3, x4, x5, x6, x7, x8] (.long (g.2.2 k j) :: st) hi g Φ) : AP M_L_law b 640 [x0, x1, x2, x3, x4, x5, x6, x7, x8] (.int i :: .ref k :: st) hi g Φ := AP.lald d_L_law_640 hs (hI.lt hk) hn hx hj h
theorem d_L_law_641 : decode code 641 = .ok (.iload 6, 2) := by decide +kernel
theorem s_L_law_641 {n : Int32} (h : AP M_L_law b 643 [x0, x1, x2, x3, x4, x5, .int n, x7, x8] (.int n :: st) hi g Φ) : AP M_L_law b 641 [x0, x1, x2, x3, x4, x5, .int n, x7, x8] (st) hi g Φ := AP.iload (x := n) (i := 6) d_L_law_641 rfl h
theorem d_L_law_643 : decode code 643 = .ok (.i2l, 1) := by decide +kernel
theorem s_L_law_643 {x : Int32} (h : AP M_L_law b 644 [x0, x1, x2, x3, x4, x5, x6, x7, x8] (.long x.toInt64 :: st) hi g Φ) : AP M_L_law b 643 [x0, x1, x2, x3, x4, x5, x6, x7, x8] (.int x :: st) hi g Φ := AP.i2l d_L_law_643 h
theorem d_L_law_644 : decode code 644 = .ok (.lcmp, 1) := by decide +kernel
theorem s_L_law_644 {x y : Int64} (h : AP M_L_law b 645 [x0, x1, x2, x3, x4, x5, x6, x7, x8] (.int (lg_cmp x y) :: st) hi g Φ) : AP M_L_law b 644 [x0, x1, x2, x3, x4, x5, x6, x7, x8] (.long y :: .long x :: st) hi g Φ := AP.lcmp d_L_law_644 h
theorem d_L_law_645 : decode code 645 = .ok (.ifCond .eq 5, 3) := by decide +kernel
theorem s_L_law_645 {x : Int32} (h1 : x = 0 → AP M_L_law b 650 [x0, x1, x2, x3, x4, x5, x6, x7, x8] st hi g Φ) (h2 : ¬ x = 0 → AP M_L_law b 648 [x0, x1, x2, x3, x4, x5, x6, x7, x8] st hi g Φ) : AP M_L_law b 645 [x0, x1, x2, x3, x4, x5, x6, x7, x8] (.int x :: st) hi g Φ := AP.if_eq d_L_law_645 (by decide) h1 h2
theorem d_L_law_648 : decode code 648 = .ok (.iconst 0, 1) := by decide +kernel
theorem s_L_law_648 (h : AP M_L_law b 649 [x0, x1, x2, x3, x4, x5, x6, x7, x8] (.int 0 :: st) hi g Φ) : AP M_L_law b 648 [x0, x1, x2, x3, x4, x5, x6, x7, x8] (st) hi g Φ := AP.iconst (x := 0) d_L_law_648 (by decide) h
theorem d_L_law_649 : decode code 649 = .ok (.ireturn, 1) := by decide +kernel
theorem s_L_law_649 {x : Int32} (hx : x = 0 ∨ x = 1) (h : Φ (.ok (some (.int x))) hi g) : AP M_L_law b 649 [x0, x1, x2, x3, x4, x5, x6, x7, x8] [.int x] hi g Φ := AP.zret d_L_law_649 rfl hx h
theorem d_L_law_650 : decode code 650 = .ok (.goto 2101, 3) := by decide +kernel
theorem s_L_law_650 (h : AP M_L_law b 2751 [x0, x1, x2, x3, x4, x5, x6, x7, x8] st hi g Φ) : AP M_L_law b 650 [x0, x1, x2, x3, x4, x5, x6, x7, x8] st hi g Φ := AP.goto d_L_law_650 (by decide) h
theorem d_L_law_653 : decode code 653 = .ok (.aload_n 1, 1) := by decide +kernel
theorem s_L_law_653 {n : Nat} (h : AP M_L_law b 654 [x0, .ref n, x2, x3, x4, x5, x6, x7, x8] (.ref n :: st) hi g Φ) : AP M_L_law b 653 [x0, .ref n, x2, x3, x4, x5, x6, x7, x8] (st) hi g Φ := AP.aload_n (x := n) (i := 1) d_L_law_653 rfl rfl h
theorem d_L_law_654 : decode code 654 = .ok (.aload_n 0, 1) := by decide +kernel
theorem s_L_law_654 {n : Nat} (h : AP M_L_law b 655 [.ref n, x1, x2, x3, x4, x5, x6, x7, x8] (.ref n :: st) hi g Φ) : AP M_L_law b 654 [.ref n, x1, x2, x3, x4, x5, x6, x7, x8] (st) hi g Φ := AP.aload_n (x := n) (i := 0) d_L_law_654 rfl rfl h
theorem d_L_law_655 : decode code 655 = .ok (.iload 4, 2) := by decide +kernel
theorem s_L_law_655 {n : Int32} (h : AP M_L_law b 657 [x0, x1, x2, x3, .int n, x5, x6, x7, x8] (.int n :: st) hi g Φ) : AP M_L_law b 655 [x0, x1, x2, x3, .int n, x5, x6, x7, x8] (st) hi g Φ := AP.iload (x := n) (i := 4) d_L_law_655 rfl h
theorem d_L_law_657 : decode code 657 = .ok (.iconst 1, 1) := by decide +kernel
theorem s_L_law_657 (h : AP M_L_law b 658 [x0, x1, x2, x3, x4, x5, x6, x7, x8] (.int 1 :: st) hi g Φ) : AP M_L_law b 657 [x0, x1, x2, x3, x4, x5, x6, x7, x8] (st) hi g Φ := AP.iconst (x := 1) d_L_law_657 (by decide) h
theorem d_L_law_658 : decode code 658 = .ok (.iadd, 1) := by decide +kernel
theorem s_L_law_658 {x y : Int32} (h : AP M_L_law b 659 [x0, x1, x2, x3, x4, x5, x6, x7, x8] (.int (x + y) :: st) hi g Φ) : AP M_L_law b 658 [x0, x1, x2, x3, x4, x5, x6, x7, x8] (.int y :: .int x :: st) hi g Φ := AP.iadd d_L_law_658 h
theorem d_L_law_659 : decode code 659 = .ok (.iaload, 1) := by decide +kernel
theorem s_L_law_659 {k n j : Nat} {i : Int32} (hI : am_Inv g) (hs : am_SH k = (1, n)) (hk : k < 134) (hn : n < 2 ^ 31) (hx : i = nI j) (hj : j < n) (h : AP M_L_law b 660 [x0, x1, x2, x3, x4, x5, x6, x7, x8] (.int (hi k j) :: st) hi g Φ) : AP M_L_law b 659 [x0, x1, x2, x3, x4, x5, x6, x7, x8] (.int i :: .ref k :: st) hi g Φ := AP.iald d_L_law_659 hs (hI.lt hk) hn hx hj h
theorem d_L_law_660 : decode code 660 = .ok (.aload_n 0, 1) := by decide +kernel
theorem s_L_law_660 {n : Nat} (h : AP M_L_law b 661 [.ref n, x1, x2, x3, x4, x5, x6, x7, x8] (.ref n :: st) hi g Φ) : AP M_L_law b 660 [.ref n, x1, x2, x3, x4, x5, x6, x7, x8] (st) hi g Φ := AP.aload_n (x := n) (i := 0) d_L_law_660 rfl rfl h
theorem d_L_law_661 : decode code 661 = .ok (.iload 4, 2) := by decide +kernel
theorem s_L_law_661 {n : Int32} (h : AP M_L_law b 663 [x0, x1, x2, x3, .int n, x5, x6, x7, x8] (.int n :: st) hi g Φ) : AP M_L_law b 661 [x0, x1, x2, x3, .int n, x5, x6, x7, x8] (st) hi g Φ := AP.iload (x := n) (i := 4) d_L_law_661 rfl h
theorem d_L_law_663 : decode code 663 = .ok (.iconst 2, 1) := by decide +kernel
theorem s_L_law_663 (h : AP M_L_law b 664 [x0, x1, x2, x3, x4, x5, x6, x7, x8] (.int 2 :: st) hi g Φ) : AP M_L_law b 663 [x0, x1, x2, x3, x4, x5, x6, x7, x8] (st) hi g Φ := AP.iconst (x := 2) d_L_law_663 (by decide) h
theorem d_L_law_664 : decode code 664 = .ok (.iadd, 1) := by decide +kernel
theorem s_L_law_664 {x y : Int32} (h : AP M_L_law b 665 [x0, x1, x2, x3, x4, x5, x6, x7, x8] (.int (x + y) :: st) hi g Φ) : AP M_L_law b 664 [x0, x1, x2, x3, x4, x5, x6, x7, x8] (.int y :: .int x :: st) hi g Φ := AP.iadd d_L_law_664 h
theorem d_L_law_665 : decode code 665 = .ok (.iaload, 1) := by decide +kernel
theorem s_L_law_665 {k n j : Nat} {i : Int32} (hI : am_Inv g) (hs : am_SH k = (1, n)) (hk : k < 134) (hn : n < 2 ^ 31) (hx : i = nI j) (hj : j < n) (h : AP M_L_law b 666 [x0, x1, x2, x3, x4, x5, x6, x7, x8] (.int (hi k j) :: st) hi g Φ) : AP M_L_law b 665 [x0, x1, x2, x3, x4, x5, x6, x7, x8] (.int i :: .ref k :: st) hi g Φ := AP.iald d_L_law_665 hs (hI.lt hk) hn hx hj h
theorem d_L_law_666 : decode code 666 = .ok (.aload_n 3, 1) := by decide +kernel
theorem s_L_law_666 {n : Nat} (h : AP M_L_law b 667 [x0, x1, x2, .ref n, x4, x5, x6, x7, x8] (.ref n :: st) hi g Φ) : AP M_L_law b 666 [x0, x1, x2, .ref n, x4, x5, x6, x7, x8] (st) hi g Φ := AP.aload_n (x := n) (i := 3) d_L_law_666 rfl rfl h
theorem d_L_law_667 : decode code 667 = .ok (.invokestatic 166, 3) := by decide +kernel
-- s_L_law_667: a call apart
theorem d_L_law_670 : decode code 670 = .ok (.istore 5, 2) := by decide +kernel
theorem s_L_law_670 {n : Int32} (hc : x4.category = 1) (h : AP M_L_law b 672 [x0, x1, x2, x3, x4, .int n, x6, x7, x8] (st) hi g Φ) : AP M_L_law b 670 [x0, x1, x2, x3, x4, x5, x6, x7, x8] (.int n :: st) hi g Φ := AP.istore (x := n) (i := 5) d_L_law_670 (by decide) (by simp [am_st, am_ci, am_cr, am_cl, am_cd, hc]) h
theorem d_L_law_672 : decode code 672 = .ok (.aload_n 2, 1) := by decide +kernel
theorem s_L_law_672 {n : Nat} (h : AP M_L_law b 673 [x0, x1, .ref n, x3, x4, x5, x6, x7, x8] (.ref n :: st) hi g Φ) : AP M_L_law b 672 [x0, x1, .ref n, x3, x4, x5, x6, x7, x8] (st) hi g Φ := AP.aload_n (x := n) (i := 2) d_L_law_672 rfl rfl h
theorem d_L_law_673 : decode code 673 = .ok (.aload_n 0, 1) := by decide +kernel
theorem s_L_law_673 {n : Nat} (h : AP M_L_law b 674 [.ref n, x1, x2, x3, x4, x5, x6, x7, x8] (.ref n :: st) hi g Φ) : AP M_L_law b 673 [.ref n, x1, x2, x3, x4, x5, x6, x7, x8] (st) hi g Φ := AP.aload_n (x := n) (i := 0) d_L_law_673 rfl rfl h
theorem d_L_law_674 : decode code 674 = .ok (.iload 4, 2) := by decide +kernel
theorem s_L_law_674 {n : Int32} (h : AP M_L_law b 676 [x0, x1, x2, x3, .int n, x5, x6, x7, x8] (.int n :: st) hi g Φ) : AP M_L_law b 674 [x0, x1, x2, x3, .int n, x5, x6, x7, x8] (st) hi g Φ := AP.iload (x := n) (i := 4) d_L_law_674 rfl h
theorem d_L_law_676 : decode code 676 = .ok (.iconst 1, 1) := by decide +kernel
theorem s_L_law_676 (h : AP M_L_law b 677 [x0, x1, x2, x3, x4, x5, x6, x7, x8] (.int 1 :: st) hi g Φ) : AP M_L_law b 676 [x0, x1, x2, x3, x4, x5, x6, x7, x8] (st) hi g Φ := AP.iconst (x := 1) d_L_law_676 (by decide) h
theorem d_L_law_677 : decode code 677 = .ok (.iadd, 1) := by decide +kernel
theorem s_L_law_677 {x y : Int32} (h : AP M_L_law b 678 [x0, x1, x2, x3, x4, x5, x6, x7, x8] (.int (x + y) :: st) hi g Φ) : AP M_L_law b 677 [x0, x1, x2, x3, x4, x5, x6, x7, x8] (.int y :: .int x :: st) hi g Φ := AP.iadd d_L_law_677 h
theorem d_L_law_678 : decode code 678 = .ok (.iaload, 1) := by decide +kernel
theorem s_L_law_678 {k n j : Nat} {i : Int32} (hI : am_Inv g) (hs : am_SH k = (1, n)) (hk : k < 134) (hn : n < 2 ^ 31) (hx : i = nI j) (hj : j < n) (h : AP M_L_law b 679 [x0, x1, x2, x3, x4, x5, x6, x7, x8] (.int (hi k j) :: st) hi g Φ) : AP M_L_law b 678 [x0, x1, x2, x3, x4, x5, x6, x7, x8] (.int i :: .ref k :: st) hi g Φ := AP.iald d_L_law_678 hs (hI.lt hk) hn hx hj h
theorem d_L_law_679 : decode code 679 = .ok (.aload_n 0, 1) := by decide +kernel
theorem s_L_law_679 {n : Nat} (h : AP M_L_law b 680 [.ref n, x1, x2, x3, x4, x5, x6, x7, x8] (.ref n :: st) hi g Φ) : AP M_L_law b 679 [.ref n, x1, x2, x3, x4, x5, x6, x7, x8] (st) hi g Φ := AP.aload_n (x := n) (i := 0) d_L_law_679 rfl rfl h
theorem d_L_law_680 : decode code 680 = .ok (.iload 4, 2) := by decide +kernel
theorem s_L_law_680 {n : Int32} (h : AP M_L_law b 682 [x0, x1, x2, x3, .int n, x5, x6, x7, x8] (.int n :: st) hi g Φ) : AP M_L_law b 680 [x0, x1, x2, x3, .int n, x5, x6, x7, x8] (st) hi g Φ := AP.iload (x := n) (i := 4) d_L_law_680 rfl h
theorem d_L_law_682 : decode code 682 = .ok (.iconst 2, 1) := by decide +kernel
theorem s_L_law_682 (h : AP M_L_law b 683 [x0, x1, x2, x3, x4, x5, x6, x7, x8] (.int 2 :: st) hi g Φ) : AP M_L_law b 682 [x0, x1, x2, x3, x4, x5, x6, x7, x8] (st) hi g Φ := AP.iconst (x := 2) d_L_law_682 (by decide) h
theorem d_L_law_683 : decode code 683 = .ok (.iadd, 1) := by decide +kernel
theorem s_L_law_683 {x y : Int32} (h : AP M_L_law b 684 [x0, x1, x2, x3, x4, x5, x6, x7, x8] (.int (x + y) :: st) hi g Φ) : AP M_L_law b 683 [x0, x1, x2, x3, x4, x5, x6, x7, x8] (.int y :: .int x :: st) hi g Φ := AP.iadd d_L_law_683 h
theorem d_L_law_684 : decode code 684 = .ok (.iaload, 1) := by decide +kernel
theorem s_L_law_684 {k n j : Nat} {i : Int32} (hI : am_Inv g) (hs : am_SH k = (1, n)) (hk : k < 134) (hn : n < 2 ^ 31) (hx : i = nI j) (hj : j < n) (h : AP M_L_law b 685 [x0, x1, x2, x3, x4, x5, x6, x7, x8] (.int (hi k j) :: st) hi g Φ) : AP M_L_law b 684 [x0, x1, x2, x3, x4, x5, x6, x7, x8] (.int i :: .ref k :: st) hi g Φ := AP.iald d_L_law_684 hs (hI.lt hk) hn hx hj h
theorem d_L_law_685 : decode code 685 = .ok (.invokevirtual 168, 3) := by decide +kernel
theorem s_L_law_685 {a0 : Int32} {a1 : Int32} {k : Nat} {r0 : Int32} {P : am_HI → Prop} (hI : am_Inv g) (hs : am_SH k = (0, 10)) (hk : k < 134) (hst : (st.map Value.category).sum ≤ 8) (hc : am_Cr M_X10_setWeight [.ref k, .int a0, .int a1] hi g (some (.int r0)) P) (h : ∀ hi' : am_HI, P hi' → AP M_L_law b 688 [x0, x1, x2, x3, x4, x5, x6, x7, x8] (.int r0 :: st) hi' g Φ) : AP M_L_law b 685 [x0, x1, x2, x3, x4, x5, x6, x7, x8] (.int a1 :: .int a0 :: .ref k :: st) hi g Φ := AP.callVr (As := [.int a0, .int a1]) (q := (RX10, TX10, 15)) hI hc k_L_law_168 d_L_law_685 rfl hs hk rfl rfl hst h
theorem d_L_law_688 : decode code 688 = .ok (.istore 6, 2) := by decide +kernel
theorem s_L_law_688 {n : Int32} (hc : x5.category = 1) (h : AP M_L_law b 690 [x0, x1, x2, x3, x4, x5, .int n, x7, x8] (st) hi g Φ) : AP M_L_law b 688 [x0, x1, x2, x3, x4, x5, x6, x7, x8] (.int n :: st) hi g Φ := AP.istore (x := n) (i := 6) d_L_law_688 (by decide) (by simp [am_st, am_ci, am_cr, am_cl, am_cd, hc]) h
theorem d_L_law_690 : decode code 690 = .ok (.aload_n 2, 1) := by decide +kernel
theorem s_L_law_690 {n : Nat} (h : AP M_L_law b 691 [x0, x1, .ref n, x3, x4, x5, x6, x7, x8] (.ref n :: st) hi g Φ) : AP M_L_law b 690 [x0, x1, .ref n, x3, x4, x5, x6, x7, x8] (st) hi g Φ := AP.aload_n (x := n) (i := 2) d_L_law_690 rfl rfl h
theorem d_L_law_691 : decode code 691 = .ok (.invokevirtual 141, 3) := by decide +kernel
theorem s_L_law_691  {k : Nat} {r0 : Int32} {P : am_HI → Prop} (hI : am_Inv g) (hs : am_SH k = (0, 10)) (hk : k < 134) (hst : (st.map Value.category).sum ≤ 8) (hc : am_Cr M_X10_thrown [.ref k] hi g (some (.int r0)) P) (h : ∀ hi' : am_HI, P hi' → AP M_L_law b 694 [x0, x1, x2, x3, x4, x5, x6, x7, x8] (.int r0 :: st) hi' g Φ) : AP M_L_law b 691 [x0, x1, x2, x3, x4, x5, x6, x7, x8] (.ref k :: st) hi g Φ := AP.callVr (As := []) (q := (RX10, TX10, 15)) hI hc k_L_law_141 d_L_law_691 rfl hs hk rfl rfl hst h
theorem d_L_law_694 : decode code 694 = .ok (.iload 5, 2) := by decide +kernel
theorem s_L_law_694 {n : Int32} (h : AP M_L_law b 696 [x0, x1, x2, x3, x4, .int n, x6, x7, x8] (.int n :: st) hi g Φ) : AP M_L_law b 694 [x0, x1, x2, x3, x4, .int n, x6, x7, x8] (st) hi g Φ := AP.iload (x := n) (i := 5) d_L_law_694 rfl h
theorem d_L_law_696 : decode code 696 = .ok (.if_icmp .eq 5, 3) := by decide +kernel
theorem s_L_law_696 {x y : Int32} (h1 : x = y → AP M_L_law b 701 [x0, x1, x2, x3, x4, x5, x6, x7, x8] st hi g Φ) (h2 : ¬ x = y → AP M_L_law b 699 [x0, x1, x2, x3, x4, x5, x6, x7, x8] st hi g Φ) : AP M_L_law b 696 [x0, x1, x2, x3, x4, x5, x6, x7, x8] (.int y :: .int x :: st) hi g Φ := AP.icmp_eq d_L_law_696 (by decide) h1 h2
theorem d_L_law_699 : decode code 699 = .ok (.iconst 0, 1) := by decide +kernel
theorem s_L_law_699 (h : AP M_L_law b 700 [x0, x1, x2, x3, x4, x5, x6, x7, x8] (.int 0 :: st) hi g Φ) : AP M_L_law b 699 [x0, x1, x2, x3, x4, x5, x6, x7, x8] (st) hi g Φ := AP.iconst (x := 0) d_L_law_699 (by decide) h
theorem d_L_law_700 : decode code 700 = .ok (.ireturn, 1) := by decide +kernel
theorem s_L_law_700 {x : Int32} (hx : x = 0 ∨ x = 1) (h : Φ (.ok (some (.int x))) hi g) : AP M_L_law b 700 [x0, x1, x2, x3, x4, x5, x6, x7, x8] [.int x] hi g Φ := AP.zret d_L_law_700 rfl hx h
theorem d_L_law_701 : decode code 701 = .ok (.iload 5, 2) := by decide +kernel
theorem s_L_law_701 {n : Int32} (h : AP M_L_law b 703 [x0, x1, x2, x3, x4, .int n, x6, x7, x8] (.int n :: st) hi g Φ) : AP M_L_law b 701 [x0, x1, x2, x3, x4, .int n, x6, x7, x8] (st) hi g Φ := AP.iload (x := n) (i := 5) d_L_law_701 rfl h
theorem d_L_law_703 : decode code 703 = .ok (.ifCond .ne 15, 3) := by decide +kernel
theorem s_L_law_703 {x : Int32} (h1 : ¬ x = 0 → AP M_L_law b 718 [x0, x1, x2, x3, x4, x5, x6, x7, x8] st hi g Φ) (h2 : x = 0 → AP M_L_law b 706 [x0, x1, x2, x3, x4, x5, x6, x7, x8] st hi g Φ) : AP M_L_law b 703 [x0, x1, x2, x3, x4, x5, x6, x7, x8] (.int x :: st) hi g Φ := AP.if_ne d_L_law_703 (by decide) h1 h2
theorem d_L_law_706 : decode code 706 = .ok (.aload_n 3, 1) := by decide +kernel
theorem s_L_law_706 {n : Nat} (h : AP M_L_law b 707 [x0, x1, x2, .ref n, x4, x5, x6, x7, x8] (.ref n :: st) hi g Φ) : AP M_L_law b 706 [x0, x1, x2, .ref n, x4, x5, x6, x7, x8] (st) hi g Φ := AP.aload_n (x := n) (i := 3) d_L_law_706 rfl rfl h
theorem d_L_law_707 : decode code 707 = .ok (.iconst 0, 1) := by decide +kernel
theorem s_L_law_707 (h : AP M_L_law b 708 [x0, x1, x2, x3, x4, x5, x6, x7, x8] (.int 0 :: st) hi g Φ) : AP M_L_law b 707 [x0, x1, x2, x3, x4, x5, x6, x7, x8] (st) hi g Φ := AP.iconst (x := 0) d_L_law_707 (by decide) h
theorem d_L_law_708 : decode code 708 = .ok (.laload, 1) := by decide +kernel
theorem s_L_law_708 {k n j : Nat} {i : Int32} (hI : am_Inv g) (hs : am_SH k = (4, n)) (hk : k < 134) (hn : n < 2 ^ 31) (hx : i = nI j) (hj : j < n) (h : AP M_L_law b 709 [x0, x1, x2, x3, x4, x5, x6, x7, x8] (.long (g.2.2 k j) :: st) hi g Φ) : AP M_L_law b 708 [x0, x1, x2, x3, x4, x5, x6, x7, x8] (.int i :: .ref k :: st) hi g Φ := AP.lald d_L_law_708 hs (hI.lt hk) hn hx hj h
theorem d_L_law_709 : decode code 709 = .ok (.iload 6, 2) := by decide +kernel
theorem s_L_law_709 {n : Int32} (h : AP M_L_law b 711 [x0, x1, x2, x3, x4, x5, .int n, x7, x8] (.int n :: st) hi g Φ) : AP M_L_law b 709 [x0, x1, x2, x3, x4, x5, .int n, x7, x8] (st) hi g Φ := AP.iload (x := n) (i := 6) d_L_law_709 rfl h
theorem d_L_law_711 : decode code 711 = .ok (.i2l, 1) := by decide +kernel
theorem s_L_law_711 {x : Int32} (h : AP M_L_law b 712 [x0, x1, x2, x3, x4, x5, x6, x7, x8] (.long x.toInt64 :: st) hi g Φ) : AP M_L_law b 711 [x0, x1, x2, x3, x4, x5, x6, x7, x8] (.int x :: st) hi g Φ := AP.i2l d_L_law_711 h
theorem d_L_law_712 : decode code 712 = .ok (.lcmp, 1) := by decide +kernel
theorem s_L_law_712 {x y : Int64} (h : AP M_L_law b 713 [x0, x1, x2, x3, x4, x5, x6, x7, x8] (.int (lg_cmp x y) :: st) hi g Φ) : AP M_L_law b 712 [x0, x1, x2, x3, x4, x5, x6, x7, x8] (.long y :: .long x :: st) hi g Φ := AP.lcmp d_L_law_712 h
theorem d_L_law_713 : decode code 713 = .ok (.ifCond .eq 5, 3) := by decide +kernel
theorem s_L_law_713 {x : Int32} (h1 : x = 0 → AP M_L_law b 718 [x0, x1, x2, x3, x4, x5, x6, x7, x8] st hi g Φ) (h2 : ¬ x = 0 → AP M_L_law b 716 [x0, x1, x2, x3, x4, x5, x6, x7, x8] st hi g Φ) : AP M_L_law b 713 [x0, x1, x2, x3, x4, x5, x6, x7, x8] (.int x :: st) hi g Φ := AP.if_eq d_L_law_713 (by decide) h1 h2
theorem d_L_law_716 : decode code 716 = .ok (.iconst 0, 1) := by decide +kernel
theorem s_L_law_716 (h : AP M_L_law b 717 [x0, x1, x2, x3, x4, x5, x6, x7, x8] (.int 0 :: st) hi g Φ) : AP M_L_law b 716 [x0, x1, x2, x3, x4, x5, x6, x7, x8] (st) hi g Φ := AP.iconst (x := 0) d_L_law_716 (by decide) h
theorem d_L_law_717 : decode code 717 = .ok (.ireturn, 1) := by decide +kernel
theorem s_L_law_717 {x : Int32} (hx : x = 0 ∨ x = 1) (h : Φ (.ok (some (.int x))) hi g) : AP M_L_law b 717 [x0, x1, x2, x3, x4, x5, x6, x7, x8] [.int x] hi g Φ := AP.zret d_L_law_717 rfl hx h
theorem d_L_law_718 : decode code 718 = .ok (.goto 2033, 3) := by decide +kernel
theorem s_L_law_718 (h : AP M_L_law b 2751 [x0, x1, x2, x3, x4, x5, x6, x7, x8] st hi g Φ) : AP M_L_law b 718 [x0, x1, x2, x3, x4, x5, x6, x7, x8] st hi g Φ := AP.goto d_L_law_718 (by decide) h
theorem d_L_law_721 : decode code 721 = .ok (.aload_n 1, 1) := by decide +kernel
theorem s_L_law_721 {n : Nat} (h : AP M_L_law b 722 [x0, .ref n, x2, x3, x4, x5, x6, x7, x8] (.ref n :: st) hi g Φ) : AP M_L_law b 721 [x0, .ref n, x2, x3, x4, x5, x6, x7, x8] (st) hi g Φ := AP.aload_n (x := n) (i := 1) d_L_law_721 rfl rfl h
theorem d_L_law_722 : decode code 722 = .ok (.aload_n 0, 1) := by decide +kernel
theorem s_L_law_722 {n : Nat} (h : AP M_L_law b 723 [.ref n, x1, x2, x3, x4, x5, x6, x7, x8] (.ref n :: st) hi g Φ) : AP M_L_law b 722 [.ref n, x1, x2, x3, x4, x5, x6, x7, x8] (st) hi g Φ := AP.aload_n (x := n) (i := 0) d_L_law_722 rfl rfl h
theorem d_L_law_723 : decode code 723 = .ok (.iload 4, 2) := by decide +kernel
theorem s_L_law_723 {n : Int32} (h : AP M_L_law b 725 [x0, x1, x2, x3, .int n, x5, x6, x7, x8] (.int n :: st) hi g Φ) : AP M_L_law b 723 [x0, x1, x2, x3, .int n, x5, x6, x7, x8] (st) hi g Φ := AP.iload (x := n) (i := 4) d_L_law_723 rfl h
theorem d_L_law_725 : decode code 725 = .ok (.iconst 1, 1) := by decide +kernel
theorem s_L_law_725 (h : AP M_L_law b 726 [x0, x1, x2, x3, x4, x5, x6, x7, x8] (.int 1 :: st) hi g Φ) : AP M_L_law b 725 [x0, x1, x2, x3, x4, x5, x6, x7, x8] (st) hi g Φ := AP.iconst (x := 1) d_L_law_725 (by decide) h
theorem d_L_law_726 : decode code 726 = .ok (.iadd, 1) := by decide +kernel
theorem s_L_law_726 {x y : Int32} (h : AP M_L_law b 727 [x0, x1, x2, x3, x4, x5, x6, x7, x8] (.int (x + y) :: st) hi g Φ) : AP M_L_law b 726 [x0, x1, x2, x3, x4, x5, x6, x7, x8] (.int y :: .int x :: st) hi g Φ := AP.iadd d_L_law_726 h
theorem d_L_law_727 : decode code 727 = .ok (.iaload, 1) := by decide +kernel
theorem s_L_law_727 {k n j : Nat} {i : Int32} (hI : am_Inv g) (hs : am_SH k = (1, n)) (hk : k < 134) (hn : n < 2 ^ 31) (hx : i = nI j) (hj : j < n) (h : AP M_L_law b 728 [x0, x1, x2, x3, x4, x5, x6, x7, x8] (.int (hi k j) :: st) hi g Φ) : AP M_L_law b 727 [x0, x1, x2, x3, x4, x5, x6, x7, x8] (.int i :: .ref k :: st) hi g Φ := AP.iald d_L_law_727 hs (hI.lt hk) hn hx hj h
theorem d_L_law_728 : decode code 728 = .ok (.aload_n 3, 1) := by decide +kernel
theorem s_L_law_728 {n : Nat} (h : AP M_L_law b 729 [x0, x1, x2, .ref n, x4, x5, x6, x7, x8] (.ref n :: st) hi g Φ) : AP M_L_law b 728 [x0, x1, x2, .ref n, x4, x5, x6, x7, x8] (st) hi g Φ := AP.aload_n (x := n) (i := 3) d_L_law_728 rfl rfl h
theorem d_L_law_729 : decode code 729 = .ok (.invokestatic 169, 3) := by decide +kernel
-- s_L_law_729: a call apart
theorem d_L_law_732 : decode code 732 = .ok (.istore 5, 2) := by decide +kernel
theorem s_L_law_732 {n : Int32} (hc : x4.category = 1) (h : AP M_L_law b 734 [x0, x1, x2, x3, x4, .int n, x6, x7, x8] (st) hi g Φ) : AP M_L_law b 732 [x0, x1, x2, x3, x4, x5, x6, x7, x8] (.int n :: st) hi g Φ := AP.istore (x := n) (i := 5) d_L_law_732 (by decide) (by simp [am_st, am_ci, am_cr, am_cl, am_cd, hc]) h
theorem d_L_law_734 : decode code 734 = .ok (.aload_n 2, 1) := by decide +kernel
theorem s_L_law_734 {n : Nat} (h : AP M_L_law b 735 [x0, x1, .ref n, x3, x4, x5, x6, x7, x8] (.ref n :: st) hi g Φ) : AP M_L_law b 734 [x0, x1, .ref n, x3, x4, x5, x6, x7, x8] (st) hi g Φ := AP.aload_n (x := n) (i := 2) d_L_law_734 rfl rfl h
theorem d_L_law_735 : decode code 735 = .ok (.aload_n 0, 1) := by decide +kernel
theorem s_L_law_735 {n : Nat} (h : AP M_L_law b 736 [.ref n, x1, x2, x3, x4, x5, x6, x7, x8] (.ref n :: st) hi g Φ) : AP M_L_law b 735 [.ref n, x1, x2, x3, x4, x5, x6, x7, x8] (st) hi g Φ := AP.aload_n (x := n) (i := 0) d_L_law_735 rfl rfl h
theorem d_L_law_736 : decode code 736 = .ok (.iload 4, 2) := by decide +kernel
theorem s_L_law_736 {n : Int32} (h : AP M_L_law b 738 [x0, x1, x2, x3, .int n, x5, x6, x7, x8] (.int n :: st) hi g Φ) : AP M_L_law b 736 [x0, x1, x2, x3, .int n, x5, x6, x7, x8] (st) hi g Φ := AP.iload (x := n) (i := 4) d_L_law_736 rfl h
theorem d_L_law_738 : decode code 738 = .ok (.iconst 1, 1) := by decide +kernel
theorem s_L_law_738 (h : AP M_L_law b 739 [x0, x1, x2, x3, x4, x5, x6, x7, x8] (.int 1 :: st) hi g Φ) : AP M_L_law b 738 [x0, x1, x2, x3, x4, x5, x6, x7, x8] (st) hi g Φ := AP.iconst (x := 1) d_L_law_738 (by decide) h
theorem d_L_law_739 : decode code 739 = .ok (.iadd, 1) := by decide +kernel
theorem s_L_law_739 {x y : Int32} (h : AP M_L_law b 740 [x0, x1, x2, x3, x4, x5, x6, x7, x8] (.int (x + y) :: st) hi g Φ) : AP M_L_law b 739 [x0, x1, x2, x3, x4, x5, x6, x7, x8] (.int y :: .int x :: st) hi g Φ := AP.iadd d_L_law_739 h
theorem d_L_law_740 : decode code 740 = .ok (.iaload, 1) := by decide +kernel
theorem s_L_law_740 {k n j : Nat} {i : Int32} (hI : am_Inv g) (hs : am_SH k = (1, n)) (hk : k < 134) (hn : n < 2 ^ 31) (hx : i = nI j) (hj : j < n) (h : AP M_L_law b 741 [x0, x1, x2, x3, x4, x5, x6, x7, x8] (.int (hi k j) :: st) hi g Φ) : AP M_L_law b 740 [x0, x1, x2, x3, x4, x5, x6, x7, x8] (.int i :: .ref k :: st) hi g Φ := AP.iald d_L_law_740 hs (hI.lt hk) hn hx hj h
theorem d_L_law_741 : decode code 741 = .ok (.invokevirtual 171, 3) := by decide +kernel
theorem s_L_law_741 {a0 : Int32} {k : Nat} {r0 : Int32} {P : am_HI → Prop} (hI : am_Inv g) (hs : am_SH k = (0, 10)) (hk : k < 134) (hst : (st.map Value.category).sum ≤ 8) (hc : am_Cr M_X10_turnKind [.ref k, .int a0] hi g (some (.int r0)) P) (h : ∀ hi' : am_HI, P hi' → AP M_L_law b 744 [x0, x1, x2, x3, x4, x5, x6, x7, x8] (.int r0 :: st) hi' g Φ) : AP M_L_law b 741 [x0, x1, x2, x3, x4, x5, x6, x7, x8] (.int a0 :: .ref k :: st) hi g Φ := AP.callVr (As := [.int a0]) (q := (RX10, TX10, 15)) hI hc k_L_law_171 d_L_law_741 rfl hs hk rfl rfl hst h
theorem d_L_law_744 : decode code 744 = .ok (.istore 6, 2) := by decide +kernel
theorem s_L_law_744 {n : Int32} (hc : x5.category = 1) (h : AP M_L_law b 746 [x0, x1, x2, x3, x4, x5, .int n, x7, x8] (st) hi g Φ) : AP M_L_law b 744 [x0, x1, x2, x3, x4, x5, x6, x7, x8] (.int n :: st) hi g Φ := AP.istore (x := n) (i := 6) d_L_law_744 (by decide) (by simp [am_st, am_ci, am_cr, am_cl, am_cd, hc]) h
theorem d_L_law_746 : decode code 746 = .ok (.aload_n 2, 1) := by decide +kernel
theorem s_L_law_746 {n : Nat} (h : AP M_L_law b 747 [x0, x1, .ref n, x3, x4, x5, x6, x7, x8] (.ref n :: st) hi g Φ) : AP M_L_law b 746 [x0, x1, .ref n, x3, x4, x5, x6, x7, x8] (st) hi g Φ := AP.aload_n (x := n) (i := 2) d_L_law_746 rfl rfl h
theorem d_L_law_747 : decode code 747 = .ok (.invokevirtual 141, 3) := by decide +kernel
theorem s_L_law_747  {k : Nat} {r0 : Int32} {P : am_HI → Prop} (hI : am_Inv g) (hs : am_SH k = (0, 10)) (hk : k < 134) (hst : (st.map Value.category).sum ≤ 8) (hc : am_Cr M_X10_thrown [.ref k] hi g (some (.int r0)) P) (h : ∀ hi' : am_HI, P hi' → AP M_L_law b 750 [x0, x1, x2, x3, x4, x5, x6, x7, x8] (.int r0 :: st) hi' g Φ) : AP M_L_law b 747 [x0, x1, x2, x3, x4, x5, x6, x7, x8] (.ref k :: st) hi g Φ := AP.callVr (As := []) (q := (RX10, TX10, 15)) hI hc k_L_law_141 d_L_law_747 rfl hs hk rfl rfl hst h
theorem d_L_law_750 : decode code 750 = .ok (.iload 5, 2) := by decide +kernel
theorem s_L_law_750 {n : Int32} (h : AP M_L_law b 752 [x0, x1, x2, x3, x4, .int n, x6, x7, x8] (.int n :: st) hi g Φ) : AP M_L_law b 750 [x0, x1, x2, x3, x4, .int n, x6, x7, x8] (st) hi g Φ := AP.iload (x := n) (i := 5) d_L_law_750 rfl h
theorem d_L_law_752 : decode code 752 = .ok (.if_icmp .eq 5, 3) := by decide +kernel
theorem s_L_law_752 {x y : Int32} (h1 : x = y → AP M_L_law b 757 [x0, x1, x2, x3, x4, x5, x6, x7, x8] st hi g Φ) (h2 : ¬ x = y → AP M_L_law b 755 [x0, x1, x2, x3, x4, x5, x6, x7, x8] st hi g Φ) : AP M_L_law b 752 [x0, x1, x2, x3, x4, x5, x6, x7, x8] (.int y :: .int x :: st) hi g Φ := AP.icmp_eq d_L_law_752 (by decide) h1 h2
theorem d_L_law_755 : decode code 755 = .ok (.iconst 0, 1) := by decide +kernel
theorem s_L_law_755 (h : AP M_L_law b 756 [x0, x1, x2, x3, x4, x5, x6, x7, x8] (.int 0 :: st) hi g Φ) : AP M_L_law b 755 [x0, x1, x2, x3, x4, x5, x6, x7, x8] (st) hi g Φ := AP.iconst (x := 0) d_L_law_755 (by decide) h
theorem d_L_law_756 : decode code 756 = .ok (.ireturn, 1) := by decide +kernel
theorem s_L_law_756 {x : Int32} (hx : x = 0 ∨ x = 1) (h : Φ (.ok (some (.int x))) hi g) : AP M_L_law b 756 [x0, x1, x2, x3, x4, x5, x6, x7, x8] [.int x] hi g Φ := AP.zret d_L_law_756 rfl hx h
theorem d_L_law_757 : decode code 757 = .ok (.iload 5, 2) := by decide +kernel
theorem s_L_law_757 {n : Int32} (h : AP M_L_law b 759 [x0, x1, x2, x3, x4, .int n, x6, x7, x8] (.int n :: st) hi g Φ) : AP M_L_law b 757 [x0, x1, x2, x3, x4, .int n, x6, x7, x8] (st) hi g Φ := AP.iload (x := n) (i := 5) d_L_law_757 rfl h
theorem d_L_law_759 : decode code 759 = .ok (.ifCond .ne 22, 3) := by decide +kernel
theorem s_L_law_759 {x : Int32} (h1 : ¬ x = 0 → AP M_L_law b 781 [x0, x1, x2, x3, x4, x5, x6, x7, x8] st hi g Φ) (h2 : x = 0 → AP M_L_law b 762 [x0, x1, x2, x3, x4, x5, x6, x7, x8] st hi g Φ) : AP M_L_law b 759 [x0, x1, x2, x3, x4, x5, x6, x7, x8] (.int x :: st) hi g Φ := AP.if_ne d_L_law_759 (by decide) h1 h2
theorem d_L_law_762 : decode code 762 = .ok (.aload_n 3, 1) := by decide +kernel
theorem s_L_law_762 {n : Nat} (h : AP M_L_law b 763 [x0, x1, x2, .ref n, x4, x5, x6, x7, x8] (.ref n :: st) hi g Φ) : AP M_L_law b 762 [x0, x1, x2, .ref n, x4, x5, x6, x7, x8] (st) hi g Φ := AP.aload_n (x := n) (i := 3) d_L_law_762 rfl rfl h
theorem d_L_law_763 : decode code 763 = .ok (.iconst 0, 1) := by decide +kernel
theorem s_L_law_763 (h : AP M_L_law b 764 [x0, x1, x2, x3, x4, x5, x6, x7, x8] (.int 0 :: st) hi g Φ) : AP M_L_law b 763 [x0, x1, x2, x3, x4, x5, x6, x7, x8] (st) hi g Φ := AP.iconst (x := 0) d_L_law_763 (by decide) h
theorem d_L_law_764 : decode code 764 = .ok (.laload, 1) := by decide +kernel
theorem s_L_law_764 {k n j : Nat} {i : Int32} (hI : am_Inv g) (hs : am_SH k = (4, n)) (hk : k < 134) (hn : n < 2 ^ 31) (hx : i = nI j) (hj : j < n) (h : AP M_L_law b 765 [x0, x1, x2, x3, x4, x5, x6, x7, x8] (.long (g.2.2 k j) :: st) hi g Φ) : AP M_L_law b 764 [x0, x1, x2, x3, x4, x5, x6, x7, x8] (.int i :: .ref k :: st) hi g Φ := AP.lald d_L_law_764 hs (hI.lt hk) hn hx hj h
theorem d_L_law_765 : decode code 765 = .ok (.iload 6, 2) := by decide +kernel
theorem s_L_law_765 {n : Int32} (h : AP M_L_law b 767 [x0, x1, x2, x3, x4, x5, .int n, x7, x8] (.int n :: st) hi g Φ) : AP M_L_law b 765 [x0, x1, x2, x3, x4, x5, .int n, x7, x8] (st) hi g Φ := AP.iload (x := n) (i := 6) d_L_law_765 rfl h
theorem d_L_law_767 : decode code 767 = .ok (.ifCond .eq 7, 3) := by decide +kernel
theorem s_L_law_767 {x : Int32} (h1 : x = 0 → AP M_L_law b 774 [x0, x1, x2, x3, x4, x5, x6, x7, x8] st hi g Φ) (h2 : ¬ x = 0 → AP M_L_law b 770 [x0, x1, x2, x3, x4, x5, x6, x7, x8] st hi g Φ) : AP M_L_law b 767 [x0, x1, x2, x3, x4, x5, x6, x7, x8] (.int x :: st) hi g Φ := AP.if_eq d_L_law_767 (by decide) h1 h2
theorem d_L_law_770 : decode code 770 = .ok (.lconst 1, 1) := by decide +kernel
theorem s_L_law_770 (h : AP M_L_law b 771 [x0, x1, x2, x3, x4, x5, x6, x7, x8] (.long 1 :: st) hi g Φ) : AP M_L_law b 770 [x0, x1, x2, x3, x4, x5, x6, x7, x8] (st) hi g Φ := AP.lconst (x := 1) d_L_law_770 (by decide) h
theorem d_L_law_771 : decode code 771 = .ok (.goto 4, 3) := by decide +kernel
theorem s_L_law_771 (h : AP M_L_law b 775 [x0, x1, x2, x3, x4, x5, x6, x7, x8] st hi g Φ) : AP M_L_law b 771 [x0, x1, x2, x3, x4, x5, x6, x7, x8] st hi g Φ := AP.goto d_L_law_771 (by decide) h
theorem d_L_law_774 : decode code 774 = .ok (.lconst 0, 1) := by decide +kernel
theorem s_L_law_774 (h : AP M_L_law b 775 [x0, x1, x2, x3, x4, x5, x6, x7, x8] (.long 0 :: st) hi g Φ) : AP M_L_law b 774 [x0, x1, x2, x3, x4, x5, x6, x7, x8] (st) hi g Φ := AP.lconst (x := 0) d_L_law_774 (by decide) h
theorem d_L_law_775 : decode code 775 = .ok (.lcmp, 1) := by decide +kernel
theorem s_L_law_775 {x y : Int64} (h : AP M_L_law b 776 [x0, x1, x2, x3, x4, x5, x6, x7, x8] (.int (lg_cmp x y) :: st) hi g Φ) : AP M_L_law b 775 [x0, x1, x2, x3, x4, x5, x6, x7, x8] (.long y :: .long x :: st) hi g Φ := AP.lcmp d_L_law_775 h
theorem d_L_law_776 : decode code 776 = .ok (.ifCond .eq 5, 3) := by decide +kernel
theorem s_L_law_776 {x : Int32} (h1 : x = 0 → AP M_L_law b 781 [x0, x1, x2, x3, x4, x5, x6, x7, x8] st hi g Φ) (h2 : ¬ x = 0 → AP M_L_law b 779 [x0, x1, x2, x3, x4, x5, x6, x7, x8] st hi g Φ) : AP M_L_law b 776 [x0, x1, x2, x3, x4, x5, x6, x7, x8] (.int x :: st) hi g Φ := AP.if_eq d_L_law_776 (by decide) h1 h2
theorem d_L_law_779 : decode code 779 = .ok (.iconst 0, 1) := by decide +kernel
theorem s_L_law_779 (h : AP M_L_law b 780 [x0, x1, x2, x3, x4, x5, x6, x7, x8] (.int 0 :: st) hi g Φ) : AP M_L_law b 779 [x0, x1, x2, x3, x4, x5, x6, x7, x8] (st) hi g Φ := AP.iconst (x := 0) d_L_law_779 (by decide) h
theorem d_L_law_780 : decode code 780 = .ok (.ireturn, 1) := by decide +kernel
theorem s_L_law_780 {x : Int32} (hx : x = 0 ∨ x = 1) (h : Φ (.ok (some (.int x))) hi g) : AP M_L_law b 780 [x0, x1, x2, x3, x4, x5, x6, x7, x8] [.int x] hi g Φ := AP.zret d_L_law_780 rfl hx h
theorem d_L_law_781 : decode code 781 = .ok (.goto 1970, 3) := by decide +kernel
theorem s_L_law_781 (h : AP M_L_law b 2751 [x0, x1, x2, x3, x4, x5, x6, x7, x8] st hi g Φ) : AP M_L_law b 781 [x0, x1, x2, x3, x4, x5, x6, x7, x8] st hi g Φ := AP.goto d_L_law_781 (by decide) h
theorem d_L_law_784 : decode code 784 = .ok (.aload_n 1, 1) := by decide +kernel
theorem s_L_law_784 {n : Nat} (h : AP M_L_law b 785 [x0, .ref n, x2, x3, x4, x5, x6, x7, x8] (.ref n :: st) hi g Φ) : AP M_L_law b 784 [x0, .ref n, x2, x3, x4, x5, x6, x7, x8] (st) hi g Φ := AP.aload_n (x := n) (i := 1) d_L_law_784 rfl rfl h
theorem d_L_law_785 : decode code 785 = .ok (.aload_n 3, 1) := by decide +kernel
theorem s_L_law_785 {n : Nat} (h : AP M_L_law b 786 [x0, x1, x2, .ref n, x4, x5, x6, x7, x8] (.ref n :: st) hi g Φ) : AP M_L_law b 785 [x0, x1, x2, .ref n, x4, x5, x6, x7, x8] (st) hi g Φ := AP.aload_n (x := n) (i := 3) d_L_law_785 rfl rfl h
theorem d_L_law_786 : decode code 786 = .ok (.invokestatic 172, 3) := by decide +kernel
-- s_L_law_786: a call apart
theorem d_L_law_789 : decode code 789 = .ok (.istore 5, 2) := by decide +kernel
theorem s_L_law_789 {n : Int32} (hc : x4.category = 1) (h : AP M_L_law b 791 [x0, x1, x2, x3, x4, .int n, x6, x7, x8] (st) hi g Φ) : AP M_L_law b 789 [x0, x1, x2, x3, x4, x5, x6, x7, x8] (.int n :: st) hi g Φ := AP.istore (x := n) (i := 5) d_L_law_789 (by decide) (by simp [am_st, am_ci, am_cr, am_cl, am_cd, hc]) h
theorem d_L_law_791 : decode code 791 = .ok (.aload_n 2, 1) := by decide +kernel
theorem s_L_law_791 {n : Nat} (h : AP M_L_law b 792 [x0, x1, .ref n, x3, x4, x5, x6, x7, x8] (.ref n :: st) hi g Φ) : AP M_L_law b 791 [x0, x1, .ref n, x3, x4, x5, x6, x7, x8] (st) hi g Φ := AP.aload_n (x := n) (i := 2) d_L_law_791 rfl rfl h
theorem d_L_law_792 : decode code 792 = .ok (.invokevirtual 174, 3) := by decide +kernel
theorem s_L_law_792  {k : Nat} {r0 : Int32} {P : am_HI → Prop} (hI : am_Inv g) (hs : am_SH k = (0, 10)) (hk : k < 134) (hst : (st.map Value.category).sum ≤ 8) (hc : am_Cr M_X10_send [.ref k] hi g (some (.int r0)) P) (h : ∀ hi' : am_HI, P hi' → AP M_L_law b 795 [x0, x1, x2, x3, x4, x5, x6, x7, x8] (.int r0 :: st) hi' g Φ) : AP M_L_law b 792 [x0, x1, x2, x3, x4, x5, x6, x7, x8] (.ref k :: st) hi g Φ := AP.callVr (As := []) (q := (RX10, TX10, 15)) hI hc k_L_law_174 d_L_law_792 rfl hs hk rfl rfl hst h
theorem d_L_law_795 : decode code 795 = .ok (.istore 6, 2) := by decide +kernel
theorem s_L_law_795 {n : Int32} (hc : x5.category = 1) (h : AP M_L_law b 797 [x0, x1, x2, x3, x4, x5, .int n, x7, x8] (st) hi g Φ) : AP M_L_law b 795 [x0, x1, x2, x3, x4, x5, x6, x7, x8] (.int n :: st) hi g Φ := AP.istore (x := n) (i := 6) d_L_law_795 (by decide) (by simp [am_st, am_ci, am_cr, am_cl, am_cd, hc]) h
theorem d_L_law_797 : decode code 797 = .ok (.aload_n 2, 1) := by decide +kernel
theorem s_L_law_797 {n : Nat} (h : AP M_L_law b 798 [x0, x1, .ref n, x3, x4, x5, x6, x7, x8] (.ref n :: st) hi g Φ) : AP M_L_law b 797 [x0, x1, .ref n, x3, x4, x5, x6, x7, x8] (st) hi g Φ := AP.aload_n (x := n) (i := 2) d_L_law_797 rfl rfl h
theorem d_L_law_798 : decode code 798 = .ok (.invokevirtual 141, 3) := by decide +kernel
theorem s_L_law_798  {k : Nat} {r0 : Int32} {P : am_HI → Prop} (hI : am_Inv g) (hs : am_SH k = (0, 10)) (hk : k < 134) (hst : (st.map Value.category).sum ≤ 8) (hc : am_Cr M_X10_thrown [.ref k] hi g (some (.int r0)) P) (h : ∀ hi' : am_HI, P hi' → AP M_L_law b 801 [x0, x1, x2, x3, x4, x5, x6, x7, x8] (.int r0 :: st) hi' g Φ) : AP M_L_law b 798 [x0, x1, x2, x3, x4, x5, x6, x7, x8] (.ref k :: st) hi g Φ := AP.callVr (As := []) (q := (RX10, TX10, 15)) hI hc k_L_law_141 d_L_law_798 rfl hs hk rfl rfl hst h
theorem d_L_law_801 : decode code 801 = .ok (.iload 5, 2) := by decide +kernel
theorem s_L_law_801 {n : Int32} (h : AP M_L_law b 803 [x0, x1, x2, x3, x4, .int n, x6, x7, x8] (.int n :: st) hi g Φ) : AP M_L_law b 801 [x0, x1, x2, x3, x4, .int n, x6, x7, x8] (st) hi g Φ := AP.iload (x := n) (i := 5) d_L_law_801 rfl h
theorem d_L_law_803 : decode code 803 = .ok (.if_icmp .eq 5, 3) := by decide +kernel
theorem s_L_law_803 {x y : Int32} (h1 : x = y → AP M_L_law b 808 [x0, x1, x2, x3, x4, x5, x6, x7, x8] st hi g Φ) (h2 : ¬ x = y → AP M_L_law b 806 [x0, x1, x2, x3, x4, x5, x6, x7, x8] st hi g Φ) : AP M_L_law b 803 [x0, x1, x2, x3, x4, x5, x6, x7, x8] (.int y :: .int x :: st) hi g Φ := AP.icmp_eq d_L_law_803 (by decide) h1 h2
theorem d_L_law_806 : decode code 806 = .ok (.iconst 0, 1) := by decide +kernel
theorem s_L_law_806 (h : AP M_L_law b 807 [x0, x1, x2, x3, x4, x5, x6, x7, x8] (.int 0 :: st) hi g Φ) : AP M_L_law b 806 [x0, x1, x2, x3, x4, x5, x6, x7, x8] (st) hi g Φ := AP.iconst (x := 0) d_L_law_806 (by decide) h
theorem d_L_law_807 : decode code 807 = .ok (.ireturn, 1) := by decide +kernel
theorem s_L_law_807 {x : Int32} (hx : x = 0 ∨ x = 1) (h : Φ (.ok (some (.int x))) hi g) : AP M_L_law b 807 [x0, x1, x2, x3, x4, x5, x6, x7, x8] [.int x] hi g Φ := AP.zret d_L_law_807 rfl hx h
theorem d_L_law_808 : decode code 808 = .ok (.iload 5, 2) := by decide +kernel
theorem s_L_law_808 {n : Int32} (h : AP M_L_law b 810 [x0, x1, x2, x3, x4, .int n, x6, x7, x8] (.int n :: st) hi g Φ) : AP M_L_law b 808 [x0, x1, x2, x3, x4, .int n, x6, x7, x8] (st) hi g Φ := AP.iload (x := n) (i := 5) d_L_law_808 rfl h
theorem d_L_law_810 : decode code 810 = .ok (.ifCond .ne 15, 3) := by decide +kernel
theorem s_L_law_810 {x : Int32} (h1 : ¬ x = 0 → AP M_L_law b 825 [x0, x1, x2, x3, x4, x5, x6, x7, x8] st hi g Φ) (h2 : x = 0 → AP M_L_law b 813 [x0, x1, x2, x3, x4, x5, x6, x7, x8] st hi g Φ) : AP M_L_law b 810 [x0, x1, x2, x3, x4, x5, x6, x7, x8] (.int x :: st) hi g Φ := AP.if_ne d_L_law_810 (by decide) h1 h2
theorem d_L_law_813 : decode code 813 = .ok (.aload_n 3, 1) := by decide +kernel
theorem s_L_law_813 {n : Nat} (h : AP M_L_law b 814 [x0, x1, x2, .ref n, x4, x5, x6, x7, x8] (.ref n :: st) hi g Φ) : AP M_L_law b 813 [x0, x1, x2, .ref n, x4, x5, x6, x7, x8] (st) hi g Φ := AP.aload_n (x := n) (i := 3) d_L_law_813 rfl rfl h
theorem d_L_law_814 : decode code 814 = .ok (.iconst 0, 1) := by decide +kernel
theorem s_L_law_814 (h : AP M_L_law b 815 [x0, x1, x2, x3, x4, x5, x6, x7, x8] (.int 0 :: st) hi g Φ) : AP M_L_law b 814 [x0, x1, x2, x3, x4, x5, x6, x7, x8] (st) hi g Φ := AP.iconst (x := 0) d_L_law_814 (by decide) h
theorem d_L_law_815 : decode code 815 = .ok (.laload, 1) := by decide +kernel
theorem s_L_law_815 {k n j : Nat} {i : Int32} (hI : am_Inv g) (hs : am_SH k = (4, n)) (hk : k < 134) (hn : n < 2 ^ 31) (hx : i = nI j) (hj : j < n) (h : AP M_L_law b 816 [x0, x1, x2, x3, x4, x5, x6, x7, x8] (.long (g.2.2 k j) :: st) hi g Φ) : AP M_L_law b 815 [x0, x1, x2, x3, x4, x5, x6, x7, x8] (.int i :: .ref k :: st) hi g Φ := AP.lald d_L_law_815 hs (hI.lt hk) hn hx hj h
theorem d_L_law_816 : decode code 816 = .ok (.iload 6, 2) := by decide +kernel
theorem s_L_law_816 {n : Int32} (h : AP M_L_law b 818 [x0, x1, x2, x3, x4, x5, .int n, x7, x8] (.int n :: st) hi g Φ) : AP M_L_law b 816 [x0, x1, x2, x3, x4, x5, .int n, x7, x8] (st) hi g Φ := AP.iload (x := n) (i := 6) d_L_law_816 rfl h
theorem d_L_law_818 : decode code 818 = .ok (.i2l, 1) := by decide +kernel
theorem s_L_law_818 {x : Int32} (h : AP M_L_law b 819 [x0, x1, x2, x3, x4, x5, x6, x7, x8] (.long x.toInt64 :: st) hi g Φ) : AP M_L_law b 818 [x0, x1, x2, x3, x4, x5, x6, x7, x8] (.int x :: st) hi g Φ := AP.i2l d_L_law_818 h
theorem d_L_law_819 : decode code 819 = .ok (.lcmp, 1) := by decide +kernel
theorem s_L_law_819 {x y : Int64} (h : AP M_L_law b 820 [x0, x1, x2, x3, x4, x5, x6, x7, x8] (.int (lg_cmp x y) :: st) hi g Φ) : AP M_L_law b 819 [x0, x1, x2, x3, x4, x5, x6, x7, x8] (.long y :: .long x :: st) hi g Φ := AP.lcmp d_L_law_819 h
theorem d_L_law_820 : decode code 820 = .ok (.ifCond .eq 5, 3) := by decide +kernel
theorem s_L_law_820 {x : Int32} (h1 : x = 0 → AP M_L_law b 825 [x0, x1, x2, x3, x4, x5, x6, x7, x8] st hi g Φ) (h2 : ¬ x = 0 → AP M_L_law b 823 [x0, x1, x2, x3, x4, x5, x6, x7, x8] st hi g Φ) : AP M_L_law b 820 [x0, x1, x2, x3, x4, x5, x6, x7, x8] (.int x :: st) hi g Φ := AP.if_eq d_L_law_820 (by decide) h1 h2
theorem d_L_law_823 : decode code 823 = .ok (.iconst 0, 1) := by decide +kernel
theorem s_L_law_823 (h : AP M_L_law b 824 [x0, x1, x2, x3, x4, x5, x6, x7, x8] (.int 0 :: st) hi g Φ) : AP M_L_law b 823 [x0, x1, x2, x3, x4, x5, x6, x7, x8] (st) hi g Φ := AP.iconst (x := 0) d_L_law_823 (by decide) h
theorem d_L_law_824 : decode code 824 = .ok (.ireturn, 1) := by decide +kernel
theorem s_L_law_824 {x : Int32} (hx : x = 0 ∨ x = 1) (h : Φ (.ok (some (.int x))) hi g) : AP M_L_law b 824 [x0, x1, x2, x3, x4, x5, x6, x7, x8] [.int x] hi g Φ := AP.zret d_L_law_824 rfl hx h
theorem d_L_law_825 : decode code 825 = .ok (.goto 1926, 3) := by decide +kernel
theorem s_L_law_825 (h : AP M_L_law b 2751 [x0, x1, x2, x3, x4, x5, x6, x7, x8] st hi g Φ) : AP M_L_law b 825 [x0, x1, x2, x3, x4, x5, x6, x7, x8] st hi g Φ := AP.goto d_L_law_825 (by decide) h
theorem d_L_law_828 : decode code 828 = .ok (.aload_n 1, 1) := by decide +kernel
theorem s_L_law_828 {n : Nat} (h : AP M_L_law b 829 [x0, .ref n, x2, x3, x4, x5, x6, x7, x8] (.ref n :: st) hi g Φ) : AP M_L_law b 828 [x0, .ref n, x2, x3, x4, x5, x6, x7, x8] (st) hi g Φ := AP.aload_n (x := n) (i := 1) d_L_law_828 rfl rfl h
theorem d_L_law_829 : decode code 829 = .ok (.aload_n 0, 1) := by decide +kernel
theorem s_L_law_829 {n : Nat} (h : AP M_L_law b 830 [.ref n, x1, x2, x3, x4, x5, x6, x7, x8] (.ref n :: st) hi g Φ) : AP M_L_law b 829 [.ref n, x1, x2, x3, x4, x5, x6, x7, x8] (st) hi g Φ := AP.aload_n (x := n) (i := 0) d_L_law_829 rfl rfl h
theorem d_L_law_830 : decode code 830 = .ok (.iload 4, 2) := by decide +kernel
theorem s_L_law_830 {n : Int32} (h : AP M_L_law b 832 [x0, x1, x2, x3, .int n, x5, x6, x7, x8] (.int n :: st) hi g Φ) : AP M_L_law b 830 [x0, x1, x2, x3, .int n, x5, x6, x7, x8] (st) hi g Φ := AP.iload (x := n) (i := 4) d_L_law_830 rfl h
theorem d_L_law_832 : decode code 832 = .ok (.iconst 1, 1) := by decide +kernel
theorem s_L_law_832 (h : AP M_L_law b 833 [x0, x1, x2, x3, x4, x5, x6, x7, x8] (.int 1 :: st) hi g Φ) : AP M_L_law b 832 [x0, x1, x2, x3, x4, x5, x6, x7, x8] (st) hi g Φ := AP.iconst (x := 1) d_L_law_832 (by decide) h
theorem d_L_law_833 : decode code 833 = .ok (.iadd, 1) := by decide +kernel
theorem s_L_law_833 {x y : Int32} (h : AP M_L_law b 834 [x0, x1, x2, x3, x4, x5, x6, x7, x8] (.int (x + y) :: st) hi g Φ) : AP M_L_law b 833 [x0, x1, x2, x3, x4, x5, x6, x7, x8] (.int y :: .int x :: st) hi g Φ := AP.iadd d_L_law_833 h
theorem d_L_law_834 : decode code 834 = .ok (.iaload, 1) := by decide +kernel
theorem s_L_law_834 {k n j : Nat} {i : Int32} (hI : am_Inv g) (hs : am_SH k = (1, n)) (hk : k < 134) (hn : n < 2 ^ 31) (hx : i = nI j) (hj : j < n) (h : AP M_L_law b 835 [x0, x1, x2, x3, x4, x5, x6, x7, x8] (.int (hi k j) :: st) hi g Φ) : AP M_L_law b 834 [x0, x1, x2, x3, x4, x5, x6, x7, x8] (.int i :: .ref k :: st) hi g Φ := AP.iald d_L_law_834 hs (hI.lt hk) hn hx hj h
theorem d_L_law_835 : decode code 835 = .ok (.aload_n 0, 1) := by decide +kernel
theorem s_L_law_835 {n : Nat} (h : AP M_L_law b 836 [.ref n, x1, x2, x3, x4, x5, x6, x7, x8] (.ref n :: st) hi g Φ) : AP M_L_law b 835 [.ref n, x1, x2, x3, x4, x5, x6, x7, x8] (st) hi g Φ := AP.aload_n (x := n) (i := 0) d_L_law_835 rfl rfl h
theorem d_L_law_836 : decode code 836 = .ok (.iload 4, 2) := by decide +kernel
theorem s_L_law_836 {n : Int32} (h : AP M_L_law b 838 [x0, x1, x2, x3, .int n, x5, x6, x7, x8] (.int n :: st) hi g Φ) : AP M_L_law b 836 [x0, x1, x2, x3, .int n, x5, x6, x7, x8] (st) hi g Φ := AP.iload (x := n) (i := 4) d_L_law_836 rfl h
theorem d_L_law_838 : decode code 838 = .ok (.iconst 2, 1) := by decide +kernel
theorem s_L_law_838 (h : AP M_L_law b 839 [x0, x1, x2, x3, x4, x5, x6, x7, x8] (.int 2 :: st) hi g Φ) : AP M_L_law b 838 [x0, x1, x2, x3, x4, x5, x6, x7, x8] (st) hi g Φ := AP.iconst (x := 2) d_L_law_838 (by decide) h
theorem d_L_law_839 : decode code 839 = .ok (.iadd, 1) := by decide +kernel
theorem s_L_law_839 {x y : Int32} (h : AP M_L_law b 840 [x0, x1, x2, x3, x4, x5, x6, x7, x8] (.int (x + y) :: st) hi g Φ) : AP M_L_law b 839 [x0, x1, x2, x3, x4, x5, x6, x7, x8] (.int y :: .int x :: st) hi g Φ := AP.iadd d_L_law_839 h
theorem d_L_law_840 : decode code 840 = .ok (.iaload, 1) := by decide +kernel
theorem s_L_law_840 {k n j : Nat} {i : Int32} (hI : am_Inv g) (hs : am_SH k = (1, n)) (hk : k < 134) (hn : n < 2 ^ 31) (hx : i = nI j) (hj : j < n) (h : AP M_L_law b 841 [x0, x1, x2, x3, x4, x5, x6, x7, x8] (.int (hi k j) :: st) hi g Φ) : AP M_L_law b 840 [x0, x1, x2, x3, x4, x5, x6, x7, x8] (.int i :: .ref k :: st) hi g Φ := AP.iald d_L_law_840 hs (hI.lt hk) hn hx hj h
theorem d_L_law_841 : decode code 841 = .ok (.aload_n 3, 1) := by decide +kernel
theorem s_L_law_841 {n : Nat} (h : AP M_L_law b 842 [x0, x1, x2, .ref n, x4, x5, x6, x7, x8] (.ref n :: st) hi g Φ) : AP M_L_law b 841 [x0, x1, x2, .ref n, x4, x5, x6, x7, x8] (st) hi g Φ := AP.aload_n (x := n) (i := 3) d_L_law_841 rfl rfl h
theorem d_L_law_842 : decode code 842 = .ok (.invokestatic 175, 3) := by decide +kernel
-- s_L_law_842: a call apart
theorem d_L_law_845 : decode code 845 = .ok (.istore 5, 2) := by decide +kernel
theorem s_L_law_845 {n : Int32} (hc : x4.category = 1) (h : AP M_L_law b 847 [x0, x1, x2, x3, x4, .int n, x6, x7, x8] (st) hi g Φ) : AP M_L_law b 845 [x0, x1, x2, x3, x4, x5, x6, x7, x8] (.int n :: st) hi g Φ := AP.istore (x := n) (i := 5) d_L_law_845 (by decide) (by simp [am_st, am_ci, am_cr, am_cl, am_cd, hc]) h
theorem d_L_law_847 : decode code 847 = .ok (.aload_n 2, 1) := by decide +kernel
theorem s_L_law_847 {n : Nat} (h : AP M_L_law b 848 [x0, x1, .ref n, x3, x4, x5, x6, x7, x8] (.ref n :: st) hi g Φ) : AP M_L_law b 847 [x0, x1, .ref n, x3, x4, x5, x6, x7, x8] (st) hi g Φ := AP.aload_n (x := n) (i := 2) d_L_law_847 rfl rfl h
theorem d_L_law_848 : decode code 848 = .ok (.aload_n 0, 1) := by decide +kernel
theorem s_L_law_848 {n : Nat} (h : AP M_L_law b 849 [.ref n, x1, x2, x3, x4, x5, x6, x7, x8] (.ref n :: st) hi g Φ) : AP M_L_law b 848 [.ref n, x1, x2, x3, x4, x5, x6, x7, x8] (st) hi g Φ := AP.aload_n (x := n) (i := 0) d_L_law_848 rfl rfl h
theorem d_L_law_849 : decode code 849 = .ok (.iload 4, 2) := by decide +kernel
theorem s_L_law_849 {n : Int32} (h : AP M_L_law b 851 [x0, x1, x2, x3, .int n, x5, x6, x7, x8] (.int n :: st) hi g Φ) : AP M_L_law b 849 [x0, x1, x2, x3, .int n, x5, x6, x7, x8] (st) hi g Φ := AP.iload (x := n) (i := 4) d_L_law_849 rfl h
theorem d_L_law_851 : decode code 851 = .ok (.iconst 1, 1) := by decide +kernel
theorem s_L_law_851 (h : AP M_L_law b 852 [x0, x1, x2, x3, x4, x5, x6, x7, x8] (.int 1 :: st) hi g Φ) : AP M_L_law b 851 [x0, x1, x2, x3, x4, x5, x6, x7, x8] (st) hi g Φ := AP.iconst (x := 1) d_L_law_851 (by decide) h
theorem d_L_law_852 : decode code 852 = .ok (.iadd, 1) := by decide +kernel
theorem s_L_law_852 {x y : Int32} (h : AP M_L_law b 853 [x0, x1, x2, x3, x4, x5, x6, x7, x8] (.int (x + y) :: st) hi g Φ) : AP M_L_law b 852 [x0, x1, x2, x3, x4, x5, x6, x7, x8] (.int y :: .int x :: st) hi g Φ := AP.iadd d_L_law_852 h
theorem d_L_law_853 : decode code 853 = .ok (.iaload, 1) := by decide +kernel
theorem s_L_law_853 {k n j : Nat} {i : Int32} (hI : am_Inv g) (hs : am_SH k = (1, n)) (hk : k < 134) (hn : n < 2 ^ 31) (hx : i = nI j) (hj : j < n) (h : AP M_L_law b 854 [x0, x1, x2, x3, x4, x5, x6, x7, x8] (.int (hi k j) :: st) hi g Φ) : AP M_L_law b 853 [x0, x1, x2, x3, x4, x5, x6, x7, x8] (.int i :: .ref k :: st) hi g Φ := AP.iald d_L_law_853 hs (hI.lt hk) hn hx hj h
theorem d_L_law_854 : decode code 854 = .ok (.aload_n 0, 1) := by decide +kernel
theorem s_L_law_854 {n : Nat} (h : AP M_L_law b 855 [.ref n, x1, x2, x3, x4, x5, x6, x7, x8] (.ref n :: st) hi g Φ) : AP M_L_law b 854 [.ref n, x1, x2, x3, x4, x5, x6, x7, x8] (st) hi g Φ := AP.aload_n (x := n) (i := 0) d_L_law_854 rfl rfl h
theorem d_L_law_855 : decode code 855 = .ok (.iload 4, 2) := by decide +kernel
theorem s_L_law_855 {n : Int32} (h : AP M_L_law b 857 [x0, x1, x2, x3, .int n, x5, x6, x7, x8] (.int n :: st) hi g Φ) : AP M_L_law b 855 [x0, x1, x2, x3, .int n, x5, x6, x7, x8] (st) hi g Φ := AP.iload (x := n) (i := 4) d_L_law_855 rfl h
theorem d_L_law_857 : decode code 857 = .ok (.iconst 2, 1) := by decide +kernel
theorem s_L_law_857 (h : AP M_L_law b 858 [x0, x1, x2, x3, x4, x5, x6, x7, x8] (.int 2 :: st) hi g Φ) : AP M_L_law b 857 [x0, x1, x2, x3, x4, x5, x6, x7, x8] (st) hi g Φ := AP.iconst (x := 2) d_L_law_857 (by decide) h
theorem d_L_law_858 : decode code 858 = .ok (.iadd, 1) := by decide +kernel
theorem s_L_law_858 {x y : Int32} (h : AP M_L_law b 859 [x0, x1, x2, x3, x4, x5, x6, x7, x8] (.int (x + y) :: st) hi g Φ) : AP M_L_law b 858 [x0, x1, x2, x3, x4, x5, x6, x7, x8] (.int y :: .int x :: st) hi g Φ := AP.iadd d_L_law_858 h
theorem d_L_law_859 : decode code 859 = .ok (.iaload, 1) := by decide +kernel
theorem s_L_law_859 {k n j : Nat} {i : Int32} (hI : am_Inv g) (hs : am_SH k = (1, n)) (hk : k < 134) (hn : n < 2 ^ 31) (hx : i = nI j) (hj : j < n) (h : AP M_L_law b 860 [x0, x1, x2, x3, x4, x5, x6, x7, x8] (.int (hi k j) :: st) hi g Φ) : AP M_L_law b 859 [x0, x1, x2, x3, x4, x5, x6, x7, x8] (.int i :: .ref k :: st) hi g Φ := AP.iald d_L_law_859 hs (hI.lt hk) hn hx hj h
theorem d_L_law_860 : decode code 860 = .ok (.invokevirtual 177, 3) := by decide +kernel
theorem s_L_law_860 {a0 : Int32} {a1 : Int32} {k : Nat} {r0 : Int32} {P : am_HI → Prop} (hI : am_Inv g) (hs : am_SH k = (0, 10)) (hk : k < 134) (hst : (st.map Value.category).sum ≤ 8) (hc : am_Cr M_X10_tamper [.ref k, .int a0, .int a1] hi g (some (.int r0)) P) (h : ∀ hi' : am_HI, P hi' → AP M_L_law b 863 [x0, x1, x2, x3, x4, x5, x6, x7, x8] (.int r0 :: st) hi' g Φ) : AP M_L_law b 860 [x0, x1, x2, x3, x4, x5, x6, x7, x8] (.int a1 :: .int a0 :: .ref k :: st) hi g Φ := AP.callVr (As := [.int a0, .int a1]) (q := (RX10, TX10, 15)) hI hc k_L_law_177 d_L_law_860 rfl hs hk rfl rfl hst h
theorem d_L_law_863 : decode code 863 = .ok (.istore 6, 2) := by decide +kernel
theorem s_L_law_863 {n : Int32} (hc : x5.category = 1) (h : AP M_L_law b 865 [x0, x1, x2, x3, x4, x5, .int n, x7, x8] (st) hi g Φ) : AP M_L_law b 863 [x0, x1, x2, x3, x4, x5, x6, x7, x8] (.int n :: st) hi g Φ := AP.istore (x := n) (i := 6) d_L_law_863 (by decide) (by simp [am_st, am_ci, am_cr, am_cl, am_cd, hc]) h
theorem d_L_law_865 : decode code 865 = .ok (.aload_n 2, 1) := by decide +kernel
theorem s_L_law_865 {n : Nat} (h : AP M_L_law b 866 [x0, x1, .ref n, x3, x4, x5, x6, x7, x8] (.ref n :: st) hi g Φ) : AP M_L_law b 865 [x0, x1, .ref n, x3, x4, x5, x6, x7, x8] (st) hi g Φ := AP.aload_n (x := n) (i := 2) d_L_law_865 rfl rfl h
theorem d_L_law_866 : decode code 866 = .ok (.invokevirtual 141, 3) := by decide +kernel
theorem s_L_law_866  {k : Nat} {r0 : Int32} {P : am_HI → Prop} (hI : am_Inv g) (hs : am_SH k = (0, 10)) (hk : k < 134) (hst : (st.map Value.category).sum ≤ 8) (hc : am_Cr M_X10_thrown [.ref k] hi g (some (.int r0)) P) (h : ∀ hi' : am_HI, P hi' → AP M_L_law b 869 [x0, x1, x2, x3, x4, x5, x6, x7, x8] (.int r0 :: st) hi' g Φ) : AP M_L_law b 866 [x0, x1, x2, x3, x4, x5, x6, x7, x8] (.ref k :: st) hi g Φ := AP.callVr (As := []) (q := (RX10, TX10, 15)) hI hc k_L_law_141 d_L_law_866 rfl hs hk rfl rfl hst h
theorem d_L_law_869 : decode code 869 = .ok (.iload 5, 2) := by decide +kernel
theorem s_L_law_869 {n : Int32} (h : AP M_L_law b 871 [x0, x1, x2, x3, x4, .int n, x6, x7, x8] (.int n :: st) hi g Φ) : AP M_L_law b 869 [x0, x1, x2, x3, x4, .int n, x6, x7, x8] (st) hi g Φ := AP.iload (x := n) (i := 5) d_L_law_869 rfl h
theorem d_L_law_871 : decode code 871 = .ok (.if_icmp .eq 5, 3) := by decide +kernel
theorem s_L_law_871 {x y : Int32} (h1 : x = y → AP M_L_law b 876 [x0, x1, x2, x3, x4, x5, x6, x7, x8] st hi g Φ) (h2 : ¬ x = y → AP M_L_law b 874 [x0, x1, x2, x3, x4, x5, x6, x7, x8] st hi g Φ) : AP M_L_law b 871 [x0, x1, x2, x3, x4, x5, x6, x7, x8] (.int y :: .int x :: st) hi g Φ := AP.icmp_eq d_L_law_871 (by decide) h1 h2
theorem d_L_law_874 : decode code 874 = .ok (.iconst 0, 1) := by decide +kernel
theorem s_L_law_874 (h : AP M_L_law b 875 [x0, x1, x2, x3, x4, x5, x6, x7, x8] (.int 0 :: st) hi g Φ) : AP M_L_law b 874 [x0, x1, x2, x3, x4, x5, x6, x7, x8] (st) hi g Φ := AP.iconst (x := 0) d_L_law_874 (by decide) h
theorem d_L_law_875 : decode code 875 = .ok (.ireturn, 1) := by decide +kernel
theorem s_L_law_875 {x : Int32} (hx : x = 0 ∨ x = 1) (h : Φ (.ok (some (.int x))) hi g) : AP M_L_law b 875 [x0, x1, x2, x3, x4, x5, x6, x7, x8] [.int x] hi g Φ := AP.zret d_L_law_875 rfl hx h
theorem d_L_law_876 : decode code 876 = .ok (.iload 5, 2) := by decide +kernel
theorem s_L_law_876 {n : Int32} (h : AP M_L_law b 878 [x0, x1, x2, x3, x4, .int n, x6, x7, x8] (.int n :: st) hi g Φ) : AP M_L_law b 876 [x0, x1, x2, x3, x4, .int n, x6, x7, x8] (st) hi g Φ := AP.iload (x := n) (i := 5) d_L_law_876 rfl h
theorem d_L_law_878 : decode code 878 = .ok (.ifCond .ne 15, 3) := by decide +kernel
theorem s_L_law_878 {x : Int32} (h1 : ¬ x = 0 → AP M_L_law b 893 [x0, x1, x2, x3, x4, x5, x6, x7, x8] st hi g Φ) (h2 : x = 0 → AP M_L_law b 881 [x0, x1, x2, x3, x4, x5, x6, x7, x8] st hi g Φ) : AP M_L_law b 878 [x0, x1, x2, x3, x4, x5, x6, x7, x8] (.int x :: st) hi g Φ := AP.if_ne d_L_law_878 (by decide) h1 h2
theorem d_L_law_881 : decode code 881 = .ok (.aload_n 3, 1) := by decide +kernel
theorem s_L_law_881 {n : Nat} (h : AP M_L_law b 882 [x0, x1, x2, .ref n, x4, x5, x6, x7, x8] (.ref n :: st) hi g Φ) : AP M_L_law b 881 [x0, x1, x2, .ref n, x4, x5, x6, x7, x8] (st) hi g Φ := AP.aload_n (x := n) (i := 3) d_L_law_881 rfl rfl h
theorem d_L_law_882 : decode code 882 = .ok (.iconst 0, 1) := by decide +kernel
theorem s_L_law_882 (h : AP M_L_law b 883 [x0, x1, x2, x3, x4, x5, x6, x7, x8] (.int 0 :: st) hi g Φ) : AP M_L_law b 882 [x0, x1, x2, x3, x4, x5, x6, x7, x8] (st) hi g Φ := AP.iconst (x := 0) d_L_law_882 (by decide) h
theorem d_L_law_883 : decode code 883 = .ok (.laload, 1) := by decide +kernel
theorem s_L_law_883 {k n j : Nat} {i : Int32} (hI : am_Inv g) (hs : am_SH k = (4, n)) (hk : k < 134) (hn : n < 2 ^ 31) (hx : i = nI j) (hj : j < n) (h : AP M_L_law b 884 [x0, x1, x2, x3, x4, x5, x6, x7, x8] (.long (g.2.2 k j) :: st) hi g Φ) : AP M_L_law b 883 [x0, x1, x2, x3, x4, x5, x6, x7, x8] (.int i :: .ref k :: st) hi g Φ := AP.lald d_L_law_883 hs (hI.lt hk) hn hx hj h
theorem d_L_law_884 : decode code 884 = .ok (.iload 6, 2) := by decide +kernel
theorem s_L_law_884 {n : Int32} (h : AP M_L_law b 886 [x0, x1, x2, x3, x4, x5, .int n, x7, x8] (.int n :: st) hi g Φ) : AP M_L_law b 884 [x0, x1, x2, x3, x4, x5, .int n, x7, x8] (st) hi g Φ := AP.iload (x := n) (i := 6) d_L_law_884 rfl h
theorem d_L_law_886 : decode code 886 = .ok (.i2l, 1) := by decide +kernel
theorem s_L_law_886 {x : Int32} (h : AP M_L_law b 887 [x0, x1, x2, x3, x4, x5, x6, x7, x8] (.long x.toInt64 :: st) hi g Φ) : AP M_L_law b 886 [x0, x1, x2, x3, x4, x5, x6, x7, x8] (.int x :: st) hi g Φ := AP.i2l d_L_law_886 h
theorem d_L_law_887 : decode code 887 = .ok (.lcmp, 1) := by decide +kernel
theorem s_L_law_887 {x y : Int64} (h : AP M_L_law b 888 [x0, x1, x2, x3, x4, x5, x6, x7, x8] (.int (lg_cmp x y) :: st) hi g Φ) : AP M_L_law b 887 [x0, x1, x2, x3, x4, x5, x6, x7, x8] (.long y :: .long x :: st) hi g Φ := AP.lcmp d_L_law_887 h
theorem d_L_law_888 : decode code 888 = .ok (.ifCond .eq 5, 3) := by decide +kernel
theorem s_L_law_888 {x : Int32} (h1 : x = 0 → AP M_L_law b 893 [x0, x1, x2, x3, x4, x5, x6, x7, x8] st hi g Φ) (h2 : ¬ x = 0 → AP M_L_law b 891 [x0, x1, x2, x3, x4, x5, x6, x7, x8] st hi g Φ) : AP M_L_law b 888 [x0, x1, x2, x3, x4, x5, x6, x7, x8] (.int x :: st) hi g Φ := AP.if_eq d_L_law_888 (by decide) h1 h2
theorem d_L_law_891 : decode code 891 = .ok (.iconst 0, 1) := by decide +kernel
theorem s_L_law_891 (h : AP M_L_law b 892 [x0, x1, x2, x3, x4, x5, x6, x7, x8] (.int 0 :: st) hi g Φ) : AP M_L_law b 891 [x0, x1, x2, x3, x4, x5, x6, x7, x8] (st) hi g Φ := AP.iconst (x := 0) d_L_law_891 (by decide) h
theorem d_L_law_892 : decode code 892 = .ok (.ireturn, 1) := by decide +kernel
theorem s_L_law_892 {x : Int32} (hx : x = 0 ∨ x = 1) (h : Φ (.ok (some (.int x))) hi g) : AP M_L_law b 892 [x0, x1, x2, x3, x4, x5, x6, x7, x8] [.int x] hi g Φ := AP.zret d_L_law_892 rfl hx h
theorem d_L_law_893 : decode code 893 = .ok (.goto 1858, 3) := by decide +kernel
theorem s_L_law_893 (h : AP M_L_law b 2751 [x0, x1, x2, x3, x4, x5, x6, x7, x8] st hi g Φ) : AP M_L_law b 893 [x0, x1, x2, x3, x4, x5, x6, x7, x8] st hi g Φ := AP.goto d_L_law_893 (by decide) h
theorem d_L_law_896 : decode code 896 = .ok (.aload_n 1, 1) := by decide +kernel
theorem s_L_law_896 {n : Nat} (h : AP M_L_law b 897 [x0, .ref n, x2, x3, x4, x5, x6, x7, x8] (.ref n :: st) hi g Φ) : AP M_L_law b 896 [x0, .ref n, x2, x3, x4, x5, x6, x7, x8] (st) hi g Φ := AP.aload_n (x := n) (i := 1) d_L_law_896 rfl rfl h
theorem d_L_law_897 : decode code 897 = .ok (.invokevirtual 178, 3) := by decide +kernel
theorem s_L_law_897  {k : Nat} {r0 : Int32} {P : am_HI → Prop} (hI : am_Inv g) (hs : am_SH k = (0, 9)) (hk : k < 134) (hst : (st.map Value.category).sum ≤ 8) (hc : am_Cr M_X9_samples [.ref k] hi g (some (.int r0)) P) (h : ∀ hi' : am_HI, P hi' → AP M_L_law b 900 [x0, x1, x2, x3, x4, x5, x6, x7, x8] (.int r0 :: st) hi' g Φ) : AP M_L_law b 897 [x0, x1, x2, x3, x4, x5, x6, x7, x8] (.ref k :: st) hi g Φ := AP.callVr (As := []) (q := (RX9, TX9, 7)) hI hc k_L_law_178 d_L_law_897 rfl hs hk rfl rfl hst h
theorem d_L_law_900 : decode code 900 = .ok (.aload_n 2, 1) := by decide +kernel
theorem s_L_law_900 {n : Nat} (h : AP M_L_law b 901 [x0, x1, .ref n, x3, x4, x5, x6, x7, x8] (.ref n :: st) hi g Φ) : AP M_L_law b 900 [x0, x1, .ref n, x3, x4, x5, x6, x7, x8] (st) hi g Φ := AP.aload_n (x := n) (i := 2) d_L_law_900 rfl rfl h
theorem d_L_law_901 : decode code 901 = .ok (.invokevirtual 181, 3) := by decide +kernel
theorem s_L_law_901  {k : Nat} {r0 : Int32} {P : am_HI → Prop} (hI : am_Inv g) (hs : am_SH k = (0, 10)) (hk : k < 134) (hst : (st.map Value.category).sum ≤ 8) (hc : am_Cr M_X10_samples [.ref k] hi g (some (.int r0)) P) (h : ∀ hi' : am_HI, P hi' → AP M_L_law b 904 [x0, x1, x2, x3, x4, x5, x6, x7, x8] (.int r0 :: st) hi' g Φ) : AP M_L_law b 901 [x0, x1, x2, x3, x4, x5, x6, x7, x8] (.ref k :: st) hi g Φ := AP.callVr (As := []) (q := (RX10, TX10, 15)) hI hc k_L_law_181 d_L_law_901 rfl hs hk rfl rfl hst h
theorem d_L_law_904 : decode code 904 = .ok (.if_icmp .eq 1847, 3) := by decide +kernel
theorem s_L_law_904 {x y : Int32} (h1 : x = y → AP M_L_law b 2751 [x0, x1, x2, x3, x4, x5, x6, x7, x8] st hi g Φ) (h2 : ¬ x = y → AP M_L_law b 907 [x0, x1, x2, x3, x4, x5, x6, x7, x8] st hi g Φ) : AP M_L_law b 904 [x0, x1, x2, x3, x4, x5, x6, x7, x8] (.int y :: .int x :: st) hi g Φ := AP.icmp_eq d_L_law_904 (by decide) h1 h2
theorem d_L_law_907 : decode code 907 = .ok (.iconst 0, 1) := by decide +kernel
theorem s_L_law_907 (h : AP M_L_law b 908 [x0, x1, x2, x3, x4, x5, x6, x7, x8] (.int 0 :: st) hi g Φ) : AP M_L_law b 907 [x0, x1, x2, x3, x4, x5, x6, x7, x8] (st) hi g Φ := AP.iconst (x := 0) d_L_law_907 (by decide) h
theorem d_L_law_908 : decode code 908 = .ok (.ireturn, 1) := by decide +kernel
theorem s_L_law_908 {x : Int32} (hx : x = 0 ∨ x = 1) (h : Φ (.ok (some (.int x))) hi g) : AP M_L_law b 908 [x0, x1, x2, x3, x4, x5, x6, x7, x8] [.int x] hi g Φ := AP.zret d_L_law_908 rfl hx h
theorem d_L_law_909 : decode code 909 = .ok (.aload_n 1, 1) := by decide +kernel
theorem s_L_law_909 {n : Nat} (h : AP M_L_law b 910 [x0, .ref n, x2, x3, x4, x5, x6, x7, x8] (.ref n :: st) hi g Φ) : AP M_L_law b 909 [x0, .ref n, x2, x3, x4, x5, x6, x7, x8] (st) hi g Φ := AP.aload_n (x := n) (i := 1) d_L_law_909 rfl rfl h
theorem d_L_law_910 : decode code 910 = .ok (.aload_n 0, 1) := by decide +kernel
theorem s_L_law_910 {n : Nat} (h : AP M_L_law b 911 [.ref n, x1, x2, x3, x4, x5, x6, x7, x8] (.ref n :: st) hi g Φ) : AP M_L_law b 910 [.ref n, x1, x2, x3, x4, x5, x6, x7, x8] (st) hi g Φ := AP.aload_n (x := n) (i := 0) d_L_law_910 rfl rfl h
theorem d_L_law_911 : decode code 911 = .ok (.iload 4, 2) := by decide +kernel
theorem s_L_law_911 {n : Int32} (h : AP M_L_law b 913 [x0, x1, x2, x3, .int n, x5, x6, x7, x8] (.int n :: st) hi g Φ) : AP M_L_law b 911 [x0, x1, x2, x3, .int n, x5, x6, x7, x8] (st) hi g Φ := AP.iload (x := n) (i := 4) d_L_law_911 rfl h
theorem d_L_law_913 : decode code 913 = .ok (.iconst 1, 1) := by decide +kernel
theorem s_L_law_913 (h : AP M_L_law b 914 [x0, x1, x2, x3, x4, x5, x6, x7, x8] (.int 1 :: st) hi g Φ) : AP M_L_law b 913 [x0, x1, x2, x3, x4, x5, x6, x7, x8] (st) hi g Φ := AP.iconst (x := 1) d_L_law_913 (by decide) h
theorem d_L_law_914 : decode code 914 = .ok (.iadd, 1) := by decide +kernel
theorem s_L_law_914 {x y : Int32} (h : AP M_L_law b 915 [x0, x1, x2, x3, x4, x5, x6, x7, x8] (.int (x + y) :: st) hi g Φ) : AP M_L_law b 914 [x0, x1, x2, x3, x4, x5, x6, x7, x8] (.int y :: .int x :: st) hi g Φ := AP.iadd d_L_law_914 h
theorem d_L_law_915 : decode code 915 = .ok (.iaload, 1) := by decide +kernel
theorem s_L_law_915 {k n j : Nat} {i : Int32} (hI : am_Inv g) (hs : am_SH k = (1, n)) (hk : k < 134) (hn : n < 2 ^ 31) (hx : i = nI j) (hj : j < n) (h : AP M_L_law b 916 [x0, x1, x2, x3, x4, x5, x6, x7, x8] (.int (hi k j) :: st) hi g Φ) : AP M_L_law b 915 [x0, x1, x2, x3, x4, x5, x6, x7, x8] (.int i :: .ref k :: st) hi g Φ := AP.iald d_L_law_915 hs (hI.lt hk) hn hx hj h
theorem d_L_law_916 : decode code 916 = .ok (.aload_n 3, 1) := by decide +kernel
theorem s_L_law_916 {n : Nat} (h : AP M_L_law b 917 [x0, x1, x2, .ref n, x4, x5, x6, x7, x8] (.ref n :: st) hi g Φ) : AP M_L_law b 916 [x0, x1, x2, .ref n, x4, x5, x6, x7, x8] (st) hi g Φ := AP.aload_n (x := n) (i := 3) d_L_law_916 rfl rfl h
theorem d_L_law_917 : decode code 917 = .ok (.invokestatic 182, 3) := by decide +kernel
-- s_L_law_917: a call apart
theorem d_L_law_920 : decode code 920 = .ok (.istore 5, 2) := by decide +kernel
theorem s_L_law_920 {n : Int32} (hc : x4.category = 1) (h : AP M_L_law b 922 [x0, x1, x2, x3, x4, .int n, x6, x7, x8] (st) hi g Φ) : AP M_L_law b 920 [x0, x1, x2, x3, x4, x5, x6, x7, x8] (.int n :: st) hi g Φ := AP.istore (x := n) (i := 5) d_L_law_920 (by decide) (by simp [am_st, am_ci, am_cr, am_cl, am_cd, hc]) h
theorem d_L_law_922 : decode code 922 = .ok (.aload_n 2, 1) := by decide +kernel
theorem s_L_law_922 {n : Nat} (h : AP M_L_law b 923 [x0, x1, .ref n, x3, x4, x5, x6, x7, x8] (.ref n :: st) hi g Φ) : AP M_L_law b 922 [x0, x1, .ref n, x3, x4, x5, x6, x7, x8] (st) hi g Φ := AP.aload_n (x := n) (i := 2) d_L_law_922 rfl rfl h
theorem d_L_law_923 : decode code 923 = .ok (.aload_n 0, 1) := by decide +kernel
theorem s_L_law_923 {n : Nat} (h : AP M_L_law b 924 [.ref n, x1, x2, x3, x4, x5, x6, x7, x8] (.ref n :: st) hi g Φ) : AP M_L_law b 923 [.ref n, x1, x2, x3, x4, x5, x6, x7, x8] (st) hi g Φ := AP.aload_n (x := n) (i := 0) d_L_law_923 rfl rfl h
theorem d_L_law_924 : decode code 924 = .ok (.iload 4, 2) := by decide +kernel
theorem s_L_law_924 {n : Int32} (h : AP M_L_law b 926 [x0, x1, x2, x3, .int n, x5, x6, x7, x8] (.int n :: st) hi g Φ) : AP M_L_law b 924 [x0, x1, x2, x3, .int n, x5, x6, x7, x8] (st) hi g Φ := AP.iload (x := n) (i := 4) d_L_law_924 rfl h
theorem d_L_law_926 : decode code 926 = .ok (.iconst 1, 1) := by decide +kernel
theorem s_L_law_926 (h : AP M_L_law b 927 [x0, x1, x2, x3, x4, x5, x6, x7, x8] (.int 1 :: st) hi g Φ) : AP M_L_law b 926 [x0, x1, x2, x3, x4, x5, x6, x7, x8] (st) hi g Φ := AP.iconst (x := 1) d_L_law_926 (by decide) h
theorem d_L_law_927 : decode code 927 = .ok (.iadd, 1) := by decide +kernel
theorem s_L_law_927 {x y : Int32} (h : AP M_L_law b 928 [x0, x1, x2, x3, x4, x5, x6, x7, x8] (.int (x + y) :: st) hi g Φ) : AP M_L_law b 927 [x0, x1, x2, x3, x4, x5, x6, x7, x8] (.int y :: .int x :: st) hi g Φ := AP.iadd d_L_law_927 h
theorem d_L_law_928 : decode code 928 = .ok (.iaload, 1) := by decide +kernel
theorem s_L_law_928 {k n j : Nat} {i : Int32} (hI : am_Inv g) (hs : am_SH k = (1, n)) (hk : k < 134) (hn : n < 2 ^ 31) (hx : i = nI j) (hj : j < n) (h : AP M_L_law b 929 [x0, x1, x2, x3, x4, x5, x6, x7, x8] (.int (hi k j) :: st) hi g Φ) : AP M_L_law b 928 [x0, x1, x2, x3, x4, x5, x6, x7, x8] (.int i :: .ref k :: st) hi g Φ := AP.iald d_L_law_928 hs (hI.lt hk) hn hx hj h
theorem d_L_law_929 : decode code 929 = .ok (.invokevirtual 184, 3) := by decide +kernel
theorem s_L_law_929 {a0 : Int32} {k : Nat} {r0 : Int32} {P : am_HI → Prop} (hI : am_Inv g) (hs : am_SH k = (0, 10)) (hk : k < 134) (hst : (st.map Value.category).sum ≤ 8) (hc : am_Cr M_X10_sampleAt [.ref k, .int a0] hi g (some (.int r0)) P) (h : ∀ hi' : am_HI, P hi' → AP M_L_law b 932 [x0, x1, x2, x3, x4, x5, x6, x7, x8] (.int r0 :: st) hi' g Φ) : AP M_L_law b 929 [x0, x1, x2, x3, x4, x5, x6, x7, x8] (.int a0 :: .ref k :: st) hi g Φ := AP.callVr (As := [.int a0]) (q := (RX10, TX10, 15)) hI hc k_L_law_184 d_L_law_929 rfl hs hk rfl rfl hst h
theorem d_L_law_932 : decode code 932 = .ok (.istore 6, 2) := by decide +kernel
theorem s_L_law_932 {n : Int32} (hc : x5.category = 1) (h : AP M_L_law b 934 [x0, x1, x2, x3, x4, x5, .int n, x7, x8] (st) hi g Φ) : AP M_L_law b 932 [x0, x1, x2, x3, x4, x5, x6, x7, x8] (.int n :: st) hi g Φ := AP.istore (x := n) (i := 6) d_L_law_932 (by decide) (by simp [am_st, am_ci, am_cr, am_cl, am_cd, hc]) h
theorem d_L_law_934 : decode code 934 = .ok (.aload_n 2, 1) := by decide +kernel
theorem s_L_law_934 {n : Nat} (h : AP M_L_law b 935 [x0, x1, .ref n, x3, x4, x5, x6, x7, x8] (.ref n :: st) hi g Φ) : AP M_L_law b 934 [x0, x1, .ref n, x3, x4, x5, x6, x7, x8] (st) hi g Φ := AP.aload_n (x := n) (i := 2) d_L_law_934 rfl rfl h
theorem d_L_law_935 : decode code 935 = .ok (.invokevirtual 141, 3) := by decide +kernel
theorem s_L_law_935  {k : Nat} {r0 : Int32} {P : am_HI → Prop} (hI : am_Inv g) (hs : am_SH k = (0, 10)) (hk : k < 134) (hst : (st.map Value.category).sum ≤ 8) (hc : am_Cr M_X10_thrown [.ref k] hi g (some (.int r0)) P) (h : ∀ hi' : am_HI, P hi' → AP M_L_law b 938 [x0, x1, x2, x3, x4, x5, x6, x7, x8] (.int r0 :: st) hi' g Φ) : AP M_L_law b 935 [x0, x1, x2, x3, x4, x5, x6, x7, x8] (.ref k :: st) hi g Φ := AP.callVr (As := []) (q := (RX10, TX10, 15)) hI hc k_L_law_141 d_L_law_935 rfl hs hk rfl rfl hst h
theorem d_L_law_938 : decode code 938 = .ok (.iload 5, 2) := by decide +kernel
theorem s_L_law_938 {n : Int32} (h : AP M_L_law b 940 [x0, x1, x2, x3, x4, .int n, x6, x7, x8] (.int n :: st) hi g Φ) : AP M_L_law b 938 [x0, x1, x2, x3, x4, .int n, x6, x7, x8] (st) hi g Φ := AP.iload (x := n) (i := 5) d_L_law_938 rfl h
theorem d_L_law_940 : decode code 940 = .ok (.if_icmp .eq 5, 3) := by decide +kernel
theorem s_L_law_940 {x y : Int32} (h1 : x = y → AP M_L_law b 945 [x0, x1, x2, x3, x4, x5, x6, x7, x8] st hi g Φ) (h2 : ¬ x = y → AP M_L_law b 943 [x0, x1, x2, x3, x4, x5, x6, x7, x8] st hi g Φ) : AP M_L_law b 940 [x0, x1, x2, x3, x4, x5, x6, x7, x8] (.int y :: .int x :: st) hi g Φ := AP.icmp_eq d_L_law_940 (by decide) h1 h2
theorem d_L_law_943 : decode code 943 = .ok (.iconst 0, 1) := by decide +kernel
theorem s_L_law_943 (h : AP M_L_law b 944 [x0, x1, x2, x3, x4, x5, x6, x7, x8] (.int 0 :: st) hi g Φ) : AP M_L_law b 943 [x0, x1, x2, x3, x4, x5, x6, x7, x8] (st) hi g Φ := AP.iconst (x := 0) d_L_law_943 (by decide) h
theorem d_L_law_944 : decode code 944 = .ok (.ireturn, 1) := by decide +kernel
theorem s_L_law_944 {x : Int32} (hx : x = 0 ∨ x = 1) (h : Φ (.ok (some (.int x))) hi g) : AP M_L_law b 944 [x0, x1, x2, x3, x4, x5, x6, x7, x8] [.int x] hi g Φ := AP.zret d_L_law_944 rfl hx h
theorem d_L_law_945 : decode code 945 = .ok (.iload 5, 2) := by decide +kernel
theorem s_L_law_945 {n : Int32} (h : AP M_L_law b 947 [x0, x1, x2, x3, x4, .int n, x6, x7, x8] (.int n :: st) hi g Φ) : AP M_L_law b 945 [x0, x1, x2, x3, x4, .int n, x6, x7, x8] (st) hi g Φ := AP.iload (x := n) (i := 5) d_L_law_945 rfl h
theorem d_L_law_947 : decode code 947 = .ok (.ifCond .ne 15, 3) := by decide +kernel
theorem s_L_law_947 {x : Int32} (h1 : ¬ x = 0 → AP M_L_law b 962 [x0, x1, x2, x3, x4, x5, x6, x7, x8] st hi g Φ) (h2 : x = 0 → AP M_L_law b 950 [x0, x1, x2, x3, x4, x5, x6, x7, x8] st hi g Φ) : AP M_L_law b 947 [x0, x1, x2, x3, x4, x5, x6, x7, x8] (.int x :: st) hi g Φ := AP.if_ne d_L_law_947 (by decide) h1 h2
theorem d_L_law_950 : decode code 950 = .ok (.aload_n 3, 1) := by decide +kernel
theorem s_L_law_950 {n : Nat} (h : AP M_L_law b 951 [x0, x1, x2, .ref n, x4, x5, x6, x7, x8] (.ref n :: st) hi g Φ) : AP M_L_law b 950 [x0, x1, x2, .ref n, x4, x5, x6, x7, x8] (st) hi g Φ := AP.aload_n (x := n) (i := 3) d_L_law_950 rfl rfl h
theorem d_L_law_951 : decode code 951 = .ok (.iconst 0, 1) := by decide +kernel
theorem s_L_law_951 (h : AP M_L_law b 952 [x0, x1, x2, x3, x4, x5, x6, x7, x8] (.int 0 :: st) hi g Φ) : AP M_L_law b 951 [x0, x1, x2, x3, x4, x5, x6, x7, x8] (st) hi g Φ := AP.iconst (x := 0) d_L_law_951 (by decide) h
theorem d_L_law_952 : decode code 952 = .ok (.laload, 1) := by decide +kernel
theorem s_L_law_952 {k n j : Nat} {i : Int32} (hI : am_Inv g) (hs : am_SH k = (4, n)) (hk : k < 134) (hn : n < 2 ^ 31) (hx : i = nI j) (hj : j < n) (h : AP M_L_law b 953 [x0, x1, x2, x3, x4, x5, x6, x7, x8] (.long (g.2.2 k j) :: st) hi g Φ) : AP M_L_law b 952 [x0, x1, x2, x3, x4, x5, x6, x7, x8] (.int i :: .ref k :: st) hi g Φ := AP.lald d_L_law_952 hs (hI.lt hk) hn hx hj h
theorem d_L_law_953 : decode code 953 = .ok (.iload 6, 2) := by decide +kernel
theorem s_L_law_953 {n : Int32} (h : AP M_L_law b 955 [x0, x1, x2, x3, x4, x5, .int n, x7, x8] (.int n :: st) hi g Φ) : AP M_L_law b 953 [x0, x1, x2, x3, x4, x5, .int n, x7, x8] (st) hi g Φ := AP.iload (x := n) (i := 6) d_L_law_953 rfl h
theorem d_L_law_955 : decode code 955 = .ok (.i2l, 1) := by decide +kernel
theorem s_L_law_955 {x : Int32} (h : AP M_L_law b 956 [x0, x1, x2, x3, x4, x5, x6, x7, x8] (.long x.toInt64 :: st) hi g Φ) : AP M_L_law b 955 [x0, x1, x2, x3, x4, x5, x6, x7, x8] (.int x :: st) hi g Φ := AP.i2l d_L_law_955 h
theorem d_L_law_956 : decode code 956 = .ok (.lcmp, 1) := by decide +kernel
theorem s_L_law_956 {x y : Int64} (h : AP M_L_law b 957 [x0, x1, x2, x3, x4, x5, x6, x7, x8] (.int (lg_cmp x y) :: st) hi g Φ) : AP M_L_law b 956 [x0, x1, x2, x3, x4, x5, x6, x7, x8] (.long y :: .long x :: st) hi g Φ := AP.lcmp d_L_law_956 h
theorem d_L_law_957 : decode code 957 = .ok (.ifCond .eq 5, 3) := by decide +kernel
theorem s_L_law_957 {x : Int32} (h1 : x = 0 → AP M_L_law b 962 [x0, x1, x2, x3, x4, x5, x6, x7, x8] st hi g Φ) (h2 : ¬ x = 0 → AP M_L_law b 960 [x0, x1, x2, x3, x4, x5, x6, x7, x8] st hi g Φ) : AP M_L_law b 957 [x0, x1, x2, x3, x4, x5, x6, x7, x8] (.int x :: st) hi g Φ := AP.if_eq d_L_law_957 (by decide) h1 h2
theorem d_L_law_960 : decode code 960 = .ok (.iconst 0, 1) := by decide +kernel
theorem s_L_law_960 (h : AP M_L_law b 961 [x0, x1, x2, x3, x4, x5, x6, x7, x8] (.int 0 :: st) hi g Φ) : AP M_L_law b 960 [x0, x1, x2, x3, x4, x5, x6, x7, x8] (st) hi g Φ := AP.iconst (x := 0) d_L_law_960 (by decide) h
theorem d_L_law_961 : decode code 961 = .ok (.ireturn, 1) := by decide +kernel
theorem s_L_law_961 {x : Int32} (hx : x = 0 ∨ x = 1) (h : Φ (.ok (some (.int x))) hi g) : AP M_L_law b 961 [x0, x1, x2, x3, x4, x5, x6, x7, x8] [.int x] hi g Φ := AP.zret d_L_law_961 rfl hx h
theorem d_L_law_962 : decode code 962 = .ok (.goto 1789, 3) := by decide +kernel
theorem s_L_law_962 (h : AP M_L_law b 2751 [x0, x1, x2, x3, x4, x5, x6, x7, x8] st hi g Φ) : AP M_L_law b 962 [x0, x1, x2, x3, x4, x5, x6, x7, x8] st hi g Φ := AP.goto d_L_law_962 (by decide) h
theorem d_L_law_965 : decode code 965 = .ok (.aload_n 1, 1) := by decide +kernel
theorem s_L_law_965 {n : Nat} (h : AP M_L_law b 966 [x0, .ref n, x2, x3, x4, x5, x6, x7, x8] (.ref n :: st) hi g Φ) : AP M_L_law b 965 [x0, .ref n, x2, x3, x4, x5, x6, x7, x8] (st) hi g Φ := AP.aload_n (x := n) (i := 1) d_L_law_965 rfl rfl h
theorem d_L_law_966 : decode code 966 = .ok (.invokevirtual 185, 3) := by decide +kernel
theorem s_L_law_966  {k : Nat} {r0 : Int32} {P : am_HI → Prop} (hI : am_Inv g) (hs : am_SH k = (0, 9)) (hk : k < 134) (hst : (st.map Value.category).sum ≤ 8) (hc : am_Cr M_X9_blocks [.ref k] hi g (some (.int r0)) P) (h : ∀ hi' : am_HI, P hi' → AP M_L_law b 969 [x0, x1, x2, x3, x4, x5, x6, x7, x8] (.int r0 :: st) hi' g Φ) : AP M_L_law b 966 [x0, x1, x2, x3, x4, x5, x6, x7, x8] (.ref k :: st) hi g Φ := AP.callVr (As := []) (q := (RX9, TX9, 7)) hI hc k_L_law_185 d_L_law_966 rfl hs hk rfl rfl hst h
theorem d_L_law_969 : decode code 969 = .ok (.aload_n 2, 1) := by decide +kernel
theorem s_L_law_969 {n : Nat} (h : AP M_L_law b 970 [x0, x1, .ref n, x3, x4, x5, x6, x7, x8] (.ref n :: st) hi g Φ) : AP M_L_law b 969 [x0, x1, .ref n, x3, x4, x5, x6, x7, x8] (st) hi g Φ := AP.aload_n (x := n) (i := 2) d_L_law_969 rfl rfl h
theorem d_L_law_970 : decode code 970 = .ok (.invokevirtual 188, 3) := by decide +kernel
theorem s_L_law_970  {k : Nat} {r0 : Int32} {P : am_HI → Prop} (hI : am_Inv g) (hs : am_SH k = (0, 10)) (hk : k < 134) (hst : (st.map Value.category).sum ≤ 8) (hc : am_Cr M_X10_blocks [.ref k] hi g (some (.int r0)) P) (h : ∀ hi' : am_HI, P hi' → AP M_L_law b 973 [x0, x1, x2, x3, x4, x5, x6, x7, x8] (.int r0 :: st) hi' g Φ) : AP M_L_law b 970 [x0, x1, x2, x3, x4, x5, x6, x7, x8] (.ref k :: st) hi g Φ := AP.callVr (As := []) (q := (RX10, TX10, 15)) hI hc k_L_law_188 d_L_law_970 rfl hs hk rfl rfl hst h
theorem d_L_law_973 : decode code 973 = .ok (.if_icmp .eq 1778, 3) := by decide +kernel
theorem s_L_law_973 {x y : Int32} (h1 : x = y → AP M_L_law b 2751 [x0, x1, x2, x3, x4, x5, x6, x7, x8] st hi g Φ) (h2 : ¬ x = y → AP M_L_law b 976 [x0, x1, x2, x3, x4, x5, x6, x7, x8] st hi g Φ) : AP M_L_law b 973 [x0, x1, x2, x3, x4, x5, x6, x7, x8] (.int y :: .int x :: st) hi g Φ := AP.icmp_eq d_L_law_973 (by decide) h1 h2
theorem d_L_law_976 : decode code 976 = .ok (.iconst 0, 1) := by decide +kernel
theorem s_L_law_976 (h : AP M_L_law b 977 [x0, x1, x2, x3, x4, x5, x6, x7, x8] (.int 0 :: st) hi g Φ) : AP M_L_law b 976 [x0, x1, x2, x3, x4, x5, x6, x7, x8] (st) hi g Φ := AP.iconst (x := 0) d_L_law_976 (by decide) h
theorem d_L_law_977 : decode code 977 = .ok (.ireturn, 1) := by decide +kernel
theorem s_L_law_977 {x : Int32} (hx : x = 0 ∨ x = 1) (h : Φ (.ok (some (.int x))) hi g) : AP M_L_law b 977 [x0, x1, x2, x3, x4, x5, x6, x7, x8] [.int x] hi g Φ := AP.zret d_L_law_977 rfl hx h
theorem d_L_law_978 : decode code 978 = .ok (.aload_n 1, 1) := by decide +kernel
theorem s_L_law_978 {n : Nat} (h : AP M_L_law b 979 [x0, .ref n, x2, x3, x4, x5, x6, x7, x8] (.ref n :: st) hi g Φ) : AP M_L_law b 978 [x0, .ref n, x2, x3, x4, x5, x6, x7, x8] (st) hi g Φ := AP.aload_n (x := n) (i := 1) d_L_law_978 rfl rfl h
theorem d_L_law_979 : decode code 979 = .ok (.invokevirtual 189, 3) := by decide +kernel
theorem s_L_law_979  {k : Nat} {r0 : Int32} {P : am_HI → Prop} (hI : am_Inv g) (hs : am_SH k = (0, 9)) (hk : k < 134) (hst : (st.map Value.category).sum ≤ 8) (hc : am_Cr M_X9_delay [.ref k] hi g (some (.int r0)) P) (h : ∀ hi' : am_HI, P hi' → AP M_L_law b 982 [x0, x1, x2, x3, x4, x5, x6, x7, x8] (.int r0 :: st) hi' g Φ) : AP M_L_law b 979 [x0, x1, x2, x3, x4, x5, x6, x7, x8] (.ref k :: st) hi g Φ := AP.callVr (As := []) (q := (RX9, TX9, 7)) hI hc k_L_law_189 d_L_law_979 rfl hs hk rfl rfl hst h
theorem d_L_law_982 : decode code 982 = .ok (.aload_n 2, 1) := by decide +kernel
theorem s_L_law_982 {n : Nat} (h : AP M_L_law b 983 [x0, x1, .ref n, x3, x4, x5, x6, x7, x8] (.ref n :: st) hi g Φ) : AP M_L_law b 982 [x0, x1, .ref n, x3, x4, x5, x6, x7, x8] (st) hi g Φ := AP.aload_n (x := n) (i := 2) d_L_law_982 rfl rfl h
theorem d_L_law_983 : decode code 983 = .ok (.invokevirtual 192, 3) := by decide +kernel
theorem s_L_law_983  {k : Nat} {r0 : Int32} {P : am_HI → Prop} (hI : am_Inv g) (hs : am_SH k = (0, 10)) (hk : k < 134) (hst : (st.map Value.category).sum ≤ 8) (hc : am_Cr M_X10_delay [.ref k] hi g (some (.int r0)) P) (h : ∀ hi' : am_HI, P hi' → AP M_L_law b 986 [x0, x1, x2, x3, x4, x5, x6, x7, x8] (.int r0 :: st) hi' g Φ) : AP M_L_law b 983 [x0, x1, x2, x3, x4, x5, x6, x7, x8] (.ref k :: st) hi g Φ := AP.callVr (As := []) (q := (RX10, TX10, 15)) hI hc k_L_law_192 d_L_law_983 rfl hs hk rfl rfl hst h
theorem d_L_law_986 : decode code 986 = .ok (.if_icmp .eq 1765, 3) := by decide +kernel
theorem s_L_law_986 {x y : Int32} (h1 : x = y → AP M_L_law b 2751 [x0, x1, x2, x3, x4, x5, x6, x7, x8] st hi g Φ) (h2 : ¬ x = y → AP M_L_law b 989 [x0, x1, x2, x3, x4, x5, x6, x7, x8] st hi g Φ) : AP M_L_law b 986 [x0, x1, x2, x3, x4, x5, x6, x7, x8] (.int y :: .int x :: st) hi g Φ := AP.icmp_eq d_L_law_986 (by decide) h1 h2
theorem d_L_law_989 : decode code 989 = .ok (.iconst 0, 1) := by decide +kernel
theorem s_L_law_989 (h : AP M_L_law b 990 [x0, x1, x2, x3, x4, x5, x6, x7, x8] (.int 0 :: st) hi g Φ) : AP M_L_law b 989 [x0, x1, x2, x3, x4, x5, x6, x7, x8] (st) hi g Φ := AP.iconst (x := 0) d_L_law_989 (by decide) h
theorem d_L_law_990 : decode code 990 = .ok (.ireturn, 1) := by decide +kernel
theorem s_L_law_990 {x : Int32} (hx : x = 0 ∨ x = 1) (h : Φ (.ok (some (.int x))) hi g) : AP M_L_law b 990 [x0, x1, x2, x3, x4, x5, x6, x7, x8] [.int x] hi g Φ := AP.zret d_L_law_990 rfl hx h
theorem d_L_law_991 : decode code 991 = .ok (.aload_n 1, 1) := by decide +kernel
theorem s_L_law_991 {n : Nat} (h : AP M_L_law b 992 [x0, .ref n, x2, x3, x4, x5, x6, x7, x8] (.ref n :: st) hi g Φ) : AP M_L_law b 991 [x0, .ref n, x2, x3, x4, x5, x6, x7, x8] (st) hi g Φ := AP.aload_n (x := n) (i := 1) d_L_law_991 rfl rfl h
theorem d_L_law_992 : decode code 992 = .ok (.invokevirtual 193, 3) := by decide +kernel
theorem s_L_law_992  {k : Nat} {r0 : Int32} {P : am_HI → Prop} (hI : am_Inv g) (hs : am_SH k = (0, 9)) (hk : k < 134) (hst : (st.map Value.category).sum ≤ 8) (hc : am_Cr M_X9_speed [.ref k] hi g (some (.int r0)) P) (h : ∀ hi' : am_HI, P hi' → AP M_L_law b 995 [x0, x1, x2, x3, x4, x5, x6, x7, x8] (.int r0 :: st) hi' g Φ) : AP M_L_law b 992 [x0, x1, x2, x3, x4, x5, x6, x7, x8] (.ref k :: st) hi g Φ := AP.callVr (As := []) (q := (RX9, TX9, 7)) hI hc k_L_law_193 d_L_law_992 rfl hs hk rfl rfl hst h
theorem d_L_law_995 : decode code 995 = .ok (.aload_n 2, 1) := by decide +kernel
theorem s_L_law_995 {n : Nat} (h : AP M_L_law b 996 [x0, x1, .ref n, x3, x4, x5, x6, x7, x8] (.ref n :: st) hi g Φ) : AP M_L_law b 995 [x0, x1, .ref n, x3, x4, x5, x6, x7, x8] (st) hi g Φ := AP.aload_n (x := n) (i := 2) d_L_law_995 rfl rfl h
theorem d_L_law_996 : decode code 996 = .ok (.invokevirtual 196, 3) := by decide +kernel
theorem s_L_law_996  {k : Nat} {r0 : Int32} {P : am_HI → Prop} (hI : am_Inv g) (hs : am_SH k = (0, 10)) (hk : k < 134) (hst : (st.map Value.category).sum ≤ 8) (hc : am_Cr M_X10_speed [.ref k] hi g (some (.int r0)) P) (h : ∀ hi' : am_HI, P hi' → AP M_L_law b 999 [x0, x1, x2, x3, x4, x5, x6, x7, x8] (.int r0 :: st) hi' g Φ) : AP M_L_law b 996 [x0, x1, x2, x3, x4, x5, x6, x7, x8] (.ref k :: st) hi g Φ := AP.callVr (As := []) (q := (RX10, TX10, 15)) hI hc k_L_law_196 d_L_law_996 rfl hs hk rfl rfl hst h
theorem d_L_law_999 : decode code 999 = .ok (.if_icmp .eq 1752, 3) := by decide +kernel
theorem s_L_law_999 {x y : Int32} (h1 : x = y → AP M_L_law b 2751 [x0, x1, x2, x3, x4, x5, x6, x7, x8] st hi g Φ) (h2 : ¬ x = y → AP M_L_law b 1002 [x0, x1, x2, x3, x4, x5, x6, x7, x8] st hi g Φ) : AP M_L_law b 999 [x0, x1, x2, x3, x4, x5, x6, x7, x8] (.int y :: .int x :: st) hi g Φ := AP.icmp_eq d_L_law_999 (by decide) h1 h2
theorem d_L_law_1002 : decode code 1002 = .ok (.iconst 0, 1) := by decide +kernel
theorem s_L_law_1002 (h : AP M_L_law b 1003 [x0, x1, x2, x3, x4, x5, x6, x7, x8] (.int 0 :: st) hi g Φ) : AP M_L_law b 1002 [x0, x1, x2, x3, x4, x5, x6, x7, x8] (st) hi g Φ := AP.iconst (x := 0) d_L_law_1002 (by decide) h
theorem d_L_law_1003 : decode code 1003 = .ok (.ireturn, 1) := by decide +kernel
theorem s_L_law_1003 {x : Int32} (hx : x = 0 ∨ x = 1) (h : Φ (.ok (some (.int x))) hi g) : AP M_L_law b 1003 [x0, x1, x2, x3, x4, x5, x6, x7, x8] [.int x] hi g Φ := AP.zret d_L_law_1003 rfl hx h
theorem d_L_law_1004 : decode code 1004 = .ok (.aload_n 1, 1) := by decide +kernel
theorem s_L_law_1004 {n : Nat} (h : AP M_L_law b 1005 [x0, .ref n, x2, x3, x4, x5, x6, x7, x8] (.ref n :: st) hi g Φ) : AP M_L_law b 1004 [x0, .ref n, x2, x3, x4, x5, x6, x7, x8] (st) hi g Φ := AP.aload_n (x := n) (i := 1) d_L_law_1004 rfl rfl h
theorem d_L_law_1005 : decode code 1005 = .ok (.invokevirtual 197, 3) := by decide +kernel
theorem s_L_law_1005  {k : Nat} {r0 : Int32} {P : am_HI → Prop} (hI : am_Inv g) (hs : am_SH k = (0, 9)) (hk : k < 134) (hst : (st.map Value.category).sum ≤ 8) (hc : am_Cr M_X9_allowed [.ref k] hi g (some (.int r0)) P) (h : ∀ hi' : am_HI, P hi' → AP M_L_law b 1008 [x0, x1, x2, x3, x4, x5, x6, x7, x8] (.int r0 :: st) hi' g Φ) : AP M_L_law b 1005 [x0, x1, x2, x3, x4, x5, x6, x7, x8] (.ref k :: st) hi g Φ := AP.callVr (As := []) (q := (RX9, TX9, 7)) hI hc k_L_law_197 d_L_law_1005 rfl hs hk rfl rfl hst h
theorem d_L_law_1008 : decode code 1008 = .ok (.aload_n 2, 1) := by decide +kernel
theorem s_L_law_1008 {n : Nat} (h : AP M_L_law b 1009 [x0, x1, .ref n, x3, x4, x5, x6, x7, x8] (.ref n :: st) hi g Φ) : AP M_L_law b 1008 [x0, x1, .ref n, x3, x4, x5, x6, x7, x8] (st) hi g Φ := AP.aload_n (x := n) (i := 2) d_L_law_1008 rfl rfl h
theorem d_L_law_1009 : decode code 1009 = .ok (.invokevirtual 200, 3) := by decide +kernel
theorem s_L_law_1009  {k : Nat} {r0 : Int32} {P : am_HI → Prop} (hI : am_Inv g) (hs : am_SH k = (0, 10)) (hk : k < 134) (hst : (st.map Value.category).sum ≤ 8) (hc : am_Cr M_X10_allowed [.ref k] hi g (some (.int r0)) P) (h : ∀ hi' : am_HI, P hi' → AP M_L_law b 1012 [x0, x1, x2, x3, x4, x5, x6, x7, x8] (.int r0 :: st) hi' g Φ) : AP M_L_law b 1009 [x0, x1, x2, x3, x4, x5, x6, x7, x8] (.ref k :: st) hi g Φ := AP.callVr (As := []) (q := (RX10, TX10, 15)) hI hc k_L_law_200 d_L_law_1009 rfl hs hk rfl rfl hst h
theorem d_L_law_1012 : decode code 1012 = .ok (.if_icmp .eq 1739, 3) := by decide +kernel
theorem s_L_law_1012 {x y : Int32} (h1 : x = y → AP M_L_law b 2751 [x0, x1, x2, x3, x4, x5, x6, x7, x8] st hi g Φ) (h2 : ¬ x = y → AP M_L_law b 1015 [x0, x1, x2, x3, x4, x5, x6, x7, x8] st hi g Φ) : AP M_L_law b 1012 [x0, x1, x2, x3, x4, x5, x6, x7, x8] (.int y :: .int x :: st) hi g Φ := AP.icmp_eq d_L_law_1012 (by decide) h1 h2
theorem d_L_law_1015 : decode code 1015 = .ok (.iconst 0, 1) := by decide +kernel
theorem s_L_law_1015 (h : AP M_L_law b 1016 [x0, x1, x2, x3, x4, x5, x6, x7, x8] (.int 0 :: st) hi g Φ) : AP M_L_law b 1015 [x0, x1, x2, x3, x4, x5, x6, x7, x8] (st) hi g Φ := AP.iconst (x := 0) d_L_law_1015 (by decide) h
theorem d_L_law_1016 : decode code 1016 = .ok (.ireturn, 1) := by decide +kernel
theorem s_L_law_1016 {x : Int32} (hx : x = 0 ∨ x = 1) (h : Φ (.ok (some (.int x))) hi g) : AP M_L_law b 1016 [x0, x1, x2, x3, x4, x5, x6, x7, x8] [.int x] hi g Φ := AP.zret d_L_law_1016 rfl hx h
theorem d_L_law_1017 : decode code 1017 = .ok (.aload_n 1, 1) := by decide +kernel
theorem s_L_law_1017 {n : Nat} (h : AP M_L_law b 1018 [x0, .ref n, x2, x3, x4, x5, x6, x7, x8] (.ref n :: st) hi g Φ) : AP M_L_law b 1017 [x0, .ref n, x2, x3, x4, x5, x6, x7, x8] (st) hi g Φ := AP.aload_n (x := n) (i := 1) d_L_law_1017 rfl rfl h
theorem d_L_law_1018 : decode code 1018 = .ok (.aload_n 0, 1) := by decide +kernel
theorem s_L_law_1018 {n : Nat} (h : AP M_L_law b 1019 [.ref n, x1, x2, x3, x4, x5, x6, x7, x8] (.ref n :: st) hi g Φ) : AP M_L_law b 1018 [.ref n, x1, x2, x3, x4, x5, x6, x7, x8] (st) hi g Φ := AP.aload_n (x := n) (i := 0) d_L_law_1018 rfl rfl h
theorem d_L_law_1019 : decode code 1019 = .ok (.iload 4, 2) := by decide +kernel
theorem s_L_law_1019 {n : Int32} (h : AP M_L_law b 1021 [x0, x1, x2, x3, .int n, x5, x6, x7, x8] (.int n :: st) hi g Φ) : AP M_L_law b 1019 [x0, x1, x2, x3, .int n, x5, x6, x7, x8] (st) hi g Φ := AP.iload (x := n) (i := 4) d_L_law_1019 rfl h
theorem d_L_law_1021 : decode code 1021 = .ok (.iconst 1, 1) := by decide +kernel
theorem s_L_law_1021 (h : AP M_L_law b 1022 [x0, x1, x2, x3, x4, x5, x6, x7, x8] (.int 1 :: st) hi g Φ) : AP M_L_law b 1021 [x0, x1, x2, x3, x4, x5, x6, x7, x8] (st) hi g Φ := AP.iconst (x := 1) d_L_law_1021 (by decide) h
theorem d_L_law_1022 : decode code 1022 = .ok (.iadd, 1) := by decide +kernel
theorem s_L_law_1022 {x y : Int32} (h : AP M_L_law b 1023 [x0, x1, x2, x3, x4, x5, x6, x7, x8] (.int (x + y) :: st) hi g Φ) : AP M_L_law b 1022 [x0, x1, x2, x3, x4, x5, x6, x7, x8] (.int y :: .int x :: st) hi g Φ := AP.iadd d_L_law_1022 h
theorem d_L_law_1023 : decode code 1023 = .ok (.iaload, 1) := by decide +kernel
theorem s_L_law_1023 {k n j : Nat} {i : Int32} (hI : am_Inv g) (hs : am_SH k = (1, n)) (hk : k < 134) (hn : n < 2 ^ 31) (hx : i = nI j) (hj : j < n) (h : AP M_L_law b 1024 [x0, x1, x2, x3, x4, x5, x6, x7, x8] (.int (hi k j) :: st) hi g Φ) : AP M_L_law b 1023 [x0, x1, x2, x3, x4, x5, x6, x7, x8] (.int i :: .ref k :: st) hi g Φ := AP.iald d_L_law_1023 hs (hI.lt hk) hn hx hj h
theorem d_L_law_1024 : decode code 1024 = .ok (.aload_n 3, 1) := by decide +kernel
theorem s_L_law_1024 {n : Nat} (h : AP M_L_law b 1025 [x0, x1, x2, .ref n, x4, x5, x6, x7, x8] (.ref n :: st) hi g Φ) : AP M_L_law b 1024 [x0, x1, x2, .ref n, x4, x5, x6, x7, x8] (st) hi g Φ := AP.aload_n (x := n) (i := 3) d_L_law_1024 rfl rfl h
theorem d_L_law_1025 : decode code 1025 = .ok (.invokestatic 201, 3) := by decide +kernel
-- s_L_law_1025: a call apart
theorem d_L_law_1028 : decode code 1028 = .ok (.istore 5, 2) := by decide +kernel
theorem s_L_law_1028 {n : Int32} (hc : x4.category = 1) (h : AP M_L_law b 1030 [x0, x1, x2, x3, x4, .int n, x6, x7, x8] (st) hi g Φ) : AP M_L_law b 1028 [x0, x1, x2, x3, x4, x5, x6, x7, x8] (.int n :: st) hi g Φ := AP.istore (x := n) (i := 5) d_L_law_1028 (by decide) (by simp [am_st, am_ci, am_cr, am_cl, am_cd, hc]) h
theorem d_L_law_1030 : decode code 1030 = .ok (.aload_n 2, 1) := by decide +kernel
theorem s_L_law_1030 {n : Nat} (h : AP M_L_law b 1031 [x0, x1, .ref n, x3, x4, x5, x6, x7, x8] (.ref n :: st) hi g Φ) : AP M_L_law b 1030 [x0, x1, .ref n, x3, x4, x5, x6, x7, x8] (st) hi g Φ := AP.aload_n (x := n) (i := 2) d_L_law_1030 rfl rfl h
theorem d_L_law_1031 : decode code 1031 = .ok (.aload_n 0, 1) := by decide +kernel
theorem s_L_law_1031 {n : Nat} (h : AP M_L_law b 1032 [.ref n, x1, x2, x3, x4, x5, x6, x7, x8] (.ref n :: st) hi g Φ) : AP M_L_law b 1031 [.ref n, x1, x2, x3, x4, x5, x6, x7, x8] (st) hi g Φ := AP.aload_n (x := n) (i := 0) d_L_law_1031 rfl rfl h
theorem d_L_law_1032 : decode code 1032 = .ok (.iload 4, 2) := by decide +kernel
theorem s_L_law_1032 {n : Int32} (h : AP M_L_law b 1034 [x0, x1, x2, x3, .int n, x5, x6, x7, x8] (.int n :: st) hi g Φ) : AP M_L_law b 1032 [x0, x1, x2, x3, .int n, x5, x6, x7, x8] (st) hi g Φ := AP.iload (x := n) (i := 4) d_L_law_1032 rfl h
theorem d_L_law_1034 : decode code 1034 = .ok (.iconst 1, 1) := by decide +kernel
theorem s_L_law_1034 (h : AP M_L_law b 1035 [x0, x1, x2, x3, x4, x5, x6, x7, x8] (.int 1 :: st) hi g Φ) : AP M_L_law b 1034 [x0, x1, x2, x3, x4, x5, x6, x7, x8] (st) hi g Φ := AP.iconst (x := 1) d_L_law_1034 (by decide) h
theorem d_L_law_1035 : decode code 1035 = .ok (.iadd, 1) := by decide +kernel
theorem s_L_law_1035 {x y : Int32} (h : AP M_L_law b 1036 [x0, x1, x2, x3, x4, x5, x6, x7, x8] (.int (x + y) :: st) hi g Φ) : AP M_L_law b 1035 [x0, x1, x2, x3, x4, x5, x6, x7, x8] (.int y :: .int x :: st) hi g Φ := AP.iadd d_L_law_1035 h
theorem d_L_law_1036 : decode code 1036 = .ok (.iaload, 1) := by decide +kernel
theorem s_L_law_1036 {k n j : Nat} {i : Int32} (hI : am_Inv g) (hs : am_SH k = (1, n)) (hk : k < 134) (hn : n < 2 ^ 31) (hx : i = nI j) (hj : j < n) (h : AP M_L_law b 1037 [x0, x1, x2, x3, x4, x5, x6, x7, x8] (.int (hi k j) :: st) hi g Φ) : AP M_L_law b 1036 [x0, x1, x2, x3, x4, x5, x6, x7, x8] (.int i :: .ref k :: st) hi g Φ := AP.iald d_L_law_1036 hs (hI.lt hk) hn hx hj h
theorem d_L_law_1037 : decode code 1037 = .ok (.invokevirtual 203, 3) := by decide +kernel
theorem s_L_law_1037 {a0 : Int32} {k : Nat} {r0 : Int32} {P : am_HI → Prop} (hI : am_Inv g) (hs : am_SH k = (0, 10)) (hk : k < 134) (hst : (st.map Value.category).sum ≤ 8) (hc : am_Cr M_X10_firstWeight [.ref k, .int a0] hi g (some (.int r0)) P) (h : ∀ hi' : am_HI, P hi' → AP M_L_law b 1040 [x0, x1, x2, x3, x4, x5, x6, x7, x8] (.int r0 :: st) hi' g Φ) : AP M_L_law b 1037 [x0, x1, x2, x3, x4, x5, x6, x7, x8] (.int a0 :: .ref k :: st) hi g Φ := AP.callVr (As := [.int a0]) (q := (RX10, TX10, 15)) hI hc k_L_law_203 d_L_law_1037 rfl hs hk rfl rfl hst h
theorem d_L_law_1040 : decode code 1040 = .ok (.istore 6, 2) := by decide +kernel
theorem s_L_law_1040 {n : Int32} (hc : x5.category = 1) (h : AP M_L_law b 1042 [x0, x1, x2, x3, x4, x5, .int n, x7, x8] (st) hi g Φ) : AP M_L_law b 1040 [x0, x1, x2, x3, x4, x5, x6, x7, x8] (.int n :: st) hi g Φ := AP.istore (x := n) (i := 6) d_L_law_1040 (by decide) (by simp [am_st, am_ci, am_cr, am_cl, am_cd, hc]) h
theorem d_L_law_1042 : decode code 1042 = .ok (.aload_n 2, 1) := by decide +kernel
theorem s_L_law_1042 {n : Nat} (h : AP M_L_law b 1043 [x0, x1, .ref n, x3, x4, x5, x6, x7, x8] (.ref n :: st) hi g Φ) : AP M_L_law b 1042 [x0, x1, .ref n, x3, x4, x5, x6, x7, x8] (st) hi g Φ := AP.aload_n (x := n) (i := 2) d_L_law_1042 rfl rfl h
theorem d_L_law_1043 : decode code 1043 = .ok (.invokevirtual 141, 3) := by decide +kernel
theorem s_L_law_1043  {k : Nat} {r0 : Int32} {P : am_HI → Prop} (hI : am_Inv g) (hs : am_SH k = (0, 10)) (hk : k < 134) (hst : (st.map Value.category).sum ≤ 8) (hc : am_Cr M_X10_thrown [.ref k] hi g (some (.int r0)) P) (h : ∀ hi' : am_HI, P hi' → AP M_L_law b 1046 [x0, x1, x2, x3, x4, x5, x6, x7, x8] (.int r0 :: st) hi' g Φ) : AP M_L_law b 1043 [x0, x1, x2, x3, x4, x5, x6, x7, x8] (.ref k :: st) hi g Φ := AP.callVr (As := []) (q := (RX10, TX10, 15)) hI hc k_L_law_141 d_L_law_1043 rfl hs hk rfl rfl hst h
theorem d_L_law_1046 : decode code 1046 = .ok (.iload 5, 2) := by decide +kernel
theorem s_L_law_1046 {n : Int32} (h : AP M_L_law b 1048 [x0, x1, x2, x3, x4, .int n, x6, x7, x8] (.int n :: st) hi g Φ) : AP M_L_law b 1046 [x0, x1, x2, x3, x4, .int n, x6, x7, x8] (st) hi g Φ := AP.iload (x := n) (i := 5) d_L_law_1046 rfl h
theorem d_L_law_1048 : decode code 1048 = .ok (.if_icmp .eq 5, 3) := by decide +kernel
theorem s_L_law_1048 {x y : Int32} (h1 : x = y → AP M_L_law b 1053 [x0, x1, x2, x3, x4, x5, x6, x7, x8] st hi g Φ) (h2 : ¬ x = y → AP M_L_law b 1051 [x0, x1, x2, x3, x4, x5, x6, x7, x8] st hi g Φ) : AP M_L_law b 1048 [x0, x1, x2, x3, x4, x5, x6, x7, x8] (.int y :: .int x :: st) hi g Φ := AP.icmp_eq d_L_law_1048 (by decide) h1 h2
theorem d_L_law_1051 : decode code 1051 = .ok (.iconst 0, 1) := by decide +kernel
theorem s_L_law_1051 (h : AP M_L_law b 1052 [x0, x1, x2, x3, x4, x5, x6, x7, x8] (.int 0 :: st) hi g Φ) : AP M_L_law b 1051 [x0, x1, x2, x3, x4, x5, x6, x7, x8] (st) hi g Φ := AP.iconst (x := 0) d_L_law_1051 (by decide) h
theorem d_L_law_1052 : decode code 1052 = .ok (.ireturn, 1) := by decide +kernel
theorem s_L_law_1052 {x : Int32} (hx : x = 0 ∨ x = 1) (h : Φ (.ok (some (.int x))) hi g) : AP M_L_law b 1052 [x0, x1, x2, x3, x4, x5, x6, x7, x8] [.int x] hi g Φ := AP.zret d_L_law_1052 rfl hx h
theorem d_L_law_1053 : decode code 1053 = .ok (.iload 5, 2) := by decide +kernel
theorem s_L_law_1053 {n : Int32} (h : AP M_L_law b 1055 [x0, x1, x2, x3, x4, .int n, x6, x7, x8] (.int n :: st) hi g Φ) : AP M_L_law b 1053 [x0, x1, x2, x3, x4, .int n, x6, x7, x8] (st) hi g Φ := AP.iload (x := n) (i := 5) d_L_law_1053 rfl h
theorem d_L_law_1055 : decode code 1055 = .ok (.ifCond .ne 15, 3) := by decide +kernel
theorem s_L_law_1055 {x : Int32} (h1 : ¬ x = 0 → AP M_L_law b 1070 [x0, x1, x2, x3, x4, x5, x6, x7, x8] st hi g Φ) (h2 : x = 0 → AP M_L_law b 1058 [x0, x1, x2, x3, x4, x5, x6, x7, x8] st hi g Φ) : AP M_L_law b 1055 [x0, x1, x2, x3, x4, x5, x6, x7, x8] (.int x :: st) hi g Φ := AP.if_ne d_L_law_1055 (by decide) h1 h2
theorem d_L_law_1058 : decode code 1058 = .ok (.aload_n 3, 1) := by decide +kernel
theorem s_L_law_1058 {n : Nat} (h : AP M_L_law b 1059 [x0, x1, x2, .ref n, x4, x5, x6, x7, x8] (.ref n :: st) hi g Φ) : AP M_L_law b 1058 [x0, x1, x2, .ref n, x4, x5, x6, x7, x8] (st) hi g Φ := AP.aload_n (x := n) (i := 3) d_L_law_1058 rfl rfl h
theorem d_L_law_1059 : decode code 1059 = .ok (.iconst 0, 1) := by decide +kernel
theorem s_L_law_1059 (h : AP M_L_law b 1060 [x0, x1, x2, x3, x4, x5, x6, x7, x8] (.int 0 :: st) hi g Φ) : AP M_L_law b 1059 [x0, x1, x2, x3, x4, x5, x6, x7, x8] (st) hi g Φ := AP.iconst (x := 0) d_L_law_1059 (by decide) h
theorem d_L_law_1060 : decode code 1060 = .ok (.laload, 1) := by decide +kernel
theorem s_L_law_1060 {k n j : Nat} {i : Int32} (hI : am_Inv g) (hs : am_SH k = (4, n)) (hk : k < 134) (hn : n < 2 ^ 31) (hx : i = nI j) (hj : j < n) (h : AP M_L_law b 1061 [x0, x1, x2, x3, x4, x5, x6, x7, x8] (.long (g.2.2 k j) :: st) hi g Φ) : AP M_L_law b 1060 [x0, x1, x2, x3, x4, x5, x6, x7, x8] (.int i :: .ref k :: st) hi g Φ := AP.lald d_L_law_1060 hs (hI.lt hk) hn hx hj h
theorem d_L_law_1061 : decode code 1061 = .ok (.iload 6, 2) := by decide +kernel
theorem s_L_law_1061 {n : Int32} (h : AP M_L_law b 1063 [x0, x1, x2, x3, x4, x5, .int n, x7, x8] (.int n :: st) hi g Φ) : AP M_L_law b 1061 [x0, x1, x2, x3, x4, x5, .int n, x7, x8] (st) hi g Φ := AP.iload (x := n) (i := 6) d_L_law_1061 rfl h
theorem d_L_law_1063 : decode code 1063 = .ok (.i2l, 1) := by decide +kernel
theorem s_L_law_1063 {x : Int32} (h : AP M_L_law b 1064 [x0, x1, x2, x3, x4, x5, x6, x7, x8] (.long x.toInt64 :: st) hi g Φ) : AP M_L_law b 1063 [x0, x1, x2, x3, x4, x5, x6, x7, x8] (.int x :: st) hi g Φ := AP.i2l d_L_law_1063 h
theorem d_L_law_1064 : decode code 1064 = .ok (.lcmp, 1) := by decide +kernel
theorem s_L_law_1064 {x y : Int64} (h : AP M_L_law b 1065 [x0, x1, x2, x3, x4, x5, x6, x7, x8] (.int (lg_cmp x y) :: st) hi g Φ) : AP M_L_law b 1064 [x0, x1, x2, x3, x4, x5, x6, x7, x8] (.long y :: .long x :: st) hi g Φ := AP.lcmp d_L_law_1064 h
theorem d_L_law_1065 : decode code 1065 = .ok (.ifCond .eq 5, 3) := by decide +kernel
theorem s_L_law_1065 {x : Int32} (h1 : x = 0 → AP M_L_law b 1070 [x0, x1, x2, x3, x4, x5, x6, x7, x8] st hi g Φ) (h2 : ¬ x = 0 → AP M_L_law b 1068 [x0, x1, x2, x3, x4, x5, x6, x7, x8] st hi g Φ) : AP M_L_law b 1065 [x0, x1, x2, x3, x4, x5, x6, x7, x8] (.int x :: st) hi g Φ := AP.if_eq d_L_law_1065 (by decide) h1 h2
theorem d_L_law_1068 : decode code 1068 = .ok (.iconst 0, 1) := by decide +kernel
theorem s_L_law_1068 (h : AP M_L_law b 1069 [x0, x1, x2, x3, x4, x5, x6, x7, x8] (.int 0 :: st) hi g Φ) : AP M_L_law b 1068 [x0, x1, x2, x3, x4, x5, x6, x7, x8] (st) hi g Φ := AP.iconst (x := 0) d_L_law_1068 (by decide) h
theorem d_L_law_1069 : decode code 1069 = .ok (.ireturn, 1) := by decide +kernel
theorem s_L_law_1069 {x : Int32} (hx : x = 0 ∨ x = 1) (h : Φ (.ok (some (.int x))) hi g) : AP M_L_law b 1069 [x0, x1, x2, x3, x4, x5, x6, x7, x8] [.int x] hi g Φ := AP.zret d_L_law_1069 rfl hx h
theorem d_L_law_1070 : decode code 1070 = .ok (.goto 1681, 3) := by decide +kernel
theorem s_L_law_1070 (h : AP M_L_law b 2751 [x0, x1, x2, x3, x4, x5, x6, x7, x8] st hi g Φ) : AP M_L_law b 1070 [x0, x1, x2, x3, x4, x5, x6, x7, x8] st hi g Φ := AP.goto d_L_law_1070 (by decide) h
theorem d_L_law_1073 : decode code 1073 = .ok (.aload_n 1, 1) := by decide +kernel
theorem s_L_law_1073 {n : Nat} (h : AP M_L_law b 1074 [x0, .ref n, x2, x3, x4, x5, x6, x7, x8] (.ref n :: st) hi g Φ) : AP M_L_law b 1073 [x0, .ref n, x2, x3, x4, x5, x6, x7, x8] (st) hi g Φ := AP.aload_n (x := n) (i := 1) d_L_law_1073 rfl rfl h
theorem d_L_law_1074 : decode code 1074 = .ok (.invokevirtual 204, 3) := by decide +kernel
theorem s_L_law_1074  {k : Nat} {r0 : UInt64} {P : am_HI → Prop} (hI : am_Inv g) (hs : am_SH k = (0, 9)) (hk : k < 134) (hst : (st.map Value.category).sum ≤ 8) (hc : am_Cr M_X9_loudness [.ref k] hi g (some (.double r0)) P) (h : ∀ hi' : am_HI, P hi' → AP M_L_law b 1077 [x0, x1, x2, x3, x4, x5, x6, x7, x8] (.double r0 :: st) hi' g Φ) : AP M_L_law b 1074 [x0, x1, x2, x3, x4, x5, x6, x7, x8] (.ref k :: st) hi g Φ := AP.callVr (As := []) (q := (RX9, TX9, 7)) hI hc k_L_law_204 d_L_law_1074 rfl hs hk rfl rfl hst h
theorem d_L_law_1077 : decode code 1077 = .ok (.dstore 5, 2) := by decide +kernel
theorem s_L_law_1077 {n : UInt64} (hc : x4.category = 1) (h : AP M_L_law b 1079 [x0, x1, x2, x3, x4, .double n, jk, x7, x8] (st) hi g Φ) : AP M_L_law b 1077 [x0, x1, x2, x3, x4, x5, x6, x7, x8] (.double n :: st) hi g Φ := AP.dstore (x := n) (i := 5) d_L_law_1077 (by decide) (by simp [am_st, am_ci, am_cr, am_cl, am_cd, hc]) h
theorem d_L_law_1079 : decode code 1079 = .ok (.aload_n 2, 1) := by decide +kernel
theorem s_L_law_1079 {n : Nat} (h : AP M_L_law b 1080 [x0, x1, .ref n, x3, x4, x5, x6, x7, x8] (.ref n :: st) hi g Φ) : AP M_L_law b 1079 [x0, x1, .ref n, x3, x4, x5, x6, x7, x8] (st) hi g Φ := AP.aload_n (x := n) (i := 2) d_L_law_1079 rfl rfl h
theorem d_L_law_1080 : decode code 1080 = .ok (.invokevirtual 208, 3) := by decide +kernel
theorem s_L_law_1080  {k : Nat} {r0 : UInt64} {P : am_HI → Prop} (hI : am_Inv g) (hs : am_SH k = (0, 10)) (hk : k < 134) (hst : (st.map Value.category).sum ≤ 8) (hc : am_Cr M_X10_loudness [.ref k] hi g (some (.double r0)) P) (h : ∀ hi' : am_HI, P hi' → AP M_L_law b 1083 [x0, x1, x2, x3, x4, x5, x6, x7, x8] (.double r0 :: st) hi' g Φ) : AP M_L_law b 1080 [x0, x1, x2, x3, x4, x5, x6, x7, x8] (.ref k :: st) hi g Φ := AP.callVr (As := []) (q := (RX10, TX10, 15)) hI hc k_L_law_208 d_L_law_1080 rfl hs hk rfl rfl hst h
theorem d_L_law_1083 : decode code 1083 = .ok (.dstore 7, 2) := by decide +kernel
theorem s_L_law_1083 {n : UInt64} (hc : x6.category = 1) (h : AP M_L_law b 1085 [x0, x1, x2, x3, x4, x5, x6, .double n, jk] (st) hi g Φ) : AP M_L_law b 1083 [x0, x1, x2, x3, x4, x5, x6, x7, x8] (.double n :: st) hi g Φ := AP.dstore (x := n) (i := 7) d_L_law_1083 (by decide) (by simp [am_st, am_ci, am_cr, am_cl, am_cd, hc]) h
theorem d_L_law_1085 : decode code 1085 = .ok (.dload 5, 2) := by decide +kernel
theorem s_L_law_1085 {n : UInt64} (h : AP M_L_law b 1087 [x0, x1, x2, x3, x4, .double n, x6, x7, x8] (.double n :: st) hi g Φ) : AP M_L_law b 1085 [x0, x1, x2, x3, x4, .double n, x6, x7, x8] (st) hi g Φ := AP.dload (x := n) (i := 5) d_L_law_1085 rfl h
theorem d_L_law_1087 : decode code 1087 = .ok (.dload 7, 2) := by decide +kernel
theorem s_L_law_1087 {n : UInt64} (h : AP M_L_law b 1089 [x0, x1, x2, x3, x4, x5, x6, .double n, x8] (.double n :: st) hi g Φ) : AP M_L_law b 1087 [x0, x1, x2, x3, x4, x5, x6, .double n, x8] (st) hi g Φ := AP.dload (x := n) (i := 7) d_L_law_1087 rfl h
theorem d_L_law_1089 : decode code 1089 = .ok (.dcmp .l, 1) := by decide +kernel
theorem s_L_law_1089 {x y : UInt64} (h : AP M_L_law b 1090 [x0, x1, x2, x3, x4, x5, x6, x7, x8] (.int (Op.cmpValue (FP.dcmp x y) .l) :: st) hi g Φ) : AP M_L_law b 1089 [x0, x1, x2, x3, x4, x5, x6, x7, x8] (.double y :: .double x :: st) hi g Φ := AP.dcmp d_L_law_1089 h
theorem d_L_law_1090 : decode code 1090 = .ok (.ifCond .eq 21, 3) := by decide +kernel
theorem s_L_law_1090 {x : Int32} (h1 : x = 0 → AP M_L_law b 1111 [x0, x1, x2, x3, x4, x5, x6, x7, x8] st hi g Φ) (h2 : ¬ x = 0 → AP M_L_law b 1093 [x0, x1, x2, x3, x4, x5, x6, x7, x8] st hi g Φ) : AP M_L_law b 1090 [x0, x1, x2, x3, x4, x5, x6, x7, x8] (.int x :: st) hi g Φ := AP.if_eq d_L_law_1090 (by decide) h1 h2
theorem d_L_law_1093 : decode code 1093 = .ok (.dload 5, 2) := by decide +kernel
theorem s_L_law_1093 {n : UInt64} (h : AP M_L_law b 1095 [x0, x1, x2, x3, x4, .double n, x6, x7, x8] (.double n :: st) hi g Φ) : AP M_L_law b 1093 [x0, x1, x2, x3, x4, .double n, x6, x7, x8] (st) hi g Φ := AP.dload (x := n) (i := 5) d_L_law_1093 rfl h
theorem d_L_law_1095 : decode code 1095 = .ok (.dload 5, 2) := by decide +kernel
theorem s_L_law_1095 {n : UInt64} (h : AP M_L_law b 1097 [x0, x1, x2, x3, x4, .double n, x6, x7, x8] (.double n :: st) hi g Φ) : AP M_L_law b 1095 [x0, x1, x2, x3, x4, .double n, x6, x7, x8] (st) hi g Φ := AP.dload (x := n) (i := 5) d_L_law_1095 rfl h
theorem d_L_law_1097 : decode code 1097 = .ok (.dcmp .l, 1) := by decide +kernel
theorem s_L_law_1097 {x y : UInt64} (h : AP M_L_law b 1098 [x0, x1, x2, x3, x4, x5, x6, x7, x8] (.int (Op.cmpValue (FP.dcmp x y) .l) :: st) hi g Φ) : AP M_L_law b 1097 [x0, x1, x2, x3, x4, x5, x6, x7, x8] (.double y :: .double x :: st) hi g Φ := AP.dcmp d_L_law_1097 h
theorem d_L_law_1098 : decode code 1098 = .ok (.ifCond .eq 11, 3) := by decide +kernel
theorem s_L_law_1098 {x : Int32} (h1 : x = 0 → AP M_L_law b 1109 [x0, x1, x2, x3, x4, x5, x6, x7, x8] st hi g Φ) (h2 : ¬ x = 0 → AP M_L_law b 1101 [x0, x1, x2, x3, x4, x5, x6, x7, x8] st hi g Φ) : AP M_L_law b 1098 [x0, x1, x2, x3, x4, x5, x6, x7, x8] (.int x :: st) hi g Φ := AP.if_eq d_L_law_1098 (by decide) h1 h2
theorem d_L_law_1101 : decode code 1101 = .ok (.dload 7, 2) := by decide +kernel
theorem s_L_law_1101 {n : UInt64} (h : AP M_L_law b 1103 [x0, x1, x2, x3, x4, x5, x6, .double n, x8] (.double n :: st) hi g Φ) : AP M_L_law b 1101 [x0, x1, x2, x3, x4, x5, x6, .double n, x8] (st) hi g Φ := AP.dload (x := n) (i := 7) d_L_law_1101 rfl h
theorem d_L_law_1103 : decode code 1103 = .ok (.dload 7, 2) := by decide +kernel
theorem s_L_law_1103 {n : UInt64} (h : AP M_L_law b 1105 [x0, x1, x2, x3, x4, x5, x6, .double n, x8] (.double n :: st) hi g Φ) : AP M_L_law b 1103 [x0, x1, x2, x3, x4, x5, x6, .double n, x8] (st) hi g Φ := AP.dload (x := n) (i := 7) d_L_law_1103 rfl h
theorem d_L_law_1105 : decode code 1105 = .ok (.dcmp .l, 1) := by decide +kernel
theorem s_L_law_1105 {x y : UInt64} (h : AP M_L_law b 1106 [x0, x1, x2, x3, x4, x5, x6, x7, x8] (.int (Op.cmpValue (FP.dcmp x y) .l) :: st) hi g Φ) : AP M_L_law b 1105 [x0, x1, x2, x3, x4, x5, x6, x7, x8] (.double y :: .double x :: st) hi g Φ := AP.dcmp d_L_law_1105 h
theorem d_L_law_1106 : decode code 1106 = .ok (.ifCond .ne 5, 3) := by decide +kernel
theorem s_L_law_1106 {x : Int32} (h1 : ¬ x = 0 → AP M_L_law b 1111 [x0, x1, x2, x3, x4, x5, x6, x7, x8] st hi g Φ) (h2 : x = 0 → AP M_L_law b 1109 [x0, x1, x2, x3, x4, x5, x6, x7, x8] st hi g Φ) : AP M_L_law b 1106 [x0, x1, x2, x3, x4, x5, x6, x7, x8] (.int x :: st) hi g Φ := AP.if_ne d_L_law_1106 (by decide) h1 h2
theorem d_L_law_1109 : decode code 1109 = .ok (.iconst 0, 1) := by decide +kernel
theorem s_L_law_1109 (h : AP M_L_law b 1110 [x0, x1, x2, x3, x4, x5, x6, x7, x8] (.int 0 :: st) hi g Φ) : AP M_L_law b 1109 [x0, x1, x2, x3, x4, x5, x6, x7, x8] (st) hi g Φ := AP.iconst (x := 0) d_L_law_1109 (by decide) h
theorem d_L_law_1110 : decode code 1110 = .ok (.ireturn, 1) := by decide +kernel
theorem s_L_law_1110 {x : Int32} (hx : x = 0 ∨ x = 1) (h : Φ (.ok (some (.int x))) hi g) : AP M_L_law b 1110 [x0, x1, x2, x3, x4, x5, x6, x7, x8] [.int x] hi g Φ := AP.zret d_L_law_1110 rfl hx h
theorem d_L_law_1111 : decode code 1111 = .ok (.goto 1640, 3) := by decide +kernel
theorem s_L_law_1111 (h : AP M_L_law b 2751 [x0, x1, x2, x3, x4, x5, x6, x7, x8] st hi g Φ) : AP M_L_law b 1111 [x0, x1, x2, x3, x4, x5, x6, x7, x8] st hi g Φ := AP.goto d_L_law_1111 (by decide) h
theorem d_L_law_1114 : decode code 1114 = .ok (.aload_n 1, 1) := by decide +kernel
theorem s_L_law_1114 {n : Nat} (h : AP M_L_law b 1115 [x0, .ref n, x2, x3, x4, x5, x6, x7, x8] (.ref n :: st) hi g Φ) : AP M_L_law b 1114 [x0, .ref n, x2, x3, x4, x5, x6, x7, x8] (st) hi g Φ := AP.aload_n (x := n) (i := 1) d_L_law_1114 rfl rfl h
theorem d_L_law_1115 : decode code 1115 = .ok (.aload_n 0, 1) := by decide +kernel
theorem s_L_law_1115 {n : Nat} (h : AP M_L_law b 1116 [.ref n, x1, x2, x3, x4, x5, x6, x7, x8] (.ref n :: st) hi g Φ) : AP M_L_law b 1115 [.ref n, x1, x2, x3, x4, x5, x6, x7, x8] (st) hi g Φ := AP.aload_n (x := n) (i := 0) d_L_law_1115 rfl rfl h
theorem d_L_law_1116 : decode code 1116 = .ok (.iload 4, 2) := by decide +kernel
theorem s_L_law_1116 {n : Int32} (h : AP M_L_law b 1118 [x0, x1, x2, x3, .int n, x5, x6, x7, x8] (.int n :: st) hi g Φ) : AP M_L_law b 1116 [x0, x1, x2, x3, .int n, x5, x6, x7, x8] (st) hi g Φ := AP.iload (x := n) (i := 4) d_L_law_1116 rfl h
theorem d_L_law_1118 : decode code 1118 = .ok (.iconst 1, 1) := by decide +kernel
theorem s_L_law_1118 (h : AP M_L_law b 1119 [x0, x1, x2, x3, x4, x5, x6, x7, x8] (.int 1 :: st) hi g Φ) : AP M_L_law b 1118 [x0, x1, x2, x3, x4, x5, x6, x7, x8] (st) hi g Φ := AP.iconst (x := 1) d_L_law_1118 (by decide) h
theorem d_L_law_1119 : decode code 1119 = .ok (.iadd, 1) := by decide +kernel
theorem s_L_law_1119 {x y : Int32} (h : AP M_L_law b 1120 [x0, x1, x2, x3, x4, x5, x6, x7, x8] (.int (x + y) :: st) hi g Φ) : AP M_L_law b 1119 [x0, x1, x2, x3, x4, x5, x6, x7, x8] (.int y :: .int x :: st) hi g Φ := AP.iadd d_L_law_1119 h
theorem d_L_law_1120 : decode code 1120 = .ok (.iaload, 1) := by decide +kernel
theorem s_L_law_1120 {k n j : Nat} {i : Int32} (hI : am_Inv g) (hs : am_SH k = (1, n)) (hk : k < 134) (hn : n < 2 ^ 31) (hx : i = nI j) (hj : j < n) (h : AP M_L_law b 1121 [x0, x1, x2, x3, x4, x5, x6, x7, x8] (.int (hi k j) :: st) hi g Φ) : AP M_L_law b 1120 [x0, x1, x2, x3, x4, x5, x6, x7, x8] (.int i :: .ref k :: st) hi g Φ := AP.iald d_L_law_1120 hs (hI.lt hk) hn hx hj h
theorem d_L_law_1121 : decode code 1121 = .ok (.aload_n 0, 1) := by decide +kernel
theorem s_L_law_1121 {n : Nat} (h : AP M_L_law b 1122 [.ref n, x1, x2, x3, x4, x5, x6, x7, x8] (.ref n :: st) hi g Φ) : AP M_L_law b 1121 [.ref n, x1, x2, x3, x4, x5, x6, x7, x8] (st) hi g Φ := AP.aload_n (x := n) (i := 0) d_L_law_1121 rfl rfl h
theorem d_L_law_1122 : decode code 1122 = .ok (.iload 4, 2) := by decide +kernel
theorem s_L_law_1122 {n : Int32} (h : AP M_L_law b 1124 [x0, x1, x2, x3, .int n, x5, x6, x7, x8] (.int n :: st) hi g Φ) : AP M_L_law b 1122 [x0, x1, x2, x3, .int n, x5, x6, x7, x8] (st) hi g Φ := AP.iload (x := n) (i := 4) d_L_law_1122 rfl h
theorem d_L_law_1124 : decode code 1124 = .ok (.iconst 2, 1) := by decide +kernel
theorem s_L_law_1124 (h : AP M_L_law b 1125 [x0, x1, x2, x3, x4, x5, x6, x7, x8] (.int 2 :: st) hi g Φ) : AP M_L_law b 1124 [x0, x1, x2, x3, x4, x5, x6, x7, x8] (st) hi g Φ := AP.iconst (x := 2) d_L_law_1124 (by decide) h
theorem d_L_law_1125 : decode code 1125 = .ok (.iadd, 1) := by decide +kernel
theorem s_L_law_1125 {x y : Int32} (h : AP M_L_law b 1126 [x0, x1, x2, x3, x4, x5, x6, x7, x8] (.int (x + y) :: st) hi g Φ) : AP M_L_law b 1125 [x0, x1, x2, x3, x4, x5, x6, x7, x8] (.int y :: .int x :: st) hi g Φ := AP.iadd d_L_law_1125 h
theorem d_L_law_1126 : decode code 1126 = .ok (.iaload, 1) := by decide +kernel
theorem s_L_law_1126 {k n j : Nat} {i : Int32} (hI : am_Inv g) (hs : am_SH k = (1, n)) (hk : k < 134) (hn : n < 2 ^ 31) (hx : i = nI j) (hj : j < n) (h : AP M_L_law b 1127 [x0, x1, x2, x3, x4, x5, x6, x7, x8] (.int (hi k j) :: st) hi g Φ) : AP M_L_law b 1126 [x0, x1, x2, x3, x4, x5, x6, x7, x8] (.int i :: .ref k :: st) hi g Φ := AP.iald d_L_law_1126 hs (hI.lt hk) hn hx hj h
theorem d_L_law_1127 : decode code 1127 = .ok (.aload_n 3, 1) := by decide +kernel
theorem s_L_law_1127 {n : Nat} (h : AP M_L_law b 1128 [x0, x1, x2, .ref n, x4, x5, x6, x7, x8] (.ref n :: st) hi g Φ) : AP M_L_law b 1127 [x0, x1, x2, .ref n, x4, x5, x6, x7, x8] (st) hi g Φ := AP.aload_n (x := n) (i := 3) d_L_law_1127 rfl rfl h
theorem d_L_law_1128 : decode code 1128 = .ok (.invokestatic 209, 3) := by decide +kernel
-- s_L_law_1128: a call apart
theorem d_L_law_1131 : decode code 1131 = .ok (.istore 5, 2) := by decide +kernel
theorem s_L_law_1131 {n : Int32} (hc : x4.category = 1) (h : AP M_L_law b 1133 [x0, x1, x2, x3, x4, .int n, x6, x7, x8] (st) hi g Φ) : AP M_L_law b 1131 [x0, x1, x2, x3, x4, x5, x6, x7, x8] (.int n :: st) hi g Φ := AP.istore (x := n) (i := 5) d_L_law_1131 (by decide) (by simp [am_st, am_ci, am_cr, am_cl, am_cd, hc]) h
theorem d_L_law_1133 : decode code 1133 = .ok (.aload_n 2, 1) := by decide +kernel
theorem s_L_law_1133 {n : Nat} (h : AP M_L_law b 1134 [x0, x1, .ref n, x3, x4, x5, x6, x7, x8] (.ref n :: st) hi g Φ) : AP M_L_law b 1133 [x0, x1, .ref n, x3, x4, x5, x6, x7, x8] (st) hi g Φ := AP.aload_n (x := n) (i := 2) d_L_law_1133 rfl rfl h
theorem d_L_law_1134 : decode code 1134 = .ok (.aload_n 0, 1) := by decide +kernel
theorem s_L_law_1134 {n : Nat} (h : AP M_L_law b 1135 [.ref n, x1, x2, x3, x4, x5, x6, x7, x8] (.ref n :: st) hi g Φ) : AP M_L_law b 1134 [.ref n, x1, x2, x3, x4, x5, x6, x7, x8] (st) hi g Φ := AP.aload_n (x := n) (i := 0) d_L_law_1134 rfl rfl h
theorem d_L_law_1135 : decode code 1135 = .ok (.iload 4, 2) := by decide +kernel
theorem s_L_law_1135 {n : Int32} (h : AP M_L_law b 1137 [x0, x1, x2, x3, .int n, x5, x6, x7, x8] (.int n :: st) hi g Φ) : AP M_L_law b 1135 [x0, x1, x2, x3, .int n, x5, x6, x7, x8] (st) hi g Φ := AP.iload (x := n) (i := 4) d_L_law_1135 rfl h
theorem d_L_law_1137 : decode code 1137 = .ok (.iconst 1, 1) := by decide +kernel
theorem s_L_law_1137 (h : AP M_L_law b 1138 [x0, x1, x2, x3, x4, x5, x6, x7, x8] (.int 1 :: st) hi g Φ) : AP M_L_law b 1137 [x0, x1, x2, x3, x4, x5, x6, x7, x8] (st) hi g Φ := AP.iconst (x := 1) d_L_law_1137 (by decide) h
theorem d_L_law_1138 : decode code 1138 = .ok (.iadd, 1) := by decide +kernel
theorem s_L_law_1138 {x y : Int32} (h : AP M_L_law b 1139 [x0, x1, x2, x3, x4, x5, x6, x7, x8] (.int (x + y) :: st) hi g Φ) : AP M_L_law b 1138 [x0, x1, x2, x3, x4, x5, x6, x7, x8] (.int y :: .int x :: st) hi g Φ := AP.iadd d_L_law_1138 h
theorem d_L_law_1139 : decode code 1139 = .ok (.iaload, 1) := by decide +kernel
theorem s_L_law_1139 {k n j : Nat} {i : Int32} (hI : am_Inv g) (hs : am_SH k = (1, n)) (hk : k < 134) (hn : n < 2 ^ 31) (hx : i = nI j) (hj : j < n) (h : AP M_L_law b 1140 [x0, x1, x2, x3, x4, x5, x6, x7, x8] (.int (hi k j) :: st) hi g Φ) : AP M_L_law b 1139 [x0, x1, x2, x3, x4, x5, x6, x7, x8] (.int i :: .ref k :: st) hi g Φ := AP.iald d_L_law_1139 hs (hI.lt hk) hn hx hj h
theorem d_L_law_1140 : decode code 1140 = .ok (.aload_n 0, 1) := by decide +kernel
theorem s_L_law_1140 {n : Nat} (h : AP M_L_law b 1141 [.ref n, x1, x2, x3, x4, x5, x6, x7, x8] (.ref n :: st) hi g Φ) : AP M_L_law b 1140 [.ref n, x1, x2, x3, x4, x5, x6, x7, x8] (st) hi g Φ := AP.aload_n (x := n) (i := 0) d_L_law_1140 rfl rfl h
theorem d_L_law_1141 : decode code 1141 = .ok (.iload 4, 2) := by decide +kernel
theorem s_L_law_1141 {n : Int32} (h : AP M_L_law b 1143 [x0, x1, x2, x3, .int n, x5, x6, x7, x8] (.int n :: st) hi g Φ) : AP M_L_law b 1141 [x0, x1, x2, x3, .int n, x5, x6, x7, x8] (st) hi g Φ := AP.iload (x := n) (i := 4) d_L_law_1141 rfl h
theorem d_L_law_1143 : decode code 1143 = .ok (.iconst 2, 1) := by decide +kernel
theorem s_L_law_1143 (h : AP M_L_law b 1144 [x0, x1, x2, x3, x4, x5, x6, x7, x8] (.int 2 :: st) hi g Φ) : AP M_L_law b 1143 [x0, x1, x2, x3, x4, x5, x6, x7, x8] (st) hi g Φ := AP.iconst (x := 2) d_L_law_1143 (by decide) h
theorem d_L_law_1144 : decode code 1144 = .ok (.iadd, 1) := by decide +kernel
theorem s_L_law_1144 {x y : Int32} (h : AP M_L_law b 1145 [x0, x1, x2, x3, x4, x5, x6, x7, x8] (.int (x + y) :: st) hi g Φ) : AP M_L_law b 1144 [x0, x1, x2, x3, x4, x5, x6, x7, x8] (.int y :: .int x :: st) hi g Φ := AP.iadd d_L_law_1144 h
theorem d_L_law_1145 : decode code 1145 = .ok (.iaload, 1) := by decide +kernel
theorem s_L_law_1145 {k n j : Nat} {i : Int32} (hI : am_Inv g) (hs : am_SH k = (1, n)) (hk : k < 134) (hn : n < 2 ^ 31) (hx : i = nI j) (hj : j < n) (h : AP M_L_law b 1146 [x0, x1, x2, x3, x4, x5, x6, x7, x8] (.int (hi k j) :: st) hi g Φ) : AP M_L_law b 1145 [x0, x1, x2, x3, x4, x5, x6, x7, x8] (.int i :: .ref k :: st) hi g Φ := AP.iald d_L_law_1145 hs (hI.lt hk) hn hx hj h
theorem d_L_law_1146 : decode code 1146 = .ok (.invokevirtual 211, 3) := by decide +kernel
theorem s_L_law_1146 {a0 : Int32} {a1 : Int32} {k : Nat} {r0 : Int32} {P : am_HI → Prop} (hI : am_Inv g) (hs : am_SH k = (0, 10)) (hk : k < 134) (hst : (st.map Value.category).sum ≤ 8) (hc : am_Cr M_X10_weightAt [.ref k, .int a0, .int a1] hi g (some (.int r0)) P) (h : ∀ hi' : am_HI, P hi' → AP M_L_law b 1149 [x0, x1, x2, x3, x4, x5, x6, x7, x8] (.int r0 :: st) hi' g Φ) : AP M_L_law b 1146 [x0, x1, x2, x3, x4, x5, x6, x7, x8] (.int a1 :: .int a0 :: .ref k :: st) hi g Φ := AP.callVr (As := [.int a0, .int a1]) (q := (RX10, TX10, 15)) hI hc k_L_law_211 d_L_law_1146 rfl hs hk rfl rfl hst h
theorem d_L_law_1149 : decode code 1149 = .ok (.istore 6, 2) := by decide +kernel
theorem s_L_law_1149 {n : Int32} (hc : x5.category = 1) (h : AP M_L_law b 1151 [x0, x1, x2, x3, x4, x5, .int n, x7, x8] (st) hi g Φ) : AP M_L_law b 1149 [x0, x1, x2, x3, x4, x5, x6, x7, x8] (.int n :: st) hi g Φ := AP.istore (x := n) (i := 6) d_L_law_1149 (by decide) (by simp [am_st, am_ci, am_cr, am_cl, am_cd, hc]) h
theorem d_L_law_1151 : decode code 1151 = .ok (.aload_n 2, 1) := by decide +kernel
theorem s_L_law_1151 {n : Nat} (h : AP M_L_law b 1152 [x0, x1, .ref n, x3, x4, x5, x6, x7, x8] (.ref n :: st) hi g Φ) : AP M_L_law b 1151 [x0, x1, .ref n, x3, x4, x5, x6, x7, x8] (st) hi g Φ := AP.aload_n (x := n) (i := 2) d_L_law_1151 rfl rfl h
theorem d_L_law_1152 : decode code 1152 = .ok (.invokevirtual 141, 3) := by decide +kernel
theorem s_L_law_1152  {k : Nat} {r0 : Int32} {P : am_HI → Prop} (hI : am_Inv g) (hs : am_SH k = (0, 10)) (hk : k < 134) (hst : (st.map Value.category).sum ≤ 8) (hc : am_Cr M_X10_thrown [.ref k] hi g (some (.int r0)) P) (h : ∀ hi' : am_HI, P hi' → AP M_L_law b 1155 [x0, x1, x2, x3, x4, x5, x6, x7, x8] (.int r0 :: st) hi' g Φ) : AP M_L_law b 1152 [x0, x1, x2, x3, x4, x5, x6, x7, x8] (.ref k :: st) hi g Φ := AP.callVr (As := []) (q := (RX10, TX10, 15)) hI hc k_L_law_141 d_L_law_1152 rfl hs hk rfl rfl hst h
theorem d_L_law_1155 : decode code 1155 = .ok (.iload 5, 2) := by decide +kernel
theorem s_L_law_1155 {n : Int32} (h : AP M_L_law b 1157 [x0, x1, x2, x3, x4, .int n, x6, x7, x8] (.int n :: st) hi g Φ) : AP M_L_law b 1155 [x0, x1, x2, x3, x4, .int n, x6, x7, x8] (st) hi g Φ := AP.iload (x := n) (i := 5) d_L_law_1155 rfl h
theorem d_L_law_1157 : decode code 1157 = .ok (.if_icmp .eq 5, 3) := by decide +kernel
theorem s_L_law_1157 {x y : Int32} (h1 : x = y → AP M_L_law b 1162 [x0, x1, x2, x3, x4, x5, x6, x7, x8] st hi g Φ) (h2 : ¬ x = y → AP M_L_law b 1160 [x0, x1, x2, x3, x4, x5, x6, x7, x8] st hi g Φ) : AP M_L_law b 1157 [x0, x1, x2, x3, x4, x5, x6, x7, x8] (.int y :: .int x :: st) hi g Φ := AP.icmp_eq d_L_law_1157 (by decide) h1 h2
theorem d_L_law_1160 : decode code 1160 = .ok (.iconst 0, 1) := by decide +kernel
theorem s_L_law_1160 (h : AP M_L_law b 1161 [x0, x1, x2, x3, x4, x5, x6, x7, x8] (.int 0 :: st) hi g Φ) : AP M_L_law b 1160 [x0, x1, x2, x3, x4, x5, x6, x7, x8] (st) hi g Φ := AP.iconst (x := 0) d_L_law_1160 (by decide) h
theorem d_L_law_1161 : decode code 1161 = .ok (.ireturn, 1) := by decide +kernel
theorem s_L_law_1161 {x : Int32} (hx : x = 0 ∨ x = 1) (h : Φ (.ok (some (.int x))) hi g) : AP M_L_law b 1161 [x0, x1, x2, x3, x4, x5, x6, x7, x8] [.int x] hi g Φ := AP.zret d_L_law_1161 rfl hx h
theorem d_L_law_1162 : decode code 1162 = .ok (.iload 5, 2) := by decide +kernel
theorem s_L_law_1162 {n : Int32} (h : AP M_L_law b 1164 [x0, x1, x2, x3, x4, .int n, x6, x7, x8] (.int n :: st) hi g Φ) : AP M_L_law b 1162 [x0, x1, x2, x3, x4, .int n, x6, x7, x8] (st) hi g Φ := AP.iload (x := n) (i := 5) d_L_law_1162 rfl h
theorem d_L_law_1164 : decode code 1164 = .ok (.ifCond .ne 15, 3) := by decide +kernel
theorem s_L_law_1164 {x : Int32} (h1 : ¬ x = 0 → AP M_L_law b 1179 [x0, x1, x2, x3, x4, x5, x6, x7, x8] st hi g Φ) (h2 : x = 0 → AP M_L_law b 1167 [x0, x1, x2, x3, x4, x5, x6, x7, x8] st hi g Φ) : AP M_L_law b 1164 [x0, x1, x2, x3, x4, x5, x6, x7, x8] (.int x :: st) hi g Φ := AP.if_ne d_L_law_1164 (by decide) h1 h2
theorem d_L_law_1167 : decode code 1167 = .ok (.aload_n 3, 1) := by decide +kernel
theorem s_L_law_1167 {n : Nat} (h : AP M_L_law b 1168 [x0, x1, x2, .ref n, x4, x5, x6, x7, x8] (.ref n :: st) hi g Φ) : AP M_L_law b 1167 [x0, x1, x2, .ref n, x4, x5, x6, x7, x8] (st) hi g Φ := AP.aload_n (x := n) (i := 3) d_L_law_1167 rfl rfl h
theorem d_L_law_1168 : decode code 1168 = .ok (.iconst 0, 1) := by decide +kernel
theorem s_L_law_1168 (h : AP M_L_law b 1169 [x0, x1, x2, x3, x4, x5, x6, x7, x8] (.int 0 :: st) hi g Φ) : AP M_L_law b 1168 [x0, x1, x2, x3, x4, x5, x6, x7, x8] (st) hi g Φ := AP.iconst (x := 0) d_L_law_1168 (by decide) h
theorem d_L_law_1169 : decode code 1169 = .ok (.laload, 1) := by decide +kernel
theorem s_L_law_1169 {k n j : Nat} {i : Int32} (hI : am_Inv g) (hs : am_SH k = (4, n)) (hk : k < 134) (hn : n < 2 ^ 31) (hx : i = nI j) (hj : j < n) (h : AP M_L_law b 1170 [x0, x1, x2, x3, x4, x5, x6, x7, x8] (.long (g.2.2 k j) :: st) hi g Φ) : AP M_L_law b 1169 [x0, x1, x2, x3, x4, x5, x6, x7, x8] (.int i :: .ref k :: st) hi g Φ := AP.lald d_L_law_1169 hs (hI.lt hk) hn hx hj h
theorem d_L_law_1170 : decode code 1170 = .ok (.iload 6, 2) := by decide +kernel
theorem s_L_law_1170 {n : Int32} (h : AP M_L_law b 1172 [x0, x1, x2, x3, x4, x5, .int n, x7, x8] (.int n :: st) hi g Φ) : AP M_L_law b 1170 [x0, x1, x2, x3, x4, x5, .int n, x7, x8] (st) hi g Φ := AP.iload (x := n) (i := 6) d_L_law_1170 rfl h
theorem d_L_law_1172 : decode code 1172 = .ok (.i2l, 1) := by decide +kernel
theorem s_L_law_1172 {x : Int32} (h : AP M_L_law b 1173 [x0, x1, x2, x3, x4, x5, x6, x7, x8] (.long x.toInt64 :: st) hi g Φ) : AP M_L_law b 1172 [x0, x1, x2, x3, x4, x5, x6, x7, x8] (.int x :: st) hi g Φ := AP.i2l d_L_law_1172 h
theorem d_L_law_1173 : decode code 1173 = .ok (.lcmp, 1) := by decide +kernel
theorem s_L_law_1173 {x y : Int64} (h : AP M_L_law b 1174 [x0, x1, x2, x3, x4, x5, x6, x7, x8] (.int (lg_cmp x y) :: st) hi g Φ) : AP M_L_law b 1173 [x0, x1, x2, x3, x4, x5, x6, x7, x8] (.long y :: .long x :: st) hi g Φ := AP.lcmp d_L_law_1173 h
theorem d_L_law_1174 : decode code 1174 = .ok (.ifCond .eq 5, 3) := by decide +kernel
theorem s_L_law_1174 {x : Int32} (h1 : x = 0 → AP M_L_law b 1179 [x0, x1, x2, x3, x4, x5, x6, x7, x8] st hi g Φ) (h2 : ¬ x = 0 → AP M_L_law b 1177 [x0, x1, x2, x3, x4, x5, x6, x7, x8] st hi g Φ) : AP M_L_law b 1174 [x0, x1, x2, x3, x4, x5, x6, x7, x8] (.int x :: st) hi g Φ := AP.if_eq d_L_law_1174 (by decide) h1 h2
theorem d_L_law_1177 : decode code 1177 = .ok (.iconst 0, 1) := by decide +kernel
theorem s_L_law_1177 (h : AP M_L_law b 1178 [x0, x1, x2, x3, x4, x5, x6, x7, x8] (.int 0 :: st) hi g Φ) : AP M_L_law b 1177 [x0, x1, x2, x3, x4, x5, x6, x7, x8] (st) hi g Φ := AP.iconst (x := 0) d_L_law_1177 (by decide) h
theorem d_L_law_1178 : decode code 1178 = .ok (.ireturn, 1) := by decide +kernel
theorem s_L_law_1178 {x : Int32} (hx : x = 0 ∨ x = 1) (h : Φ (.ok (some (.int x))) hi g) : AP M_L_law b 1178 [x0, x1, x2, x3, x4, x5, x6, x7, x8] [.int x] hi g Φ := AP.zret d_L_law_1178 rfl hx h
theorem d_L_law_1179 : decode code 1179 = .ok (.goto 1572, 3) := by decide +kernel
theorem s_L_law_1179 (h : AP M_L_law b 2751 [x0, x1, x2, x3, x4, x5, x6, x7, x8] st hi g Φ) : AP M_L_law b 1179 [x0, x1, x2, x3, x4, x5, x6, x7, x8] st hi g Φ := AP.goto d_L_law_1179 (by decide) h
theorem d_L_law_1182 : decode code 1182 = .ok (.aload_n 1, 1) := by decide +kernel
theorem s_L_law_1182 {n : Nat} (h : AP M_L_law b 1183 [x0, .ref n, x2, x3, x4, x5, x6, x7, x8] (.ref n :: st) hi g Φ) : AP M_L_law b 1182 [x0, .ref n, x2, x3, x4, x5, x6, x7, x8] (st) hi g Φ := AP.aload_n (x := n) (i := 1) d_L_law_1182 rfl rfl h
theorem d_L_law_1183 : decode code 1183 = .ok (.aload_n 0, 1) := by decide +kernel
theorem s_L_law_1183 {n : Nat} (h : AP M_L_law b 1184 [.ref n, x1, x2, x3, x4, x5, x6, x7, x8] (.ref n :: st) hi g Φ) : AP M_L_law b 1183 [.ref n, x1, x2, x3, x4, x5, x6, x7, x8] (st) hi g Φ := AP.aload_n (x := n) (i := 0) d_L_law_1183 rfl rfl h
theorem d_L_law_1184 : decode code 1184 = .ok (.iload 4, 2) := by decide +kernel
theorem s_L_law_1184 {n : Int32} (h : AP M_L_law b 1186 [x0, x1, x2, x3, .int n, x5, x6, x7, x8] (.int n :: st) hi g Φ) : AP M_L_law b 1184 [x0, x1, x2, x3, .int n, x5, x6, x7, x8] (st) hi g Φ := AP.iload (x := n) (i := 4) d_L_law_1184 rfl h
theorem d_L_law_1186 : decode code 1186 = .ok (.iconst 1, 1) := by decide +kernel
theorem s_L_law_1186 (h : AP M_L_law b 1187 [x0, x1, x2, x3, x4, x5, x6, x7, x8] (.int 1 :: st) hi g Φ) : AP M_L_law b 1186 [x0, x1, x2, x3, x4, x5, x6, x7, x8] (st) hi g Φ := AP.iconst (x := 1) d_L_law_1186 (by decide) h
theorem d_L_law_1187 : decode code 1187 = .ok (.iadd, 1) := by decide +kernel
theorem s_L_law_1187 {x y : Int32} (h : AP M_L_law b 1188 [x0, x1, x2, x3, x4, x5, x6, x7, x8] (.int (x + y) :: st) hi g Φ) : AP M_L_law b 1187 [x0, x1, x2, x3, x4, x5, x6, x7, x8] (.int y :: .int x :: st) hi g Φ := AP.iadd d_L_law_1187 h
theorem d_L_law_1188 : decode code 1188 = .ok (.iaload, 1) := by decide +kernel
theorem s_L_law_1188 {k n j : Nat} {i : Int32} (hI : am_Inv g) (hs : am_SH k = (1, n)) (hk : k < 134) (hn : n < 2 ^ 31) (hx : i = nI j) (hj : j < n) (h : AP M_L_law b 1189 [x0, x1, x2, x3, x4, x5, x6, x7, x8] (.int (hi k j) :: st) hi g Φ) : AP M_L_law b 1188 [x0, x1, x2, x3, x4, x5, x6, x7, x8] (.int i :: .ref k :: st) hi g Φ := AP.iald d_L_law_1188 hs (hI.lt hk) hn hx hj h
theorem d_L_law_1189 : decode code 1189 = .ok (.aload_n 0, 1) := by decide +kernel
theorem s_L_law_1189 {n : Nat} (h : AP M_L_law b 1190 [.ref n, x1, x2, x3, x4, x5, x6, x7, x8] (.ref n :: st) hi g Φ) : AP M_L_law b 1189 [.ref n, x1, x2, x3, x4, x5, x6, x7, x8] (st) hi g Φ := AP.aload_n (x := n) (i := 0) d_L_law_1189 rfl rfl h
theorem d_L_law_1190 : decode code 1190 = .ok (.iload 4, 2) := by decide +kernel
theorem s_L_law_1190 {n : Int32} (h : AP M_L_law b 1192 [x0, x1, x2, x3, .int n, x5, x6, x7, x8] (.int n :: st) hi g Φ) : AP M_L_law b 1190 [x0, x1, x2, x3, .int n, x5, x6, x7, x8] (st) hi g Φ := AP.iload (x := n) (i := 4) d_L_law_1190 rfl h
theorem d_L_law_1192 : decode code 1192 = .ok (.iconst 2, 1) := by decide +kernel
theorem s_L_law_1192 (h : AP M_L_law b 1193 [x0, x1, x2, x3, x4, x5, x6, x7, x8] (.int 2 :: st) hi g Φ) : AP M_L_law b 1192 [x0, x1, x2, x3, x4, x5, x6, x7, x8] (st) hi g Φ := AP.iconst (x := 2) d_L_law_1192 (by decide) h
theorem d_L_law_1193 : decode code 1193 = .ok (.iadd, 1) := by decide +kernel
theorem s_L_law_1193 {x y : Int32} (h : AP M_L_law b 1194 [x0, x1, x2, x3, x4, x5, x6, x7, x8] (.int (x + y) :: st) hi g Φ) : AP M_L_law b 1193 [x0, x1, x2, x3, x4, x5, x6, x7, x8] (.int y :: .int x :: st) hi g Φ := AP.iadd d_L_law_1193 h
theorem d_L_law_1194 : decode code 1194 = .ok (.iaload, 1) := by decide +kernel
theorem s_L_law_1194 {k n j : Nat} {i : Int32} (hI : am_Inv g) (hs : am_SH k = (1, n)) (hk : k < 134) (hn : n < 2 ^ 31) (hx : i = nI j) (hj : j < n) (h : AP M_L_law b 1195 [x0, x1, x2, x3, x4, x5, x6, x7, x8] (.int (hi k j) :: st) hi g Φ) : AP M_L_law b 1194 [x0, x1, x2, x3, x4, x5, x6, x7, x8] (.int i :: .ref k :: st) hi g Φ := AP.iald d_L_law_1194 hs (hI.lt hk) hn hx hj h
theorem d_L_law_1195 : decode code 1195 = .ok (.aload_n 3, 1) := by decide +kernel
theorem s_L_law_1195 {n : Nat} (h : AP M_L_law b 1196 [x0, x1, x2, .ref n, x4, x5, x6, x7, x8] (.ref n :: st) hi g Φ) : AP M_L_law b 1195 [x0, x1, x2, .ref n, x4, x5, x6, x7, x8] (st) hi g Φ := AP.aload_n (x := n) (i := 3) d_L_law_1195 rfl rfl h
theorem d_L_law_1196 : decode code 1196 = .ok (.invokestatic 212, 3) := by decide +kernel
-- s_L_law_1196: a call apart
theorem d_L_law_1199 : decode code 1199 = .ok (.istore 5, 2) := by decide +kernel
theorem s_L_law_1199 {n : Int32} (hc : x4.category = 1) (h : AP M_L_law b 1201 [x0, x1, x2, x3, x4, .int n, x6, x7, x8] (st) hi g Φ) : AP M_L_law b 1199 [x0, x1, x2, x3, x4, x5, x6, x7, x8] (.int n :: st) hi g Φ := AP.istore (x := n) (i := 5) d_L_law_1199 (by decide) (by simp [am_st, am_ci, am_cr, am_cl, am_cd, hc]) h
theorem d_L_law_1201 : decode code 1201 = .ok (.aload_n 2, 1) := by decide +kernel
theorem s_L_law_1201 {n : Nat} (h : AP M_L_law b 1202 [x0, x1, .ref n, x3, x4, x5, x6, x7, x8] (.ref n :: st) hi g Φ) : AP M_L_law b 1201 [x0, x1, .ref n, x3, x4, x5, x6, x7, x8] (st) hi g Φ := AP.aload_n (x := n) (i := 2) d_L_law_1201 rfl rfl h
theorem d_L_law_1202 : decode code 1202 = .ok (.aload_n 0, 1) := by decide +kernel
theorem s_L_law_1202 {n : Nat} (h : AP M_L_law b 1203 [.ref n, x1, x2, x3, x4, x5, x6, x7, x8] (.ref n :: st) hi g Φ) : AP M_L_law b 1202 [.ref n, x1, x2, x3, x4, x5, x6, x7, x8] (st) hi g Φ := AP.aload_n (x := n) (i := 0) d_L_law_1202 rfl rfl h
theorem d_L_law_1203 : decode code 1203 = .ok (.iload 4, 2) := by decide +kernel
theorem s_L_law_1203 {n : Int32} (h : AP M_L_law b 1205 [x0, x1, x2, x3, .int n, x5, x6, x7, x8] (.int n :: st) hi g Φ) : AP M_L_law b 1203 [x0, x1, x2, x3, .int n, x5, x6, x7, x8] (st) hi g Φ := AP.iload (x := n) (i := 4) d_L_law_1203 rfl h
theorem d_L_law_1205 : decode code 1205 = .ok (.iconst 1, 1) := by decide +kernel
theorem s_L_law_1205 (h : AP M_L_law b 1206 [x0, x1, x2, x3, x4, x5, x6, x7, x8] (.int 1 :: st) hi g Φ) : AP M_L_law b 1205 [x0, x1, x2, x3, x4, x5, x6, x7, x8] (st) hi g Φ := AP.iconst (x := 1) d_L_law_1205 (by decide) h
theorem d_L_law_1206 : decode code 1206 = .ok (.iadd, 1) := by decide +kernel
theorem s_L_law_1206 {x y : Int32} (h : AP M_L_law b 1207 [x0, x1, x2, x3, x4, x5, x6, x7, x8] (.int (x + y) :: st) hi g Φ) : AP M_L_law b 1206 [x0, x1, x2, x3, x4, x5, x6, x7, x8] (.int y :: .int x :: st) hi g Φ := AP.iadd d_L_law_1206 h
theorem d_L_law_1207 : decode code 1207 = .ok (.iaload, 1) := by decide +kernel
theorem s_L_law_1207 {k n j : Nat} {i : Int32} (hI : am_Inv g) (hs : am_SH k = (1, n)) (hk : k < 134) (hn : n < 2 ^ 31) (hx : i = nI j) (hj : j < n) (h : AP M_L_law b 1208 [x0, x1, x2, x3, x4, x5, x6, x7, x8] (.int (hi k j) :: st) hi g Φ) : AP M_L_law b 1207 [x0, x1, x2, x3, x4, x5, x6, x7, x8] (.int i :: .ref k :: st) hi g Φ := AP.iald d_L_law_1207 hs (hI.lt hk) hn hx hj h
theorem d_L_law_1208 : decode code 1208 = .ok (.aload_n 0, 1) := by decide +kernel
theorem s_L_law_1208 {n : Nat} (h : AP M_L_law b 1209 [.ref n, x1, x2, x3, x4, x5, x6, x7, x8] (.ref n :: st) hi g Φ) : AP M_L_law b 1208 [.ref n, x1, x2, x3, x4, x5, x6, x7, x8] (st) hi g Φ := AP.aload_n (x := n) (i := 0) d_L_law_1208 rfl rfl h
theorem d_L_law_1209 : decode code 1209 = .ok (.iload 4, 2) := by decide +kernel
theorem s_L_law_1209 {n : Int32} (h : AP M_L_law b 1211 [x0, x1, x2, x3, .int n, x5, x6, x7, x8] (.int n :: st) hi g Φ) : AP M_L_law b 1209 [x0, x1, x2, x3, .int n, x5, x6, x7, x8] (st) hi g Φ := AP.iload (x := n) (i := 4) d_L_law_1209 rfl h
theorem d_L_law_1211 : decode code 1211 = .ok (.iconst 2, 1) := by decide +kernel
theorem s_L_law_1211 (h : AP M_L_law b 1212 [x0, x1, x2, x3, x4, x5, x6, x7, x8] (.int 2 :: st) hi g Φ) : AP M_L_law b 1211 [x0, x1, x2, x3, x4, x5, x6, x7, x8] (st) hi g Φ := AP.iconst (x := 2) d_L_law_1211 (by decide) h
theorem d_L_law_1212 : decode code 1212 = .ok (.iadd, 1) := by decide +kernel
theorem s_L_law_1212 {x y : Int32} (h : AP M_L_law b 1213 [x0, x1, x2, x3, x4, x5, x6, x7, x8] (.int (x + y) :: st) hi g Φ) : AP M_L_law b 1212 [x0, x1, x2, x3, x4, x5, x6, x7, x8] (.int y :: .int x :: st) hi g Φ := AP.iadd d_L_law_1212 h
theorem d_L_law_1213 : decode code 1213 = .ok (.iaload, 1) := by decide +kernel
theorem s_L_law_1213 {k n j : Nat} {i : Int32} (hI : am_Inv g) (hs : am_SH k = (1, n)) (hk : k < 134) (hn : n < 2 ^ 31) (hx : i = nI j) (hj : j < n) (h : AP M_L_law b 1214 [x0, x1, x2, x3, x4, x5, x6, x7, x8] (.int (hi k j) :: st) hi g Φ) : AP M_L_law b 1213 [x0, x1, x2, x3, x4, x5, x6, x7, x8] (.int i :: .ref k :: st) hi g Φ := AP.iald d_L_law_1213 hs (hI.lt hk) hn hx hj h
theorem d_L_law_1214 : decode code 1214 = .ok (.invokevirtual 214, 3) := by decide +kernel
theorem s_L_law_1214 {a0 : Int32} {a1 : Int32} {k : Nat} {r0 : Int32} {P : am_HI → Prop} (hI : am_Inv g) (hs : am_SH k = (0, 10)) (hk : k < 134) (hst : (st.map Value.category).sum ≤ 8) (hc : am_Cr M_X10_weightByCounting [.ref k, .int a0, .int a1] hi g (some (.int r0)) P) (h : ∀ hi' : am_HI, P hi' → AP M_L_law b 1217 [x0, x1, x2, x3, x4, x5, x6, x7, x8] (.int r0 :: st) hi' g Φ) : AP M_L_law b 1214 [x0, x1, x2, x3, x4, x5, x6, x7, x8] (.int a1 :: .int a0 :: .ref k :: st) hi g Φ := AP.callVr (As := [.int a0, .int a1]) (q := (RX10, TX10, 15)) hI hc k_L_law_214 d_L_law_1214 rfl hs hk rfl rfl hst h
theorem d_L_law_1217 : decode code 1217 = .ok (.istore 6, 2) := by decide +kernel
theorem s_L_law_1217 {n : Int32} (hc : x5.category = 1) (h : AP M_L_law b 1219 [x0, x1, x2, x3, x4, x5, .int n, x7, x8] (st) hi g Φ) : AP M_L_law b 1217 [x0, x1, x2, x3, x4, x5, x6, x7, x8] (.int n :: st) hi g Φ := AP.istore (x := n) (i := 6) d_L_law_1217 (by decide) (by simp [am_st, am_ci, am_cr, am_cl, am_cd, hc]) h
theorem d_L_law_1219 : decode code 1219 = .ok (.aload_n 2, 1) := by decide +kernel
theorem s_L_law_1219 {n : Nat} (h : AP M_L_law b 1220 [x0, x1, .ref n, x3, x4, x5, x6, x7, x8] (.ref n :: st) hi g Φ) : AP M_L_law b 1219 [x0, x1, .ref n, x3, x4, x5, x6, x7, x8] (st) hi g Φ := AP.aload_n (x := n) (i := 2) d_L_law_1219 rfl rfl h
theorem d_L_law_1220 : decode code 1220 = .ok (.invokevirtual 141, 3) := by decide +kernel
theorem s_L_law_1220  {k : Nat} {r0 : Int32} {P : am_HI → Prop} (hI : am_Inv g) (hs : am_SH k = (0, 10)) (hk : k < 134) (hst : (st.map Value.category).sum ≤ 8) (hc : am_Cr M_X10_thrown [.ref k] hi g (some (.int r0)) P) (h : ∀ hi' : am_HI, P hi' → AP M_L_law b 1223 [x0, x1, x2, x3, x4, x5, x6, x7, x8] (.int r0 :: st) hi' g Φ) : AP M_L_law b 1220 [x0, x1, x2, x3, x4, x5, x6, x7, x8] (.ref k :: st) hi g Φ := AP.callVr (As := []) (q := (RX10, TX10, 15)) hI hc k_L_law_141 d_L_law_1220 rfl hs hk rfl rfl hst h
theorem d_L_law_1223 : decode code 1223 = .ok (.iload 5, 2) := by decide +kernel
theorem s_L_law_1223 {n : Int32} (h : AP M_L_law b 1225 [x0, x1, x2, x3, x4, .int n, x6, x7, x8] (.int n :: st) hi g Φ) : AP M_L_law b 1223 [x0, x1, x2, x3, x4, .int n, x6, x7, x8] (st) hi g Φ := AP.iload (x := n) (i := 5) d_L_law_1223 rfl h
theorem d_L_law_1225 : decode code 1225 = .ok (.if_icmp .eq 5, 3) := by decide +kernel
theorem s_L_law_1225 {x y : Int32} (h1 : x = y → AP M_L_law b 1230 [x0, x1, x2, x3, x4, x5, x6, x7, x8] st hi g Φ) (h2 : ¬ x = y → AP M_L_law b 1228 [x0, x1, x2, x3, x4, x5, x6, x7, x8] st hi g Φ) : AP M_L_law b 1225 [x0, x1, x2, x3, x4, x5, x6, x7, x8] (.int y :: .int x :: st) hi g Φ := AP.icmp_eq d_L_law_1225 (by decide) h1 h2
theorem d_L_law_1228 : decode code 1228 = .ok (.iconst 0, 1) := by decide +kernel
theorem s_L_law_1228 (h : AP M_L_law b 1229 [x0, x1, x2, x3, x4, x5, x6, x7, x8] (.int 0 :: st) hi g Φ) : AP M_L_law b 1228 [x0, x1, x2, x3, x4, x5, x6, x7, x8] (st) hi g Φ := AP.iconst (x := 0) d_L_law_1228 (by decide) h
theorem d_L_law_1229 : decode code 1229 = .ok (.ireturn, 1) := by decide +kernel
theorem s_L_law_1229 {x : Int32} (hx : x = 0 ∨ x = 1) (h : Φ (.ok (some (.int x))) hi g) : AP M_L_law b 1229 [x0, x1, x2, x3, x4, x5, x6, x7, x8] [.int x] hi g Φ := AP.zret d_L_law_1229 rfl hx h
theorem d_L_law_1230 : decode code 1230 = .ok (.iload 5, 2) := by decide +kernel
theorem s_L_law_1230 {n : Int32} (h : AP M_L_law b 1232 [x0, x1, x2, x3, x4, .int n, x6, x7, x8] (.int n :: st) hi g Φ) : AP M_L_law b 1230 [x0, x1, x2, x3, x4, .int n, x6, x7, x8] (st) hi g Φ := AP.iload (x := n) (i := 5) d_L_law_1230 rfl h
theorem d_L_law_1232 : decode code 1232 = .ok (.ifCond .ne 15, 3) := by decide +kernel
theorem s_L_law_1232 {x : Int32} (h1 : ¬ x = 0 → AP M_L_law b 1247 [x0, x1, x2, x3, x4, x5, x6, x7, x8] st hi g Φ) (h2 : x = 0 → AP M_L_law b 1235 [x0, x1, x2, x3, x4, x5, x6, x7, x8] st hi g Φ) : AP M_L_law b 1232 [x0, x1, x2, x3, x4, x5, x6, x7, x8] (.int x :: st) hi g Φ := AP.if_ne d_L_law_1232 (by decide) h1 h2
theorem d_L_law_1235 : decode code 1235 = .ok (.aload_n 3, 1) := by decide +kernel
theorem s_L_law_1235 {n : Nat} (h : AP M_L_law b 1236 [x0, x1, x2, .ref n, x4, x5, x6, x7, x8] (.ref n :: st) hi g Φ) : AP M_L_law b 1235 [x0, x1, x2, .ref n, x4, x5, x6, x7, x8] (st) hi g Φ := AP.aload_n (x := n) (i := 3) d_L_law_1235 rfl rfl h
theorem d_L_law_1236 : decode code 1236 = .ok (.iconst 0, 1) := by decide +kernel
theorem s_L_law_1236 (h : AP M_L_law b 1237 [x0, x1, x2, x3, x4, x5, x6, x7, x8] (.int 0 :: st) hi g Φ) : AP M_L_law b 1236 [x0, x1, x2, x3, x4, x5, x6, x7, x8] (st) hi g Φ := AP.iconst (x := 0) d_L_law_1236 (by decide) h
theorem d_L_law_1237 : decode code 1237 = .ok (.laload, 1) := by decide +kernel
theorem s_L_law_1237 {k n j : Nat} {i : Int32} (hI : am_Inv g) (hs : am_SH k = (4, n)) (hk : k < 134) (hn : n < 2 ^ 31) (hx : i = nI j) (hj : j < n) (h : AP M_L_law b 1238 [x0, x1, x2, x3, x4, x5, x6, x7, x8] (.long (g.2.2 k j) :: st) hi g Φ) : AP M_L_law b 1237 [x0, x1, x2, x3, x4, x5, x6, x7, x8] (.int i :: .ref k :: st) hi g Φ := AP.lald d_L_law_1237 hs (hI.lt hk) hn hx hj h
theorem d_L_law_1238 : decode code 1238 = .ok (.iload 6, 2) := by decide +kernel
theorem s_L_law_1238 {n : Int32} (h : AP M_L_law b 1240 [x0, x1, x2, x3, x4, x5, .int n, x7, x8] (.int n :: st) hi g Φ) : AP M_L_law b 1238 [x0, x1, x2, x3, x4, x5, .int n, x7, x8] (st) hi g Φ := AP.iload (x := n) (i := 6) d_L_law_1238 rfl h
theorem d_L_law_1240 : decode code 1240 = .ok (.i2l, 1) := by decide +kernel
theorem s_L_law_1240 {x : Int32} (h : AP M_L_law b 1241 [x0, x1, x2, x3, x4, x5, x6, x7, x8] (.long x.toInt64 :: st) hi g Φ) : AP M_L_law b 1240 [x0, x1, x2, x3, x4, x5, x6, x7, x8] (.int x :: st) hi g Φ := AP.i2l d_L_law_1240 h
theorem d_L_law_1241 : decode code 1241 = .ok (.lcmp, 1) := by decide +kernel
theorem s_L_law_1241 {x y : Int64} (h : AP M_L_law b 1242 [x0, x1, x2, x3, x4, x5, x6, x7, x8] (.int (lg_cmp x y) :: st) hi g Φ) : AP M_L_law b 1241 [x0, x1, x2, x3, x4, x5, x6, x7, x8] (.long y :: .long x :: st) hi g Φ := AP.lcmp d_L_law_1241 h
theorem d_L_law_1242 : decode code 1242 = .ok (.ifCond .eq 5, 3) := by decide +kernel
theorem s_L_law_1242 {x : Int32} (h1 : x = 0 → AP M_L_law b 1247 [x0, x1, x2, x3, x4, x5, x6, x7, x8] st hi g Φ) (h2 : ¬ x = 0 → AP M_L_law b 1245 [x0, x1, x2, x3, x4, x5, x6, x7, x8] st hi g Φ) : AP M_L_law b 1242 [x0, x1, x2, x3, x4, x5, x6, x7, x8] (.int x :: st) hi g Φ := AP.if_eq d_L_law_1242 (by decide) h1 h2
theorem d_L_law_1245 : decode code 1245 = .ok (.iconst 0, 1) := by decide +kernel
theorem s_L_law_1245 (h : AP M_L_law b 1246 [x0, x1, x2, x3, x4, x5, x6, x7, x8] (.int 0 :: st) hi g Φ) : AP M_L_law b 1245 [x0, x1, x2, x3, x4, x5, x6, x7, x8] (st) hi g Φ := AP.iconst (x := 0) d_L_law_1245 (by decide) h
theorem d_L_law_1246 : decode code 1246 = .ok (.ireturn, 1) := by decide +kernel
theorem s_L_law_1246 {x : Int32} (hx : x = 0 ∨ x = 1) (h : Φ (.ok (some (.int x))) hi g) : AP M_L_law b 1246 [x0, x1, x2, x3, x4, x5, x6, x7, x8] [.int x] hi g Φ := AP.zret d_L_law_1246 rfl hx h
theorem d_L_law_1247 : decode code 1247 = .ok (.goto 1504, 3) := by decide +kernel
theorem s_L_law_1247 (h : AP M_L_law b 2751 [x0, x1, x2, x3, x4, x5, x6, x7, x8] st hi g Φ) : AP M_L_law b 1247 [x0, x1, x2, x3, x4, x5, x6, x7, x8] st hi g Φ := AP.goto d_L_law_1247 (by decide) h
theorem d_L_law_1250 : decode code 1250 = .ok (.aload_n 1, 1) := by decide +kernel
theorem s_L_law_1250 {n : Nat} (h : AP M_L_law b 1251 [x0, .ref n, x2, x3, x4, x5, x6, x7, x8] (.ref n :: st) hi g Φ) : AP M_L_law b 1250 [x0, .ref n, x2, x3, x4, x5, x6, x7, x8] (st) hi g Φ := AP.aload_n (x := n) (i := 1) d_L_law_1250 rfl rfl h
theorem d_L_law_1251 : decode code 1251 = .ok (.aload_n 0, 1) := by decide +kernel
theorem s_L_law_1251 {n : Nat} (h : AP M_L_law b 1252 [.ref n, x1, x2, x3, x4, x5, x6, x7, x8] (.ref n :: st) hi g Φ) : AP M_L_law b 1251 [.ref n, x1, x2, x3, x4, x5, x6, x7, x8] (st) hi g Φ := AP.aload_n (x := n) (i := 0) d_L_law_1251 rfl rfl h
theorem d_L_law_1252 : decode code 1252 = .ok (.iload 4, 2) := by decide +kernel
theorem s_L_law_1252 {n : Int32} (h : AP M_L_law b 1254 [x0, x1, x2, x3, .int n, x5, x6, x7, x8] (.int n :: st) hi g Φ) : AP M_L_law b 1252 [x0, x1, x2, x3, .int n, x5, x6, x7, x8] (st) hi g Φ := AP.iload (x := n) (i := 4) d_L_law_1252 rfl h
theorem d_L_law_1254 : decode code 1254 = .ok (.iconst 1, 1) := by decide +kernel
theorem s_L_law_1254 (h : AP M_L_law b 1255 [x0, x1, x2, x3, x4, x5, x6, x7, x8] (.int 1 :: st) hi g Φ) : AP M_L_law b 1254 [x0, x1, x2, x3, x4, x5, x6, x7, x8] (st) hi g Φ := AP.iconst (x := 1) d_L_law_1254 (by decide) h
theorem d_L_law_1255 : decode code 1255 = .ok (.iadd, 1) := by decide +kernel
theorem s_L_law_1255 {x y : Int32} (h : AP M_L_law b 1256 [x0, x1, x2, x3, x4, x5, x6, x7, x8] (.int (x + y) :: st) hi g Φ) : AP M_L_law b 1255 [x0, x1, x2, x3, x4, x5, x6, x7, x8] (.int y :: .int x :: st) hi g Φ := AP.iadd d_L_law_1255 h
theorem d_L_law_1256 : decode code 1256 = .ok (.iaload, 1) := by decide +kernel
theorem s_L_law_1256 {k n j : Nat} {i : Int32} (hI : am_Inv g) (hs : am_SH k = (1, n)) (hk : k < 134) (hn : n < 2 ^ 31) (hx : i = nI j) (hj : j < n) (h : AP M_L_law b 1257 [x0, x1, x2, x3, x4, x5, x6, x7, x8] (.int (hi k j) :: st) hi g Φ) : AP M_L_law b 1256 [x0, x1, x2, x3, x4, x5, x6, x7, x8] (.int i :: .ref k :: st) hi g Φ := AP.iald d_L_law_1256 hs (hI.lt hk) hn hx hj h
theorem d_L_law_1257 : decode code 1257 = .ok (.aload_n 0, 1) := by decide +kernel
theorem s_L_law_1257 {n : Nat} (h : AP M_L_law b 1258 [.ref n, x1, x2, x3, x4, x5, x6, x7, x8] (.ref n :: st) hi g Φ) : AP M_L_law b 1257 [.ref n, x1, x2, x3, x4, x5, x6, x7, x8] (st) hi g Φ := AP.aload_n (x := n) (i := 0) d_L_law_1257 rfl rfl h
theorem d_L_law_1258 : decode code 1258 = .ok (.iload 4, 2) := by decide +kernel
theorem s_L_law_1258 {n : Int32} (h : AP M_L_law b 1260 [x0, x1, x2, x3, .int n, x5, x6, x7, x8] (.int n :: st) hi g Φ) : AP M_L_law b 1258 [x0, x1, x2, x3, .int n, x5, x6, x7, x8] (st) hi g Φ := AP.iload (x := n) (i := 4) d_L_law_1258 rfl h
theorem d_L_law_1260 : decode code 1260 = .ok (.iconst 2, 1) := by decide +kernel
theorem s_L_law_1260 (h : AP M_L_law b 1261 [x0, x1, x2, x3, x4, x5, x6, x7, x8] (.int 2 :: st) hi g Φ) : AP M_L_law b 1260 [x0, x1, x2, x3, x4, x5, x6, x7, x8] (st) hi g Φ := AP.iconst (x := 2) d_L_law_1260 (by decide) h
theorem d_L_law_1261 : decode code 1261 = .ok (.iadd, 1) := by decide +kernel
theorem s_L_law_1261 {x y : Int32} (h : AP M_L_law b 1262 [x0, x1, x2, x3, x4, x5, x6, x7, x8] (.int (x + y) :: st) hi g Φ) : AP M_L_law b 1261 [x0, x1, x2, x3, x4, x5, x6, x7, x8] (.int y :: .int x :: st) hi g Φ := AP.iadd d_L_law_1261 h
theorem d_L_law_1262 : decode code 1262 = .ok (.iaload, 1) := by decide +kernel
theorem s_L_law_1262 {k n j : Nat} {i : Int32} (hI : am_Inv g) (hs : am_SH k = (1, n)) (hk : k < 134) (hn : n < 2 ^ 31) (hx : i = nI j) (hj : j < n) (h : AP M_L_law b 1263 [x0, x1, x2, x3, x4, x5, x6, x7, x8] (.int (hi k j) :: st) hi g Φ) : AP M_L_law b 1262 [x0, x1, x2, x3, x4, x5, x6, x7, x8] (.int i :: .ref k :: st) hi g Φ := AP.iald d_L_law_1262 hs (hI.lt hk) hn hx hj h
theorem d_L_law_1263 : decode code 1263 = .ok (.aload_n 3, 1) := by decide +kernel
theorem s_L_law_1263 {n : Nat} (h : AP M_L_law b 1264 [x0, x1, x2, .ref n, x4, x5, x6, x7, x8] (.ref n :: st) hi g Φ) : AP M_L_law b 1263 [x0, x1, x2, .ref n, x4, x5, x6, x7, x8] (st) hi g Φ := AP.aload_n (x := n) (i := 3) d_L_law_1263 rfl rfl h
theorem d_L_law_1264 : decode code 1264 = .ok (.invokestatic 215, 3) := by decide +kernel
-- s_L_law_1264: a call apart
theorem d_L_law_1267 : decode code 1267 = .ok (.istore 5, 2) := by decide +kernel
theorem s_L_law_1267 {n : Int32} (hc : x4.category = 1) (h : AP M_L_law b 1269 [x0, x1, x2, x3, x4, .int n, x6, x7, x8] (st) hi g Φ) : AP M_L_law b 1267 [x0, x1, x2, x3, x4, x5, x6, x7, x8] (.int n :: st) hi g Φ := AP.istore (x := n) (i := 5) d_L_law_1267 (by decide) (by simp [am_st, am_ci, am_cr, am_cl, am_cd, hc]) h
theorem d_L_law_1269 : decode code 1269 = .ok (.aload_n 2, 1) := by decide +kernel
theorem s_L_law_1269 {n : Nat} (h : AP M_L_law b 1270 [x0, x1, .ref n, x3, x4, x5, x6, x7, x8] (.ref n :: st) hi g Φ) : AP M_L_law b 1269 [x0, x1, .ref n, x3, x4, x5, x6, x7, x8] (st) hi g Φ := AP.aload_n (x := n) (i := 2) d_L_law_1269 rfl rfl h
theorem d_L_law_1270 : decode code 1270 = .ok (.aload_n 0, 1) := by decide +kernel
theorem s_L_law_1270 {n : Nat} (h : AP M_L_law b 1271 [.ref n, x1, x2, x3, x4, x5, x6, x7, x8] (.ref n :: st) hi g Φ) : AP M_L_law b 1270 [.ref n, x1, x2, x3, x4, x5, x6, x7, x8] (st) hi g Φ := AP.aload_n (x := n) (i := 0) d_L_law_1270 rfl rfl h
theorem d_L_law_1271 : decode code 1271 = .ok (.iload 4, 2) := by decide +kernel
theorem s_L_law_1271 {n : Int32} (h : AP M_L_law b 1273 [x0, x1, x2, x3, .int n, x5, x6, x7, x8] (.int n :: st) hi g Φ) : AP M_L_law b 1271 [x0, x1, x2, x3, .int n, x5, x6, x7, x8] (st) hi g Φ := AP.iload (x := n) (i := 4) d_L_law_1271 rfl h
theorem d_L_law_1273 : decode code 1273 = .ok (.iconst 1, 1) := by decide +kernel
theorem s_L_law_1273 (h : AP M_L_law b 1274 [x0, x1, x2, x3, x4, x5, x6, x7, x8] (.int 1 :: st) hi g Φ) : AP M_L_law b 1273 [x0, x1, x2, x3, x4, x5, x6, x7, x8] (st) hi g Φ := AP.iconst (x := 1) d_L_law_1273 (by decide) h
theorem d_L_law_1274 : decode code 1274 = .ok (.iadd, 1) := by decide +kernel
theorem s_L_law_1274 {x y : Int32} (h : AP M_L_law b 1275 [x0, x1, x2, x3, x4, x5, x6, x7, x8] (.int (x + y) :: st) hi g Φ) : AP M_L_law b 1274 [x0, x1, x2, x3, x4, x5, x6, x7, x8] (.int y :: .int x :: st) hi g Φ := AP.iadd d_L_law_1274 h
theorem d_L_law_1275 : decode code 1275 = .ok (.iaload, 1) := by decide +kernel
theorem s_L_law_1275 {k n j : Nat} {i : Int32} (hI : am_Inv g) (hs : am_SH k = (1, n)) (hk : k < 134) (hn : n < 2 ^ 31) (hx : i = nI j) (hj : j < n) (h : AP M_L_law b 1276 [x0, x1, x2, x3, x4, x5, x6, x7, x8] (.int (hi k j) :: st) hi g Φ) : AP M_L_law b 1275 [x0, x1, x2, x3, x4, x5, x6, x7, x8] (.int i :: .ref k :: st) hi g Φ := AP.iald d_L_law_1275 hs (hI.lt hk) hn hx hj h
theorem d_L_law_1276 : decode code 1276 = .ok (.aload_n 0, 1) := by decide +kernel
theorem s_L_law_1276 {n : Nat} (h : AP M_L_law b 1277 [.ref n, x1, x2, x3, x4, x5, x6, x7, x8] (.ref n :: st) hi g Φ) : AP M_L_law b 1276 [.ref n, x1, x2, x3, x4, x5, x6, x7, x8] (st) hi g Φ := AP.aload_n (x := n) (i := 0) d_L_law_1276 rfl rfl h
theorem d_L_law_1277 : decode code 1277 = .ok (.iload 4, 2) := by decide +kernel
theorem s_L_law_1277 {n : Int32} (h : AP M_L_law b 1279 [x0, x1, x2, x3, .int n, x5, x6, x7, x8] (.int n :: st) hi g Φ) : AP M_L_law b 1277 [x0, x1, x2, x3, .int n, x5, x6, x7, x8] (st) hi g Φ := AP.iload (x := n) (i := 4) d_L_law_1277 rfl h
theorem d_L_law_1279 : decode code 1279 = .ok (.iconst 2, 1) := by decide +kernel
theorem s_L_law_1279 (h : AP M_L_law b 1280 [x0, x1, x2, x3, x4, x5, x6, x7, x8] (.int 2 :: st) hi g Φ) : AP M_L_law b 1279 [x0, x1, x2, x3, x4, x5, x6, x7, x8] (st) hi g Φ := AP.iconst (x := 2) d_L_law_1279 (by decide) h
theorem d_L_law_1280 : decode code 1280 = .ok (.iadd, 1) := by decide +kernel
theorem s_L_law_1280 {x y : Int32} (h : AP M_L_law b 1281 [x0, x1, x2, x3, x4, x5, x6, x7, x8] (.int (x + y) :: st) hi g Φ) : AP M_L_law b 1280 [x0, x1, x2, x3, x4, x5, x6, x7, x8] (.int y :: .int x :: st) hi g Φ := AP.iadd d_L_law_1280 h
theorem d_L_law_1281 : decode code 1281 = .ok (.iaload, 1) := by decide +kernel
theorem s_L_law_1281 {k n j : Nat} {i : Int32} (hI : am_Inv g) (hs : am_SH k = (1, n)) (hk : k < 134) (hn : n < 2 ^ 31) (hx : i = nI j) (hj : j < n) (h : AP M_L_law b 1282 [x0, x1, x2, x3, x4, x5, x6, x7, x8] (.int (hi k j) :: st) hi g Φ) : AP M_L_law b 1281 [x0, x1, x2, x3, x4, x5, x6, x7, x8] (.int i :: .ref k :: st) hi g Φ := AP.iald d_L_law_1281 hs (hI.lt hk) hn hx hj h
theorem d_L_law_1282 : decode code 1282 = .ok (.invokevirtual 217, 3) := by decide +kernel
theorem s_L_law_1282 {a0 : Int32} {a1 : Int32} {k : Nat} {r0 : Int32} {P : am_HI → Prop} (hI : am_Inv g) (hs : am_SH k = (0, 10)) (hk : k < 134) (hst : (st.map Value.category).sum ≤ 8) (hc : am_Cr M_X10_foretold [.ref k, .int a0, .int a1] hi g (some (.int r0)) P) (h : ∀ hi' : am_HI, P hi' → AP M_L_law b 1285 [x0, x1, x2, x3, x4, x5, x6, x7, x8] (.int r0 :: st) hi' g Φ) : AP M_L_law b 1282 [x0, x1, x2, x3, x4, x5, x6, x7, x8] (.int a1 :: .int a0 :: .ref k :: st) hi g Φ := AP.callVr (As := [.int a0, .int a1]) (q := (RX10, TX10, 15)) hI hc k_L_law_217 d_L_law_1282 rfl hs hk rfl rfl hst h
theorem d_L_law_1285 : decode code 1285 = .ok (.istore 6, 2) := by decide +kernel
theorem s_L_law_1285 {n : Int32} (hc : x5.category = 1) (h : AP M_L_law b 1287 [x0, x1, x2, x3, x4, x5, .int n, x7, x8] (st) hi g Φ) : AP M_L_law b 1285 [x0, x1, x2, x3, x4, x5, x6, x7, x8] (.int n :: st) hi g Φ := AP.istore (x := n) (i := 6) d_L_law_1285 (by decide) (by simp [am_st, am_ci, am_cr, am_cl, am_cd, hc]) h
theorem d_L_law_1287 : decode code 1287 = .ok (.aload_n 2, 1) := by decide +kernel
theorem s_L_law_1287 {n : Nat} (h : AP M_L_law b 1288 [x0, x1, .ref n, x3, x4, x5, x6, x7, x8] (.ref n :: st) hi g Φ) : AP M_L_law b 1287 [x0, x1, .ref n, x3, x4, x5, x6, x7, x8] (st) hi g Φ := AP.aload_n (x := n) (i := 2) d_L_law_1287 rfl rfl h
theorem d_L_law_1288 : decode code 1288 = .ok (.invokevirtual 141, 3) := by decide +kernel
theorem s_L_law_1288  {k : Nat} {r0 : Int32} {P : am_HI → Prop} (hI : am_Inv g) (hs : am_SH k = (0, 10)) (hk : k < 134) (hst : (st.map Value.category).sum ≤ 8) (hc : am_Cr M_X10_thrown [.ref k] hi g (some (.int r0)) P) (h : ∀ hi' : am_HI, P hi' → AP M_L_law b 1291 [x0, x1, x2, x3, x4, x5, x6, x7, x8] (.int r0 :: st) hi' g Φ) : AP M_L_law b 1288 [x0, x1, x2, x3, x4, x5, x6, x7, x8] (.ref k :: st) hi g Φ := AP.callVr (As := []) (q := (RX10, TX10, 15)) hI hc k_L_law_141 d_L_law_1288 rfl hs hk rfl rfl hst h
theorem d_L_law_1291 : decode code 1291 = .ok (.iload 5, 2) := by decide +kernel
theorem s_L_law_1291 {n : Int32} (h : AP M_L_law b 1293 [x0, x1, x2, x3, x4, .int n, x6, x7, x8] (.int n :: st) hi g Φ) : AP M_L_law b 1291 [x0, x1, x2, x3, x4, .int n, x6, x7, x8] (st) hi g Φ := AP.iload (x := n) (i := 5) d_L_law_1291 rfl h
theorem d_L_law_1293 : decode code 1293 = .ok (.if_icmp .eq 5, 3) := by decide +kernel
theorem s_L_law_1293 {x y : Int32} (h1 : x = y → AP M_L_law b 1298 [x0, x1, x2, x3, x4, x5, x6, x7, x8] st hi g Φ) (h2 : ¬ x = y → AP M_L_law b 1296 [x0, x1, x2, x3, x4, x5, x6, x7, x8] st hi g Φ) : AP M_L_law b 1293 [x0, x1, x2, x3, x4, x5, x6, x7, x8] (.int y :: .int x :: st) hi g Φ := AP.icmp_eq d_L_law_1293 (by decide) h1 h2
theorem d_L_law_1296 : decode code 1296 = .ok (.iconst 0, 1) := by decide +kernel
theorem s_L_law_1296 (h : AP M_L_law b 1297 [x0, x1, x2, x3, x4, x5, x6, x7, x8] (.int 0 :: st) hi g Φ) : AP M_L_law b 1296 [x0, x1, x2, x3, x4, x5, x6, x7, x8] (st) hi g Φ := AP.iconst (x := 0) d_L_law_1296 (by decide) h
theorem d_L_law_1297 : decode code 1297 = .ok (.ireturn, 1) := by decide +kernel
theorem s_L_law_1297 {x : Int32} (hx : x = 0 ∨ x = 1) (h : Φ (.ok (some (.int x))) hi g) : AP M_L_law b 1297 [x0, x1, x2, x3, x4, x5, x6, x7, x8] [.int x] hi g Φ := AP.zret d_L_law_1297 rfl hx h
theorem d_L_law_1298 : decode code 1298 = .ok (.iload 5, 2) := by decide +kernel
theorem s_L_law_1298 {n : Int32} (h : AP M_L_law b 1300 [x0, x1, x2, x3, x4, .int n, x6, x7, x8] (.int n :: st) hi g Φ) : AP M_L_law b 1298 [x0, x1, x2, x3, x4, .int n, x6, x7, x8] (st) hi g Φ := AP.iload (x := n) (i := 5) d_L_law_1298 rfl h
theorem d_L_law_1300 : decode code 1300 = .ok (.ifCond .ne 15, 3) := by decide +kernel
theorem s_L_law_1300 {x : Int32} (h1 : ¬ x = 0 → AP M_L_law b 1315 [x0, x1, x2, x3, x4, x5, x6, x7, x8] st hi g Φ) (h2 : x = 0 → AP M_L_law b 1303 [x0, x1, x2, x3, x4, x5, x6, x7, x8] st hi g Φ) : AP M_L_law b 1300 [x0, x1, x2, x3, x4, x5, x6, x7, x8] (.int x :: st) hi g Φ := AP.if_ne d_L_law_1300 (by decide) h1 h2
theorem d_L_law_1303 : decode code 1303 = .ok (.aload_n 3, 1) := by decide +kernel
theorem s_L_law_1303 {n : Nat} (h : AP M_L_law b 1304 [x0, x1, x2, .ref n, x4, x5, x6, x7, x8] (.ref n :: st) hi g Φ) : AP M_L_law b 1303 [x0, x1, x2, .ref n, x4, x5, x6, x7, x8] (st) hi g Φ := AP.aload_n (x := n) (i := 3) d_L_law_1303 rfl rfl h
theorem d_L_law_1304 : decode code 1304 = .ok (.iconst 0, 1) := by decide +kernel
theorem s_L_law_1304 (h : AP M_L_law b 1305 [x0, x1, x2, x3, x4, x5, x6, x7, x8] (.int 0 :: st) hi g Φ) : AP M_L_law b 1304 [x0, x1, x2, x3, x4, x5, x6, x7, x8] (st) hi g Φ := AP.iconst (x := 0) d_L_law_1304 (by decide) h
theorem d_L_law_1305 : decode code 1305 = .ok (.laload, 1) := by decide +kernel
theorem s_L_law_1305 {k n j : Nat} {i : Int32} (hI : am_Inv g) (hs : am_SH k = (4, n)) (hk : k < 134) (hn : n < 2 ^ 31) (hx : i = nI j) (hj : j < n) (h : AP M_L_law b 1306 [x0, x1, x2, x3, x4, x5, x6, x7, x8] (.long (g.2.2 k j) :: st) hi g Φ) : AP M_L_law b 1305 [x0, x1, x2, x3, x4, x5, x6, x7, x8] (.int i :: .ref k :: st) hi g Φ := AP.lald d_L_law_1305 hs (hI.lt hk) hn hx hj h
theorem d_L_law_1306 : decode code 1306 = .ok (.iload 6, 2) := by decide +kernel
theorem s_L_law_1306 {n : Int32} (h : AP M_L_law b 1308 [x0, x1, x2, x3, x4, x5, .int n, x7, x8] (.int n :: st) hi g Φ) : AP M_L_law b 1306 [x0, x1, x2, x3, x4, x5, .int n, x7, x8] (st) hi g Φ := AP.iload (x := n) (i := 6) d_L_law_1306 rfl h
theorem d_L_law_1308 : decode code 1308 = .ok (.i2l, 1) := by decide +kernel
theorem s_L_law_1308 {x : Int32} (h : AP M_L_law b 1309 [x0, x1, x2, x3, x4, x5, x6, x7, x8] (.long x.toInt64 :: st) hi g Φ) : AP M_L_law b 1308 [x0, x1, x2, x3, x4, x5, x6, x7, x8] (.int x :: st) hi g Φ := AP.i2l d_L_law_1308 h
theorem d_L_law_1309 : decode code 1309 = .ok (.lcmp, 1) := by decide +kernel
theorem s_L_law_1309 {x y : Int64} (h : AP M_L_law b 1310 [x0, x1, x2, x3, x4, x5, x6, x7, x8] (.int (lg_cmp x y) :: st) hi g Φ) : AP M_L_law b 1309 [x0, x1, x2, x3, x4, x5, x6, x7, x8] (.long y :: .long x :: st) hi g Φ := AP.lcmp d_L_law_1309 h
theorem d_L_law_1310 : decode code 1310 = .ok (.ifCond .eq 5, 3) := by decide +kernel
theorem s_L_law_1310 {x : Int32} (h1 : x = 0 → AP M_L_law b 1315 [x0, x1, x2, x3, x4, x5, x6, x7, x8] st hi g Φ) (h2 : ¬ x = 0 → AP M_L_law b 1313 [x0, x1, x2, x3, x4, x5, x6, x7, x8] st hi g Φ) : AP M_L_law b 1310 [x0, x1, x2, x3, x4, x5, x6, x7, x8] (.int x :: st) hi g Φ := AP.if_eq d_L_law_1310 (by decide) h1 h2
theorem d_L_law_1313 : decode code 1313 = .ok (.iconst 0, 1) := by decide +kernel
theorem s_L_law_1313 (h : AP M_L_law b 1314 [x0, x1, x2, x3, x4, x5, x6, x7, x8] (.int 0 :: st) hi g Φ) : AP M_L_law b 1313 [x0, x1, x2, x3, x4, x5, x6, x7, x8] (st) hi g Φ := AP.iconst (x := 0) d_L_law_1313 (by decide) h
theorem d_L_law_1314 : decode code 1314 = .ok (.ireturn, 1) := by decide +kernel
theorem s_L_law_1314 {x : Int32} (hx : x = 0 ∨ x = 1) (h : Φ (.ok (some (.int x))) hi g) : AP M_L_law b 1314 [x0, x1, x2, x3, x4, x5, x6, x7, x8] [.int x] hi g Φ := AP.zret d_L_law_1314 rfl hx h
theorem d_L_law_1315 : decode code 1315 = .ok (.goto 1436, 3) := by decide +kernel
theorem s_L_law_1315 (h : AP M_L_law b 2751 [x0, x1, x2, x3, x4, x5, x6, x7, x8] st hi g Φ) : AP M_L_law b 1315 [x0, x1, x2, x3, x4, x5, x6, x7, x8] st hi g Φ := AP.goto d_L_law_1315 (by decide) h
theorem d_L_law_1318 : decode code 1318 = .ok (.aload_n 1, 1) := by decide +kernel
theorem s_L_law_1318 {n : Nat} (h : AP M_L_law b 1319 [x0, .ref n, x2, x3, x4, x5, x6, x7, x8] (.ref n :: st) hi g Φ) : AP M_L_law b 1318 [x0, .ref n, x2, x3, x4, x5, x6, x7, x8] (st) hi g Φ := AP.aload_n (x := n) (i := 1) d_L_law_1318 rfl rfl h
theorem d_L_law_1319 : decode code 1319 = .ok (.aload_n 0, 1) := by decide +kernel
theorem s_L_law_1319 {n : Nat} (h : AP M_L_law b 1320 [.ref n, x1, x2, x3, x4, x5, x6, x7, x8] (.ref n :: st) hi g Φ) : AP M_L_law b 1319 [.ref n, x1, x2, x3, x4, x5, x6, x7, x8] (st) hi g Φ := AP.aload_n (x := n) (i := 0) d_L_law_1319 rfl rfl h
theorem d_L_law_1320 : decode code 1320 = .ok (.iload 4, 2) := by decide +kernel
theorem s_L_law_1320 {n : Int32} (h : AP M_L_law b 1322 [x0, x1, x2, x3, .int n, x5, x6, x7, x8] (.int n :: st) hi g Φ) : AP M_L_law b 1320 [x0, x1, x2, x3, .int n, x5, x6, x7, x8] (st) hi g Φ := AP.iload (x := n) (i := 4) d_L_law_1320 rfl h
theorem d_L_law_1322 : decode code 1322 = .ok (.iconst 1, 1) := by decide +kernel
theorem s_L_law_1322 (h : AP M_L_law b 1323 [x0, x1, x2, x3, x4, x5, x6, x7, x8] (.int 1 :: st) hi g Φ) : AP M_L_law b 1322 [x0, x1, x2, x3, x4, x5, x6, x7, x8] (st) hi g Φ := AP.iconst (x := 1) d_L_law_1322 (by decide) h
theorem d_L_law_1323 : decode code 1323 = .ok (.iadd, 1) := by decide +kernel
theorem s_L_law_1323 {x y : Int32} (h : AP M_L_law b 1324 [x0, x1, x2, x3, x4, x5, x6, x7, x8] (.int (x + y) :: st) hi g Φ) : AP M_L_law b 1323 [x0, x1, x2, x3, x4, x5, x6, x7, x8] (.int y :: .int x :: st) hi g Φ := AP.iadd d_L_law_1323 h
theorem d_L_law_1324 : decode code 1324 = .ok (.iaload, 1) := by decide +kernel
theorem s_L_law_1324 {k n j : Nat} {i : Int32} (hI : am_Inv g) (hs : am_SH k = (1, n)) (hk : k < 134) (hn : n < 2 ^ 31) (hx : i = nI j) (hj : j < n) (h : AP M_L_law b 1325 [x0, x1, x2, x3, x4, x5, x6, x7, x8] (.int (hi k j) :: st) hi g Φ) : AP M_L_law b 1324 [x0, x1, x2, x3, x4, x5, x6, x7, x8] (.int i :: .ref k :: st) hi g Φ := AP.iald d_L_law_1324 hs (hI.lt hk) hn hx hj h
theorem d_L_law_1325 : decode code 1325 = .ok (.aload_n 0, 1) := by decide +kernel
theorem s_L_law_1325 {n : Nat} (h : AP M_L_law b 1326 [.ref n, x1, x2, x3, x4, x5, x6, x7, x8] (.ref n :: st) hi g Φ) : AP M_L_law b 1325 [.ref n, x1, x2, x3, x4, x5, x6, x7, x8] (st) hi g Φ := AP.aload_n (x := n) (i := 0) d_L_law_1325 rfl rfl h
theorem d_L_law_1326 : decode code 1326 = .ok (.iload 4, 2) := by decide +kernel
theorem s_L_law_1326 {n : Int32} (h : AP M_L_law b 1328 [x0, x1, x2, x3, .int n, x5, x6, x7, x8] (.int n :: st) hi g Φ) : AP M_L_law b 1326 [x0, x1, x2, x3, .int n, x5, x6, x7, x8] (st) hi g Φ := AP.iload (x := n) (i := 4) d_L_law_1326 rfl h
theorem d_L_law_1328 : decode code 1328 = .ok (.iconst 2, 1) := by decide +kernel
theorem s_L_law_1328 (h : AP M_L_law b 1329 [x0, x1, x2, x3, x4, x5, x6, x7, x8] (.int 2 :: st) hi g Φ) : AP M_L_law b 1328 [x0, x1, x2, x3, x4, x5, x6, x7, x8] (st) hi g Φ := AP.iconst (x := 2) d_L_law_1328 (by decide) h
theorem d_L_law_1329 : decode code 1329 = .ok (.iadd, 1) := by decide +kernel
theorem s_L_law_1329 {x y : Int32} (h : AP M_L_law b 1330 [x0, x1, x2, x3, x4, x5, x6, x7, x8] (.int (x + y) :: st) hi g Φ) : AP M_L_law b 1329 [x0, x1, x2, x3, x4, x5, x6, x7, x8] (.int y :: .int x :: st) hi g Φ := AP.iadd d_L_law_1329 h
theorem d_L_law_1330 : decode code 1330 = .ok (.iaload, 1) := by decide +kernel
theorem s_L_law_1330 {k n j : Nat} {i : Int32} (hI : am_Inv g) (hs : am_SH k = (1, n)) (hk : k < 134) (hn : n < 2 ^ 31) (hx : i = nI j) (hj : j < n) (h : AP M_L_law b 1331 [x0, x1, x2, x3, x4, x5, x6, x7, x8] (.int (hi k j) :: st) hi g Φ) : AP M_L_law b 1330 [x0, x1, x2, x3, x4, x5, x6, x7, x8] (.int i :: .ref k :: st) hi g Φ := AP.iald d_L_law_1330 hs (hI.lt hk) hn hx hj h
theorem d_L_law_1331 : decode code 1331 = .ok (.aload_n 3, 1) := by decide +kernel
theorem s_L_law_1331 {n : Nat} (h : AP M_L_law b 1332 [x0, x1, x2, .ref n, x4, x5, x6, x7, x8] (.ref n :: st) hi g Φ) : AP M_L_law b 1331 [x0, x1, x2, .ref n, x4, x5, x6, x7, x8] (st) hi g Φ := AP.aload_n (x := n) (i := 3) d_L_law_1331 rfl rfl h
theorem d_L_law_1332 : decode code 1332 = .ok (.invokestatic 218, 3) := by decide +kernel
-- s_L_law_1332: a call apart
theorem d_L_law_1335 : decode code 1335 = .ok (.istore 5, 2) := by decide +kernel
theorem s_L_law_1335 {n : Int32} (hc : x4.category = 1) (h : AP M_L_law b 1337 [x0, x1, x2, x3, x4, .int n, x6, x7, x8] (st) hi g Φ) : AP M_L_law b 1335 [x0, x1, x2, x3, x4, x5, x6, x7, x8] (.int n :: st) hi g Φ := AP.istore (x := n) (i := 5) d_L_law_1335 (by decide) (by simp [am_st, am_ci, am_cr, am_cl, am_cd, hc]) h
theorem d_L_law_1337 : decode code 1337 = .ok (.aload_n 2, 1) := by decide +kernel
theorem s_L_law_1337 {n : Nat} (h : AP M_L_law b 1338 [x0, x1, .ref n, x3, x4, x5, x6, x7, x8] (.ref n :: st) hi g Φ) : AP M_L_law b 1337 [x0, x1, .ref n, x3, x4, x5, x6, x7, x8] (st) hi g Φ := AP.aload_n (x := n) (i := 2) d_L_law_1337 rfl rfl h
theorem d_L_law_1338 : decode code 1338 = .ok (.aload_n 0, 1) := by decide +kernel
theorem s_L_law_1338 {n : Nat} (h : AP M_L_law b 1339 [.ref n, x1, x2, x3, x4, x5, x6, x7, x8] (.ref n :: st) hi g Φ) : AP M_L_law b 1338 [.ref n, x1, x2, x3, x4, x5, x6, x7, x8] (st) hi g Φ := AP.aload_n (x := n) (i := 0) d_L_law_1338 rfl rfl h
theorem d_L_law_1339 : decode code 1339 = .ok (.iload 4, 2) := by decide +kernel
theorem s_L_law_1339 {n : Int32} (h : AP M_L_law b 1341 [x0, x1, x2, x3, .int n, x5, x6, x7, x8] (.int n :: st) hi g Φ) : AP M_L_law b 1339 [x0, x1, x2, x3, .int n, x5, x6, x7, x8] (st) hi g Φ := AP.iload (x := n) (i := 4) d_L_law_1339 rfl h
theorem d_L_law_1341 : decode code 1341 = .ok (.iconst 1, 1) := by decide +kernel
theorem s_L_law_1341 (h : AP M_L_law b 1342 [x0, x1, x2, x3, x4, x5, x6, x7, x8] (.int 1 :: st) hi g Φ) : AP M_L_law b 1341 [x0, x1, x2, x3, x4, x5, x6, x7, x8] (st) hi g Φ := AP.iconst (x := 1) d_L_law_1341 (by decide) h
theorem d_L_law_1342 : decode code 1342 = .ok (.iadd, 1) := by decide +kernel
theorem s_L_law_1342 {x y : Int32} (h : AP M_L_law b 1343 [x0, x1, x2, x3, x4, x5, x6, x7, x8] (.int (x + y) :: st) hi g Φ) : AP M_L_law b 1342 [x0, x1, x2, x3, x4, x5, x6, x7, x8] (.int y :: .int x :: st) hi g Φ := AP.iadd d_L_law_1342 h
theorem d_L_law_1343 : decode code 1343 = .ok (.iaload, 1) := by decide +kernel
theorem s_L_law_1343 {k n j : Nat} {i : Int32} (hI : am_Inv g) (hs : am_SH k = (1, n)) (hk : k < 134) (hn : n < 2 ^ 31) (hx : i = nI j) (hj : j < n) (h : AP M_L_law b 1344 [x0, x1, x2, x3, x4, x5, x6, x7, x8] (.int (hi k j) :: st) hi g Φ) : AP M_L_law b 1343 [x0, x1, x2, x3, x4, x5, x6, x7, x8] (.int i :: .ref k :: st) hi g Φ := AP.iald d_L_law_1343 hs (hI.lt hk) hn hx hj h
theorem d_L_law_1344 : decode code 1344 = .ok (.aload_n 0, 1) := by decide +kernel
theorem s_L_law_1344 {n : Nat} (h : AP M_L_law b 1345 [.ref n, x1, x2, x3, x4, x5, x6, x7, x8] (.ref n :: st) hi g Φ) : AP M_L_law b 1344 [.ref n, x1, x2, x3, x4, x5, x6, x7, x8] (st) hi g Φ := AP.aload_n (x := n) (i := 0) d_L_law_1344 rfl rfl h
theorem d_L_law_1345 : decode code 1345 = .ok (.iload 4, 2) := by decide +kernel
theorem s_L_law_1345 {n : Int32} (h : AP M_L_law b 1347 [x0, x1, x2, x3, .int n, x5, x6, x7, x8] (.int n :: st) hi g Φ) : AP M_L_law b 1345 [x0, x1, x2, x3, .int n, x5, x6, x7, x8] (st) hi g Φ := AP.iload (x := n) (i := 4) d_L_law_1345 rfl h
theorem d_L_law_1347 : decode code 1347 = .ok (.iconst 2, 1) := by decide +kernel
theorem s_L_law_1347 (h : AP M_L_law b 1348 [x0, x1, x2, x3, x4, x5, x6, x7, x8] (.int 2 :: st) hi g Φ) : AP M_L_law b 1347 [x0, x1, x2, x3, x4, x5, x6, x7, x8] (st) hi g Φ := AP.iconst (x := 2) d_L_law_1347 (by decide) h
theorem d_L_law_1348 : decode code 1348 = .ok (.iadd, 1) := by decide +kernel
theorem s_L_law_1348 {x y : Int32} (h : AP M_L_law b 1349 [x0, x1, x2, x3, x4, x5, x6, x7, x8] (.int (x + y) :: st) hi g Φ) : AP M_L_law b 1348 [x0, x1, x2, x3, x4, x5, x6, x7, x8] (.int y :: .int x :: st) hi g Φ := AP.iadd d_L_law_1348 h
theorem d_L_law_1349 : decode code 1349 = .ok (.iaload, 1) := by decide +kernel
theorem s_L_law_1349 {k n j : Nat} {i : Int32} (hI : am_Inv g) (hs : am_SH k = (1, n)) (hk : k < 134) (hn : n < 2 ^ 31) (hx : i = nI j) (hj : j < n) (h : AP M_L_law b 1350 [x0, x1, x2, x3, x4, x5, x6, x7, x8] (.int (hi k j) :: st) hi g Φ) : AP M_L_law b 1349 [x0, x1, x2, x3, x4, x5, x6, x7, x8] (.int i :: .ref k :: st) hi g Φ := AP.iald d_L_law_1349 hs (hI.lt hk) hn hx hj h
theorem d_L_law_1350 : decode code 1350 = .ok (.invokevirtual 220, 3) := by decide +kernel
theorem s_L_law_1350 {a0 : Int32} {a1 : Int32} {k : Nat} {r0 : Int32} {P : am_HI → Prop} (hI : am_Inv g) (hs : am_SH k = (0, 10)) (hk : k < 134) (hst : (st.map Value.category).sum ≤ 8) (hc : am_Cr M_X10_leftOver [.ref k, .int a0, .int a1] hi g (some (.int r0)) P) (h : ∀ hi' : am_HI, P hi' → AP M_L_law b 1353 [x0, x1, x2, x3, x4, x5, x6, x7, x8] (.int r0 :: st) hi' g Φ) : AP M_L_law b 1350 [x0, x1, x2, x3, x4, x5, x6, x7, x8] (.int a1 :: .int a0 :: .ref k :: st) hi g Φ := AP.callVr (As := [.int a0, .int a1]) (q := (RX10, TX10, 15)) hI hc k_L_law_220 d_L_law_1350 rfl hs hk rfl rfl hst h
theorem d_L_law_1353 : decode code 1353 = .ok (.istore 6, 2) := by decide +kernel
theorem s_L_law_1353 {n : Int32} (hc : x5.category = 1) (h : AP M_L_law b 1355 [x0, x1, x2, x3, x4, x5, .int n, x7, x8] (st) hi g Φ) : AP M_L_law b 1353 [x0, x1, x2, x3, x4, x5, x6, x7, x8] (.int n :: st) hi g Φ := AP.istore (x := n) (i := 6) d_L_law_1353 (by decide) (by simp [am_st, am_ci, am_cr, am_cl, am_cd, hc]) h
theorem d_L_law_1355 : decode code 1355 = .ok (.aload_n 2, 1) := by decide +kernel
theorem s_L_law_1355 {n : Nat} (h : AP M_L_law b 1356 [x0, x1, .ref n, x3, x4, x5, x6, x7, x8] (.ref n :: st) hi g Φ) : AP M_L_law b 1355 [x0, x1, .ref n, x3, x4, x5, x6, x7, x8] (st) hi g Φ := AP.aload_n (x := n) (i := 2) d_L_law_1355 rfl rfl h
theorem d_L_law_1356 : decode code 1356 = .ok (.invokevirtual 141, 3) := by decide +kernel
theorem s_L_law_1356  {k : Nat} {r0 : Int32} {P : am_HI → Prop} (hI : am_Inv g) (hs : am_SH k = (0, 10)) (hk : k < 134) (hst : (st.map Value.category).sum ≤ 8) (hc : am_Cr M_X10_thrown [.ref k] hi g (some (.int r0)) P) (h : ∀ hi' : am_HI, P hi' → AP M_L_law b 1359 [x0, x1, x2, x3, x4, x5, x6, x7, x8] (.int r0 :: st) hi' g Φ) : AP M_L_law b 1356 [x0, x1, x2, x3, x4, x5, x6, x7, x8] (.ref k :: st) hi g Φ := AP.callVr (As := []) (q := (RX10, TX10, 15)) hI hc k_L_law_141 d_L_law_1356 rfl hs hk rfl rfl hst h
theorem d_L_law_1359 : decode code 1359 = .ok (.iload 5, 2) := by decide +kernel
theorem s_L_law_1359 {n : Int32} (h : AP M_L_law b 1361 [x0, x1, x2, x3, x4, .int n, x6, x7, x8] (.int n :: st) hi g Φ) : AP M_L_law b 1359 [x0, x1, x2, x3, x4, .int n, x6, x7, x8] (st) hi g Φ := AP.iload (x := n) (i := 5) d_L_law_1359 rfl h
theorem d_L_law_1361 : decode code 1361 = .ok (.if_icmp .eq 5, 3) := by decide +kernel
theorem s_L_law_1361 {x y : Int32} (h1 : x = y → AP M_L_law b 1366 [x0, x1, x2, x3, x4, x5, x6, x7, x8] st hi g Φ) (h2 : ¬ x = y → AP M_L_law b 1364 [x0, x1, x2, x3, x4, x5, x6, x7, x8] st hi g Φ) : AP M_L_law b 1361 [x0, x1, x2, x3, x4, x5, x6, x7, x8] (.int y :: .int x :: st) hi g Φ := AP.icmp_eq d_L_law_1361 (by decide) h1 h2
theorem d_L_law_1364 : decode code 1364 = .ok (.iconst 0, 1) := by decide +kernel
theorem s_L_law_1364 (h : AP M_L_law b 1365 [x0, x1, x2, x3, x4, x5, x6, x7, x8] (.int 0 :: st) hi g Φ) : AP M_L_law b 1364 [x0, x1, x2, x3, x4, x5, x6, x7, x8] (st) hi g Φ := AP.iconst (x := 0) d_L_law_1364 (by decide) h
theorem d_L_law_1365 : decode code 1365 = .ok (.ireturn, 1) := by decide +kernel
theorem s_L_law_1365 {x : Int32} (hx : x = 0 ∨ x = 1) (h : Φ (.ok (some (.int x))) hi g) : AP M_L_law b 1365 [x0, x1, x2, x3, x4, x5, x6, x7, x8] [.int x] hi g Φ := AP.zret d_L_law_1365 rfl hx h
theorem d_L_law_1366 : decode code 1366 = .ok (.iload 5, 2) := by decide +kernel
theorem s_L_law_1366 {n : Int32} (h : AP M_L_law b 1368 [x0, x1, x2, x3, x4, .int n, x6, x7, x8] (.int n :: st) hi g Φ) : AP M_L_law b 1366 [x0, x1, x2, x3, x4, .int n, x6, x7, x8] (st) hi g Φ := AP.iload (x := n) (i := 5) d_L_law_1366 rfl h
theorem d_L_law_1368 : decode code 1368 = .ok (.ifCond .ne 15, 3) := by decide +kernel
theorem s_L_law_1368 {x : Int32} (h1 : ¬ x = 0 → AP M_L_law b 1383 [x0, x1, x2, x3, x4, x5, x6, x7, x8] st hi g Φ) (h2 : x = 0 → AP M_L_law b 1371 [x0, x1, x2, x3, x4, x5, x6, x7, x8] st hi g Φ) : AP M_L_law b 1368 [x0, x1, x2, x3, x4, x5, x6, x7, x8] (.int x :: st) hi g Φ := AP.if_ne d_L_law_1368 (by decide) h1 h2
theorem d_L_law_1371 : decode code 1371 = .ok (.aload_n 3, 1) := by decide +kernel
theorem s_L_law_1371 {n : Nat} (h : AP M_L_law b 1372 [x0, x1, x2, .ref n, x4, x5, x6, x7, x8] (.ref n :: st) hi g Φ) : AP M_L_law b 1371 [x0, x1, x2, .ref n, x4, x5, x6, x7, x8] (st) hi g Φ := AP.aload_n (x := n) (i := 3) d_L_law_1371 rfl rfl h
theorem d_L_law_1372 : decode code 1372 = .ok (.iconst 0, 1) := by decide +kernel
theorem s_L_law_1372 (h : AP M_L_law b 1373 [x0, x1, x2, x3, x4, x5, x6, x7, x8] (.int 0 :: st) hi g Φ) : AP M_L_law b 1372 [x0, x1, x2, x3, x4, x5, x6, x7, x8] (st) hi g Φ := AP.iconst (x := 0) d_L_law_1372 (by decide) h
theorem d_L_law_1373 : decode code 1373 = .ok (.laload, 1) := by decide +kernel
theorem s_L_law_1373 {k n j : Nat} {i : Int32} (hI : am_Inv g) (hs : am_SH k = (4, n)) (hk : k < 134) (hn : n < 2 ^ 31) (hx : i = nI j) (hj : j < n) (h : AP M_L_law b 1374 [x0, x1, x2, x3, x4, x5, x6, x7, x8] (.long (g.2.2 k j) :: st) hi g Φ) : AP M_L_law b 1373 [x0, x1, x2, x3, x4, x5, x6, x7, x8] (.int i :: .ref k :: st) hi g Φ := AP.lald d_L_law_1373 hs (hI.lt hk) hn hx hj h
theorem d_L_law_1374 : decode code 1374 = .ok (.iload 6, 2) := by decide +kernel
theorem s_L_law_1374 {n : Int32} (h : AP M_L_law b 1376 [x0, x1, x2, x3, x4, x5, .int n, x7, x8] (.int n :: st) hi g Φ) : AP M_L_law b 1374 [x0, x1, x2, x3, x4, x5, .int n, x7, x8] (st) hi g Φ := AP.iload (x := n) (i := 6) d_L_law_1374 rfl h
theorem d_L_law_1376 : decode code 1376 = .ok (.i2l, 1) := by decide +kernel
theorem s_L_law_1376 {x : Int32} (h : AP M_L_law b 1377 [x0, x1, x2, x3, x4, x5, x6, x7, x8] (.long x.toInt64 :: st) hi g Φ) : AP M_L_law b 1376 [x0, x1, x2, x3, x4, x5, x6, x7, x8] (.int x :: st) hi g Φ := AP.i2l d_L_law_1376 h
theorem d_L_law_1377 : decode code 1377 = .ok (.lcmp, 1) := by decide +kernel
theorem s_L_law_1377 {x y : Int64} (h : AP M_L_law b 1378 [x0, x1, x2, x3, x4, x5, x6, x7, x8] (.int (lg_cmp x y) :: st) hi g Φ) : AP M_L_law b 1377 [x0, x1, x2, x3, x4, x5, x6, x7, x8] (.long y :: .long x :: st) hi g Φ := AP.lcmp d_L_law_1377 h
theorem d_L_law_1378 : decode code 1378 = .ok (.ifCond .eq 5, 3) := by decide +kernel
theorem s_L_law_1378 {x : Int32} (h1 : x = 0 → AP M_L_law b 1383 [x0, x1, x2, x3, x4, x5, x6, x7, x8] st hi g Φ) (h2 : ¬ x = 0 → AP M_L_law b 1381 [x0, x1, x2, x3, x4, x5, x6, x7, x8] st hi g Φ) : AP M_L_law b 1378 [x0, x1, x2, x3, x4, x5, x6, x7, x8] (.int x :: st) hi g Φ := AP.if_eq d_L_law_1378 (by decide) h1 h2
theorem d_L_law_1381 : decode code 1381 = .ok (.iconst 0, 1) := by decide +kernel
theorem s_L_law_1381 (h : AP M_L_law b 1382 [x0, x1, x2, x3, x4, x5, x6, x7, x8] (.int 0 :: st) hi g Φ) : AP M_L_law b 1381 [x0, x1, x2, x3, x4, x5, x6, x7, x8] (st) hi g Φ := AP.iconst (x := 0) d_L_law_1381 (by decide) h
theorem d_L_law_1382 : decode code 1382 = .ok (.ireturn, 1) := by decide +kernel
theorem s_L_law_1382 {x : Int32} (hx : x = 0 ∨ x = 1) (h : Φ (.ok (some (.int x))) hi g) : AP M_L_law b 1382 [x0, x1, x2, x3, x4, x5, x6, x7, x8] [.int x] hi g Φ := AP.zret d_L_law_1382 rfl hx h
theorem d_L_law_1383 : decode code 1383 = .ok (.goto 1368, 3) := by decide +kernel
theorem s_L_law_1383 (h : AP M_L_law b 2751 [x0, x1, x2, x3, x4, x5, x6, x7, x8] st hi g Φ) : AP M_L_law b 1383 [x0, x1, x2, x3, x4, x5, x6, x7, x8] st hi g Φ := AP.goto d_L_law_1383 (by decide) h
theorem d_L_law_1386 : decode code 1386 = .ok (.aload_n 1, 1) := by decide +kernel
theorem s_L_law_1386 {n : Nat} (h : AP M_L_law b 1387 [x0, .ref n, x2, x3, x4, x5, x6, x7, x8] (.ref n :: st) hi g Φ) : AP M_L_law b 1386 [x0, .ref n, x2, x3, x4, x5, x6, x7, x8] (st) hi g Φ := AP.aload_n (x := n) (i := 1) d_L_law_1386 rfl rfl h
theorem d_L_law_1387 : decode code 1387 = .ok (.aload_n 0, 1) := by decide +kernel
theorem s_L_law_1387 {n : Nat} (h : AP M_L_law b 1388 [.ref n, x1, x2, x3, x4, x5, x6, x7, x8] (.ref n :: st) hi g Φ) : AP M_L_law b 1387 [.ref n, x1, x2, x3, x4, x5, x6, x7, x8] (st) hi g Φ := AP.aload_n (x := n) (i := 0) d_L_law_1387 rfl rfl h
theorem d_L_law_1388 : decode code 1388 = .ok (.iload 4, 2) := by decide +kernel
theorem s_L_law_1388 {n : Int32} (h : AP M_L_law b 1390 [x0, x1, x2, x3, .int n, x5, x6, x7, x8] (.int n :: st) hi g Φ) : AP M_L_law b 1388 [x0, x1, x2, x3, .int n, x5, x6, x7, x8] (st) hi g Φ := AP.iload (x := n) (i := 4) d_L_law_1388 rfl h
theorem d_L_law_1390 : decode code 1390 = .ok (.iconst 1, 1) := by decide +kernel
theorem s_L_law_1390 (h : AP M_L_law b 1391 [x0, x1, x2, x3, x4, x5, x6, x7, x8] (.int 1 :: st) hi g Φ) : AP M_L_law b 1390 [x0, x1, x2, x3, x4, x5, x6, x7, x8] (st) hi g Φ := AP.iconst (x := 1) d_L_law_1390 (by decide) h
theorem d_L_law_1391 : decode code 1391 = .ok (.iadd, 1) := by decide +kernel
theorem s_L_law_1391 {x y : Int32} (h : AP M_L_law b 1392 [x0, x1, x2, x3, x4, x5, x6, x7, x8] (.int (x + y) :: st) hi g Φ) : AP M_L_law b 1391 [x0, x1, x2, x3, x4, x5, x6, x7, x8] (.int y :: .int x :: st) hi g Φ := AP.iadd d_L_law_1391 h
theorem d_L_law_1392 : decode code 1392 = .ok (.iaload, 1) := by decide +kernel
theorem s_L_law_1392 {k n j : Nat} {i : Int32} (hI : am_Inv g) (hs : am_SH k = (1, n)) (hk : k < 134) (hn : n < 2 ^ 31) (hx : i = nI j) (hj : j < n) (h : AP M_L_law b 1393 [x0, x1, x2, x3, x4, x5, x6, x7, x8] (.int (hi k j) :: st) hi g Φ) : AP M_L_law b 1392 [x0, x1, x2, x3, x4, x5, x6, x7, x8] (.int i :: .ref k :: st) hi g Φ := AP.iald d_L_law_1392 hs (hI.lt hk) hn hx hj h
theorem d_L_law_1393 : decode code 1393 = .ok (.aload_n 3, 1) := by decide +kernel
theorem s_L_law_1393 {n : Nat} (h : AP M_L_law b 1394 [x0, x1, x2, .ref n, x4, x5, x6, x7, x8] (.ref n :: st) hi g Φ) : AP M_L_law b 1393 [x0, x1, x2, .ref n, x4, x5, x6, x7, x8] (st) hi g Φ := AP.aload_n (x := n) (i := 3) d_L_law_1393 rfl rfl h
theorem d_L_law_1394 : decode code 1394 = .ok (.invokestatic 221, 3) := by decide +kernel
-- s_L_law_1394: a call apart
theorem d_L_law_1397 : decode code 1397 = .ok (.istore 5, 2) := by decide +kernel
theorem s_L_law_1397 {n : Int32} (hc : x4.category = 1) (h : AP M_L_law b 1399 [x0, x1, x2, x3, x4, .int n, x6, x7, x8] (st) hi g Φ) : AP M_L_law b 1397 [x0, x1, x2, x3, x4, x5, x6, x7, x8] (.int n :: st) hi g Φ := AP.istore (x := n) (i := 5) d_L_law_1397 (by decide) (by simp [am_st, am_ci, am_cr, am_cl, am_cd, hc]) h
theorem d_L_law_1399 : decode code 1399 = .ok (.aload_n 2, 1) := by decide +kernel
theorem s_L_law_1399 {n : Nat} (h : AP M_L_law b 1400 [x0, x1, .ref n, x3, x4, x5, x6, x7, x8] (.ref n :: st) hi g Φ) : AP M_L_law b 1399 [x0, x1, .ref n, x3, x4, x5, x6, x7, x8] (st) hi g Φ := AP.aload_n (x := n) (i := 2) d_L_law_1399 rfl rfl h
theorem d_L_law_1400 : decode code 1400 = .ok (.aload_n 0, 1) := by decide +kernel
theorem s_L_law_1400 {n : Nat} (h : AP M_L_law b 1401 [.ref n, x1, x2, x3, x4, x5, x6, x7, x8] (.ref n :: st) hi g Φ) : AP M_L_law b 1400 [.ref n, x1, x2, x3, x4, x5, x6, x7, x8] (st) hi g Φ := AP.aload_n (x := n) (i := 0) d_L_law_1400 rfl rfl h
theorem d_L_law_1401 : decode code 1401 = .ok (.iload 4, 2) := by decide +kernel
theorem s_L_law_1401 {n : Int32} (h : AP M_L_law b 1403 [x0, x1, x2, x3, .int n, x5, x6, x7, x8] (.int n :: st) hi g Φ) : AP M_L_law b 1401 [x0, x1, x2, x3, .int n, x5, x6, x7, x8] (st) hi g Φ := AP.iload (x := n) (i := 4) d_L_law_1401 rfl h
theorem d_L_law_1403 : decode code 1403 = .ok (.iconst 1, 1) := by decide +kernel
theorem s_L_law_1403 (h : AP M_L_law b 1404 [x0, x1, x2, x3, x4, x5, x6, x7, x8] (.int 1 :: st) hi g Φ) : AP M_L_law b 1403 [x0, x1, x2, x3, x4, x5, x6, x7, x8] (st) hi g Φ := AP.iconst (x := 1) d_L_law_1403 (by decide) h
theorem d_L_law_1404 : decode code 1404 = .ok (.iadd, 1) := by decide +kernel
theorem s_L_law_1404 {x y : Int32} (h : AP M_L_law b 1405 [x0, x1, x2, x3, x4, x5, x6, x7, x8] (.int (x + y) :: st) hi g Φ) : AP M_L_law b 1404 [x0, x1, x2, x3, x4, x5, x6, x7, x8] (.int y :: .int x :: st) hi g Φ := AP.iadd d_L_law_1404 h
theorem d_L_law_1405 : decode code 1405 = .ok (.iaload, 1) := by decide +kernel
theorem s_L_law_1405 {k n j : Nat} {i : Int32} (hI : am_Inv g) (hs : am_SH k = (1, n)) (hk : k < 134) (hn : n < 2 ^ 31) (hx : i = nI j) (hj : j < n) (h : AP M_L_law b 1406 [x0, x1, x2, x3, x4, x5, x6, x7, x8] (.int (hi k j) :: st) hi g Φ) : AP M_L_law b 1405 [x0, x1, x2, x3, x4, x5, x6, x7, x8] (.int i :: .ref k :: st) hi g Φ := AP.iald d_L_law_1405 hs (hI.lt hk) hn hx hj h
theorem d_L_law_1406 : decode code 1406 = .ok (.invokevirtual 223, 3) := by decide +kernel
theorem s_L_law_1406 {a0 : Int32} {k : Nat} {r0 : Int32} {P : am_HI → Prop} (hI : am_Inv g) (hs : am_SH k = (0, 10)) (hk : k < 134) (hst : (st.map Value.category).sum ≤ 8) (hc : am_Cr M_X10_sumOf [.ref k, .int a0] hi g (some (.int r0)) P) (h : ∀ hi' : am_HI, P hi' → AP M_L_law b 1409 [x0, x1, x2, x3, x4, x5, x6, x7, x8] (.int r0 :: st) hi' g Φ) : AP M_L_law b 1406 [x0, x1, x2, x3, x4, x5, x6, x7, x8] (.int a0 :: .ref k :: st) hi g Φ := AP.callVr (As := [.int a0]) (q := (RX10, TX10, 15)) hI hc k_L_law_223 d_L_law_1406 rfl hs hk rfl rfl hst h
theorem d_L_law_1409 : decode code 1409 = .ok (.istore 6, 2) := by decide +kernel
theorem s_L_law_1409 {n : Int32} (hc : x5.category = 1) (h : AP M_L_law b 1411 [x0, x1, x2, x3, x4, x5, .int n, x7, x8] (st) hi g Φ) : AP M_L_law b 1409 [x0, x1, x2, x3, x4, x5, x6, x7, x8] (.int n :: st) hi g Φ := AP.istore (x := n) (i := 6) d_L_law_1409 (by decide) (by simp [am_st, am_ci, am_cr, am_cl, am_cd, hc]) h
theorem d_L_law_1411 : decode code 1411 = .ok (.aload_n 2, 1) := by decide +kernel
theorem s_L_law_1411 {n : Nat} (h : AP M_L_law b 1412 [x0, x1, .ref n, x3, x4, x5, x6, x7, x8] (.ref n :: st) hi g Φ) : AP M_L_law b 1411 [x0, x1, .ref n, x3, x4, x5, x6, x7, x8] (st) hi g Φ := AP.aload_n (x := n) (i := 2) d_L_law_1411 rfl rfl h
theorem d_L_law_1412 : decode code 1412 = .ok (.invokevirtual 141, 3) := by decide +kernel
theorem s_L_law_1412  {k : Nat} {r0 : Int32} {P : am_HI → Prop} (hI : am_Inv g) (hs : am_SH k = (0, 10)) (hk : k < 134) (hst : (st.map Value.category).sum ≤ 8) (hc : am_Cr M_X10_thrown [.ref k] hi g (some (.int r0)) P) (h : ∀ hi' : am_HI, P hi' → AP M_L_law b 1415 [x0, x1, x2, x3, x4, x5, x6, x7, x8] (.int r0 :: st) hi' g Φ) : AP M_L_law b 1412 [x0, x1, x2, x3, x4, x5, x6, x7, x8] (.ref k :: st) hi g Φ := AP.callVr (As := []) (q := (RX10, TX10, 15)) hI hc k_L_law_141 d_L_law_1412 rfl hs hk rfl rfl hst h
theorem d_L_law_1415 : decode code 1415 = .ok (.iload 5, 2) := by decide +kernel
theorem s_L_law_1415 {n : Int32} (h : AP M_L_law b 1417 [x0, x1, x2, x3, x4, .int n, x6, x7, x8] (.int n :: st) hi g Φ) : AP M_L_law b 1415 [x0, x1, x2, x3, x4, .int n, x6, x7, x8] (st) hi g Φ := AP.iload (x := n) (i := 5) d_L_law_1415 rfl h
theorem d_L_law_1417 : decode code 1417 = .ok (.if_icmp .eq 5, 3) := by decide +kernel
theorem s_L_law_1417 {x y : Int32} (h1 : x = y → AP M_L_law b 1422 [x0, x1, x2, x3, x4, x5, x6, x7, x8] st hi g Φ) (h2 : ¬ x = y → AP M_L_law b 1420 [x0, x1, x2, x3, x4, x5, x6, x7, x8] st hi g Φ) : AP M_L_law b 1417 [x0, x1, x2, x3, x4, x5, x6, x7, x8] (.int y :: .int x :: st) hi g Φ := AP.icmp_eq d_L_law_1417 (by decide) h1 h2
theorem d_L_law_1420 : decode code 1420 = .ok (.iconst 0, 1) := by decide +kernel
theorem s_L_law_1420 (h : AP M_L_law b 1421 [x0, x1, x2, x3, x4, x5, x6, x7, x8] (.int 0 :: st) hi g Φ) : AP M_L_law b 1420 [x0, x1, x2, x3, x4, x5, x6, x7, x8] (st) hi g Φ := AP.iconst (x := 0) d_L_law_1420 (by decide) h
theorem d_L_law_1421 : decode code 1421 = .ok (.ireturn, 1) := by decide +kernel
theorem s_L_law_1421 {x : Int32} (hx : x = 0 ∨ x = 1) (h : Φ (.ok (some (.int x))) hi g) : AP M_L_law b 1421 [x0, x1, x2, x3, x4, x5, x6, x7, x8] [.int x] hi g Φ := AP.zret d_L_law_1421 rfl hx h
theorem d_L_law_1422 : decode code 1422 = .ok (.iload 5, 2) := by decide +kernel
theorem s_L_law_1422 {n : Int32} (h : AP M_L_law b 1424 [x0, x1, x2, x3, x4, .int n, x6, x7, x8] (.int n :: st) hi g Φ) : AP M_L_law b 1422 [x0, x1, x2, x3, x4, .int n, x6, x7, x8] (st) hi g Φ := AP.iload (x := n) (i := 5) d_L_law_1422 rfl h
theorem d_L_law_1424 : decode code 1424 = .ok (.ifCond .ne 15, 3) := by decide +kernel
theorem s_L_law_1424 {x : Int32} (h1 : ¬ x = 0 → AP M_L_law b 1439 [x0, x1, x2, x3, x4, x5, x6, x7, x8] st hi g Φ) (h2 : x = 0 → AP M_L_law b 1427 [x0, x1, x2, x3, x4, x5, x6, x7, x8] st hi g Φ) : AP M_L_law b 1424 [x0, x1, x2, x3, x4, x5, x6, x7, x8] (.int x :: st) hi g Φ := AP.if_ne d_L_law_1424 (by decide) h1 h2
theorem d_L_law_1427 : decode code 1427 = .ok (.aload_n 3, 1) := by decide +kernel
theorem s_L_law_1427 {n : Nat} (h : AP M_L_law b 1428 [x0, x1, x2, .ref n, x4, x5, x6, x7, x8] (.ref n :: st) hi g Φ) : AP M_L_law b 1427 [x0, x1, x2, .ref n, x4, x5, x6, x7, x8] (st) hi g Φ := AP.aload_n (x := n) (i := 3) d_L_law_1427 rfl rfl h
theorem d_L_law_1428 : decode code 1428 = .ok (.iconst 0, 1) := by decide +kernel
theorem s_L_law_1428 (h : AP M_L_law b 1429 [x0, x1, x2, x3, x4, x5, x6, x7, x8] (.int 0 :: st) hi g Φ) : AP M_L_law b 1428 [x0, x1, x2, x3, x4, x5, x6, x7, x8] (st) hi g Φ := AP.iconst (x := 0) d_L_law_1428 (by decide) h
theorem d_L_law_1429 : decode code 1429 = .ok (.laload, 1) := by decide +kernel
theorem s_L_law_1429 {k n j : Nat} {i : Int32} (hI : am_Inv g) (hs : am_SH k = (4, n)) (hk : k < 134) (hn : n < 2 ^ 31) (hx : i = nI j) (hj : j < n) (h : AP M_L_law b 1430 [x0, x1, x2, x3, x4, x5, x6, x7, x8] (.long (g.2.2 k j) :: st) hi g Φ) : AP M_L_law b 1429 [x0, x1, x2, x3, x4, x5, x6, x7, x8] (.int i :: .ref k :: st) hi g Φ := AP.lald d_L_law_1429 hs (hI.lt hk) hn hx hj h
theorem d_L_law_1430 : decode code 1430 = .ok (.iload 6, 2) := by decide +kernel
theorem s_L_law_1430 {n : Int32} (h : AP M_L_law b 1432 [x0, x1, x2, x3, x4, x5, .int n, x7, x8] (.int n :: st) hi g Φ) : AP M_L_law b 1430 [x0, x1, x2, x3, x4, x5, .int n, x7, x8] (st) hi g Φ := AP.iload (x := n) (i := 6) d_L_law_1430 rfl h
theorem d_L_law_1432 : decode code 1432 = .ok (.i2l, 1) := by decide +kernel
theorem s_L_law_1432 {x : Int32} (h : AP M_L_law b 1433 [x0, x1, x2, x3, x4, x5, x6, x7, x8] (.long x.toInt64 :: st) hi g Φ) : AP M_L_law b 1432 [x0, x1, x2, x3, x4, x5, x6, x7, x8] (.int x :: st) hi g Φ := AP.i2l d_L_law_1432 h
theorem d_L_law_1433 : decode code 1433 = .ok (.lcmp, 1) := by decide +kernel
theorem s_L_law_1433 {x y : Int64} (h : AP M_L_law b 1434 [x0, x1, x2, x3, x4, x5, x6, x7, x8] (.int (lg_cmp x y) :: st) hi g Φ) : AP M_L_law b 1433 [x0, x1, x2, x3, x4, x5, x6, x7, x8] (.long y :: .long x :: st) hi g Φ := AP.lcmp d_L_law_1433 h
theorem d_L_law_1434 : decode code 1434 = .ok (.ifCond .eq 5, 3) := by decide +kernel
theorem s_L_law_1434 {x : Int32} (h1 : x = 0 → AP M_L_law b 1439 [x0, x1, x2, x3, x4, x5, x6, x7, x8] st hi g Φ) (h2 : ¬ x = 0 → AP M_L_law b 1437 [x0, x1, x2, x3, x4, x5, x6, x7, x8] st hi g Φ) : AP M_L_law b 1434 [x0, x1, x2, x3, x4, x5, x6, x7, x8] (.int x :: st) hi g Φ := AP.if_eq d_L_law_1434 (by decide) h1 h2
theorem d_L_law_1437 : decode code 1437 = .ok (.iconst 0, 1) := by decide +kernel
theorem s_L_law_1437 (h : AP M_L_law b 1438 [x0, x1, x2, x3, x4, x5, x6, x7, x8] (.int 0 :: st) hi g Φ) : AP M_L_law b 1437 [x0, x1, x2, x3, x4, x5, x6, x7, x8] (st) hi g Φ := AP.iconst (x := 0) d_L_law_1437 (by decide) h
theorem d_L_law_1438 : decode code 1438 = .ok (.ireturn, 1) := by decide +kernel
theorem s_L_law_1438 {x : Int32} (hx : x = 0 ∨ x = 1) (h : Φ (.ok (some (.int x))) hi g) : AP M_L_law b 1438 [x0, x1, x2, x3, x4, x5, x6, x7, x8] [.int x] hi g Φ := AP.zret d_L_law_1438 rfl hx h
theorem d_L_law_1439 : decode code 1439 = .ok (.goto 1312, 3) := by decide +kernel
theorem s_L_law_1439 (h : AP M_L_law b 2751 [x0, x1, x2, x3, x4, x5, x6, x7, x8] st hi g Φ) : AP M_L_law b 1439 [x0, x1, x2, x3, x4, x5, x6, x7, x8] st hi g Φ := AP.goto d_L_law_1439 (by decide) h
theorem d_L_law_1442 : decode code 1442 = .ok (.aload_n 1, 1) := by decide +kernel
theorem s_L_law_1442 {n : Nat} (h : AP M_L_law b 1443 [x0, .ref n, x2, x3, x4, x5, x6, x7, x8] (.ref n :: st) hi g Φ) : AP M_L_law b 1442 [x0, .ref n, x2, x3, x4, x5, x6, x7, x8] (st) hi g Φ := AP.aload_n (x := n) (i := 1) d_L_law_1442 rfl rfl h
theorem d_L_law_1443 : decode code 1443 = .ok (.aload_n 0, 1) := by decide +kernel
theorem s_L_law_1443 {n : Nat} (h : AP M_L_law b 1444 [.ref n, x1, x2, x3, x4, x5, x6, x7, x8] (.ref n :: st) hi g Φ) : AP M_L_law b 1443 [.ref n, x1, x2, x3, x4, x5, x6, x7, x8] (st) hi g Φ := AP.aload_n (x := n) (i := 0) d_L_law_1443 rfl rfl h
theorem d_L_law_1444 : decode code 1444 = .ok (.iload 4, 2) := by decide +kernel
theorem s_L_law_1444 {n : Int32} (h : AP M_L_law b 1446 [x0, x1, x2, x3, .int n, x5, x6, x7, x8] (.int n :: st) hi g Φ) : AP M_L_law b 1444 [x0, x1, x2, x3, .int n, x5, x6, x7, x8] (st) hi g Φ := AP.iload (x := n) (i := 4) d_L_law_1444 rfl h
theorem d_L_law_1446 : decode code 1446 = .ok (.iconst 1, 1) := by decide +kernel
theorem s_L_law_1446 (h : AP M_L_law b 1447 [x0, x1, x2, x3, x4, x5, x6, x7, x8] (.int 1 :: st) hi g Φ) : AP M_L_law b 1446 [x0, x1, x2, x3, x4, x5, x6, x7, x8] (st) hi g Φ := AP.iconst (x := 1) d_L_law_1446 (by decide) h
theorem d_L_law_1447 : decode code 1447 = .ok (.iadd, 1) := by decide +kernel
theorem s_L_law_1447 {x y : Int32} (h : AP M_L_law b 1448 [x0, x1, x2, x3, x4, x5, x6, x7, x8] (.int (x + y) :: st) hi g Φ) : AP M_L_law b 1447 [x0, x1, x2, x3, x4, x5, x6, x7, x8] (.int y :: .int x :: st) hi g Φ := AP.iadd d_L_law_1447 h
theorem d_L_law_1448 : decode code 1448 = .ok (.iaload, 1) := by decide +kernel
theorem s_L_law_1448 {k n j : Nat} {i : Int32} (hI : am_Inv g) (hs : am_SH k = (1, n)) (hk : k < 134) (hn : n < 2 ^ 31) (hx : i = nI j) (hj : j < n) (h : AP M_L_law b 1449 [x0, x1, x2, x3, x4, x5, x6, x7, x8] (.int (hi k j) :: st) hi g Φ) : AP M_L_law b 1448 [x0, x1, x2, x3, x4, x5, x6, x7, x8] (.int i :: .ref k :: st) hi g Φ := AP.iald d_L_law_1448 hs (hI.lt hk) hn hx hj h
theorem d_L_law_1449 : decode code 1449 = .ok (.aload_n 3, 1) := by decide +kernel
theorem s_L_law_1449 {n : Nat} (h : AP M_L_law b 1450 [x0, x1, x2, .ref n, x4, x5, x6, x7, x8] (.ref n :: st) hi g Φ) : AP M_L_law b 1449 [x0, x1, x2, .ref n, x4, x5, x6, x7, x8] (st) hi g Φ := AP.aload_n (x := n) (i := 3) d_L_law_1449 rfl rfl h
theorem d_L_law_1450 : decode code 1450 = .ok (.invokestatic 224, 3) := by decide +kernel
-- s_L_law_1450: a call apart
theorem d_L_law_1453 : decode code 1453 = .ok (.istore 5, 2) := by decide +kernel
theorem s_L_law_1453 {n : Int32} (hc : x4.category = 1) (h : AP M_L_law b 1455 [x0, x1, x2, x3, x4, .int n, x6, x7, x8] (st) hi g Φ) : AP M_L_law b 1453 [x0, x1, x2, x3, x4, x5, x6, x7, x8] (.int n :: st) hi g Φ := AP.istore (x := n) (i := 5) d_L_law_1453 (by decide) (by simp [am_st, am_ci, am_cr, am_cl, am_cd, hc]) h
theorem d_L_law_1455 : decode code 1455 = .ok (.aload_n 2, 1) := by decide +kernel
theorem s_L_law_1455 {n : Nat} (h : AP M_L_law b 1456 [x0, x1, .ref n, x3, x4, x5, x6, x7, x8] (.ref n :: st) hi g Φ) : AP M_L_law b 1455 [x0, x1, .ref n, x3, x4, x5, x6, x7, x8] (st) hi g Φ := AP.aload_n (x := n) (i := 2) d_L_law_1455 rfl rfl h
theorem d_L_law_1456 : decode code 1456 = .ok (.aload_n 0, 1) := by decide +kernel
theorem s_L_law_1456 {n : Nat} (h : AP M_L_law b 1457 [.ref n, x1, x2, x3, x4, x5, x6, x7, x8] (.ref n :: st) hi g Φ) : AP M_L_law b 1456 [.ref n, x1, x2, x3, x4, x5, x6, x7, x8] (st) hi g Φ := AP.aload_n (x := n) (i := 0) d_L_law_1456 rfl rfl h
theorem d_L_law_1457 : decode code 1457 = .ok (.iload 4, 2) := by decide +kernel
theorem s_L_law_1457 {n : Int32} (h : AP M_L_law b 1459 [x0, x1, x2, x3, .int n, x5, x6, x7, x8] (.int n :: st) hi g Φ) : AP M_L_law b 1457 [x0, x1, x2, x3, .int n, x5, x6, x7, x8] (st) hi g Φ := AP.iload (x := n) (i := 4) d_L_law_1457 rfl h
theorem d_L_law_1459 : decode code 1459 = .ok (.iconst 1, 1) := by decide +kernel
theorem s_L_law_1459 (h : AP M_L_law b 1460 [x0, x1, x2, x3, x4, x5, x6, x7, x8] (.int 1 :: st) hi g Φ) : AP M_L_law b 1459 [x0, x1, x2, x3, x4, x5, x6, x7, x8] (st) hi g Φ := AP.iconst (x := 1) d_L_law_1459 (by decide) h
theorem d_L_law_1460 : decode code 1460 = .ok (.iadd, 1) := by decide +kernel
theorem s_L_law_1460 {x y : Int32} (h : AP M_L_law b 1461 [x0, x1, x2, x3, x4, x5, x6, x7, x8] (.int (x + y) :: st) hi g Φ) : AP M_L_law b 1460 [x0, x1, x2, x3, x4, x5, x6, x7, x8] (.int y :: .int x :: st) hi g Φ := AP.iadd d_L_law_1460 h
theorem d_L_law_1461 : decode code 1461 = .ok (.iaload, 1) := by decide +kernel
theorem s_L_law_1461 {k n j : Nat} {i : Int32} (hI : am_Inv g) (hs : am_SH k = (1, n)) (hk : k < 134) (hn : n < 2 ^ 31) (hx : i = nI j) (hj : j < n) (h : AP M_L_law b 1462 [x0, x1, x2, x3, x4, x5, x6, x7, x8] (.int (hi k j) :: st) hi g Φ) : AP M_L_law b 1461 [x0, x1, x2, x3, x4, x5, x6, x7, x8] (.int i :: .ref k :: st) hi g Φ := AP.iald d_L_law_1461 hs (hI.lt hk) hn hx hj h
theorem d_L_law_1462 : decode code 1462 = .ok (.invokevirtual 226, 3) := by decide +kernel
theorem s_L_law_1462 {a0 : Int32} {k : Nat} {r0 : Int32} {P : am_HI → Prop} (hI : am_Inv g) (hs : am_SH k = (0, 10)) (hk : k < 134) (hst : (st.map Value.category).sum ≤ 8) (hc : am_Cr M_X10_sumWithDelay [.ref k, .int a0] hi g (some (.int r0)) P) (h : ∀ hi' : am_HI, P hi' → AP M_L_law b 1465 [x0, x1, x2, x3, x4, x5, x6, x7, x8] (.int r0 :: st) hi' g Φ) : AP M_L_law b 1462 [x0, x1, x2, x3, x4, x5, x6, x7, x8] (.int a0 :: .ref k :: st) hi g Φ := AP.callVr (As := [.int a0]) (q := (RX10, TX10, 15)) hI hc k_L_law_226 d_L_law_1462 rfl hs hk rfl rfl hst h
theorem d_L_law_1465 : decode code 1465 = .ok (.istore 6, 2) := by decide +kernel
theorem s_L_law_1465 {n : Int32} (hc : x5.category = 1) (h : AP M_L_law b 1467 [x0, x1, x2, x3, x4, x5, .int n, x7, x8] (st) hi g Φ) : AP M_L_law b 1465 [x0, x1, x2, x3, x4, x5, x6, x7, x8] (.int n :: st) hi g Φ := AP.istore (x := n) (i := 6) d_L_law_1465 (by decide) (by simp [am_st, am_ci, am_cr, am_cl, am_cd, hc]) h
theorem d_L_law_1467 : decode code 1467 = .ok (.aload_n 2, 1) := by decide +kernel
theorem s_L_law_1467 {n : Nat} (h : AP M_L_law b 1468 [x0, x1, .ref n, x3, x4, x5, x6, x7, x8] (.ref n :: st) hi g Φ) : AP M_L_law b 1467 [x0, x1, .ref n, x3, x4, x5, x6, x7, x8] (st) hi g Φ := AP.aload_n (x := n) (i := 2) d_L_law_1467 rfl rfl h
theorem d_L_law_1468 : decode code 1468 = .ok (.invokevirtual 141, 3) := by decide +kernel
theorem s_L_law_1468  {k : Nat} {r0 : Int32} {P : am_HI → Prop} (hI : am_Inv g) (hs : am_SH k = (0, 10)) (hk : k < 134) (hst : (st.map Value.category).sum ≤ 8) (hc : am_Cr M_X10_thrown [.ref k] hi g (some (.int r0)) P) (h : ∀ hi' : am_HI, P hi' → AP M_L_law b 1471 [x0, x1, x2, x3, x4, x5, x6, x7, x8] (.int r0 :: st) hi' g Φ) : AP M_L_law b 1468 [x0, x1, x2, x3, x4, x5, x6, x7, x8] (.ref k :: st) hi g Φ := AP.callVr (As := []) (q := (RX10, TX10, 15)) hI hc k_L_law_141 d_L_law_1468 rfl hs hk rfl rfl hst h
theorem d_L_law_1471 : decode code 1471 = .ok (.iload 5, 2) := by decide +kernel
theorem s_L_law_1471 {n : Int32} (h : AP M_L_law b 1473 [x0, x1, x2, x3, x4, .int n, x6, x7, x8] (.int n :: st) hi g Φ) : AP M_L_law b 1471 [x0, x1, x2, x3, x4, .int n, x6, x7, x8] (st) hi g Φ := AP.iload (x := n) (i := 5) d_L_law_1471 rfl h
theorem d_L_law_1473 : decode code 1473 = .ok (.if_icmp .eq 5, 3) := by decide +kernel
theorem s_L_law_1473 {x y : Int32} (h1 : x = y → AP M_L_law b 1478 [x0, x1, x2, x3, x4, x5, x6, x7, x8] st hi g Φ) (h2 : ¬ x = y → AP M_L_law b 1476 [x0, x1, x2, x3, x4, x5, x6, x7, x8] st hi g Φ) : AP M_L_law b 1473 [x0, x1, x2, x3, x4, x5, x6, x7, x8] (.int y :: .int x :: st) hi g Φ := AP.icmp_eq d_L_law_1473 (by decide) h1 h2
theorem d_L_law_1476 : decode code 1476 = .ok (.iconst 0, 1) := by decide +kernel
theorem s_L_law_1476 (h : AP M_L_law b 1477 [x0, x1, x2, x3, x4, x5, x6, x7, x8] (.int 0 :: st) hi g Φ) : AP M_L_law b 1476 [x0, x1, x2, x3, x4, x5, x6, x7, x8] (st) hi g Φ := AP.iconst (x := 0) d_L_law_1476 (by decide) h
theorem d_L_law_1477 : decode code 1477 = .ok (.ireturn, 1) := by decide +kernel
theorem s_L_law_1477 {x : Int32} (hx : x = 0 ∨ x = 1) (h : Φ (.ok (some (.int x))) hi g) : AP M_L_law b 1477 [x0, x1, x2, x3, x4, x5, x6, x7, x8] [.int x] hi g Φ := AP.zret d_L_law_1477 rfl hx h
theorem d_L_law_1478 : decode code 1478 = .ok (.iload 5, 2) := by decide +kernel
theorem s_L_law_1478 {n : Int32} (h : AP M_L_law b 1480 [x0, x1, x2, x3, x4, .int n, x6, x7, x8] (.int n :: st) hi g Φ) : AP M_L_law b 1478 [x0, x1, x2, x3, x4, .int n, x6, x7, x8] (st) hi g Φ := AP.iload (x := n) (i := 5) d_L_law_1478 rfl h
theorem d_L_law_1480 : decode code 1480 = .ok (.ifCond .ne 15, 3) := by decide +kernel
theorem s_L_law_1480 {x : Int32} (h1 : ¬ x = 0 → AP M_L_law b 1495 [x0, x1, x2, x3, x4, x5, x6, x7, x8] st hi g Φ) (h2 : x = 0 → AP M_L_law b 1483 [x0, x1, x2, x3, x4, x5, x6, x7, x8] st hi g Φ) : AP M_L_law b 1480 [x0, x1, x2, x3, x4, x5, x6, x7, x8] (.int x :: st) hi g Φ := AP.if_ne d_L_law_1480 (by decide) h1 h2
theorem d_L_law_1483 : decode code 1483 = .ok (.aload_n 3, 1) := by decide +kernel
theorem s_L_law_1483 {n : Nat} (h : AP M_L_law b 1484 [x0, x1, x2, .ref n, x4, x5, x6, x7, x8] (.ref n :: st) hi g Φ) : AP M_L_law b 1483 [x0, x1, x2, .ref n, x4, x5, x6, x7, x8] (st) hi g Φ := AP.aload_n (x := n) (i := 3) d_L_law_1483 rfl rfl h
theorem d_L_law_1484 : decode code 1484 = .ok (.iconst 0, 1) := by decide +kernel
theorem s_L_law_1484 (h : AP M_L_law b 1485 [x0, x1, x2, x3, x4, x5, x6, x7, x8] (.int 0 :: st) hi g Φ) : AP M_L_law b 1484 [x0, x1, x2, x3, x4, x5, x6, x7, x8] (st) hi g Φ := AP.iconst (x := 0) d_L_law_1484 (by decide) h
theorem d_L_law_1485 : decode code 1485 = .ok (.laload, 1) := by decide +kernel
theorem s_L_law_1485 {k n j : Nat} {i : Int32} (hI : am_Inv g) (hs : am_SH k = (4, n)) (hk : k < 134) (hn : n < 2 ^ 31) (hx : i = nI j) (hj : j < n) (h : AP M_L_law b 1486 [x0, x1, x2, x3, x4, x5, x6, x7, x8] (.long (g.2.2 k j) :: st) hi g Φ) : AP M_L_law b 1485 [x0, x1, x2, x3, x4, x5, x6, x7, x8] (.int i :: .ref k :: st) hi g Φ := AP.lald d_L_law_1485 hs (hI.lt hk) hn hx hj h
theorem d_L_law_1486 : decode code 1486 = .ok (.iload 6, 2) := by decide +kernel
theorem s_L_law_1486 {n : Int32} (h : AP M_L_law b 1488 [x0, x1, x2, x3, x4, x5, .int n, x7, x8] (.int n :: st) hi g Φ) : AP M_L_law b 1486 [x0, x1, x2, x3, x4, x5, .int n, x7, x8] (st) hi g Φ := AP.iload (x := n) (i := 6) d_L_law_1486 rfl h
theorem d_L_law_1488 : decode code 1488 = .ok (.i2l, 1) := by decide +kernel
theorem s_L_law_1488 {x : Int32} (h : AP M_L_law b 1489 [x0, x1, x2, x3, x4, x5, x6, x7, x8] (.long x.toInt64 :: st) hi g Φ) : AP M_L_law b 1488 [x0, x1, x2, x3, x4, x5, x6, x7, x8] (.int x :: st) hi g Φ := AP.i2l d_L_law_1488 h
theorem d_L_law_1489 : decode code 1489 = .ok (.lcmp, 1) := by decide +kernel
theorem s_L_law_1489 {x y : Int64} (h : AP M_L_law b 1490 [x0, x1, x2, x3, x4, x5, x6, x7, x8] (.int (lg_cmp x y) :: st) hi g Φ) : AP M_L_law b 1489 [x0, x1, x2, x3, x4, x5, x6, x7, x8] (.long y :: .long x :: st) hi g Φ := AP.lcmp d_L_law_1489 h
theorem d_L_law_1490 : decode code 1490 = .ok (.ifCond .eq 5, 3) := by decide +kernel
theorem s_L_law_1490 {x : Int32} (h1 : x = 0 → AP M_L_law b 1495 [x0, x1, x2, x3, x4, x5, x6, x7, x8] st hi g Φ) (h2 : ¬ x = 0 → AP M_L_law b 1493 [x0, x1, x2, x3, x4, x5, x6, x7, x8] st hi g Φ) : AP M_L_law b 1490 [x0, x1, x2, x3, x4, x5, x6, x7, x8] (.int x :: st) hi g Φ := AP.if_eq d_L_law_1490 (by decide) h1 h2
theorem d_L_law_1493 : decode code 1493 = .ok (.iconst 0, 1) := by decide +kernel
theorem s_L_law_1493 (h : AP M_L_law b 1494 [x0, x1, x2, x3, x4, x5, x6, x7, x8] (.int 0 :: st) hi g Φ) : AP M_L_law b 1493 [x0, x1, x2, x3, x4, x5, x6, x7, x8] (st) hi g Φ := AP.iconst (x := 0) d_L_law_1493 (by decide) h
theorem d_L_law_1494 : decode code 1494 = .ok (.ireturn, 1) := by decide +kernel
theorem s_L_law_1494 {x : Int32} (hx : x = 0 ∨ x = 1) (h : Φ (.ok (some (.int x))) hi g) : AP M_L_law b 1494 [x0, x1, x2, x3, x4, x5, x6, x7, x8] [.int x] hi g Φ := AP.zret d_L_law_1494 rfl hx h
theorem d_L_law_1495 : decode code 1495 = .ok (.goto 1256, 3) := by decide +kernel
theorem s_L_law_1495 (h : AP M_L_law b 2751 [x0, x1, x2, x3, x4, x5, x6, x7, x8] st hi g Φ) : AP M_L_law b 1495 [x0, x1, x2, x3, x4, x5, x6, x7, x8] st hi g Φ := AP.goto d_L_law_1495 (by decide) h
theorem d_L_law_1498 : decode code 1498 = .ok (.aload_n 1, 1) := by decide +kernel
theorem s_L_law_1498 {n : Nat} (h : AP M_L_law b 1499 [x0, .ref n, x2, x3, x4, x5, x6, x7, x8] (.ref n :: st) hi g Φ) : AP M_L_law b 1498 [x0, .ref n, x2, x3, x4, x5, x6, x7, x8] (st) hi g Φ := AP.aload_n (x := n) (i := 1) d_L_law_1498 rfl rfl h
theorem d_L_law_1499 : decode code 1499 = .ok (.invokevirtual 227, 3) := by decide +kernel
theorem s_L_law_1499  {k : Nat} {r0 : Int32} {P : am_HI → Prop} (hI : am_Inv g) (hs : am_SH k = (0, 9)) (hk : k < 134) (hst : (st.map Value.category).sum ≤ 8) (hc : am_Cr M_X9_bestDelay [.ref k] hi g (some (.int r0)) P) (h : ∀ hi' : am_HI, P hi' → AP M_L_law b 1502 [x0, x1, x2, x3, x4, x5, x6, x7, x8] (.int r0 :: st) hi' g Φ) : AP M_L_law b 1499 [x0, x1, x2, x3, x4, x5, x6, x7, x8] (.ref k :: st) hi g Φ := AP.callVr (As := []) (q := (RX9, TX9, 7)) hI hc k_L_law_227 d_L_law_1499 rfl hs hk rfl rfl hst h
theorem d_L_law_1502 : decode code 1502 = .ok (.aload_n 2, 1) := by decide +kernel
theorem s_L_law_1502 {n : Nat} (h : AP M_L_law b 1503 [x0, x1, .ref n, x3, x4, x5, x6, x7, x8] (.ref n :: st) hi g Φ) : AP M_L_law b 1502 [x0, x1, .ref n, x3, x4, x5, x6, x7, x8] (st) hi g Φ := AP.aload_n (x := n) (i := 2) d_L_law_1502 rfl rfl h
theorem d_L_law_1503 : decode code 1503 = .ok (.invokevirtual 230, 3) := by decide +kernel
theorem s_L_law_1503  {k : Nat} {r0 : Int32} {P : am_HI → Prop} (hI : am_Inv g) (hs : am_SH k = (0, 10)) (hk : k < 134) (hst : (st.map Value.category).sum ≤ 8) (hc : am_Cr M_X10_bestDelay [.ref k] hi g (some (.int r0)) P) (h : ∀ hi' : am_HI, P hi' → AP M_L_law b 1506 [x0, x1, x2, x3, x4, x5, x6, x7, x8] (.int r0 :: st) hi' g Φ) : AP M_L_law b 1503 [x0, x1, x2, x3, x4, x5, x6, x7, x8] (.ref k :: st) hi g Φ := AP.callVr (As := []) (q := (RX10, TX10, 15)) hI hc k_L_law_230 d_L_law_1503 rfl hs hk rfl rfl hst h
theorem d_L_law_1506 : decode code 1506 = .ok (.if_icmp .eq 1245, 3) := by decide +kernel
theorem s_L_law_1506 {x y : Int32} (h1 : x = y → AP M_L_law b 2751 [x0, x1, x2, x3, x4, x5, x6, x7, x8] st hi g Φ) (h2 : ¬ x = y → AP M_L_law b 1509 [x0, x1, x2, x3, x4, x5, x6, x7, x8] st hi g Φ) : AP M_L_law b 1506 [x0, x1, x2, x3, x4, x5, x6, x7, x8] (.int y :: .int x :: st) hi g Φ := AP.icmp_eq d_L_law_1506 (by decide) h1 h2
theorem d_L_law_1509 : decode code 1509 = .ok (.iconst 0, 1) := by decide +kernel
theorem s_L_law_1509 (h : AP M_L_law b 1510 [x0, x1, x2, x3, x4, x5, x6, x7, x8] (.int 0 :: st) hi g Φ) : AP M_L_law b 1509 [x0, x1, x2, x3, x4, x5, x6, x7, x8] (st) hi g Φ := AP.iconst (x := 0) d_L_law_1509 (by decide) h
theorem d_L_law_1510 : decode code 1510 = .ok (.ireturn, 1) := by decide +kernel
theorem s_L_law_1510 {x : Int32} (hx : x = 0 ∨ x = 1) (h : Φ (.ok (some (.int x))) hi g) : AP M_L_law b 1510 [x0, x1, x2, x3, x4, x5, x6, x7, x8] [.int x] hi g Φ := AP.zret d_L_law_1510 rfl hx h
theorem d_L_law_1511 : decode code 1511 = .ok (.aload_n 1, 1) := by decide +kernel
theorem s_L_law_1511 {n : Nat} (h : AP M_L_law b 1512 [x0, .ref n, x2, x3, x4, x5, x6, x7, x8] (.ref n :: st) hi g Φ) : AP M_L_law b 1511 [x0, .ref n, x2, x3, x4, x5, x6, x7, x8] (st) hi g Φ := AP.aload_n (x := n) (i := 1) d_L_law_1511 rfl rfl h
theorem d_L_law_1512 : decode code 1512 = .ok (.invokevirtual 231, 3) := by decide +kernel
theorem s_L_law_1512  {k : Nat} {r0 : Int32} {P : am_HI → Prop} (hI : am_Inv g) (hs : am_SH k = (0, 9)) (hk : k < 134) (hst : (st.map Value.category).sum ≤ 8) (hc : am_Cr M_X9_bestSpeed [.ref k] hi g (some (.int r0)) P) (h : ∀ hi' : am_HI, P hi' → AP M_L_law b 1515 [x0, x1, x2, x3, x4, x5, x6, x7, x8] (.int r0 :: st) hi' g Φ) : AP M_L_law b 1512 [x0, x1, x2, x3, x4, x5, x6, x7, x8] (.ref k :: st) hi g Φ := AP.callVr (As := []) (q := (RX9, TX9, 7)) hI hc k_L_law_231 d_L_law_1512 rfl hs hk rfl rfl hst h
theorem d_L_law_1515 : decode code 1515 = .ok (.aload_n 2, 1) := by decide +kernel
theorem s_L_law_1515 {n : Nat} (h : AP M_L_law b 1516 [x0, x1, .ref n, x3, x4, x5, x6, x7, x8] (.ref n :: st) hi g Φ) : AP M_L_law b 1515 [x0, x1, .ref n, x3, x4, x5, x6, x7, x8] (st) hi g Φ := AP.aload_n (x := n) (i := 2) d_L_law_1515 rfl rfl h
theorem d_L_law_1516 : decode code 1516 = .ok (.invokevirtual 234, 3) := by decide +kernel
theorem s_L_law_1516  {k : Nat} {r0 : Int32} {P : am_HI → Prop} (hI : am_Inv g) (hs : am_SH k = (0, 10)) (hk : k < 134) (hst : (st.map Value.category).sum ≤ 8) (hc : am_Cr M_X10_bestSpeed [.ref k] hi g (some (.int r0)) P) (h : ∀ hi' : am_HI, P hi' → AP M_L_law b 1519 [x0, x1, x2, x3, x4, x5, x6, x7, x8] (.int r0 :: st) hi' g Φ) : AP M_L_law b 1516 [x0, x1, x2, x3, x4, x5, x6, x7, x8] (.ref k :: st) hi g Φ := AP.callVr (As := []) (q := (RX10, TX10, 15)) hI hc k_L_law_234 d_L_law_1516 rfl hs hk rfl rfl hst h
theorem d_L_law_1519 : decode code 1519 = .ok (.if_icmp .eq 1232, 3) := by decide +kernel
theorem s_L_law_1519 {x y : Int32} (h1 : x = y → AP M_L_law b 2751 [x0, x1, x2, x3, x4, x5, x6, x7, x8] st hi g Φ) (h2 : ¬ x = y → AP M_L_law b 1522 [x0, x1, x2, x3, x4, x5, x6, x7, x8] st hi g Φ) : AP M_L_law b 1519 [x0, x1, x2, x3, x4, x5, x6, x7, x8] (.int y :: .int x :: st) hi g Φ := AP.icmp_eq d_L_law_1519 (by decide) h1 h2
theorem d_L_law_1522 : decode code 1522 = .ok (.iconst 0, 1) := by decide +kernel
theorem s_L_law_1522 (h : AP M_L_law b 1523 [x0, x1, x2, x3, x4, x5, x6, x7, x8] (.int 0 :: st) hi g Φ) : AP M_L_law b 1522 [x0, x1, x2, x3, x4, x5, x6, x7, x8] (st) hi g Φ := AP.iconst (x := 0) d_L_law_1522 (by decide) h
theorem d_L_law_1523 : decode code 1523 = .ok (.ireturn, 1) := by decide +kernel
theorem s_L_law_1523 {x : Int32} (hx : x = 0 ∨ x = 1) (h : Φ (.ok (some (.int x))) hi g) : AP M_L_law b 1523 [x0, x1, x2, x3, x4, x5, x6, x7, x8] [.int x] hi g Φ := AP.zret d_L_law_1523 rfl hx h
theorem d_L_law_1524 : decode code 1524 = .ok (.aload_n 1, 1) := by decide +kernel
theorem s_L_law_1524 {n : Nat} (h : AP M_L_law b 1525 [x0, .ref n, x2, x3, x4, x5, x6, x7, x8] (.ref n :: st) hi g Φ) : AP M_L_law b 1524 [x0, .ref n, x2, x3, x4, x5, x6, x7, x8] (st) hi g Φ := AP.aload_n (x := n) (i := 1) d_L_law_1524 rfl rfl h
theorem d_L_law_1525 : decode code 1525 = .ok (.aload_n 0, 1) := by decide +kernel
theorem s_L_law_1525 {n : Nat} (h : AP M_L_law b 1526 [.ref n, x1, x2, x3, x4, x5, x6, x7, x8] (.ref n :: st) hi g Φ) : AP M_L_law b 1525 [.ref n, x1, x2, x3, x4, x5, x6, x7, x8] (st) hi g Φ := AP.aload_n (x := n) (i := 0) d_L_law_1525 rfl rfl h
theorem d_L_law_1526 : decode code 1526 = .ok (.iload 4, 2) := by decide +kernel
theorem s_L_law_1526 {n : Int32} (h : AP M_L_law b 1528 [x0, x1, x2, x3, .int n, x5, x6, x7, x8] (.int n :: st) hi g Φ) : AP M_L_law b 1526 [x0, x1, x2, x3, .int n, x5, x6, x7, x8] (st) hi g Φ := AP.iload (x := n) (i := 4) d_L_law_1526 rfl h
theorem d_L_law_1528 : decode code 1528 = .ok (.iconst 1, 1) := by decide +kernel
theorem s_L_law_1528 (h : AP M_L_law b 1529 [x0, x1, x2, x3, x4, x5, x6, x7, x8] (.int 1 :: st) hi g Φ) : AP M_L_law b 1528 [x0, x1, x2, x3, x4, x5, x6, x7, x8] (st) hi g Φ := AP.iconst (x := 1) d_L_law_1528 (by decide) h
theorem d_L_law_1529 : decode code 1529 = .ok (.iadd, 1) := by decide +kernel
theorem s_L_law_1529 {x y : Int32} (h : AP M_L_law b 1530 [x0, x1, x2, x3, x4, x5, x6, x7, x8] (.int (x + y) :: st) hi g Φ) : AP M_L_law b 1529 [x0, x1, x2, x3, x4, x5, x6, x7, x8] (.int y :: .int x :: st) hi g Φ := AP.iadd d_L_law_1529 h
theorem d_L_law_1530 : decode code 1530 = .ok (.iaload, 1) := by decide +kernel
theorem s_L_law_1530 {k n j : Nat} {i : Int32} (hI : am_Inv g) (hs : am_SH k = (1, n)) (hk : k < 134) (hn : n < 2 ^ 31) (hx : i = nI j) (hj : j < n) (h : AP M_L_law b 1531 [x0, x1, x2, x3, x4, x5, x6, x7, x8] (.int (hi k j) :: st) hi g Φ) : AP M_L_law b 1530 [x0, x1, x2, x3, x4, x5, x6, x7, x8] (.int i :: .ref k :: st) hi g Φ := AP.iald d_L_law_1530 hs (hI.lt hk) hn hx hj h
theorem d_L_law_1531 : decode code 1531 = .ok (.aload_n 3, 1) := by decide +kernel
theorem s_L_law_1531 {n : Nat} (h : AP M_L_law b 1532 [x0, x1, x2, .ref n, x4, x5, x6, x7, x8] (.ref n :: st) hi g Φ) : AP M_L_law b 1531 [x0, x1, x2, .ref n, x4, x5, x6, x7, x8] (st) hi g Φ := AP.aload_n (x := n) (i := 3) d_L_law_1531 rfl rfl h
theorem d_L_law_1532 : decode code 1532 = .ok (.invokestatic 235, 3) := by decide +kernel
-- s_L_law_1532: a call apart
theorem d_L_law_1535 : decode code 1535 = .ok (.istore 5, 2) := by decide +kernel
theorem s_L_law_1535 {n : Int32} (hc : x4.category = 1) (h : AP M_L_law b 1537 [x0, x1, x2, x3, x4, .int n, x6, x7, x8] (st) hi g Φ) : AP M_L_law b 1535 [x0, x1, x2, x3, x4, x5, x6, x7, x8] (.int n :: st) hi g Φ := AP.istore (x := n) (i := 5) d_L_law_1535 (by decide) (by simp [am_st, am_ci, am_cr, am_cl, am_cd, hc]) h
theorem d_L_law_1537 : decode code 1537 = .ok (.aload_n 2, 1) := by decide +kernel
theorem s_L_law_1537 {n : Nat} (h : AP M_L_law b 1538 [x0, x1, .ref n, x3, x4, x5, x6, x7, x8] (.ref n :: st) hi g Φ) : AP M_L_law b 1537 [x0, x1, .ref n, x3, x4, x5, x6, x7, x8] (st) hi g Φ := AP.aload_n (x := n) (i := 2) d_L_law_1537 rfl rfl h
theorem d_L_law_1538 : decode code 1538 = .ok (.aload_n 0, 1) := by decide +kernel
theorem s_L_law_1538 {n : Nat} (h : AP M_L_law b 1539 [.ref n, x1, x2, x3, x4, x5, x6, x7, x8] (.ref n :: st) hi g Φ) : AP M_L_law b 1538 [.ref n, x1, x2, x3, x4, x5, x6, x7, x8] (st) hi g Φ := AP.aload_n (x := n) (i := 0) d_L_law_1538 rfl rfl h
theorem d_L_law_1539 : decode code 1539 = .ok (.iload 4, 2) := by decide +kernel
theorem s_L_law_1539 {n : Int32} (h : AP M_L_law b 1541 [x0, x1, x2, x3, .int n, x5, x6, x7, x8] (.int n :: st) hi g Φ) : AP M_L_law b 1539 [x0, x1, x2, x3, .int n, x5, x6, x7, x8] (st) hi g Φ := AP.iload (x := n) (i := 4) d_L_law_1539 rfl h
theorem d_L_law_1541 : decode code 1541 = .ok (.iconst 1, 1) := by decide +kernel
theorem s_L_law_1541 (h : AP M_L_law b 1542 [x0, x1, x2, x3, x4, x5, x6, x7, x8] (.int 1 :: st) hi g Φ) : AP M_L_law b 1541 [x0, x1, x2, x3, x4, x5, x6, x7, x8] (st) hi g Φ := AP.iconst (x := 1) d_L_law_1541 (by decide) h
theorem d_L_law_1542 : decode code 1542 = .ok (.iadd, 1) := by decide +kernel
theorem s_L_law_1542 {x y : Int32} (h : AP M_L_law b 1543 [x0, x1, x2, x3, x4, x5, x6, x7, x8] (.int (x + y) :: st) hi g Φ) : AP M_L_law b 1542 [x0, x1, x2, x3, x4, x5, x6, x7, x8] (.int y :: .int x :: st) hi g Φ := AP.iadd d_L_law_1542 h
theorem d_L_law_1543 : decode code 1543 = .ok (.iaload, 1) := by decide +kernel
theorem s_L_law_1543 {k n j : Nat} {i : Int32} (hI : am_Inv g) (hs : am_SH k = (1, n)) (hk : k < 134) (hn : n < 2 ^ 31) (hx : i = nI j) (hj : j < n) (h : AP M_L_law b 1544 [x0, x1, x2, x3, x4, x5, x6, x7, x8] (.int (hi k j) :: st) hi g Φ) : AP M_L_law b 1543 [x0, x1, x2, x3, x4, x5, x6, x7, x8] (.int i :: .ref k :: st) hi g Φ := AP.iald d_L_law_1543 hs (hI.lt hk) hn hx hj h
theorem d_L_law_1544 : decode code 1544 = .ok (.invokevirtual 237, 3) := by decide +kernel
theorem s_L_law_1544 {a0 : Int32} {k : Nat} {r0 : Int32} {P : am_HI → Prop} (hI : am_Inv g) (hs : am_SH k = (0, 10)) (hk : k < 134) (hst : (st.map Value.category).sum ≤ 8) (hc : am_Cr M_X10_bestFirst [.ref k, .int a0] hi g (some (.int r0)) P) (h : ∀ hi' : am_HI, P hi' → AP M_L_law b 1547 [x0, x1, x2, x3, x4, x5, x6, x7, x8] (.int r0 :: st) hi' g Φ) : AP M_L_law b 1544 [x0, x1, x2, x3, x4, x5, x6, x7, x8] (.int a0 :: .ref k :: st) hi g Φ := AP.callVr (As := [.int a0]) (q := (RX10, TX10, 15)) hI hc k_L_law_237 d_L_law_1544 rfl hs hk rfl rfl hst h
theorem d_L_law_1547 : decode code 1547 = .ok (.istore 6, 2) := by decide +kernel
theorem s_L_law_1547 {n : Int32} (hc : x5.category = 1) (h : AP M_L_law b 1549 [x0, x1, x2, x3, x4, x5, .int n, x7, x8] (st) hi g Φ) : AP M_L_law b 1547 [x0, x1, x2, x3, x4, x5, x6, x7, x8] (.int n :: st) hi g Φ := AP.istore (x := n) (i := 6) d_L_law_1547 (by decide) (by simp [am_st, am_ci, am_cr, am_cl, am_cd, hc]) h
theorem d_L_law_1549 : decode code 1549 = .ok (.aload_n 2, 1) := by decide +kernel
theorem s_L_law_1549 {n : Nat} (h : AP M_L_law b 1550 [x0, x1, .ref n, x3, x4, x5, x6, x7, x8] (.ref n :: st) hi g Φ) : AP M_L_law b 1549 [x0, x1, .ref n, x3, x4, x5, x6, x7, x8] (st) hi g Φ := AP.aload_n (x := n) (i := 2) d_L_law_1549 rfl rfl h
theorem d_L_law_1550 : decode code 1550 = .ok (.invokevirtual 141, 3) := by decide +kernel
theorem s_L_law_1550  {k : Nat} {r0 : Int32} {P : am_HI → Prop} (hI : am_Inv g) (hs : am_SH k = (0, 10)) (hk : k < 134) (hst : (st.map Value.category).sum ≤ 8) (hc : am_Cr M_X10_thrown [.ref k] hi g (some (.int r0)) P) (h : ∀ hi' : am_HI, P hi' → AP M_L_law b 1553 [x0, x1, x2, x3, x4, x5, x6, x7, x8] (.int r0 :: st) hi' g Φ) : AP M_L_law b 1550 [x0, x1, x2, x3, x4, x5, x6, x7, x8] (.ref k :: st) hi g Φ := AP.callVr (As := []) (q := (RX10, TX10, 15)) hI hc k_L_law_141 d_L_law_1550 rfl hs hk rfl rfl hst h
theorem d_L_law_1553 : decode code 1553 = .ok (.iload 5, 2) := by decide +kernel
theorem s_L_law_1553 {n : Int32} (h : AP M_L_law b 1555 [x0, x1, x2, x3, x4, .int n, x6, x7, x8] (.int n :: st) hi g Φ) : AP M_L_law b 1553 [x0, x1, x2, x3, x4, .int n, x6, x7, x8] (st) hi g Φ := AP.iload (x := n) (i := 5) d_L_law_1553 rfl h
theorem d_L_law_1555 : decode code 1555 = .ok (.if_icmp .eq 5, 3) := by decide +kernel
theorem s_L_law_1555 {x y : Int32} (h1 : x = y → AP M_L_law b 1560 [x0, x1, x2, x3, x4, x5, x6, x7, x8] st hi g Φ) (h2 : ¬ x = y → AP M_L_law b 1558 [x0, x1, x2, x3, x4, x5, x6, x7, x8] st hi g Φ) : AP M_L_law b 1555 [x0, x1, x2, x3, x4, x5, x6, x7, x8] (.int y :: .int x :: st) hi g Φ := AP.icmp_eq d_L_law_1555 (by decide) h1 h2
theorem d_L_law_1558 : decode code 1558 = .ok (.iconst 0, 1) := by decide +kernel
theorem s_L_law_1558 (h : AP M_L_law b 1559 [x0, x1, x2, x3, x4, x5, x6, x7, x8] (.int 0 :: st) hi g Φ) : AP M_L_law b 1558 [x0, x1, x2, x3, x4, x5, x6, x7, x8] (st) hi g Φ := AP.iconst (x := 0) d_L_law_1558 (by decide) h
theorem d_L_law_1559 : decode code 1559 = .ok (.ireturn, 1) := by decide +kernel
theorem s_L_law_1559 {x : Int32} (hx : x = 0 ∨ x = 1) (h : Φ (.ok (some (.int x))) hi g) : AP M_L_law b 1559 [x0, x1, x2, x3, x4, x5, x6, x7, x8] [.int x] hi g Φ := AP.zret d_L_law_1559 rfl hx h
theorem d_L_law_1560 : decode code 1560 = .ok (.iload 5, 2) := by decide +kernel
theorem s_L_law_1560 {n : Int32} (h : AP M_L_law b 1562 [x0, x1, x2, x3, x4, .int n, x6, x7, x8] (.int n :: st) hi g Φ) : AP M_L_law b 1560 [x0, x1, x2, x3, x4, .int n, x6, x7, x8] (st) hi g Φ := AP.iload (x := n) (i := 5) d_L_law_1560 rfl h
theorem d_L_law_1562 : decode code 1562 = .ok (.ifCond .ne 15, 3) := by decide +kernel
theorem s_L_law_1562 {x : Int32} (h1 : ¬ x = 0 → AP M_L_law b 1577 [x0, x1, x2, x3, x4, x5, x6, x7, x8] st hi g Φ) (h2 : x = 0 → AP M_L_law b 1565 [x0, x1, x2, x3, x4, x5, x6, x7, x8] st hi g Φ) : AP M_L_law b 1562 [x0, x1, x2, x3, x4, x5, x6, x7, x8] (.int x :: st) hi g Φ := AP.if_ne d_L_law_1562 (by decide) h1 h2
theorem d_L_law_1565 : decode code 1565 = .ok (.aload_n 3, 1) := by decide +kernel
theorem s_L_law_1565 {n : Nat} (h : AP M_L_law b 1566 [x0, x1, x2, .ref n, x4, x5, x6, x7, x8] (.ref n :: st) hi g Φ) : AP M_L_law b 1565 [x0, x1, x2, .ref n, x4, x5, x6, x7, x8] (st) hi g Φ := AP.aload_n (x := n) (i := 3) d_L_law_1565 rfl rfl h
theorem d_L_law_1566 : decode code 1566 = .ok (.iconst 0, 1) := by decide +kernel
theorem s_L_law_1566 (h : AP M_L_law b 1567 [x0, x1, x2, x3, x4, x5, x6, x7, x8] (.int 0 :: st) hi g Φ) : AP M_L_law b 1566 [x0, x1, x2, x3, x4, x5, x6, x7, x8] (st) hi g Φ := AP.iconst (x := 0) d_L_law_1566 (by decide) h
theorem d_L_law_1567 : decode code 1567 = .ok (.laload, 1) := by decide +kernel
theorem s_L_law_1567 {k n j : Nat} {i : Int32} (hI : am_Inv g) (hs : am_SH k = (4, n)) (hk : k < 134) (hn : n < 2 ^ 31) (hx : i = nI j) (hj : j < n) (h : AP M_L_law b 1568 [x0, x1, x2, x3, x4, x5, x6, x7, x8] (.long (g.2.2 k j) :: st) hi g Φ) : AP M_L_law b 1567 [x0, x1, x2, x3, x4, x5, x6, x7, x8] (.int i :: .ref k :: st) hi g Φ := AP.lald d_L_law_1567 hs (hI.lt hk) hn hx hj h
theorem d_L_law_1568 : decode code 1568 = .ok (.iload 6, 2) := by decide +kernel
theorem s_L_law_1568 {n : Int32} (h : AP M_L_law b 1570 [x0, x1, x2, x3, x4, x5, .int n, x7, x8] (.int n :: st) hi g Φ) : AP M_L_law b 1568 [x0, x1, x2, x3, x4, x5, .int n, x7, x8] (st) hi g Φ := AP.iload (x := n) (i := 6) d_L_law_1568 rfl h
theorem d_L_law_1570 : decode code 1570 = .ok (.i2l, 1) := by decide +kernel
theorem s_L_law_1570 {x : Int32} (h : AP M_L_law b 1571 [x0, x1, x2, x3, x4, x5, x6, x7, x8] (.long x.toInt64 :: st) hi g Φ) : AP M_L_law b 1570 [x0, x1, x2, x3, x4, x5, x6, x7, x8] (.int x :: st) hi g Φ := AP.i2l d_L_law_1570 h
theorem d_L_law_1571 : decode code 1571 = .ok (.lcmp, 1) := by decide +kernel
theorem s_L_law_1571 {x y : Int64} (h : AP M_L_law b 1572 [x0, x1, x2, x3, x4, x5, x6, x7, x8] (.int (lg_cmp x y) :: st) hi g Φ) : AP M_L_law b 1571 [x0, x1, x2, x3, x4, x5, x6, x7, x8] (.long y :: .long x :: st) hi g Φ := AP.lcmp d_L_law_1571 h
theorem d_L_law_1572 : decode code 1572 = .ok (.ifCond .eq 5, 3) := by decide +kernel
theorem s_L_law_1572 {x : Int32} (h1 : x = 0 → AP M_L_law b 1577 [x0, x1, x2, x3, x4, x5, x6, x7, x8] st hi g Φ) (h2 : ¬ x = 0 → AP M_L_law b 1575 [x0, x1, x2, x3, x4, x5, x6, x7, x8] st hi g Φ) : AP M_L_law b 1572 [x0, x1, x2, x3, x4, x5, x6, x7, x8] (.int x :: st) hi g Φ := AP.if_eq d_L_law_1572 (by decide) h1 h2
theorem d_L_law_1575 : decode code 1575 = .ok (.iconst 0, 1) := by decide +kernel
theorem s_L_law_1575 (h : AP M_L_law b 1576 [x0, x1, x2, x3, x4, x5, x6, x7, x8] (.int 0 :: st) hi g Φ) : AP M_L_law b 1575 [x0, x1, x2, x3, x4, x5, x6, x7, x8] (st) hi g Φ := AP.iconst (x := 0) d_L_law_1575 (by decide) h
theorem d_L_law_1576 : decode code 1576 = .ok (.ireturn, 1) := by decide +kernel
theorem s_L_law_1576 {x : Int32} (hx : x = 0 ∨ x = 1) (h : Φ (.ok (some (.int x))) hi g) : AP M_L_law b 1576 [x0, x1, x2, x3, x4, x5, x6, x7, x8] [.int x] hi g Φ := AP.zret d_L_law_1576 rfl hx h
theorem d_L_law_1577 : decode code 1577 = .ok (.goto 1174, 3) := by decide +kernel
theorem s_L_law_1577 (h : AP M_L_law b 2751 [x0, x1, x2, x3, x4, x5, x6, x7, x8] st hi g Φ) : AP M_L_law b 1577 [x0, x1, x2, x3, x4, x5, x6, x7, x8] st hi g Φ := AP.goto d_L_law_1577 (by decide) h
theorem d_L_law_1580 : decode code 1580 = .ok (.aload_n 1, 1) := by decide +kernel
theorem s_L_law_1580 {n : Nat} (h : AP M_L_law b 1581 [x0, .ref n, x2, x3, x4, x5, x6, x7, x8] (.ref n :: st) hi g Φ) : AP M_L_law b 1580 [x0, .ref n, x2, x3, x4, x5, x6, x7, x8] (st) hi g Φ := AP.aload_n (x := n) (i := 1) d_L_law_1580 rfl rfl h
theorem d_L_law_1581 : decode code 1581 = .ok (.aload_n 0, 1) := by decide +kernel
theorem s_L_law_1581 {n : Nat} (h : AP M_L_law b 1582 [.ref n, x1, x2, x3, x4, x5, x6, x7, x8] (.ref n :: st) hi g Φ) : AP M_L_law b 1581 [.ref n, x1, x2, x3, x4, x5, x6, x7, x8] (st) hi g Φ := AP.aload_n (x := n) (i := 0) d_L_law_1581 rfl rfl h
theorem d_L_law_1582 : decode code 1582 = .ok (.iload 4, 2) := by decide +kernel
theorem s_L_law_1582 {n : Int32} (h : AP M_L_law b 1584 [x0, x1, x2, x3, .int n, x5, x6, x7, x8] (.int n :: st) hi g Φ) : AP M_L_law b 1582 [x0, x1, x2, x3, .int n, x5, x6, x7, x8] (st) hi g Φ := AP.iload (x := n) (i := 4) d_L_law_1582 rfl h
theorem d_L_law_1584 : decode code 1584 = .ok (.iconst 1, 1) := by decide +kernel
theorem s_L_law_1584 (h : AP M_L_law b 1585 [x0, x1, x2, x3, x4, x5, x6, x7, x8] (.int 1 :: st) hi g Φ) : AP M_L_law b 1584 [x0, x1, x2, x3, x4, x5, x6, x7, x8] (st) hi g Φ := AP.iconst (x := 1) d_L_law_1584 (by decide) h
theorem d_L_law_1585 : decode code 1585 = .ok (.iadd, 1) := by decide +kernel
theorem s_L_law_1585 {x y : Int32} (h : AP M_L_law b 1586 [x0, x1, x2, x3, x4, x5, x6, x7, x8] (.int (x + y) :: st) hi g Φ) : AP M_L_law b 1585 [x0, x1, x2, x3, x4, x5, x6, x7, x8] (.int y :: .int x :: st) hi g Φ := AP.iadd d_L_law_1585 h
theorem d_L_law_1586 : decode code 1586 = .ok (.iaload, 1) := by decide +kernel
theorem s_L_law_1586 {k n j : Nat} {i : Int32} (hI : am_Inv g) (hs : am_SH k = (1, n)) (hk : k < 134) (hn : n < 2 ^ 31) (hx : i = nI j) (hj : j < n) (h : AP M_L_law b 1587 [x0, x1, x2, x3, x4, x5, x6, x7, x8] (.int (hi k j) :: st) hi g Φ) : AP M_L_law b 1586 [x0, x1, x2, x3, x4, x5, x6, x7, x8] (.int i :: .ref k :: st) hi g Φ := AP.iald d_L_law_1586 hs (hI.lt hk) hn hx hj h
theorem d_L_law_1587 : decode code 1587 = .ok (.aload_n 0, 1) := by decide +kernel
theorem s_L_law_1587 {n : Nat} (h : AP M_L_law b 1588 [.ref n, x1, x2, x3, x4, x5, x6, x7, x8] (.ref n :: st) hi g Φ) : AP M_L_law b 1587 [.ref n, x1, x2, x3, x4, x5, x6, x7, x8] (st) hi g Φ := AP.aload_n (x := n) (i := 0) d_L_law_1587 rfl rfl h
theorem d_L_law_1588 : decode code 1588 = .ok (.iload 4, 2) := by decide +kernel
theorem s_L_law_1588 {n : Int32} (h : AP M_L_law b 1590 [x0, x1, x2, x3, .int n, x5, x6, x7, x8] (.int n :: st) hi g Φ) : AP M_L_law b 1588 [x0, x1, x2, x3, .int n, x5, x6, x7, x8] (st) hi g Φ := AP.iload (x := n) (i := 4) d_L_law_1588 rfl h
theorem d_L_law_1590 : decode code 1590 = .ok (.iconst 2, 1) := by decide +kernel
theorem s_L_law_1590 (h : AP M_L_law b 1591 [x0, x1, x2, x3, x4, x5, x6, x7, x8] (.int 2 :: st) hi g Φ) : AP M_L_law b 1590 [x0, x1, x2, x3, x4, x5, x6, x7, x8] (st) hi g Φ := AP.iconst (x := 2) d_L_law_1590 (by decide) h
theorem d_L_law_1591 : decode code 1591 = .ok (.iadd, 1) := by decide +kernel
theorem s_L_law_1591 {x y : Int32} (h : AP M_L_law b 1592 [x0, x1, x2, x3, x4, x5, x6, x7, x8] (.int (x + y) :: st) hi g Φ) : AP M_L_law b 1591 [x0, x1, x2, x3, x4, x5, x6, x7, x8] (.int y :: .int x :: st) hi g Φ := AP.iadd d_L_law_1591 h
theorem d_L_law_1592 : decode code 1592 = .ok (.iaload, 1) := by decide +kernel
theorem s_L_law_1592 {k n j : Nat} {i : Int32} (hI : am_Inv g) (hs : am_SH k = (1, n)) (hk : k < 134) (hn : n < 2 ^ 31) (hx : i = nI j) (hj : j < n) (h : AP M_L_law b 1593 [x0, x1, x2, x3, x4, x5, x6, x7, x8] (.int (hi k j) :: st) hi g Φ) : AP M_L_law b 1592 [x0, x1, x2, x3, x4, x5, x6, x7, x8] (.int i :: .ref k :: st) hi g Φ := AP.iald d_L_law_1592 hs (hI.lt hk) hn hx hj h
theorem d_L_law_1593 : decode code 1593 = .ok (.aload_n 0, 1) := by decide +kernel
theorem s_L_law_1593 {n : Nat} (h : AP M_L_law b 1594 [.ref n, x1, x2, x3, x4, x5, x6, x7, x8] (.ref n :: st) hi g Φ) : AP M_L_law b 1593 [.ref n, x1, x2, x3, x4, x5, x6, x7, x8] (st) hi g Φ := AP.aload_n (x := n) (i := 0) d_L_law_1593 rfl rfl h
theorem d_L_law_1594 : decode code 1594 = .ok (.iload 4, 2) := by decide +kernel
theorem s_L_law_1594 {n : Int32} (h : AP M_L_law b 1596 [x0, x1, x2, x3, .int n, x5, x6, x7, x8] (.int n :: st) hi g Φ) : AP M_L_law b 1594 [x0, x1, x2, x3, .int n, x5, x6, x7, x8] (st) hi g Φ := AP.iload (x := n) (i := 4) d_L_law_1594 rfl h
theorem d_L_law_1596 : decode code 1596 = .ok (.iconst 3, 1) := by decide +kernel
theorem s_L_law_1596 (h : AP M_L_law b 1597 [x0, x1, x2, x3, x4, x5, x6, x7, x8] (.int 3 :: st) hi g Φ) : AP M_L_law b 1596 [x0, x1, x2, x3, x4, x5, x6, x7, x8] (st) hi g Φ := AP.iconst (x := 3) d_L_law_1596 (by decide) h
theorem d_L_law_1597 : decode code 1597 = .ok (.iadd, 1) := by decide +kernel
theorem s_L_law_1597 {x y : Int32} (h : AP M_L_law b 1598 [x0, x1, x2, x3, x4, x5, x6, x7, x8] (.int (x + y) :: st) hi g Φ) : AP M_L_law b 1597 [x0, x1, x2, x3, x4, x5, x6, x7, x8] (.int y :: .int x :: st) hi g Φ := AP.iadd d_L_law_1597 h
theorem d_L_law_1598 : decode code 1598 = .ok (.iaload, 1) := by decide +kernel
theorem s_L_law_1598 {k n j : Nat} {i : Int32} (hI : am_Inv g) (hs : am_SH k = (1, n)) (hk : k < 134) (hn : n < 2 ^ 31) (hx : i = nI j) (hj : j < n) (h : AP M_L_law b 1599 [x0, x1, x2, x3, x4, x5, x6, x7, x8] (.int (hi k j) :: st) hi g Φ) : AP M_L_law b 1598 [x0, x1, x2, x3, x4, x5, x6, x7, x8] (.int i :: .ref k :: st) hi g Φ := AP.iald d_L_law_1598 hs (hI.lt hk) hn hx hj h
theorem d_L_law_1599 : decode code 1599 = .ok (.aload_n 3, 1) := by decide +kernel
theorem s_L_law_1599 {n : Nat} (h : AP M_L_law b 1600 [x0, x1, x2, .ref n, x4, x5, x6, x7, x8] (.ref n :: st) hi g Φ) : AP M_L_law b 1599 [x0, x1, x2, .ref n, x4, x5, x6, x7, x8] (st) hi g Φ := AP.aload_n (x := n) (i := 3) d_L_law_1599 rfl rfl h
theorem d_L_law_1600 : decode code 1600 = .ok (.invokestatic 238, 3) := by decide +kernel
-- s_L_law_1600: a call apart
theorem d_L_law_1603 : decode code 1603 = .ok (.istore 5, 2) := by decide +kernel
theorem s_L_law_1603 {n : Int32} (hc : x4.category = 1) (h : AP M_L_law b 1605 [x0, x1, x2, x3, x4, .int n, x6, x7, x8] (st) hi g Φ) : AP M_L_law b 1603 [x0, x1, x2, x3, x4, x5, x6, x7, x8] (.int n :: st) hi g Φ := AP.istore (x := n) (i := 5) d_L_law_1603 (by decide) (by simp [am_st, am_ci, am_cr, am_cl, am_cd, hc]) h
theorem d_L_law_1605 : decode code 1605 = .ok (.aload_n 2, 1) := by decide +kernel
theorem s_L_law_1605 {n : Nat} (h : AP M_L_law b 1606 [x0, x1, .ref n, x3, x4, x5, x6, x7, x8] (.ref n :: st) hi g Φ) : AP M_L_law b 1605 [x0, x1, .ref n, x3, x4, x5, x6, x7, x8] (st) hi g Φ := AP.aload_n (x := n) (i := 2) d_L_law_1605 rfl rfl h
theorem d_L_law_1606 : decode code 1606 = .ok (.aload_n 0, 1) := by decide +kernel
theorem s_L_law_1606 {n : Nat} (h : AP M_L_law b 1607 [.ref n, x1, x2, x3, x4, x5, x6, x7, x8] (.ref n :: st) hi g Φ) : AP M_L_law b 1606 [.ref n, x1, x2, x3, x4, x5, x6, x7, x8] (st) hi g Φ := AP.aload_n (x := n) (i := 0) d_L_law_1606 rfl rfl h
theorem d_L_law_1607 : decode code 1607 = .ok (.iload 4, 2) := by decide +kernel
theorem s_L_law_1607 {n : Int32} (h : AP M_L_law b 1609 [x0, x1, x2, x3, .int n, x5, x6, x7, x8] (.int n :: st) hi g Φ) : AP M_L_law b 1607 [x0, x1, x2, x3, .int n, x5, x6, x7, x8] (st) hi g Φ := AP.iload (x := n) (i := 4) d_L_law_1607 rfl h
theorem d_L_law_1609 : decode code 1609 = .ok (.iconst 1, 1) := by decide +kernel
theorem s_L_law_1609 (h : AP M_L_law b 1610 [x0, x1, x2, x3, x4, x5, x6, x7, x8] (.int 1 :: st) hi g Φ) : AP M_L_law b 1609 [x0, x1, x2, x3, x4, x5, x6, x7, x8] (st) hi g Φ := AP.iconst (x := 1) d_L_law_1609 (by decide) h
theorem d_L_law_1610 : decode code 1610 = .ok (.iadd, 1) := by decide +kernel
theorem s_L_law_1610 {x y : Int32} (h : AP M_L_law b 1611 [x0, x1, x2, x3, x4, x5, x6, x7, x8] (.int (x + y) :: st) hi g Φ) : AP M_L_law b 1610 [x0, x1, x2, x3, x4, x5, x6, x7, x8] (.int y :: .int x :: st) hi g Φ := AP.iadd d_L_law_1610 h
theorem d_L_law_1611 : decode code 1611 = .ok (.iaload, 1) := by decide +kernel
theorem s_L_law_1611 {k n j : Nat} {i : Int32} (hI : am_Inv g) (hs : am_SH k = (1, n)) (hk : k < 134) (hn : n < 2 ^ 31) (hx : i = nI j) (hj : j < n) (h : AP M_L_law b 1612 [x0, x1, x2, x3, x4, x5, x6, x7, x8] (.int (hi k j) :: st) hi g Φ) : AP M_L_law b 1611 [x0, x1, x2, x3, x4, x5, x6, x7, x8] (.int i :: .ref k :: st) hi g Φ := AP.iald d_L_law_1611 hs (hI.lt hk) hn hx hj h
theorem d_L_law_1612 : decode code 1612 = .ok (.aload_n 0, 1) := by decide +kernel
theorem s_L_law_1612 {n : Nat} (h : AP M_L_law b 1613 [.ref n, x1, x2, x3, x4, x5, x6, x7, x8] (.ref n :: st) hi g Φ) : AP M_L_law b 1612 [.ref n, x1, x2, x3, x4, x5, x6, x7, x8] (st) hi g Φ := AP.aload_n (x := n) (i := 0) d_L_law_1612 rfl rfl h
theorem d_L_law_1613 : decode code 1613 = .ok (.iload 4, 2) := by decide +kernel
theorem s_L_law_1613 {n : Int32} (h : AP M_L_law b 1615 [x0, x1, x2, x3, .int n, x5, x6, x7, x8] (.int n :: st) hi g Φ) : AP M_L_law b 1613 [x0, x1, x2, x3, .int n, x5, x6, x7, x8] (st) hi g Φ := AP.iload (x := n) (i := 4) d_L_law_1613 rfl h
theorem d_L_law_1615 : decode code 1615 = .ok (.iconst 2, 1) := by decide +kernel
theorem s_L_law_1615 (h : AP M_L_law b 1616 [x0, x1, x2, x3, x4, x5, x6, x7, x8] (.int 2 :: st) hi g Φ) : AP M_L_law b 1615 [x0, x1, x2, x3, x4, x5, x6, x7, x8] (st) hi g Φ := AP.iconst (x := 2) d_L_law_1615 (by decide) h
theorem d_L_law_1616 : decode code 1616 = .ok (.iadd, 1) := by decide +kernel
theorem s_L_law_1616 {x y : Int32} (h : AP M_L_law b 1617 [x0, x1, x2, x3, x4, x5, x6, x7, x8] (.int (x + y) :: st) hi g Φ) : AP M_L_law b 1616 [x0, x1, x2, x3, x4, x5, x6, x7, x8] (.int y :: .int x :: st) hi g Φ := AP.iadd d_L_law_1616 h
theorem d_L_law_1617 : decode code 1617 = .ok (.iaload, 1) := by decide +kernel
theorem s_L_law_1617 {k n j : Nat} {i : Int32} (hI : am_Inv g) (hs : am_SH k = (1, n)) (hk : k < 134) (hn : n < 2 ^ 31) (hx : i = nI j) (hj : j < n) (h : AP M_L_law b 1618 [x0, x1, x2, x3, x4, x5, x6, x7, x8] (.int (hi k j) :: st) hi g Φ) : AP M_L_law b 1617 [x0, x1, x2, x3, x4, x5, x6, x7, x8] (.int i :: .ref k :: st) hi g Φ := AP.iald d_L_law_1617 hs (hI.lt hk) hn hx hj h
theorem d_L_law_1618 : decode code 1618 = .ok (.aload_n 0, 1) := by decide +kernel
theorem s_L_law_1618 {n : Nat} (h : AP M_L_law b 1619 [.ref n, x1, x2, x3, x4, x5, x6, x7, x8] (.ref n :: st) hi g Φ) : AP M_L_law b 1618 [.ref n, x1, x2, x3, x4, x5, x6, x7, x8] (st) hi g Φ := AP.aload_n (x := n) (i := 0) d_L_law_1618 rfl rfl h
theorem d_L_law_1619 : decode code 1619 = .ok (.iload 4, 2) := by decide +kernel
theorem s_L_law_1619 {n : Int32} (h : AP M_L_law b 1621 [x0, x1, x2, x3, .int n, x5, x6, x7, x8] (.int n :: st) hi g Φ) : AP M_L_law b 1619 [x0, x1, x2, x3, .int n, x5, x6, x7, x8] (st) hi g Φ := AP.iload (x := n) (i := 4) d_L_law_1619 rfl h
theorem d_L_law_1621 : decode code 1621 = .ok (.iconst 3, 1) := by decide +kernel
theorem s_L_law_1621 (h : AP M_L_law b 1622 [x0, x1, x2, x3, x4, x5, x6, x7, x8] (.int 3 :: st) hi g Φ) : AP M_L_law b 1621 [x0, x1, x2, x3, x4, x5, x6, x7, x8] (st) hi g Φ := AP.iconst (x := 3) d_L_law_1621 (by decide) h
theorem d_L_law_1622 : decode code 1622 = .ok (.iadd, 1) := by decide +kernel
theorem s_L_law_1622 {x y : Int32} (h : AP M_L_law b 1623 [x0, x1, x2, x3, x4, x5, x6, x7, x8] (.int (x + y) :: st) hi g Φ) : AP M_L_law b 1622 [x0, x1, x2, x3, x4, x5, x6, x7, x8] (.int y :: .int x :: st) hi g Φ := AP.iadd d_L_law_1622 h
theorem d_L_law_1623 : decode code 1623 = .ok (.iaload, 1) := by decide +kernel
theorem s_L_law_1623 {k n j : Nat} {i : Int32} (hI : am_Inv g) (hs : am_SH k = (1, n)) (hk : k < 134) (hn : n < 2 ^ 31) (hx : i = nI j) (hj : j < n) (h : AP M_L_law b 1624 [x0, x1, x2, x3, x4, x5, x6, x7, x8] (.int (hi k j) :: st) hi g Φ) : AP M_L_law b 1623 [x0, x1, x2, x3, x4, x5, x6, x7, x8] (.int i :: .ref k :: st) hi g Φ := AP.iald d_L_law_1623 hs (hI.lt hk) hn hx hj h
theorem d_L_law_1624 : decode code 1624 = .ok (.invokevirtual 240, 3) := by decide +kernel
theorem s_L_law_1624 {a0 : Int32} {a1 : Int32} {a2 : Int32} {k : Nat} {r0 : Int32} {P : am_HI → Prop} (hI : am_Inv g) (hs : am_SH k = (0, 10)) (hk : k < 134) (hst : (st.map Value.category).sum ≤ 8) (hc : am_Cr M_X10_bitsWith [.ref k, .int a0, .int a1, .int a2] hi g (some (.int r0)) P) (h : ∀ hi' : am_HI, P hi' → AP M_L_law b 1627 [x0, x1, x2, x3, x4, x5, x6, x7, x8] (.int r0 :: st) hi' g Φ) : AP M_L_law b 1624 [x0, x1, x2, x3, x4, x5, x6, x7, x8] (.int a2 :: .int a1 :: .int a0 :: .ref k :: st) hi g Φ := AP.callVr (As := [.int a0, .int a1, .int a2]) (q := (RX10, TX10, 15)) hI hc k_L_law_240 d_L_law_1624 rfl hs hk rfl rfl hst h
theorem d_L_law_1627 : decode code 1627 = .ok (.istore 6, 2) := by decide +kernel
theorem s_L_law_1627 {n : Int32} (hc : x5.category = 1) (h : AP M_L_law b 1629 [x0, x1, x2, x3, x4, x5, .int n, x7, x8] (st) hi g Φ) : AP M_L_law b 1627 [x0, x1, x2, x3, x4, x5, x6, x7, x8] (.int n :: st) hi g Φ := AP.istore (x := n) (i := 6) d_L_law_1627 (by decide) (by simp [am_st, am_ci, am_cr, am_cl, am_cd, hc]) h
theorem d_L_law_1629 : decode code 1629 = .ok (.aload_n 2, 1) := by decide +kernel
theorem s_L_law_1629 {n : Nat} (h : AP M_L_law b 1630 [x0, x1, .ref n, x3, x4, x5, x6, x7, x8] (.ref n :: st) hi g Φ) : AP M_L_law b 1629 [x0, x1, .ref n, x3, x4, x5, x6, x7, x8] (st) hi g Φ := AP.aload_n (x := n) (i := 2) d_L_law_1629 rfl rfl h
theorem d_L_law_1630 : decode code 1630 = .ok (.invokevirtual 141, 3) := by decide +kernel
theorem s_L_law_1630  {k : Nat} {r0 : Int32} {P : am_HI → Prop} (hI : am_Inv g) (hs : am_SH k = (0, 10)) (hk : k < 134) (hst : (st.map Value.category).sum ≤ 8) (hc : am_Cr M_X10_thrown [.ref k] hi g (some (.int r0)) P) (h : ∀ hi' : am_HI, P hi' → AP M_L_law b 1633 [x0, x1, x2, x3, x4, x5, x6, x7, x8] (.int r0 :: st) hi' g Φ) : AP M_L_law b 1630 [x0, x1, x2, x3, x4, x5, x6, x7, x8] (.ref k :: st) hi g Φ := AP.callVr (As := []) (q := (RX10, TX10, 15)) hI hc k_L_law_141 d_L_law_1630 rfl hs hk rfl rfl hst h
theorem d_L_law_1633 : decode code 1633 = .ok (.iload 5, 2) := by decide +kernel
theorem s_L_law_1633 {n : Int32} (h : AP M_L_law b 1635 [x0, x1, x2, x3, x4, .int n, x6, x7, x8] (.int n :: st) hi g Φ) : AP M_L_law b 1633 [x0, x1, x2, x3, x4, .int n, x6, x7, x8] (st) hi g Φ := AP.iload (x := n) (i := 5) d_L_law_1633 rfl h
theorem d_L_law_1635 : decode code 1635 = .ok (.if_icmp .eq 5, 3) := by decide +kernel
theorem s_L_law_1635 {x y : Int32} (h1 : x = y → AP M_L_law b 1640 [x0, x1, x2, x3, x4, x5, x6, x7, x8] st hi g Φ) (h2 : ¬ x = y → AP M_L_law b 1638 [x0, x1, x2, x3, x4, x5, x6, x7, x8] st hi g Φ) : AP M_L_law b 1635 [x0, x1, x2, x3, x4, x5, x6, x7, x8] (.int y :: .int x :: st) hi g Φ := AP.icmp_eq d_L_law_1635 (by decide) h1 h2
theorem d_L_law_1638 : decode code 1638 = .ok (.iconst 0, 1) := by decide +kernel
theorem s_L_law_1638 (h : AP M_L_law b 1639 [x0, x1, x2, x3, x4, x5, x6, x7, x8] (.int 0 :: st) hi g Φ) : AP M_L_law b 1638 [x0, x1, x2, x3, x4, x5, x6, x7, x8] (st) hi g Φ := AP.iconst (x := 0) d_L_law_1638 (by decide) h
theorem d_L_law_1639 : decode code 1639 = .ok (.ireturn, 1) := by decide +kernel
theorem s_L_law_1639 {x : Int32} (hx : x = 0 ∨ x = 1) (h : Φ (.ok (some (.int x))) hi g) : AP M_L_law b 1639 [x0, x1, x2, x3, x4, x5, x6, x7, x8] [.int x] hi g Φ := AP.zret d_L_law_1639 rfl hx h
theorem d_L_law_1640 : decode code 1640 = .ok (.iload 5, 2) := by decide +kernel
theorem s_L_law_1640 {n : Int32} (h : AP M_L_law b 1642 [x0, x1, x2, x3, x4, .int n, x6, x7, x8] (.int n :: st) hi g Φ) : AP M_L_law b 1640 [x0, x1, x2, x3, x4, .int n, x6, x7, x8] (st) hi g Φ := AP.iload (x := n) (i := 5) d_L_law_1640 rfl h
theorem d_L_law_1642 : decode code 1642 = .ok (.ifCond .ne 15, 3) := by decide +kernel
theorem s_L_law_1642 {x : Int32} (h1 : ¬ x = 0 → AP M_L_law b 1657 [x0, x1, x2, x3, x4, x5, x6, x7, x8] st hi g Φ) (h2 : x = 0 → AP M_L_law b 1645 [x0, x1, x2, x3, x4, x5, x6, x7, x8] st hi g Φ) : AP M_L_law b 1642 [x0, x1, x2, x3, x4, x5, x6, x7, x8] (.int x :: st) hi g Φ := AP.if_ne d_L_law_1642 (by decide) h1 h2
theorem d_L_law_1645 : decode code 1645 = .ok (.aload_n 3, 1) := by decide +kernel
theorem s_L_law_1645 {n : Nat} (h : AP M_L_law b 1646 [x0, x1, x2, .ref n, x4, x5, x6, x7, x8] (.ref n :: st) hi g Φ) : AP M_L_law b 1645 [x0, x1, x2, .ref n, x4, x5, x6, x7, x8] (st) hi g Φ := AP.aload_n (x := n) (i := 3) d_L_law_1645 rfl rfl h
theorem d_L_law_1646 : decode code 1646 = .ok (.iconst 0, 1) := by decide +kernel
theorem s_L_law_1646 (h : AP M_L_law b 1647 [x0, x1, x2, x3, x4, x5, x6, x7, x8] (.int 0 :: st) hi g Φ) : AP M_L_law b 1646 [x0, x1, x2, x3, x4, x5, x6, x7, x8] (st) hi g Φ := AP.iconst (x := 0) d_L_law_1646 (by decide) h
theorem d_L_law_1647 : decode code 1647 = .ok (.laload, 1) := by decide +kernel
theorem s_L_law_1647 {k n j : Nat} {i : Int32} (hI : am_Inv g) (hs : am_SH k = (4, n)) (hk : k < 134) (hn : n < 2 ^ 31) (hx : i = nI j) (hj : j < n) (h : AP M_L_law b 1648 [x0, x1, x2, x3, x4, x5, x6, x7, x8] (.long (g.2.2 k j) :: st) hi g Φ) : AP M_L_law b 1647 [x0, x1, x2, x3, x4, x5, x6, x7, x8] (.int i :: .ref k :: st) hi g Φ := AP.lald d_L_law_1647 hs (hI.lt hk) hn hx hj h
theorem d_L_law_1648 : decode code 1648 = .ok (.iload 6, 2) := by decide +kernel
theorem s_L_law_1648 {n : Int32} (h : AP M_L_law b 1650 [x0, x1, x2, x3, x4, x5, .int n, x7, x8] (.int n :: st) hi g Φ) : AP M_L_law b 1648 [x0, x1, x2, x3, x4, x5, .int n, x7, x8] (st) hi g Φ := AP.iload (x := n) (i := 6) d_L_law_1648 rfl h
theorem d_L_law_1650 : decode code 1650 = .ok (.i2l, 1) := by decide +kernel
theorem s_L_law_1650 {x : Int32} (h : AP M_L_law b 1651 [x0, x1, x2, x3, x4, x5, x6, x7, x8] (.long x.toInt64 :: st) hi g Φ) : AP M_L_law b 1650 [x0, x1, x2, x3, x4, x5, x6, x7, x8] (.int x :: st) hi g Φ := AP.i2l d_L_law_1650 h
theorem d_L_law_1651 : decode code 1651 = .ok (.lcmp, 1) := by decide +kernel
theorem s_L_law_1651 {x y : Int64} (h : AP M_L_law b 1652 [x0, x1, x2, x3, x4, x5, x6, x7, x8] (.int (lg_cmp x y) :: st) hi g Φ) : AP M_L_law b 1651 [x0, x1, x2, x3, x4, x5, x6, x7, x8] (.long y :: .long x :: st) hi g Φ := AP.lcmp d_L_law_1651 h
theorem d_L_law_1652 : decode code 1652 = .ok (.ifCond .eq 5, 3) := by decide +kernel
theorem s_L_law_1652 {x : Int32} (h1 : x = 0 → AP M_L_law b 1657 [x0, x1, x2, x3, x4, x5, x6, x7, x8] st hi g Φ) (h2 : ¬ x = 0 → AP M_L_law b 1655 [x0, x1, x2, x3, x4, x5, x6, x7, x8] st hi g Φ) : AP M_L_law b 1652 [x0, x1, x2, x3, x4, x5, x6, x7, x8] (.int x :: st) hi g Φ := AP.if_eq d_L_law_1652 (by decide) h1 h2
theorem d_L_law_1655 : decode code 1655 = .ok (.iconst 0, 1) := by decide +kernel
theorem s_L_law_1655 (h : AP M_L_law b 1656 [x0, x1, x2, x3, x4, x5, x6, x7, x8] (.int 0 :: st) hi g Φ) : AP M_L_law b 1655 [x0, x1, x2, x3, x4, x5, x6, x7, x8] (st) hi g Φ := AP.iconst (x := 0) d_L_law_1655 (by decide) h
theorem d_L_law_1656 : decode code 1656 = .ok (.ireturn, 1) := by decide +kernel
theorem s_L_law_1656 {x : Int32} (hx : x = 0 ∨ x = 1) (h : Φ (.ok (some (.int x))) hi g) : AP M_L_law b 1656 [x0, x1, x2, x3, x4, x5, x6, x7, x8] [.int x] hi g Φ := AP.zret d_L_law_1656 rfl hx h
theorem d_L_law_1657 : decode code 1657 = .ok (.goto 1094, 3) := by decide +kernel
theorem s_L_law_1657 (h : AP M_L_law b 2751 [x0, x1, x2, x3, x4, x5, x6, x7, x8] st hi g Φ) : AP M_L_law b 1657 [x0, x1, x2, x3, x4, x5, x6, x7, x8] st hi g Φ := AP.goto d_L_law_1657 (by decide) h
theorem d_L_law_1660 : decode code 1660 = .ok (.aload_n 1, 1) := by decide +kernel
theorem s_L_law_1660 {n : Nat} (h : AP M_L_law b 1661 [x0, .ref n, x2, x3, x4, x5, x6, x7, x8] (.ref n :: st) hi g Φ) : AP M_L_law b 1660 [x0, .ref n, x2, x3, x4, x5, x6, x7, x8] (st) hi g Φ := AP.aload_n (x := n) (i := 1) d_L_law_1660 rfl rfl h
theorem d_L_law_1661 : decode code 1661 = .ok (.aload_n 0, 1) := by decide +kernel
theorem s_L_law_1661 {n : Nat} (h : AP M_L_law b 1662 [.ref n, x1, x2, x3, x4, x5, x6, x7, x8] (.ref n :: st) hi g Φ) : AP M_L_law b 1661 [.ref n, x1, x2, x3, x4, x5, x6, x7, x8] (st) hi g Φ := AP.aload_n (x := n) (i := 0) d_L_law_1661 rfl rfl h
theorem d_L_law_1662 : decode code 1662 = .ok (.iload 4, 2) := by decide +kernel
theorem s_L_law_1662 {n : Int32} (h : AP M_L_law b 1664 [x0, x1, x2, x3, .int n, x5, x6, x7, x8] (.int n :: st) hi g Φ) : AP M_L_law b 1662 [x0, x1, x2, x3, .int n, x5, x6, x7, x8] (st) hi g Φ := AP.iload (x := n) (i := 4) d_L_law_1662 rfl h
theorem d_L_law_1664 : decode code 1664 = .ok (.iconst 1, 1) := by decide +kernel
theorem s_L_law_1664 (h : AP M_L_law b 1665 [x0, x1, x2, x3, x4, x5, x6, x7, x8] (.int 1 :: st) hi g Φ) : AP M_L_law b 1664 [x0, x1, x2, x3, x4, x5, x6, x7, x8] (st) hi g Φ := AP.iconst (x := 1) d_L_law_1664 (by decide) h
theorem d_L_law_1665 : decode code 1665 = .ok (.iadd, 1) := by decide +kernel
theorem s_L_law_1665 {x y : Int32} (h : AP M_L_law b 1666 [x0, x1, x2, x3, x4, x5, x6, x7, x8] (.int (x + y) :: st) hi g Φ) : AP M_L_law b 1665 [x0, x1, x2, x3, x4, x5, x6, x7, x8] (.int y :: .int x :: st) hi g Φ := AP.iadd d_L_law_1665 h
theorem d_L_law_1666 : decode code 1666 = .ok (.iaload, 1) := by decide +kernel
theorem s_L_law_1666 {k n j : Nat} {i : Int32} (hI : am_Inv g) (hs : am_SH k = (1, n)) (hk : k < 134) (hn : n < 2 ^ 31) (hx : i = nI j) (hj : j < n) (h : AP M_L_law b 1667 [x0, x1, x2, x3, x4, x5, x6, x7, x8] (.int (hi k j) :: st) hi g Φ) : AP M_L_law b 1666 [x0, x1, x2, x3, x4, x5, x6, x7, x8] (.int i :: .ref k :: st) hi g Φ := AP.iald d_L_law_1666 hs (hI.lt hk) hn hx hj h
theorem d_L_law_1667 : decode code 1667 = .ok (.aload_n 0, 1) := by decide +kernel
theorem s_L_law_1667 {n : Nat} (h : AP M_L_law b 1668 [.ref n, x1, x2, x3, x4, x5, x6, x7, x8] (.ref n :: st) hi g Φ) : AP M_L_law b 1667 [.ref n, x1, x2, x3, x4, x5, x6, x7, x8] (st) hi g Φ := AP.aload_n (x := n) (i := 0) d_L_law_1667 rfl rfl h
theorem d_L_law_1668 : decode code 1668 = .ok (.iload 4, 2) := by decide +kernel
theorem s_L_law_1668 {n : Int32} (h : AP M_L_law b 1670 [x0, x1, x2, x3, .int n, x5, x6, x7, x8] (.int n :: st) hi g Φ) : AP M_L_law b 1668 [x0, x1, x2, x3, .int n, x5, x6, x7, x8] (st) hi g Φ := AP.iload (x := n) (i := 4) d_L_law_1668 rfl h
theorem d_L_law_1670 : decode code 1670 = .ok (.iconst 2, 1) := by decide +kernel
theorem s_L_law_1670 (h : AP M_L_law b 1671 [x0, x1, x2, x3, x4, x5, x6, x7, x8] (.int 2 :: st) hi g Φ) : AP M_L_law b 1670 [x0, x1, x2, x3, x4, x5, x6, x7, x8] (st) hi g Φ := AP.iconst (x := 2) d_L_law_1670 (by decide) h
theorem d_L_law_1671 : decode code 1671 = .ok (.iadd, 1) := by decide +kernel
theorem s_L_law_1671 {x y : Int32} (h : AP M_L_law b 1672 [x0, x1, x2, x3, x4, x5, x6, x7, x8] (.int (x + y) :: st) hi g Φ) : AP M_L_law b 1671 [x0, x1, x2, x3, x4, x5, x6, x7, x8] (.int y :: .int x :: st) hi g Φ := AP.iadd d_L_law_1671 h
theorem d_L_law_1672 : decode code 1672 = .ok (.iaload, 1) := by decide +kernel
theorem s_L_law_1672 {k n j : Nat} {i : Int32} (hI : am_Inv g) (hs : am_SH k = (1, n)) (hk : k < 134) (hn : n < 2 ^ 31) (hx : i = nI j) (hj : j < n) (h : AP M_L_law b 1673 [x0, x1, x2, x3, x4, x5, x6, x7, x8] (.int (hi k j) :: st) hi g Φ) : AP M_L_law b 1672 [x0, x1, x2, x3, x4, x5, x6, x7, x8] (.int i :: .ref k :: st) hi g Φ := AP.iald d_L_law_1672 hs (hI.lt hk) hn hx hj h
theorem d_L_law_1673 : decode code 1673 = .ok (.aload_n 3, 1) := by decide +kernel
theorem s_L_law_1673 {n : Nat} (h : AP M_L_law b 1674 [x0, x1, x2, .ref n, x4, x5, x6, x7, x8] (.ref n :: st) hi g Φ) : AP M_L_law b 1673 [x0, x1, x2, .ref n, x4, x5, x6, x7, x8] (st) hi g Φ := AP.aload_n (x := n) (i := 3) d_L_law_1673 rfl rfl h
theorem d_L_law_1674 : decode code 1674 = .ok (.invokestatic 241, 3) := by decide +kernel
-- s_L_law_1674: a call apart
theorem d_L_law_1677 : decode code 1677 = .ok (.istore 5, 2) := by decide +kernel
theorem s_L_law_1677 {n : Int32} (hc : x4.category = 1) (h : AP M_L_law b 1679 [x0, x1, x2, x3, x4, .int n, x6, x7, x8] (st) hi g Φ) : AP M_L_law b 1677 [x0, x1, x2, x3, x4, x5, x6, x7, x8] (.int n :: st) hi g Φ := AP.istore (x := n) (i := 5) d_L_law_1677 (by decide) (by simp [am_st, am_ci, am_cr, am_cl, am_cd, hc]) h
theorem d_L_law_1679 : decode code 1679 = .ok (.aload_n 2, 1) := by decide +kernel
theorem s_L_law_1679 {n : Nat} (h : AP M_L_law b 1680 [x0, x1, .ref n, x3, x4, x5, x6, x7, x8] (.ref n :: st) hi g Φ) : AP M_L_law b 1679 [x0, x1, .ref n, x3, x4, x5, x6, x7, x8] (st) hi g Φ := AP.aload_n (x := n) (i := 2) d_L_law_1679 rfl rfl h
theorem d_L_law_1680 : decode code 1680 = .ok (.aload_n 0, 1) := by decide +kernel
theorem s_L_law_1680 {n : Nat} (h : AP M_L_law b 1681 [.ref n, x1, x2, x3, x4, x5, x6, x7, x8] (.ref n :: st) hi g Φ) : AP M_L_law b 1680 [.ref n, x1, x2, x3, x4, x5, x6, x7, x8] (st) hi g Φ := AP.aload_n (x := n) (i := 0) d_L_law_1680 rfl rfl h
theorem d_L_law_1681 : decode code 1681 = .ok (.iload 4, 2) := by decide +kernel
theorem s_L_law_1681 {n : Int32} (h : AP M_L_law b 1683 [x0, x1, x2, x3, .int n, x5, x6, x7, x8] (.int n :: st) hi g Φ) : AP M_L_law b 1681 [x0, x1, x2, x3, .int n, x5, x6, x7, x8] (st) hi g Φ := AP.iload (x := n) (i := 4) d_L_law_1681 rfl h
theorem d_L_law_1683 : decode code 1683 = .ok (.iconst 1, 1) := by decide +kernel
theorem s_L_law_1683 (h : AP M_L_law b 1684 [x0, x1, x2, x3, x4, x5, x6, x7, x8] (.int 1 :: st) hi g Φ) : AP M_L_law b 1683 [x0, x1, x2, x3, x4, x5, x6, x7, x8] (st) hi g Φ := AP.iconst (x := 1) d_L_law_1683 (by decide) h
theorem d_L_law_1684 : decode code 1684 = .ok (.iadd, 1) := by decide +kernel
theorem s_L_law_1684 {x y : Int32} (h : AP M_L_law b 1685 [x0, x1, x2, x3, x4, x5, x6, x7, x8] (.int (x + y) :: st) hi g Φ) : AP M_L_law b 1684 [x0, x1, x2, x3, x4, x5, x6, x7, x8] (.int y :: .int x :: st) hi g Φ := AP.iadd d_L_law_1684 h
theorem d_L_law_1685 : decode code 1685 = .ok (.iaload, 1) := by decide +kernel
theorem s_L_law_1685 {k n j : Nat} {i : Int32} (hI : am_Inv g) (hs : am_SH k = (1, n)) (hk : k < 134) (hn : n < 2 ^ 31) (hx : i = nI j) (hj : j < n) (h : AP M_L_law b 1686 [x0, x1, x2, x3, x4, x5, x6, x7, x8] (.int (hi k j) :: st) hi g Φ) : AP M_L_law b 1685 [x0, x1, x2, x3, x4, x5, x6, x7, x8] (.int i :: .ref k :: st) hi g Φ := AP.iald d_L_law_1685 hs (hI.lt hk) hn hx hj h
theorem d_L_law_1686 : decode code 1686 = .ok (.aload_n 0, 1) := by decide +kernel
theorem s_L_law_1686 {n : Nat} (h : AP M_L_law b 1687 [.ref n, x1, x2, x3, x4, x5, x6, x7, x8] (.ref n :: st) hi g Φ) : AP M_L_law b 1686 [.ref n, x1, x2, x3, x4, x5, x6, x7, x8] (st) hi g Φ := AP.aload_n (x := n) (i := 0) d_L_law_1686 rfl rfl h
theorem d_L_law_1687 : decode code 1687 = .ok (.iload 4, 2) := by decide +kernel
theorem s_L_law_1687 {n : Int32} (h : AP M_L_law b 1689 [x0, x1, x2, x3, .int n, x5, x6, x7, x8] (.int n :: st) hi g Φ) : AP M_L_law b 1687 [x0, x1, x2, x3, .int n, x5, x6, x7, x8] (st) hi g Φ := AP.iload (x := n) (i := 4) d_L_law_1687 rfl h
theorem d_L_law_1689 : decode code 1689 = .ok (.iconst 2, 1) := by decide +kernel
theorem s_L_law_1689 (h : AP M_L_law b 1690 [x0, x1, x2, x3, x4, x5, x6, x7, x8] (.int 2 :: st) hi g Φ) : AP M_L_law b 1689 [x0, x1, x2, x3, x4, x5, x6, x7, x8] (st) hi g Φ := AP.iconst (x := 2) d_L_law_1689 (by decide) h
theorem d_L_law_1690 : decode code 1690 = .ok (.iadd, 1) := by decide +kernel
theorem s_L_law_1690 {x y : Int32} (h : AP M_L_law b 1691 [x0, x1, x2, x3, x4, x5, x6, x7, x8] (.int (x + y) :: st) hi g Φ) : AP M_L_law b 1690 [x0, x1, x2, x3, x4, x5, x6, x7, x8] (.int y :: .int x :: st) hi g Φ := AP.iadd d_L_law_1690 h
theorem d_L_law_1691 : decode code 1691 = .ok (.iaload, 1) := by decide +kernel
theorem s_L_law_1691 {k n j : Nat} {i : Int32} (hI : am_Inv g) (hs : am_SH k = (1, n)) (hk : k < 134) (hn : n < 2 ^ 31) (hx : i = nI j) (hj : j < n) (h : AP M_L_law b 1692 [x0, x1, x2, x3, x4, x5, x6, x7, x8] (.int (hi k j) :: st) hi g Φ) : AP M_L_law b 1691 [x0, x1, x2, x3, x4, x5, x6, x7, x8] (.int i :: .ref k :: st) hi g Φ := AP.iald d_L_law_1691 hs (hI.lt hk) hn hx hj h
theorem d_L_law_1692 : decode code 1692 = .ok (.invokevirtual 243, 3) := by decide +kernel
theorem s_L_law_1692 {a0 : Int32} {a1 : Int32} {k : Nat} {r0 : Int32} {P : am_HI → Prop} (hI : am_Inv g) (hs : am_SH k = (0, 10)) (hk : k < 134) (hst : (st.map Value.category).sum ≤ 8) (hc : am_Cr M_X10_bestParameter [.ref k, .int a0, .int a1] hi g (some (.int r0)) P) (h : ∀ hi' : am_HI, P hi' → AP M_L_law b 1695 [x0, x1, x2, x3, x4, x5, x6, x7, x8] (.int r0 :: st) hi' g Φ) : AP M_L_law b 1692 [x0, x1, x2, x3, x4, x5, x6, x7, x8] (.int a1 :: .int a0 :: .ref k :: st) hi g Φ := AP.callVr (As := [.int a0, .int a1]) (q := (RX10, TX10, 15)) hI hc k_L_law_243 d_L_law_1692 rfl hs hk rfl rfl hst h
theorem d_L_law_1695 : decode code 1695 = .ok (.istore 6, 2) := by decide +kernel
theorem s_L_law_1695 {n : Int32} (hc : x5.category = 1) (h : AP M_L_law b 1697 [x0, x1, x2, x3, x4, x5, .int n, x7, x8] (st) hi g Φ) : AP M_L_law b 1695 [x0, x1, x2, x3, x4, x5, x6, x7, x8] (.int n :: st) hi g Φ := AP.istore (x := n) (i := 6) d_L_law_1695 (by decide) (by simp [am_st, am_ci, am_cr, am_cl, am_cd, hc]) h
theorem d_L_law_1697 : decode code 1697 = .ok (.aload_n 2, 1) := by decide +kernel
theorem s_L_law_1697 {n : Nat} (h : AP M_L_law b 1698 [x0, x1, .ref n, x3, x4, x5, x6, x7, x8] (.ref n :: st) hi g Φ) : AP M_L_law b 1697 [x0, x1, .ref n, x3, x4, x5, x6, x7, x8] (st) hi g Φ := AP.aload_n (x := n) (i := 2) d_L_law_1697 rfl rfl h
theorem d_L_law_1698 : decode code 1698 = .ok (.invokevirtual 141, 3) := by decide +kernel
theorem s_L_law_1698  {k : Nat} {r0 : Int32} {P : am_HI → Prop} (hI : am_Inv g) (hs : am_SH k = (0, 10)) (hk : k < 134) (hst : (st.map Value.category).sum ≤ 8) (hc : am_Cr M_X10_thrown [.ref k] hi g (some (.int r0)) P) (h : ∀ hi' : am_HI, P hi' → AP M_L_law b 1701 [x0, x1, x2, x3, x4, x5, x6, x7, x8] (.int r0 :: st) hi' g Φ) : AP M_L_law b 1698 [x0, x1, x2, x3, x4, x5, x6, x7, x8] (.ref k :: st) hi g Φ := AP.callVr (As := []) (q := (RX10, TX10, 15)) hI hc k_L_law_141 d_L_law_1698 rfl hs hk rfl rfl hst h
theorem d_L_law_1701 : decode code 1701 = .ok (.iload 5, 2) := by decide +kernel
theorem s_L_law_1701 {n : Int32} (h : AP M_L_law b 1703 [x0, x1, x2, x3, x4, .int n, x6, x7, x8] (.int n :: st) hi g Φ) : AP M_L_law b 1701 [x0, x1, x2, x3, x4, .int n, x6, x7, x8] (st) hi g Φ := AP.iload (x := n) (i := 5) d_L_law_1701 rfl h
theorem d_L_law_1703 : decode code 1703 = .ok (.if_icmp .eq 5, 3) := by decide +kernel
theorem s_L_law_1703 {x y : Int32} (h1 : x = y → AP M_L_law b 1708 [x0, x1, x2, x3, x4, x5, x6, x7, x8] st hi g Φ) (h2 : ¬ x = y → AP M_L_law b 1706 [x0, x1, x2, x3, x4, x5, x6, x7, x8] st hi g Φ) : AP M_L_law b 1703 [x0, x1, x2, x3, x4, x5, x6, x7, x8] (.int y :: .int x :: st) hi g Φ := AP.icmp_eq d_L_law_1703 (by decide) h1 h2
theorem d_L_law_1706 : decode code 1706 = .ok (.iconst 0, 1) := by decide +kernel
theorem s_L_law_1706 (h : AP M_L_law b 1707 [x0, x1, x2, x3, x4, x5, x6, x7, x8] (.int 0 :: st) hi g Φ) : AP M_L_law b 1706 [x0, x1, x2, x3, x4, x5, x6, x7, x8] (st) hi g Φ := AP.iconst (x := 0) d_L_law_1706 (by decide) h
theorem d_L_law_1707 : decode code 1707 = .ok (.ireturn, 1) := by decide +kernel
theorem s_L_law_1707 {x : Int32} (hx : x = 0 ∨ x = 1) (h : Φ (.ok (some (.int x))) hi g) : AP M_L_law b 1707 [x0, x1, x2, x3, x4, x5, x6, x7, x8] [.int x] hi g Φ := AP.zret d_L_law_1707 rfl hx h
theorem d_L_law_1708 : decode code 1708 = .ok (.iload 5, 2) := by decide +kernel
theorem s_L_law_1708 {n : Int32} (h : AP M_L_law b 1710 [x0, x1, x2, x3, x4, .int n, x6, x7, x8] (.int n :: st) hi g Φ) : AP M_L_law b 1708 [x0, x1, x2, x3, x4, .int n, x6, x7, x8] (st) hi g Φ := AP.iload (x := n) (i := 5) d_L_law_1708 rfl h
theorem d_L_law_1710 : decode code 1710 = .ok (.ifCond .ne 15, 3) := by decide +kernel
theorem s_L_law_1710 {x : Int32} (h1 : ¬ x = 0 → AP M_L_law b 1725 [x0, x1, x2, x3, x4, x5, x6, x7, x8] st hi g Φ) (h2 : x = 0 → AP M_L_law b 1713 [x0, x1, x2, x3, x4, x5, x6, x7, x8] st hi g Φ) : AP M_L_law b 1710 [x0, x1, x2, x3, x4, x5, x6, x7, x8] (.int x :: st) hi g Φ := AP.if_ne d_L_law_1710 (by decide) h1 h2
theorem d_L_law_1713 : decode code 1713 = .ok (.aload_n 3, 1) := by decide +kernel
theorem s_L_law_1713 {n : Nat} (h : AP M_L_law b 1714 [x0, x1, x2, .ref n, x4, x5, x6, x7, x8] (.ref n :: st) hi g Φ) : AP M_L_law b 1713 [x0, x1, x2, .ref n, x4, x5, x6, x7, x8] (st) hi g Φ := AP.aload_n (x := n) (i := 3) d_L_law_1713 rfl rfl h
theorem d_L_law_1714 : decode code 1714 = .ok (.iconst 0, 1) := by decide +kernel
theorem s_L_law_1714 (h : AP M_L_law b 1715 [x0, x1, x2, x3, x4, x5, x6, x7, x8] (.int 0 :: st) hi g Φ) : AP M_L_law b 1714 [x0, x1, x2, x3, x4, x5, x6, x7, x8] (st) hi g Φ := AP.iconst (x := 0) d_L_law_1714 (by decide) h
theorem d_L_law_1715 : decode code 1715 = .ok (.laload, 1) := by decide +kernel
theorem s_L_law_1715 {k n j : Nat} {i : Int32} (hI : am_Inv g) (hs : am_SH k = (4, n)) (hk : k < 134) (hn : n < 2 ^ 31) (hx : i = nI j) (hj : j < n) (h : AP M_L_law b 1716 [x0, x1, x2, x3, x4, x5, x6, x7, x8] (.long (g.2.2 k j) :: st) hi g Φ) : AP M_L_law b 1715 [x0, x1, x2, x3, x4, x5, x6, x7, x8] (.int i :: .ref k :: st) hi g Φ := AP.lald d_L_law_1715 hs (hI.lt hk) hn hx hj h
theorem d_L_law_1716 : decode code 1716 = .ok (.iload 6, 2) := by decide +kernel
theorem s_L_law_1716 {n : Int32} (h : AP M_L_law b 1718 [x0, x1, x2, x3, x4, x5, .int n, x7, x8] (.int n :: st) hi g Φ) : AP M_L_law b 1716 [x0, x1, x2, x3, x4, x5, .int n, x7, x8] (st) hi g Φ := AP.iload (x := n) (i := 6) d_L_law_1716 rfl h
theorem d_L_law_1718 : decode code 1718 = .ok (.i2l, 1) := by decide +kernel
theorem s_L_law_1718 {x : Int32} (h : AP M_L_law b 1719 [x0, x1, x2, x3, x4, x5, x6, x7, x8] (.long x.toInt64 :: st) hi g Φ) : AP M_L_law b 1718 [x0, x1, x2, x3, x4, x5, x6, x7, x8] (.int x :: st) hi g Φ := AP.i2l d_L_law_1718 h
theorem d_L_law_1719 : decode code 1719 = .ok (.lcmp, 1) := by decide +kernel
theorem s_L_law_1719 {x y : Int64} (h : AP M_L_law b 1720 [x0, x1, x2, x3, x4, x5, x6, x7, x8] (.int (lg_cmp x y) :: st) hi g Φ) : AP M_L_law b 1719 [x0, x1, x2, x3, x4, x5, x6, x7, x8] (.long y :: .long x :: st) hi g Φ := AP.lcmp d_L_law_1719 h
theorem d_L_law_1720 : decode code 1720 = .ok (.ifCond .eq 5, 3) := by decide +kernel
theorem s_L_law_1720 {x : Int32} (h1 : x = 0 → AP M_L_law b 1725 [x0, x1, x2, x3, x4, x5, x6, x7, x8] st hi g Φ) (h2 : ¬ x = 0 → AP M_L_law b 1723 [x0, x1, x2, x3, x4, x5, x6, x7, x8] st hi g Φ) : AP M_L_law b 1720 [x0, x1, x2, x3, x4, x5, x6, x7, x8] (.int x :: st) hi g Φ := AP.if_eq d_L_law_1720 (by decide) h1 h2
theorem d_L_law_1723 : decode code 1723 = .ok (.iconst 0, 1) := by decide +kernel
theorem s_L_law_1723 (h : AP M_L_law b 1724 [x0, x1, x2, x3, x4, x5, x6, x7, x8] (.int 0 :: st) hi g Φ) : AP M_L_law b 1723 [x0, x1, x2, x3, x4, x5, x6, x7, x8] (st) hi g Φ := AP.iconst (x := 0) d_L_law_1723 (by decide) h
theorem d_L_law_1724 : decode code 1724 = .ok (.ireturn, 1) := by decide +kernel
theorem s_L_law_1724 {x : Int32} (hx : x = 0 ∨ x = 1) (h : Φ (.ok (some (.int x))) hi g) : AP M_L_law b 1724 [x0, x1, x2, x3, x4, x5, x6, x7, x8] [.int x] hi g Φ := AP.zret d_L_law_1724 rfl hx h
theorem d_L_law_1725 : decode code 1725 = .ok (.goto 1026, 3) := by decide +kernel
theorem s_L_law_1725 (h : AP M_L_law b 2751 [x0, x1, x2, x3, x4, x5, x6, x7, x8] st hi g Φ) : AP M_L_law b 1725 [x0, x1, x2, x3, x4, x5, x6, x7, x8] st hi g Φ := AP.goto d_L_law_1725 (by decide) h
theorem d_L_law_1728 : decode code 1728 = .ok (.aload_n 1, 1) := by decide +kernel
theorem s_L_law_1728 {n : Nat} (h : AP M_L_law b 1729 [x0, .ref n, x2, x3, x4, x5, x6, x7, x8] (.ref n :: st) hi g Φ) : AP M_L_law b 1728 [x0, .ref n, x2, x3, x4, x5, x6, x7, x8] (st) hi g Φ := AP.aload_n (x := n) (i := 1) d_L_law_1728 rfl rfl h
theorem d_L_law_1729 : decode code 1729 = .ok (.aload_n 0, 1) := by decide +kernel
theorem s_L_law_1729 {n : Nat} (h : AP M_L_law b 1730 [.ref n, x1, x2, x3, x4, x5, x6, x7, x8] (.ref n :: st) hi g Φ) : AP M_L_law b 1729 [.ref n, x1, x2, x3, x4, x5, x6, x7, x8] (st) hi g Φ := AP.aload_n (x := n) (i := 0) d_L_law_1729 rfl rfl h
theorem d_L_law_1730 : decode code 1730 = .ok (.iload 4, 2) := by decide +kernel
theorem s_L_law_1730 {n : Int32} (h : AP M_L_law b 1732 [x0, x1, x2, x3, .int n, x5, x6, x7, x8] (.int n :: st) hi g Φ) : AP M_L_law b 1730 [x0, x1, x2, x3, .int n, x5, x6, x7, x8] (st) hi g Φ := AP.iload (x := n) (i := 4) d_L_law_1730 rfl h
theorem d_L_law_1732 : decode code 1732 = .ok (.iconst 1, 1) := by decide +kernel
theorem s_L_law_1732 (h : AP M_L_law b 1733 [x0, x1, x2, x3, x4, x5, x6, x7, x8] (.int 1 :: st) hi g Φ) : AP M_L_law b 1732 [x0, x1, x2, x3, x4, x5, x6, x7, x8] (st) hi g Φ := AP.iconst (x := 1) d_L_law_1732 (by decide) h
theorem d_L_law_1733 : decode code 1733 = .ok (.iadd, 1) := by decide +kernel
theorem s_L_law_1733 {x y : Int32} (h : AP M_L_law b 1734 [x0, x1, x2, x3, x4, x5, x6, x7, x8] (.int (x + y) :: st) hi g Φ) : AP M_L_law b 1733 [x0, x1, x2, x3, x4, x5, x6, x7, x8] (.int y :: .int x :: st) hi g Φ := AP.iadd d_L_law_1733 h
theorem d_L_law_1734 : decode code 1734 = .ok (.iaload, 1) := by decide +kernel
theorem s_L_law_1734 {k n j : Nat} {i : Int32} (hI : am_Inv g) (hs : am_SH k = (1, n)) (hk : k < 134) (hn : n < 2 ^ 31) (hx : i = nI j) (hj : j < n) (h : AP M_L_law b 1735 [x0, x1, x2, x3, x4, x5, x6, x7, x8] (.int (hi k j) :: st) hi g Φ) : AP M_L_law b 1734 [x0, x1, x2, x3, x4, x5, x6, x7, x8] (.int i :: .ref k :: st) hi g Φ := AP.iald d_L_law_1734 hs (hI.lt hk) hn hx hj h
theorem d_L_law_1735 : decode code 1735 = .ok (.aload_n 3, 1) := by decide +kernel
theorem s_L_law_1735 {n : Nat} (h : AP M_L_law b 1736 [x0, x1, x2, .ref n, x4, x5, x6, x7, x8] (.ref n :: st) hi g Φ) : AP M_L_law b 1735 [x0, x1, x2, .ref n, x4, x5, x6, x7, x8] (st) hi g Φ := AP.aload_n (x := n) (i := 3) d_L_law_1735 rfl rfl h
theorem d_L_law_1736 : decode code 1736 = .ok (.invokestatic 244, 3) := by decide +kernel
-- s_L_law_1736: a call apart
theorem d_L_law_1739 : decode code 1739 = .ok (.istore 5, 2) := by decide +kernel
theorem s_L_law_1739 {n : Int32} (hc : x4.category = 1) (h : AP M_L_law b 1741 [x0, x1, x2, x3, x4, .int n, x6, x7, x8] (st) hi g Φ) : AP M_L_law b 1739 [x0, x1, x2, x3, x4, x5, x6, x7, x8] (.int n :: st) hi g Φ := AP.istore (x := n) (i := 5) d_L_law_1739 (by decide) (by simp [am_st, am_ci, am_cr, am_cl, am_cd, hc]) h
theorem d_L_law_1741 : decode code 1741 = .ok (.aload_n 2, 1) := by decide +kernel
theorem s_L_law_1741 {n : Nat} (h : AP M_L_law b 1742 [x0, x1, .ref n, x3, x4, x5, x6, x7, x8] (.ref n :: st) hi g Φ) : AP M_L_law b 1741 [x0, x1, .ref n, x3, x4, x5, x6, x7, x8] (st) hi g Φ := AP.aload_n (x := n) (i := 2) d_L_law_1741 rfl rfl h
theorem d_L_law_1742 : decode code 1742 = .ok (.aload_n 0, 1) := by decide +kernel
theorem s_L_law_1742 {n : Nat} (h : AP M_L_law b 1743 [.ref n, x1, x2, x3, x4, x5, x6, x7, x8] (.ref n :: st) hi g Φ) : AP M_L_law b 1742 [.ref n, x1, x2, x3, x4, x5, x6, x7, x8] (st) hi g Φ := AP.aload_n (x := n) (i := 0) d_L_law_1742 rfl rfl h
theorem d_L_law_1743 : decode code 1743 = .ok (.iload 4, 2) := by decide +kernel
theorem s_L_law_1743 {n : Int32} (h : AP M_L_law b 1745 [x0, x1, x2, x3, .int n, x5, x6, x7, x8] (.int n :: st) hi g Φ) : AP M_L_law b 1743 [x0, x1, x2, x3, .int n, x5, x6, x7, x8] (st) hi g Φ := AP.iload (x := n) (i := 4) d_L_law_1743 rfl h
theorem d_L_law_1745 : decode code 1745 = .ok (.iconst 1, 1) := by decide +kernel
theorem s_L_law_1745 (h : AP M_L_law b 1746 [x0, x1, x2, x3, x4, x5, x6, x7, x8] (.int 1 :: st) hi g Φ) : AP M_L_law b 1745 [x0, x1, x2, x3, x4, x5, x6, x7, x8] (st) hi g Φ := AP.iconst (x := 1) d_L_law_1745 (by decide) h
theorem d_L_law_1746 : decode code 1746 = .ok (.iadd, 1) := by decide +kernel
theorem s_L_law_1746 {x y : Int32} (h : AP M_L_law b 1747 [x0, x1, x2, x3, x4, x5, x6, x7, x8] (.int (x + y) :: st) hi g Φ) : AP M_L_law b 1746 [x0, x1, x2, x3, x4, x5, x6, x7, x8] (.int y :: .int x :: st) hi g Φ := AP.iadd d_L_law_1746 h
theorem d_L_law_1747 : decode code 1747 = .ok (.iaload, 1) := by decide +kernel
theorem s_L_law_1747 {k n j : Nat} {i : Int32} (hI : am_Inv g) (hs : am_SH k = (1, n)) (hk : k < 134) (hn : n < 2 ^ 31) (hx : i = nI j) (hj : j < n) (h : AP M_L_law b 1748 [x0, x1, x2, x3, x4, x5, x6, x7, x8] (.int (hi k j) :: st) hi g Φ) : AP M_L_law b 1747 [x0, x1, x2, x3, x4, x5, x6, x7, x8] (.int i :: .ref k :: st) hi g Φ := AP.iald d_L_law_1747 hs (hI.lt hk) hn hx hj h
theorem d_L_law_1748 : decode code 1748 = .ok (.invokevirtual 246, 3) := by decide +kernel
theorem s_L_law_1748 {a0 : Int32} {k : Nat} {r0 : Int32} {P : am_HI → Prop} (hI : am_Inv g) (hs : am_SH k = (0, 10)) (hk : k < 134) (hst : (st.map Value.category).sum ≤ 8) (hc : am_Cr M_X10_bestKind [.ref k, .int a0] hi g (some (.int r0)) P) (h : ∀ hi' : am_HI, P hi' → AP M_L_law b 1751 [x0, x1, x2, x3, x4, x5, x6, x7, x8] (.int r0 :: st) hi' g Φ) : AP M_L_law b 1748 [x0, x1, x2, x3, x4, x5, x6, x7, x8] (.int a0 :: .ref k :: st) hi g Φ := AP.callVr (As := [.int a0]) (q := (RX10, TX10, 15)) hI hc k_L_law_246 d_L_law_1748 rfl hs hk rfl rfl hst h
theorem d_L_law_1751 : decode code 1751 = .ok (.istore 6, 2) := by decide +kernel
theorem s_L_law_1751 {n : Int32} (hc : x5.category = 1) (h : AP M_L_law b 1753 [x0, x1, x2, x3, x4, x5, .int n, x7, x8] (st) hi g Φ) : AP M_L_law b 1751 [x0, x1, x2, x3, x4, x5, x6, x7, x8] (.int n :: st) hi g Φ := AP.istore (x := n) (i := 6) d_L_law_1751 (by decide) (by simp [am_st, am_ci, am_cr, am_cl, am_cd, hc]) h
theorem d_L_law_1753 : decode code 1753 = .ok (.aload_n 2, 1) := by decide +kernel
theorem s_L_law_1753 {n : Nat} (h : AP M_L_law b 1754 [x0, x1, .ref n, x3, x4, x5, x6, x7, x8] (.ref n :: st) hi g Φ) : AP M_L_law b 1753 [x0, x1, .ref n, x3, x4, x5, x6, x7, x8] (st) hi g Φ := AP.aload_n (x := n) (i := 2) d_L_law_1753 rfl rfl h
theorem d_L_law_1754 : decode code 1754 = .ok (.invokevirtual 141, 3) := by decide +kernel
theorem s_L_law_1754  {k : Nat} {r0 : Int32} {P : am_HI → Prop} (hI : am_Inv g) (hs : am_SH k = (0, 10)) (hk : k < 134) (hst : (st.map Value.category).sum ≤ 8) (hc : am_Cr M_X10_thrown [.ref k] hi g (some (.int r0)) P) (h : ∀ hi' : am_HI, P hi' → AP M_L_law b 1757 [x0, x1, x2, x3, x4, x5, x6, x7, x8] (.int r0 :: st) hi' g Φ) : AP M_L_law b 1754 [x0, x1, x2, x3, x4, x5, x6, x7, x8] (.ref k :: st) hi g Φ := AP.callVr (As := []) (q := (RX10, TX10, 15)) hI hc k_L_law_141 d_L_law_1754 rfl hs hk rfl rfl hst h
theorem d_L_law_1757 : decode code 1757 = .ok (.iload 5, 2) := by decide +kernel
theorem s_L_law_1757 {n : Int32} (h : AP M_L_law b 1759 [x0, x1, x2, x3, x4, .int n, x6, x7, x8] (.int n :: st) hi g Φ) : AP M_L_law b 1757 [x0, x1, x2, x3, x4, .int n, x6, x7, x8] (st) hi g Φ := AP.iload (x := n) (i := 5) d_L_law_1757 rfl h
theorem d_L_law_1759 : decode code 1759 = .ok (.if_icmp .eq 5, 3) := by decide +kernel
theorem s_L_law_1759 {x y : Int32} (h1 : x = y → AP M_L_law b 1764 [x0, x1, x2, x3, x4, x5, x6, x7, x8] st hi g Φ) (h2 : ¬ x = y → AP M_L_law b 1762 [x0, x1, x2, x3, x4, x5, x6, x7, x8] st hi g Φ) : AP M_L_law b 1759 [x0, x1, x2, x3, x4, x5, x6, x7, x8] (.int y :: .int x :: st) hi g Φ := AP.icmp_eq d_L_law_1759 (by decide) h1 h2
theorem d_L_law_1762 : decode code 1762 = .ok (.iconst 0, 1) := by decide +kernel
theorem s_L_law_1762 (h : AP M_L_law b 1763 [x0, x1, x2, x3, x4, x5, x6, x7, x8] (.int 0 :: st) hi g Φ) : AP M_L_law b 1762 [x0, x1, x2, x3, x4, x5, x6, x7, x8] (st) hi g Φ := AP.iconst (x := 0) d_L_law_1762 (by decide) h
theorem d_L_law_1763 : decode code 1763 = .ok (.ireturn, 1) := by decide +kernel
theorem s_L_law_1763 {x : Int32} (hx : x = 0 ∨ x = 1) (h : Φ (.ok (some (.int x))) hi g) : AP M_L_law b 1763 [x0, x1, x2, x3, x4, x5, x6, x7, x8] [.int x] hi g Φ := AP.zret d_L_law_1763 rfl hx h
theorem d_L_law_1764 : decode code 1764 = .ok (.iload 5, 2) := by decide +kernel
theorem s_L_law_1764 {n : Int32} (h : AP M_L_law b 1766 [x0, x1, x2, x3, x4, .int n, x6, x7, x8] (.int n :: st) hi g Φ) : AP M_L_law b 1764 [x0, x1, x2, x3, x4, .int n, x6, x7, x8] (st) hi g Φ := AP.iload (x := n) (i := 5) d_L_law_1764 rfl h
theorem d_L_law_1766 : decode code 1766 = .ok (.ifCond .ne 15, 3) := by decide +kernel
theorem s_L_law_1766 {x : Int32} (h1 : ¬ x = 0 → AP M_L_law b 1781 [x0, x1, x2, x3, x4, x5, x6, x7, x8] st hi g Φ) (h2 : x = 0 → AP M_L_law b 1769 [x0, x1, x2, x3, x4, x5, x6, x7, x8] st hi g Φ) : AP M_L_law b 1766 [x0, x1, x2, x3, x4, x5, x6, x7, x8] (.int x :: st) hi g Φ := AP.if_ne d_L_law_1766 (by decide) h1 h2
theorem d_L_law_1769 : decode code 1769 = .ok (.aload_n 3, 1) := by decide +kernel
theorem s_L_law_1769 {n : Nat} (h : AP M_L_law b 1770 [x0, x1, x2, .ref n, x4, x5, x6, x7, x8] (.ref n :: st) hi g Φ) : AP M_L_law b 1769 [x0, x1, x2, .ref n, x4, x5, x6, x7, x8] (st) hi g Φ := AP.aload_n (x := n) (i := 3) d_L_law_1769 rfl rfl h
theorem d_L_law_1770 : decode code 1770 = .ok (.iconst 0, 1) := by decide +kernel
theorem s_L_law_1770 (h : AP M_L_law b 1771 [x0, x1, x2, x3, x4, x5, x6, x7, x8] (.int 0 :: st) hi g Φ) : AP M_L_law b 1770 [x0, x1, x2, x3, x4, x5, x6, x7, x8] (st) hi g Φ := AP.iconst (x := 0) d_L_law_1770 (by decide) h
theorem d_L_law_1771 : decode code 1771 = .ok (.laload, 1) := by decide +kernel
theorem s_L_law_1771 {k n j : Nat} {i : Int32} (hI : am_Inv g) (hs : am_SH k = (4, n)) (hk : k < 134) (hn : n < 2 ^ 31) (hx : i = nI j) (hj : j < n) (h : AP M_L_law b 1772 [x0, x1, x2, x3, x4, x5, x6, x7, x8] (.long (g.2.2 k j) :: st) hi g Φ) : AP M_L_law b 1771 [x0, x1, x2, x3, x4, x5, x6, x7, x8] (.int i :: .ref k :: st) hi g Φ := AP.lald d_L_law_1771 hs (hI.lt hk) hn hx hj h
theorem d_L_law_1772 : decode code 1772 = .ok (.iload 6, 2) := by decide +kernel
theorem s_L_law_1772 {n : Int32} (h : AP M_L_law b 1774 [x0, x1, x2, x3, x4, x5, .int n, x7, x8] (.int n :: st) hi g Φ) : AP M_L_law b 1772 [x0, x1, x2, x3, x4, x5, .int n, x7, x8] (st) hi g Φ := AP.iload (x := n) (i := 6) d_L_law_1772 rfl h
theorem d_L_law_1774 : decode code 1774 = .ok (.i2l, 1) := by decide +kernel
theorem s_L_law_1774 {x : Int32} (h : AP M_L_law b 1775 [x0, x1, x2, x3, x4, x5, x6, x7, x8] (.long x.toInt64 :: st) hi g Φ) : AP M_L_law b 1774 [x0, x1, x2, x3, x4, x5, x6, x7, x8] (.int x :: st) hi g Φ := AP.i2l d_L_law_1774 h
theorem d_L_law_1775 : decode code 1775 = .ok (.lcmp, 1) := by decide +kernel
theorem s_L_law_1775 {x y : Int64} (h : AP M_L_law b 1776 [x0, x1, x2, x3, x4, x5, x6, x7, x8] (.int (lg_cmp x y) :: st) hi g Φ) : AP M_L_law b 1775 [x0, x1, x2, x3, x4, x5, x6, x7, x8] (.long y :: .long x :: st) hi g Φ := AP.lcmp d_L_law_1775 h
theorem d_L_law_1776 : decode code 1776 = .ok (.ifCond .eq 5, 3) := by decide +kernel
theorem s_L_law_1776 {x : Int32} (h1 : x = 0 → AP M_L_law b 1781 [x0, x1, x2, x3, x4, x5, x6, x7, x8] st hi g Φ) (h2 : ¬ x = 0 → AP M_L_law b 1779 [x0, x1, x2, x3, x4, x5, x6, x7, x8] st hi g Φ) : AP M_L_law b 1776 [x0, x1, x2, x3, x4, x5, x6, x7, x8] (.int x :: st) hi g Φ := AP.if_eq d_L_law_1776 (by decide) h1 h2
theorem d_L_law_1779 : decode code 1779 = .ok (.iconst 0, 1) := by decide +kernel
theorem s_L_law_1779 (h : AP M_L_law b 1780 [x0, x1, x2, x3, x4, x5, x6, x7, x8] (.int 0 :: st) hi g Φ) : AP M_L_law b 1779 [x0, x1, x2, x3, x4, x5, x6, x7, x8] (st) hi g Φ := AP.iconst (x := 0) d_L_law_1779 (by decide) h
theorem d_L_law_1780 : decode code 1780 = .ok (.ireturn, 1) := by decide +kernel
theorem s_L_law_1780 {x : Int32} (hx : x = 0 ∨ x = 1) (h : Φ (.ok (some (.int x))) hi g) : AP M_L_law b 1780 [x0, x1, x2, x3, x4, x5, x6, x7, x8] [.int x] hi g Φ := AP.zret d_L_law_1780 rfl hx h
theorem d_L_law_1781 : decode code 1781 = .ok (.goto 970, 3) := by decide +kernel
theorem s_L_law_1781 (h : AP M_L_law b 2751 [x0, x1, x2, x3, x4, x5, x6, x7, x8] st hi g Φ) : AP M_L_law b 1781 [x0, x1, x2, x3, x4, x5, x6, x7, x8] st hi g Φ := AP.goto d_L_law_1781 (by decide) h
theorem d_L_law_1784 : decode code 1784 = .ok (.aload_n 1, 1) := by decide +kernel
theorem s_L_law_1784 {n : Nat} (h : AP M_L_law b 1785 [x0, .ref n, x2, x3, x4, x5, x6, x7, x8] (.ref n :: st) hi g Φ) : AP M_L_law b 1784 [x0, .ref n, x2, x3, x4, x5, x6, x7, x8] (st) hi g Φ := AP.aload_n (x := n) (i := 1) d_L_law_1784 rfl rfl h
theorem d_L_law_1785 : decode code 1785 = .ok (.aload_n 0, 1) := by decide +kernel
theorem s_L_law_1785 {n : Nat} (h : AP M_L_law b 1786 [.ref n, x1, x2, x3, x4, x5, x6, x7, x8] (.ref n :: st) hi g Φ) : AP M_L_law b 1785 [.ref n, x1, x2, x3, x4, x5, x6, x7, x8] (st) hi g Φ := AP.aload_n (x := n) (i := 0) d_L_law_1785 rfl rfl h
theorem d_L_law_1786 : decode code 1786 = .ok (.iload 4, 2) := by decide +kernel
theorem s_L_law_1786 {n : Int32} (h : AP M_L_law b 1788 [x0, x1, x2, x3, .int n, x5, x6, x7, x8] (.int n :: st) hi g Φ) : AP M_L_law b 1786 [x0, x1, x2, x3, .int n, x5, x6, x7, x8] (st) hi g Φ := AP.iload (x := n) (i := 4) d_L_law_1786 rfl h
theorem d_L_law_1788 : decode code 1788 = .ok (.iconst 1, 1) := by decide +kernel
theorem s_L_law_1788 (h : AP M_L_law b 1789 [x0, x1, x2, x3, x4, x5, x6, x7, x8] (.int 1 :: st) hi g Φ) : AP M_L_law b 1788 [x0, x1, x2, x3, x4, x5, x6, x7, x8] (st) hi g Φ := AP.iconst (x := 1) d_L_law_1788 (by decide) h
theorem d_L_law_1789 : decode code 1789 = .ok (.iadd, 1) := by decide +kernel
theorem s_L_law_1789 {x y : Int32} (h : AP M_L_law b 1790 [x0, x1, x2, x3, x4, x5, x6, x7, x8] (.int (x + y) :: st) hi g Φ) : AP M_L_law b 1789 [x0, x1, x2, x3, x4, x5, x6, x7, x8] (.int y :: .int x :: st) hi g Φ := AP.iadd d_L_law_1789 h
theorem d_L_law_1790 : decode code 1790 = .ok (.iaload, 1) := by decide +kernel
theorem s_L_law_1790 {k n j : Nat} {i : Int32} (hI : am_Inv g) (hs : am_SH k = (1, n)) (hk : k < 134) (hn : n < 2 ^ 31) (hx : i = nI j) (hj : j < n) (h : AP M_L_law b 1791 [x0, x1, x2, x3, x4, x5, x6, x7, x8] (.int (hi k j) :: st) hi g Φ) : AP M_L_law b 1790 [x0, x1, x2, x3, x4, x5, x6, x7, x8] (.int i :: .ref k :: st) hi g Φ := AP.iald d_L_law_1790 hs (hI.lt hk) hn hx hj h
theorem d_L_law_1791 : decode code 1791 = .ok (.aload_n 3, 1) := by decide +kernel
theorem s_L_law_1791 {n : Nat} (h : AP M_L_law b 1792 [x0, x1, x2, .ref n, x4, x5, x6, x7, x8] (.ref n :: st) hi g Φ) : AP M_L_law b 1791 [x0, x1, x2, .ref n, x4, x5, x6, x7, x8] (st) hi g Φ := AP.aload_n (x := n) (i := 3) d_L_law_1791 rfl rfl h
theorem d_L_law_1792 : decode code 1792 = .ok (.invokestatic 247, 3) := by decide +kernel
-- s_L_law_1792: a call apart
theorem d_L_law_1795 : decode code 1795 = .ok (.istore 5, 2) := by decide +kernel
theorem s_L_law_1795 {n : Int32} (hc : x4.category = 1) (h : AP M_L_law b 1797 [x0, x1, x2, x3, x4, .int n, x6, x7, x8] (st) hi g Φ) : AP M_L_law b 1795 [x0, x1, x2, x3, x4, x5, x6, x7, x8] (.int n :: st) hi g Φ := AP.istore (x := n) (i := 5) d_L_law_1795 (by decide) (by simp [am_st, am_ci, am_cr, am_cl, am_cd, hc]) h
theorem d_L_law_1797 : decode code 1797 = .ok (.aload_n 2, 1) := by decide +kernel
theorem s_L_law_1797 {n : Nat} (h : AP M_L_law b 1798 [x0, x1, .ref n, x3, x4, x5, x6, x7, x8] (.ref n :: st) hi g Φ) : AP M_L_law b 1797 [x0, x1, .ref n, x3, x4, x5, x6, x7, x8] (st) hi g Φ := AP.aload_n (x := n) (i := 2) d_L_law_1797 rfl rfl h
theorem d_L_law_1798 : decode code 1798 = .ok (.aload_n 0, 1) := by decide +kernel
theorem s_L_law_1798 {n : Nat} (h : AP M_L_law b 1799 [.ref n, x1, x2, x3, x4, x5, x6, x7, x8] (.ref n :: st) hi g Φ) : AP M_L_law b 1798 [.ref n, x1, x2, x3, x4, x5, x6, x7, x8] (st) hi g Φ := AP.aload_n (x := n) (i := 0) d_L_law_1798 rfl rfl h
theorem d_L_law_1799 : decode code 1799 = .ok (.iload 4, 2) := by decide +kernel
theorem s_L_law_1799 {n : Int32} (h : AP M_L_law b 1801 [x0, x1, x2, x3, .int n, x5, x6, x7, x8] (.int n :: st) hi g Φ) : AP M_L_law b 1799 [x0, x1, x2, x3, .int n, x5, x6, x7, x8] (st) hi g Φ := AP.iload (x := n) (i := 4) d_L_law_1799 rfl h
theorem d_L_law_1801 : decode code 1801 = .ok (.iconst 1, 1) := by decide +kernel
theorem s_L_law_1801 (h : AP M_L_law b 1802 [x0, x1, x2, x3, x4, x5, x6, x7, x8] (.int 1 :: st) hi g Φ) : AP M_L_law b 1801 [x0, x1, x2, x3, x4, x5, x6, x7, x8] (st) hi g Φ := AP.iconst (x := 1) d_L_law_1801 (by decide) h
theorem d_L_law_1802 : decode code 1802 = .ok (.iadd, 1) := by decide +kernel
theorem s_L_law_1802 {x y : Int32} (h : AP M_L_law b 1803 [x0, x1, x2, x3, x4, x5, x6, x7, x8] (.int (x + y) :: st) hi g Φ) : AP M_L_law b 1802 [x0, x1, x2, x3, x4, x5, x6, x7, x8] (.int y :: .int x :: st) hi g Φ := AP.iadd d_L_law_1802 h
theorem d_L_law_1803 : decode code 1803 = .ok (.iaload, 1) := by decide +kernel
theorem s_L_law_1803 {k n j : Nat} {i : Int32} (hI : am_Inv g) (hs : am_SH k = (1, n)) (hk : k < 134) (hn : n < 2 ^ 31) (hx : i = nI j) (hj : j < n) (h : AP M_L_law b 1804 [x0, x1, x2, x3, x4, x5, x6, x7, x8] (.int (hi k j) :: st) hi g Φ) : AP M_L_law b 1803 [x0, x1, x2, x3, x4, x5, x6, x7, x8] (.int i :: .ref k :: st) hi g Φ := AP.iald d_L_law_1803 hs (hI.lt hk) hn hx hj h
theorem d_L_law_1804 : decode code 1804 = .ok (.invokevirtual 249, 3) := by decide +kernel
theorem s_L_law_1804 {a0 : Int32} {k : Nat} {r0 : Int32} {P : am_HI → Prop} (hI : am_Inv g) (hs : am_SH k = (0, 10)) (hk : k < 134) (hst : (st.map Value.category).sum ≤ 8) (hc : am_Cr M_X10_whyBest [.ref k, .int a0] hi g (some (.int r0)) P) (h : ∀ hi' : am_HI, P hi' → AP M_L_law b 1807 [x0, x1, x2, x3, x4, x5, x6, x7, x8] (.int r0 :: st) hi' g Φ) : AP M_L_law b 1804 [x0, x1, x2, x3, x4, x5, x6, x7, x8] (.int a0 :: .ref k :: st) hi g Φ := AP.callVr (As := [.int a0]) (q := (RX10, TX10, 15)) hI hc k_L_law_249 d_L_law_1804 rfl hs hk rfl rfl hst h
theorem d_L_law_1807 : decode code 1807 = .ok (.istore 6, 2) := by decide +kernel
theorem s_L_law_1807 {n : Int32} (hc : x5.category = 1) (h : AP M_L_law b 1809 [x0, x1, x2, x3, x4, x5, .int n, x7, x8] (st) hi g Φ) : AP M_L_law b 1807 [x0, x1, x2, x3, x4, x5, x6, x7, x8] (.int n :: st) hi g Φ := AP.istore (x := n) (i := 6) d_L_law_1807 (by decide) (by simp [am_st, am_ci, am_cr, am_cl, am_cd, hc]) h
theorem d_L_law_1809 : decode code 1809 = .ok (.aload_n 2, 1) := by decide +kernel
theorem s_L_law_1809 {n : Nat} (h : AP M_L_law b 1810 [x0, x1, .ref n, x3, x4, x5, x6, x7, x8] (.ref n :: st) hi g Φ) : AP M_L_law b 1809 [x0, x1, .ref n, x3, x4, x5, x6, x7, x8] (st) hi g Φ := AP.aload_n (x := n) (i := 2) d_L_law_1809 rfl rfl h
theorem d_L_law_1810 : decode code 1810 = .ok (.invokevirtual 141, 3) := by decide +kernel
theorem s_L_law_1810  {k : Nat} {r0 : Int32} {P : am_HI → Prop} (hI : am_Inv g) (hs : am_SH k = (0, 10)) (hk : k < 134) (hst : (st.map Value.category).sum ≤ 8) (hc : am_Cr M_X10_thrown [.ref k] hi g (some (.int r0)) P) (h : ∀ hi' : am_HI, P hi' → AP M_L_law b 1813 [x0, x1, x2, x3, x4, x5, x6, x7, x8] (.int r0 :: st) hi' g Φ) : AP M_L_law b 1810 [x0, x1, x2, x3, x4, x5, x6, x7, x8] (.ref k :: st) hi g Φ := AP.callVr (As := []) (q := (RX10, TX10, 15)) hI hc k_L_law_141 d_L_law_1810 rfl hs hk rfl rfl hst h
theorem d_L_law_1813 : decode code 1813 = .ok (.iload 5, 2) := by decide +kernel
theorem s_L_law_1813 {n : Int32} (h : AP M_L_law b 1815 [x0, x1, x2, x3, x4, .int n, x6, x7, x8] (.int n :: st) hi g Φ) : AP M_L_law b 1813 [x0, x1, x2, x3, x4, .int n, x6, x7, x8] (st) hi g Φ := AP.iload (x := n) (i := 5) d_L_law_1813 rfl h
theorem d_L_law_1815 : decode code 1815 = .ok (.if_icmp .eq 5, 3) := by decide +kernel
theorem s_L_law_1815 {x y : Int32} (h1 : x = y → AP M_L_law b 1820 [x0, x1, x2, x3, x4, x5, x6, x7, x8] st hi g Φ) (h2 : ¬ x = y → AP M_L_law b 1818 [x0, x1, x2, x3, x4, x5, x6, x7, x8] st hi g Φ) : AP M_L_law b 1815 [x0, x1, x2, x3, x4, x5, x6, x7, x8] (.int y :: .int x :: st) hi g Φ := AP.icmp_eq d_L_law_1815 (by decide) h1 h2
theorem d_L_law_1818 : decode code 1818 = .ok (.iconst 0, 1) := by decide +kernel
theorem s_L_law_1818 (h : AP M_L_law b 1819 [x0, x1, x2, x3, x4, x5, x6, x7, x8] (.int 0 :: st) hi g Φ) : AP M_L_law b 1818 [x0, x1, x2, x3, x4, x5, x6, x7, x8] (st) hi g Φ := AP.iconst (x := 0) d_L_law_1818 (by decide) h
theorem d_L_law_1819 : decode code 1819 = .ok (.ireturn, 1) := by decide +kernel
theorem s_L_law_1819 {x : Int32} (hx : x = 0 ∨ x = 1) (h : Φ (.ok (some (.int x))) hi g) : AP M_L_law b 1819 [x0, x1, x2, x3, x4, x5, x6, x7, x8] [.int x] hi g Φ := AP.zret d_L_law_1819 rfl hx h
theorem d_L_law_1820 : decode code 1820 = .ok (.iload 5, 2) := by decide +kernel
theorem s_L_law_1820 {n : Int32} (h : AP M_L_law b 1822 [x0, x1, x2, x3, x4, .int n, x6, x7, x8] (.int n :: st) hi g Φ) : AP M_L_law b 1820 [x0, x1, x2, x3, x4, .int n, x6, x7, x8] (st) hi g Φ := AP.iload (x := n) (i := 5) d_L_law_1820 rfl h
theorem d_L_law_1822 : decode code 1822 = .ok (.ifCond .ne 15, 3) := by decide +kernel
theorem s_L_law_1822 {x : Int32} (h1 : ¬ x = 0 → AP M_L_law b 1837 [x0, x1, x2, x3, x4, x5, x6, x7, x8] st hi g Φ) (h2 : x = 0 → AP M_L_law b 1825 [x0, x1, x2, x3, x4, x5, x6, x7, x8] st hi g Φ) : AP M_L_law b 1822 [x0, x1, x2, x3, x4, x5, x6, x7, x8] (.int x :: st) hi g Φ := AP.if_ne d_L_law_1822 (by decide) h1 h2
theorem d_L_law_1825 : decode code 1825 = .ok (.aload_n 3, 1) := by decide +kernel
theorem s_L_law_1825 {n : Nat} (h : AP M_L_law b 1826 [x0, x1, x2, .ref n, x4, x5, x6, x7, x8] (.ref n :: st) hi g Φ) : AP M_L_law b 1825 [x0, x1, x2, .ref n, x4, x5, x6, x7, x8] (st) hi g Φ := AP.aload_n (x := n) (i := 3) d_L_law_1825 rfl rfl h
theorem d_L_law_1826 : decode code 1826 = .ok (.iconst 0, 1) := by decide +kernel
theorem s_L_law_1826 (h : AP M_L_law b 1827 [x0, x1, x2, x3, x4, x5, x6, x7, x8] (.int 0 :: st) hi g Φ) : AP M_L_law b 1826 [x0, x1, x2, x3, x4, x5, x6, x7, x8] (st) hi g Φ := AP.iconst (x := 0) d_L_law_1826 (by decide) h
theorem d_L_law_1827 : decode code 1827 = .ok (.laload, 1) := by decide +kernel
theorem s_L_law_1827 {k n j : Nat} {i : Int32} (hI : am_Inv g) (hs : am_SH k = (4, n)) (hk : k < 134) (hn : n < 2 ^ 31) (hx : i = nI j) (hj : j < n) (h : AP M_L_law b 1828 [x0, x1, x2, x3, x4, x5, x6, x7, x8] (.long (g.2.2 k j) :: st) hi g Φ) : AP M_L_law b 1827 [x0, x1, x2, x3, x4, x5, x6, x7, x8] (.int i :: .ref k :: st) hi g Φ := AP.lald d_L_law_1827 hs (hI.lt hk) hn hx hj h
theorem d_L_law_1828 : decode code 1828 = .ok (.iload 6, 2) := by decide +kernel
theorem s_L_law_1828 {n : Int32} (h : AP M_L_law b 1830 [x0, x1, x2, x3, x4, x5, .int n, x7, x8] (.int n :: st) hi g Φ) : AP M_L_law b 1828 [x0, x1, x2, x3, x4, x5, .int n, x7, x8] (st) hi g Φ := AP.iload (x := n) (i := 6) d_L_law_1828 rfl h
theorem d_L_law_1830 : decode code 1830 = .ok (.i2l, 1) := by decide +kernel
theorem s_L_law_1830 {x : Int32} (h : AP M_L_law b 1831 [x0, x1, x2, x3, x4, x5, x6, x7, x8] (.long x.toInt64 :: st) hi g Φ) : AP M_L_law b 1830 [x0, x1, x2, x3, x4, x5, x6, x7, x8] (.int x :: st) hi g Φ := AP.i2l d_L_law_1830 h
theorem d_L_law_1831 : decode code 1831 = .ok (.lcmp, 1) := by decide +kernel
theorem s_L_law_1831 {x y : Int64} (h : AP M_L_law b 1832 [x0, x1, x2, x3, x4, x5, x6, x7, x8] (.int (lg_cmp x y) :: st) hi g Φ) : AP M_L_law b 1831 [x0, x1, x2, x3, x4, x5, x6, x7, x8] (.long y :: .long x :: st) hi g Φ := AP.lcmp d_L_law_1831 h
theorem d_L_law_1832 : decode code 1832 = .ok (.ifCond .eq 5, 3) := by decide +kernel
theorem s_L_law_1832 {x : Int32} (h1 : x = 0 → AP M_L_law b 1837 [x0, x1, x2, x3, x4, x5, x6, x7, x8] st hi g Φ) (h2 : ¬ x = 0 → AP M_L_law b 1835 [x0, x1, x2, x3, x4, x5, x6, x7, x8] st hi g Φ) : AP M_L_law b 1832 [x0, x1, x2, x3, x4, x5, x6, x7, x8] (.int x :: st) hi g Φ := AP.if_eq d_L_law_1832 (by decide) h1 h2
theorem d_L_law_1835 : decode code 1835 = .ok (.iconst 0, 1) := by decide +kernel
theorem s_L_law_1835 (h : AP M_L_law b 1836 [x0, x1, x2, x3, x4, x5, x6, x7, x8] (.int 0 :: st) hi g Φ) : AP M_L_law b 1835 [x0, x1, x2, x3, x4, x5, x6, x7, x8] (st) hi g Φ := AP.iconst (x := 0) d_L_law_1835 (by decide) h
theorem d_L_law_1836 : decode code 1836 = .ok (.ireturn, 1) := by decide +kernel
theorem s_L_law_1836 {x : Int32} (hx : x = 0 ∨ x = 1) (h : Φ (.ok (some (.int x))) hi g) : AP M_L_law b 1836 [x0, x1, x2, x3, x4, x5, x6, x7, x8] [.int x] hi g Φ := AP.zret d_L_law_1836 rfl hx h
theorem d_L_law_1837 : decode code 1837 = .ok (.goto 914, 3) := by decide +kernel
theorem s_L_law_1837 (h : AP M_L_law b 2751 [x0, x1, x2, x3, x4, x5, x6, x7, x8] st hi g Φ) : AP M_L_law b 1837 [x0, x1, x2, x3, x4, x5, x6, x7, x8] st hi g Φ := AP.goto d_L_law_1837 (by decide) h
theorem d_L_law_1840 : decode code 1840 = .ok (.aload_n 1, 1) := by decide +kernel
theorem s_L_law_1840 {n : Nat} (h : AP M_L_law b 1841 [x0, .ref n, x2, x3, x4, x5, x6, x7, x8] (.ref n :: st) hi g Φ) : AP M_L_law b 1840 [x0, .ref n, x2, x3, x4, x5, x6, x7, x8] (st) hi g Φ := AP.aload_n (x := n) (i := 1) d_L_law_1840 rfl rfl h
theorem d_L_law_1841 : decode code 1841 = .ok (.invokevirtual 250, 3) := by decide +kernel
theorem s_L_law_1841  {k : Nat} {r0 : Int32} {P : am_HI → Prop} (hI : am_Inv g) (hs : am_SH k = (0, 9)) (hk : k < 134) (hst : (st.map Value.category).sum ≤ 8) (hc : am_Cr M_X9_bits [.ref k] hi g (some (.int r0)) P) (h : ∀ hi' : am_HI, P hi' → AP M_L_law b 1844 [x0, x1, x2, x3, x4, x5, x6, x7, x8] (.int r0 :: st) hi' g Φ) : AP M_L_law b 1841 [x0, x1, x2, x3, x4, x5, x6, x7, x8] (.ref k :: st) hi g Φ := AP.callVr (As := []) (q := (RX9, TX9, 7)) hI hc k_L_law_250 d_L_law_1841 rfl hs hk rfl rfl hst h
theorem d_L_law_1844 : decode code 1844 = .ok (.aload_n 2, 1) := by decide +kernel
theorem s_L_law_1844 {n : Nat} (h : AP M_L_law b 1845 [x0, x1, .ref n, x3, x4, x5, x6, x7, x8] (.ref n :: st) hi g Φ) : AP M_L_law b 1844 [x0, x1, .ref n, x3, x4, x5, x6, x7, x8] (st) hi g Φ := AP.aload_n (x := n) (i := 2) d_L_law_1844 rfl rfl h
theorem d_L_law_1845 : decode code 1845 = .ok (.invokevirtual 253, 3) := by decide +kernel
theorem s_L_law_1845  {k : Nat} {r0 : Int32} {P : am_HI → Prop} (hI : am_Inv g) (hs : am_SH k = (0, 10)) (hk : k < 134) (hst : (st.map Value.category).sum ≤ 8) (hc : am_Cr M_X10_bits [.ref k] hi g (some (.int r0)) P) (h : ∀ hi' : am_HI, P hi' → AP M_L_law b 1848 [x0, x1, x2, x3, x4, x5, x6, x7, x8] (.int r0 :: st) hi' g Φ) : AP M_L_law b 1845 [x0, x1, x2, x3, x4, x5, x6, x7, x8] (.ref k :: st) hi g Φ := AP.callVr (As := []) (q := (RX10, TX10, 15)) hI hc k_L_law_253 d_L_law_1845 rfl hs hk rfl rfl hst h
theorem d_L_law_1848 : decode code 1848 = .ok (.if_icmp .eq 903, 3) := by decide +kernel
theorem s_L_law_1848 {x y : Int32} (h1 : x = y → AP M_L_law b 2751 [x0, x1, x2, x3, x4, x5, x6, x7, x8] st hi g Φ) (h2 : ¬ x = y → AP M_L_law b 1851 [x0, x1, x2, x3, x4, x5, x6, x7, x8] st hi g Φ) : AP M_L_law b 1848 [x0, x1, x2, x3, x4, x5, x6, x7, x8] (.int y :: .int x :: st) hi g Φ := AP.icmp_eq d_L_law_1848 (by decide) h1 h2
theorem d_L_law_1851 : decode code 1851 = .ok (.iconst 0, 1) := by decide +kernel
theorem s_L_law_1851 (h : AP M_L_law b 1852 [x0, x1, x2, x3, x4, x5, x6, x7, x8] (.int 0 :: st) hi g Φ) : AP M_L_law b 1851 [x0, x1, x2, x3, x4, x5, x6, x7, x8] (st) hi g Φ := AP.iconst (x := 0) d_L_law_1851 (by decide) h
theorem d_L_law_1852 : decode code 1852 = .ok (.ireturn, 1) := by decide +kernel
theorem s_L_law_1852 {x : Int32} (hx : x = 0 ∨ x = 1) (h : Φ (.ok (some (.int x))) hi g) : AP M_L_law b 1852 [x0, x1, x2, x3, x4, x5, x6, x7, x8] [.int x] hi g Φ := AP.zret d_L_law_1852 rfl hx h
theorem d_L_law_1853 : decode code 1853 = .ok (.aload_n 1, 1) := by decide +kernel
theorem s_L_law_1853 {n : Nat} (h : AP M_L_law b 1854 [x0, .ref n, x2, x3, x4, x5, x6, x7, x8] (.ref n :: st) hi g Φ) : AP M_L_law b 1853 [x0, .ref n, x2, x3, x4, x5, x6, x7, x8] (st) hi g Φ := AP.aload_n (x := n) (i := 1) d_L_law_1853 rfl rfl h
theorem d_L_law_1854 : decode code 1854 = .ok (.invokevirtual 254, 3) := by decide +kernel
theorem s_L_law_1854  {k : Nat} {r0 : Int32} {P : am_HI → Prop} (hI : am_Inv g) (hs : am_SH k = (0, 9)) (hk : k < 134) (hst : (st.map Value.category).sum ≤ 8) (hc : am_Cr M_X9_bitsByKinds [.ref k] hi g (some (.int r0)) P) (h : ∀ hi' : am_HI, P hi' → AP M_L_law b 1857 [x0, x1, x2, x3, x4, x5, x6, x7, x8] (.int r0 :: st) hi' g Φ) : AP M_L_law b 1854 [x0, x1, x2, x3, x4, x5, x6, x7, x8] (.ref k :: st) hi g Φ := AP.callVr (As := []) (q := (RX9, TX9, 7)) hI hc k_L_law_254 d_L_law_1854 rfl hs hk rfl rfl hst h
theorem d_L_law_1857 : decode code 1857 = .ok (.aload_n 2, 1) := by decide +kernel
theorem s_L_law_1857 {n : Nat} (h : AP M_L_law b 1858 [x0, x1, .ref n, x3, x4, x5, x6, x7, x8] (.ref n :: st) hi g Φ) : AP M_L_law b 1857 [x0, x1, .ref n, x3, x4, x5, x6, x7, x8] (st) hi g Φ := AP.aload_n (x := n) (i := 2) d_L_law_1857 rfl rfl h
theorem d_L_law_1858 : decode code 1858 = .ok (.invokevirtual 257, 3) := by decide +kernel
theorem s_L_law_1858  {k : Nat} {r0 : Int32} {P : am_HI → Prop} (hI : am_Inv g) (hs : am_SH k = (0, 10)) (hk : k < 134) (hst : (st.map Value.category).sum ≤ 8) (hc : am_Cr M_X10_bitsByKinds [.ref k] hi g (some (.int r0)) P) (h : ∀ hi' : am_HI, P hi' → AP M_L_law b 1861 [x0, x1, x2, x3, x4, x5, x6, x7, x8] (.int r0 :: st) hi' g Φ) : AP M_L_law b 1858 [x0, x1, x2, x3, x4, x5, x6, x7, x8] (.ref k :: st) hi g Φ := AP.callVr (As := []) (q := (RX10, TX10, 15)) hI hc k_L_law_257 d_L_law_1858 rfl hs hk rfl rfl hst h
theorem d_L_law_1861 : decode code 1861 = .ok (.if_icmp .eq 890, 3) := by decide +kernel
theorem s_L_law_1861 {x y : Int32} (h1 : x = y → AP M_L_law b 2751 [x0, x1, x2, x3, x4, x5, x6, x7, x8] st hi g Φ) (h2 : ¬ x = y → AP M_L_law b 1864 [x0, x1, x2, x3, x4, x5, x6, x7, x8] st hi g Φ) : AP M_L_law b 1861 [x0, x1, x2, x3, x4, x5, x6, x7, x8] (.int y :: .int x :: st) hi g Φ := AP.icmp_eq d_L_law_1861 (by decide) h1 h2
theorem d_L_law_1864 : decode code 1864 = .ok (.iconst 0, 1) := by decide +kernel
theorem s_L_law_1864 (h : AP M_L_law b 1865 [x0, x1, x2, x3, x4, x5, x6, x7, x8] (.int 0 :: st) hi g Φ) : AP M_L_law b 1864 [x0, x1, x2, x3, x4, x5, x6, x7, x8] (st) hi g Φ := AP.iconst (x := 0) d_L_law_1864 (by decide) h
theorem d_L_law_1865 : decode code 1865 = .ok (.ireturn, 1) := by decide +kernel
theorem s_L_law_1865 {x : Int32} (hx : x = 0 ∨ x = 1) (h : Φ (.ok (some (.int x))) hi g) : AP M_L_law b 1865 [x0, x1, x2, x3, x4, x5, x6, x7, x8] [.int x] hi g Φ := AP.zret d_L_law_1865 rfl hx h
theorem d_L_law_1866 : decode code 1866 = .ok (.aload_n 1, 1) := by decide +kernel
theorem s_L_law_1866 {n : Nat} (h : AP M_L_law b 1867 [x0, .ref n, x2, x3, x4, x5, x6, x7, x8] (.ref n :: st) hi g Φ) : AP M_L_law b 1866 [x0, .ref n, x2, x3, x4, x5, x6, x7, x8] (st) hi g Φ := AP.aload_n (x := n) (i := 1) d_L_law_1866 rfl rfl h
theorem d_L_law_1867 : decode code 1867 = .ok (.aload_n 0, 1) := by decide +kernel
theorem s_L_law_1867 {n : Nat} (h : AP M_L_law b 1868 [.ref n, x1, x2, x3, x4, x5, x6, x7, x8] (.ref n :: st) hi g Φ) : AP M_L_law b 1867 [.ref n, x1, x2, x3, x4, x5, x6, x7, x8] (st) hi g Φ := AP.aload_n (x := n) (i := 0) d_L_law_1867 rfl rfl h
theorem d_L_law_1868 : decode code 1868 = .ok (.iload 4, 2) := by decide +kernel
theorem s_L_law_1868 {n : Int32} (h : AP M_L_law b 1870 [x0, x1, x2, x3, .int n, x5, x6, x7, x8] (.int n :: st) hi g Φ) : AP M_L_law b 1868 [x0, x1, x2, x3, .int n, x5, x6, x7, x8] (st) hi g Φ := AP.iload (x := n) (i := 4) d_L_law_1868 rfl h
theorem d_L_law_1870 : decode code 1870 = .ok (.iconst 1, 1) := by decide +kernel
theorem s_L_law_1870 (h : AP M_L_law b 1871 [x0, x1, x2, x3, x4, x5, x6, x7, x8] (.int 1 :: st) hi g Φ) : AP M_L_law b 1870 [x0, x1, x2, x3, x4, x5, x6, x7, x8] (st) hi g Φ := AP.iconst (x := 1) d_L_law_1870 (by decide) h
theorem d_L_law_1871 : decode code 1871 = .ok (.iadd, 1) := by decide +kernel
theorem s_L_law_1871 {x y : Int32} (h : AP M_L_law b 1872 [x0, x1, x2, x3, x4, x5, x6, x7, x8] (.int (x + y) :: st) hi g Φ) : AP M_L_law b 1871 [x0, x1, x2, x3, x4, x5, x6, x7, x8] (.int y :: .int x :: st) hi g Φ := AP.iadd d_L_law_1871 h
theorem d_L_law_1872 : decode code 1872 = .ok (.iaload, 1) := by decide +kernel
theorem s_L_law_1872 {k n j : Nat} {i : Int32} (hI : am_Inv g) (hs : am_SH k = (1, n)) (hk : k < 134) (hn : n < 2 ^ 31) (hx : i = nI j) (hj : j < n) (h : AP M_L_law b 1873 [x0, x1, x2, x3, x4, x5, x6, x7, x8] (.int (hi k j) :: st) hi g Φ) : AP M_L_law b 1872 [x0, x1, x2, x3, x4, x5, x6, x7, x8] (.int i :: .ref k :: st) hi g Φ := AP.iald d_L_law_1872 hs (hI.lt hk) hn hx hj h
theorem d_L_law_1873 : decode code 1873 = .ok (.aload_n 3, 1) := by decide +kernel
theorem s_L_law_1873 {n : Nat} (h : AP M_L_law b 1874 [x0, x1, x2, .ref n, x4, x5, x6, x7, x8] (.ref n :: st) hi g Φ) : AP M_L_law b 1873 [x0, x1, x2, .ref n, x4, x5, x6, x7, x8] (st) hi g Φ := AP.aload_n (x := n) (i := 3) d_L_law_1873 rfl rfl h
theorem d_L_law_1874 : decode code 1874 = .ok (.invokestatic 258, 3) := by decide +kernel
-- s_L_law_1874: a call apart
theorem d_L_law_1877 : decode code 1877 = .ok (.istore 5, 2) := by decide +kernel
theorem s_L_law_1877 {n : Int32} (hc : x4.category = 1) (h : AP M_L_law b 1879 [x0, x1, x2, x3, x4, .int n, x6, x7, x8] (st) hi g Φ) : AP M_L_law b 1877 [x0, x1, x2, x3, x4, x5, x6, x7, x8] (.int n :: st) hi g Φ := AP.istore (x := n) (i := 5) d_L_law_1877 (by decide) (by simp [am_st, am_ci, am_cr, am_cl, am_cd, hc]) h
theorem d_L_law_1879 : decode code 1879 = .ok (.aload_n 2, 1) := by decide +kernel
theorem s_L_law_1879 {n : Nat} (h : AP M_L_law b 1880 [x0, x1, .ref n, x3, x4, x5, x6, x7, x8] (.ref n :: st) hi g Φ) : AP M_L_law b 1879 [x0, x1, .ref n, x3, x4, x5, x6, x7, x8] (st) hi g Φ := AP.aload_n (x := n) (i := 2) d_L_law_1879 rfl rfl h
theorem d_L_law_1880 : decode code 1880 = .ok (.aload_n 0, 1) := by decide +kernel
theorem s_L_law_1880 {n : Nat} (h : AP M_L_law b 1881 [.ref n, x1, x2, x3, x4, x5, x6, x7, x8] (.ref n :: st) hi g Φ) : AP M_L_law b 1880 [.ref n, x1, x2, x3, x4, x5, x6, x7, x8] (st) hi g Φ := AP.aload_n (x := n) (i := 0) d_L_law_1880 rfl rfl h
theorem d_L_law_1881 : decode code 1881 = .ok (.iload 4, 2) := by decide +kernel
theorem s_L_law_1881 {n : Int32} (h : AP M_L_law b 1883 [x0, x1, x2, x3, .int n, x5, x6, x7, x8] (.int n :: st) hi g Φ) : AP M_L_law b 1881 [x0, x1, x2, x3, .int n, x5, x6, x7, x8] (st) hi g Φ := AP.iload (x := n) (i := 4) d_L_law_1881 rfl h
theorem d_L_law_1883 : decode code 1883 = .ok (.iconst 1, 1) := by decide +kernel
theorem s_L_law_1883 (h : AP M_L_law b 1884 [x0, x1, x2, x3, x4, x5, x6, x7, x8] (.int 1 :: st) hi g Φ) : AP M_L_law b 1883 [x0, x1, x2, x3, x4, x5, x6, x7, x8] (st) hi g Φ := AP.iconst (x := 1) d_L_law_1883 (by decide) h
theorem d_L_law_1884 : decode code 1884 = .ok (.iadd, 1) := by decide +kernel
theorem s_L_law_1884 {x y : Int32} (h : AP M_L_law b 1885 [x0, x1, x2, x3, x4, x5, x6, x7, x8] (.int (x + y) :: st) hi g Φ) : AP M_L_law b 1884 [x0, x1, x2, x3, x4, x5, x6, x7, x8] (.int y :: .int x :: st) hi g Φ := AP.iadd d_L_law_1884 h
theorem d_L_law_1885 : decode code 1885 = .ok (.iaload, 1) := by decide +kernel
theorem s_L_law_1885 {k n j : Nat} {i : Int32} (hI : am_Inv g) (hs : am_SH k = (1, n)) (hk : k < 134) (hn : n < 2 ^ 31) (hx : i = nI j) (hj : j < n) (h : AP M_L_law b 1886 [x0, x1, x2, x3, x4, x5, x6, x7, x8] (.int (hi k j) :: st) hi g Φ) : AP M_L_law b 1885 [x0, x1, x2, x3, x4, x5, x6, x7, x8] (.int i :: .ref k :: st) hi g Φ := AP.iald d_L_law_1885 hs (hI.lt hk) hn hx hj h
theorem d_L_law_1886 : decode code 1886 = .ok (.invokevirtual 260, 3) := by decide +kernel
theorem s_L_law_1886 {a0 : Int32} {k : Nat} {r0 : Int32} {P : am_HI → Prop} (hI : am_Inv g) (hs : am_SH k = (0, 10)) (hk : k < 134) (hst : (st.map Value.category).sum ≤ 8) (hc : am_Cr M_X10_blocksWith [.ref k, .int a0] hi g (some (.int r0)) P) (h : ∀ hi' : am_HI, P hi' → AP M_L_law b 1889 [x0, x1, x2, x3, x4, x5, x6, x7, x8] (.int r0 :: st) hi' g Φ) : AP M_L_law b 1886 [x0, x1, x2, x3, x4, x5, x6, x7, x8] (.int a0 :: .ref k :: st) hi g Φ := AP.callVr (As := [.int a0]) (q := (RX10, TX10, 15)) hI hc k_L_law_260 d_L_law_1886 rfl hs hk rfl rfl hst h
theorem d_L_law_1889 : decode code 1889 = .ok (.istore 6, 2) := by decide +kernel
theorem s_L_law_1889 {n : Int32} (hc : x5.category = 1) (h : AP M_L_law b 1891 [x0, x1, x2, x3, x4, x5, .int n, x7, x8] (st) hi g Φ) : AP M_L_law b 1889 [x0, x1, x2, x3, x4, x5, x6, x7, x8] (.int n :: st) hi g Φ := AP.istore (x := n) (i := 6) d_L_law_1889 (by decide) (by simp [am_st, am_ci, am_cr, am_cl, am_cd, hc]) h
theorem d_L_law_1891 : decode code 1891 = .ok (.aload_n 2, 1) := by decide +kernel
theorem s_L_law_1891 {n : Nat} (h : AP M_L_law b 1892 [x0, x1, .ref n, x3, x4, x5, x6, x7, x8] (.ref n :: st) hi g Φ) : AP M_L_law b 1891 [x0, x1, .ref n, x3, x4, x5, x6, x7, x8] (st) hi g Φ := AP.aload_n (x := n) (i := 2) d_L_law_1891 rfl rfl h
theorem d_L_law_1892 : decode code 1892 = .ok (.invokevirtual 141, 3) := by decide +kernel
theorem s_L_law_1892  {k : Nat} {r0 : Int32} {P : am_HI → Prop} (hI : am_Inv g) (hs : am_SH k = (0, 10)) (hk : k < 134) (hst : (st.map Value.category).sum ≤ 8) (hc : am_Cr M_X10_thrown [.ref k] hi g (some (.int r0)) P) (h : ∀ hi' : am_HI, P hi' → AP M_L_law b 1895 [x0, x1, x2, x3, x4, x5, x6, x7, x8] (.int r0 :: st) hi' g Φ) : AP M_L_law b 1892 [x0, x1, x2, x3, x4, x5, x6, x7, x8] (.ref k :: st) hi g Φ := AP.callVr (As := []) (q := (RX10, TX10, 15)) hI hc k_L_law_141 d_L_law_1892 rfl hs hk rfl rfl hst h
theorem d_L_law_1895 : decode code 1895 = .ok (.iload 5, 2) := by decide +kernel
theorem s_L_law_1895 {n : Int32} (h : AP M_L_law b 1897 [x0, x1, x2, x3, x4, .int n, x6, x7, x8] (.int n :: st) hi g Φ) : AP M_L_law b 1895 [x0, x1, x2, x3, x4, .int n, x6, x7, x8] (st) hi g Φ := AP.iload (x := n) (i := 5) d_L_law_1895 rfl h
theorem d_L_law_1897 : decode code 1897 = .ok (.if_icmp .eq 5, 3) := by decide +kernel
theorem s_L_law_1897 {x y : Int32} (h1 : x = y → AP M_L_law b 1902 [x0, x1, x2, x3, x4, x5, x6, x7, x8] st hi g Φ) (h2 : ¬ x = y → AP M_L_law b 1900 [x0, x1, x2, x3, x4, x5, x6, x7, x8] st hi g Φ) : AP M_L_law b 1897 [x0, x1, x2, x3, x4, x5, x6, x7, x8] (.int y :: .int x :: st) hi g Φ := AP.icmp_eq d_L_law_1897 (by decide) h1 h2
theorem d_L_law_1900 : decode code 1900 = .ok (.iconst 0, 1) := by decide +kernel
theorem s_L_law_1900 (h : AP M_L_law b 1901 [x0, x1, x2, x3, x4, x5, x6, x7, x8] (.int 0 :: st) hi g Φ) : AP M_L_law b 1900 [x0, x1, x2, x3, x4, x5, x6, x7, x8] (st) hi g Φ := AP.iconst (x := 0) d_L_law_1900 (by decide) h
theorem d_L_law_1901 : decode code 1901 = .ok (.ireturn, 1) := by decide +kernel
theorem s_L_law_1901 {x : Int32} (hx : x = 0 ∨ x = 1) (h : Φ (.ok (some (.int x))) hi g) : AP M_L_law b 1901 [x0, x1, x2, x3, x4, x5, x6, x7, x8] [.int x] hi g Φ := AP.zret d_L_law_1901 rfl hx h
theorem d_L_law_1902 : decode code 1902 = .ok (.iload 5, 2) := by decide +kernel
theorem s_L_law_1902 {n : Int32} (h : AP M_L_law b 1904 [x0, x1, x2, x3, x4, .int n, x6, x7, x8] (.int n :: st) hi g Φ) : AP M_L_law b 1902 [x0, x1, x2, x3, x4, .int n, x6, x7, x8] (st) hi g Φ := AP.iload (x := n) (i := 5) d_L_law_1902 rfl h
theorem d_L_law_1904 : decode code 1904 = .ok (.ifCond .ne 15, 3) := by decide +kernel
theorem s_L_law_1904 {x : Int32} (h1 : ¬ x = 0 → AP M_L_law b 1919 [x0, x1, x2, x3, x4, x5, x6, x7, x8] st hi g Φ) (h2 : x = 0 → AP M_L_law b 1907 [x0, x1, x2, x3, x4, x5, x6, x7, x8] st hi g Φ) : AP M_L_law b 1904 [x0, x1, x2, x3, x4, x5, x6, x7, x8] (.int x :: st) hi g Φ := AP.if_ne d_L_law_1904 (by decide) h1 h2
theorem d_L_law_1907 : decode code 1907 = .ok (.aload_n 3, 1) := by decide +kernel
theorem s_L_law_1907 {n : Nat} (h : AP M_L_law b 1908 [x0, x1, x2, .ref n, x4, x5, x6, x7, x8] (.ref n :: st) hi g Φ) : AP M_L_law b 1907 [x0, x1, x2, .ref n, x4, x5, x6, x7, x8] (st) hi g Φ := AP.aload_n (x := n) (i := 3) d_L_law_1907 rfl rfl h
theorem d_L_law_1908 : decode code 1908 = .ok (.iconst 0, 1) := by decide +kernel
theorem s_L_law_1908 (h : AP M_L_law b 1909 [x0, x1, x2, x3, x4, x5, x6, x7, x8] (.int 0 :: st) hi g Φ) : AP M_L_law b 1908 [x0, x1, x2, x3, x4, x5, x6, x7, x8] (st) hi g Φ := AP.iconst (x := 0) d_L_law_1908 (by decide) h
theorem d_L_law_1909 : decode code 1909 = .ok (.laload, 1) := by decide +kernel
theorem s_L_law_1909 {k n j : Nat} {i : Int32} (hI : am_Inv g) (hs : am_SH k = (4, n)) (hk : k < 134) (hn : n < 2 ^ 31) (hx : i = nI j) (hj : j < n) (h : AP M_L_law b 1910 [x0, x1, x2, x3, x4, x5, x6, x7, x8] (.long (g.2.2 k j) :: st) hi g Φ) : AP M_L_law b 1909 [x0, x1, x2, x3, x4, x5, x6, x7, x8] (.int i :: .ref k :: st) hi g Φ := AP.lald d_L_law_1909 hs (hI.lt hk) hn hx hj h
theorem d_L_law_1910 : decode code 1910 = .ok (.iload 6, 2) := by decide +kernel
theorem s_L_law_1910 {n : Int32} (h : AP M_L_law b 1912 [x0, x1, x2, x3, x4, x5, .int n, x7, x8] (.int n :: st) hi g Φ) : AP M_L_law b 1910 [x0, x1, x2, x3, x4, x5, .int n, x7, x8] (st) hi g Φ := AP.iload (x := n) (i := 6) d_L_law_1910 rfl h
theorem d_L_law_1912 : decode code 1912 = .ok (.i2l, 1) := by decide +kernel
theorem s_L_law_1912 {x : Int32} (h : AP M_L_law b 1913 [x0, x1, x2, x3, x4, x5, x6, x7, x8] (.long x.toInt64 :: st) hi g Φ) : AP M_L_law b 1912 [x0, x1, x2, x3, x4, x5, x6, x7, x8] (.int x :: st) hi g Φ := AP.i2l d_L_law_1912 h
theorem d_L_law_1913 : decode code 1913 = .ok (.lcmp, 1) := by decide +kernel
theorem s_L_law_1913 {x y : Int64} (h : AP M_L_law b 1914 [x0, x1, x2, x3, x4, x5, x6, x7, x8] (.int (lg_cmp x y) :: st) hi g Φ) : AP M_L_law b 1913 [x0, x1, x2, x3, x4, x5, x6, x7, x8] (.long y :: .long x :: st) hi g Φ := AP.lcmp d_L_law_1913 h
theorem d_L_law_1914 : decode code 1914 = .ok (.ifCond .eq 5, 3) := by decide +kernel
theorem s_L_law_1914 {x : Int32} (h1 : x = 0 → AP M_L_law b 1919 [x0, x1, x2, x3, x4, x5, x6, x7, x8] st hi g Φ) (h2 : ¬ x = 0 → AP M_L_law b 1917 [x0, x1, x2, x3, x4, x5, x6, x7, x8] st hi g Φ) : AP M_L_law b 1914 [x0, x1, x2, x3, x4, x5, x6, x7, x8] (.int x :: st) hi g Φ := AP.if_eq d_L_law_1914 (by decide) h1 h2
theorem d_L_law_1917 : decode code 1917 = .ok (.iconst 0, 1) := by decide +kernel
theorem s_L_law_1917 (h : AP M_L_law b 1918 [x0, x1, x2, x3, x4, x5, x6, x7, x8] (.int 0 :: st) hi g Φ) : AP M_L_law b 1917 [x0, x1, x2, x3, x4, x5, x6, x7, x8] (st) hi g Φ := AP.iconst (x := 0) d_L_law_1917 (by decide) h
theorem d_L_law_1918 : decode code 1918 = .ok (.ireturn, 1) := by decide +kernel
theorem s_L_law_1918 {x : Int32} (hx : x = 0 ∨ x = 1) (h : Φ (.ok (some (.int x))) hi g) : AP M_L_law b 1918 [x0, x1, x2, x3, x4, x5, x6, x7, x8] [.int x] hi g Φ := AP.zret d_L_law_1918 rfl hx h
theorem d_L_law_1919 : decode code 1919 = .ok (.goto 832, 3) := by decide +kernel
theorem s_L_law_1919 (h : AP M_L_law b 2751 [x0, x1, x2, x3, x4, x5, x6, x7, x8] st hi g Φ) : AP M_L_law b 1919 [x0, x1, x2, x3, x4, x5, x6, x7, x8] st hi g Φ := AP.goto d_L_law_1919 (by decide) h
theorem d_L_law_1922 : decode code 1922 = .ok (.aload_n 1, 1) := by decide +kernel
theorem s_L_law_1922 {n : Nat} (h : AP M_L_law b 1923 [x0, .ref n, x2, x3, x4, x5, x6, x7, x8] (.ref n :: st) hi g Φ) : AP M_L_law b 1922 [x0, .ref n, x2, x3, x4, x5, x6, x7, x8] (st) hi g Φ := AP.aload_n (x := n) (i := 1) d_L_law_1922 rfl rfl h
theorem d_L_law_1923 : decode code 1923 = .ok (.aload_n 0, 1) := by decide +kernel
theorem s_L_law_1923 {n : Nat} (h : AP M_L_law b 1924 [.ref n, x1, x2, x3, x4, x5, x6, x7, x8] (.ref n :: st) hi g Φ) : AP M_L_law b 1923 [.ref n, x1, x2, x3, x4, x5, x6, x7, x8] (st) hi g Φ := AP.aload_n (x := n) (i := 0) d_L_law_1923 rfl rfl h
theorem d_L_law_1924 : decode code 1924 = .ok (.iload 4, 2) := by decide +kernel
theorem s_L_law_1924 {n : Int32} (h : AP M_L_law b 1926 [x0, x1, x2, x3, .int n, x5, x6, x7, x8] (.int n :: st) hi g Φ) : AP M_L_law b 1924 [x0, x1, x2, x3, .int n, x5, x6, x7, x8] (st) hi g Φ := AP.iload (x := n) (i := 4) d_L_law_1924 rfl h
theorem d_L_law_1926 : decode code 1926 = .ok (.iconst 1, 1) := by decide +kernel
theorem s_L_law_1926 (h : AP M_L_law b 1927 [x0, x1, x2, x3, x4, x5, x6, x7, x8] (.int 1 :: st) hi g Φ) : AP M_L_law b 1926 [x0, x1, x2, x3, x4, x5, x6, x7, x8] (st) hi g Φ := AP.iconst (x := 1) d_L_law_1926 (by decide) h
theorem d_L_law_1927 : decode code 1927 = .ok (.iadd, 1) := by decide +kernel
theorem s_L_law_1927 {x y : Int32} (h : AP M_L_law b 1928 [x0, x1, x2, x3, x4, x5, x6, x7, x8] (.int (x + y) :: st) hi g Φ) : AP M_L_law b 1927 [x0, x1, x2, x3, x4, x5, x6, x7, x8] (.int y :: .int x :: st) hi g Φ := AP.iadd d_L_law_1927 h
theorem d_L_law_1928 : decode code 1928 = .ok (.iaload, 1) := by decide +kernel
theorem s_L_law_1928 {k n j : Nat} {i : Int32} (hI : am_Inv g) (hs : am_SH k = (1, n)) (hk : k < 134) (hn : n < 2 ^ 31) (hx : i = nI j) (hj : j < n) (h : AP M_L_law b 1929 [x0, x1, x2, x3, x4, x5, x6, x7, x8] (.int (hi k j) :: st) hi g Φ) : AP M_L_law b 1928 [x0, x1, x2, x3, x4, x5, x6, x7, x8] (.int i :: .ref k :: st) hi g Φ := AP.iald d_L_law_1928 hs (hI.lt hk) hn hx hj h
theorem d_L_law_1929 : decode code 1929 = .ok (.aload_n 3, 1) := by decide +kernel
theorem s_L_law_1929 {n : Nat} (h : AP M_L_law b 1930 [x0, x1, x2, .ref n, x4, x5, x6, x7, x8] (.ref n :: st) hi g Φ) : AP M_L_law b 1929 [x0, x1, x2, .ref n, x4, x5, x6, x7, x8] (st) hi g Φ := AP.aload_n (x := n) (i := 3) d_L_law_1929 rfl rfl h
theorem d_L_law_1930 : decode code 1930 = .ok (.invokestatic 261, 3) := by decide +kernel
-- s_L_law_1930: a call apart
theorem d_L_law_1933 : decode code 1933 = .ok (.istore 5, 2) := by decide +kernel
theorem s_L_law_1933 {n : Int32} (hc : x4.category = 1) (h : AP M_L_law b 1935 [x0, x1, x2, x3, x4, .int n, x6, x7, x8] (st) hi g Φ) : AP M_L_law b 1933 [x0, x1, x2, x3, x4, x5, x6, x7, x8] (.int n :: st) hi g Φ := AP.istore (x := n) (i := 5) d_L_law_1933 (by decide) (by simp [am_st, am_ci, am_cr, am_cl, am_cd, hc]) h
theorem d_L_law_1935 : decode code 1935 = .ok (.aload_n 2, 1) := by decide +kernel
theorem s_L_law_1935 {n : Nat} (h : AP M_L_law b 1936 [x0, x1, .ref n, x3, x4, x5, x6, x7, x8] (.ref n :: st) hi g Φ) : AP M_L_law b 1935 [x0, x1, .ref n, x3, x4, x5, x6, x7, x8] (st) hi g Φ := AP.aload_n (x := n) (i := 2) d_L_law_1935 rfl rfl h
theorem d_L_law_1936 : decode code 1936 = .ok (.aload_n 0, 1) := by decide +kernel
theorem s_L_law_1936 {n : Nat} (h : AP M_L_law b 1937 [.ref n, x1, x2, x3, x4, x5, x6, x7, x8] (.ref n :: st) hi g Φ) : AP M_L_law b 1936 [.ref n, x1, x2, x3, x4, x5, x6, x7, x8] (st) hi g Φ := AP.aload_n (x := n) (i := 0) d_L_law_1936 rfl rfl h
theorem d_L_law_1937 : decode code 1937 = .ok (.iload 4, 2) := by decide +kernel
theorem s_L_law_1937 {n : Int32} (h : AP M_L_law b 1939 [x0, x1, x2, x3, .int n, x5, x6, x7, x8] (.int n :: st) hi g Φ) : AP M_L_law b 1937 [x0, x1, x2, x3, .int n, x5, x6, x7, x8] (st) hi g Φ := AP.iload (x := n) (i := 4) d_L_law_1937 rfl h
theorem d_L_law_1939 : decode code 1939 = .ok (.iconst 1, 1) := by decide +kernel
theorem s_L_law_1939 (h : AP M_L_law b 1940 [x0, x1, x2, x3, x4, x5, x6, x7, x8] (.int 1 :: st) hi g Φ) : AP M_L_law b 1939 [x0, x1, x2, x3, x4, x5, x6, x7, x8] (st) hi g Φ := AP.iconst (x := 1) d_L_law_1939 (by decide) h
theorem d_L_law_1940 : decode code 1940 = .ok (.iadd, 1) := by decide +kernel
theorem s_L_law_1940 {x y : Int32} (h : AP M_L_law b 1941 [x0, x1, x2, x3, x4, x5, x6, x7, x8] (.int (x + y) :: st) hi g Φ) : AP M_L_law b 1940 [x0, x1, x2, x3, x4, x5, x6, x7, x8] (.int y :: .int x :: st) hi g Φ := AP.iadd d_L_law_1940 h
theorem d_L_law_1941 : decode code 1941 = .ok (.iaload, 1) := by decide +kernel
theorem s_L_law_1941 {k n j : Nat} {i : Int32} (hI : am_Inv g) (hs : am_SH k = (1, n)) (hk : k < 134) (hn : n < 2 ^ 31) (hx : i = nI j) (hj : j < n) (h : AP M_L_law b 1942 [x0, x1, x2, x3, x4, x5, x6, x7, x8] (.int (hi k j) :: st) hi g Φ) : AP M_L_law b 1941 [x0, x1, x2, x3, x4, x5, x6, x7, x8] (.int i :: .ref k :: st) hi g Φ := AP.iald d_L_law_1941 hs (hI.lt hk) hn hx hj h
theorem d_L_law_1942 : decode code 1942 = .ok (.invokevirtual 263, 3) := by decide +kernel
theorem s_L_law_1942 {a0 : Int32} {k : Nat} {r0 : Int32} {P : am_HI → Prop} (hI : am_Inv g) (hs : am_SH k = (0, 10)) (hk : k < 134) (hst : (st.map Value.category).sum ≤ 8) (hc : am_Cr M_X10_bitsIfOnly [.ref k, .int a0] hi g (some (.int r0)) P) (h : ∀ hi' : am_HI, P hi' → AP M_L_law b 1945 [x0, x1, x2, x3, x4, x5, x6, x7, x8] (.int r0 :: st) hi' g Φ) : AP M_L_law b 1942 [x0, x1, x2, x3, x4, x5, x6, x7, x8] (.int a0 :: .ref k :: st) hi g Φ := AP.callVr (As := [.int a0]) (q := (RX10, TX10, 15)) hI hc k_L_law_263 d_L_law_1942 rfl hs hk rfl rfl hst h
theorem d_L_law_1945 : decode code 1945 = .ok (.istore 6, 2) := by decide +kernel
theorem s_L_law_1945 {n : Int32} (hc : x5.category = 1) (h : AP M_L_law b 1947 [x0, x1, x2, x3, x4, x5, .int n, x7, x8] (st) hi g Φ) : AP M_L_law b 1945 [x0, x1, x2, x3, x4, x5, x6, x7, x8] (.int n :: st) hi g Φ := AP.istore (x := n) (i := 6) d_L_law_1945 (by decide) (by simp [am_st, am_ci, am_cr, am_cl, am_cd, hc]) h
theorem d_L_law_1947 : decode code 1947 = .ok (.aload_n 2, 1) := by decide +kernel
theorem s_L_law_1947 {n : Nat} (h : AP M_L_law b 1948 [x0, x1, .ref n, x3, x4, x5, x6, x7, x8] (.ref n :: st) hi g Φ) : AP M_L_law b 1947 [x0, x1, .ref n, x3, x4, x5, x6, x7, x8] (st) hi g Φ := AP.aload_n (x := n) (i := 2) d_L_law_1947 rfl rfl h
theorem d_L_law_1948 : decode code 1948 = .ok (.invokevirtual 141, 3) := by decide +kernel
theorem s_L_law_1948  {k : Nat} {r0 : Int32} {P : am_HI → Prop} (hI : am_Inv g) (hs : am_SH k = (0, 10)) (hk : k < 134) (hst : (st.map Value.category).sum ≤ 8) (hc : am_Cr M_X10_thrown [.ref k] hi g (some (.int r0)) P) (h : ∀ hi' : am_HI, P hi' → AP M_L_law b 1951 [x0, x1, x2, x3, x4, x5, x6, x7, x8] (.int r0 :: st) hi' g Φ) : AP M_L_law b 1948 [x0, x1, x2, x3, x4, x5, x6, x7, x8] (.ref k :: st) hi g Φ := AP.callVr (As := []) (q := (RX10, TX10, 15)) hI hc k_L_law_141 d_L_law_1948 rfl hs hk rfl rfl hst h
theorem d_L_law_1951 : decode code 1951 = .ok (.iload 5, 2) := by decide +kernel
theorem s_L_law_1951 {n : Int32} (h : AP M_L_law b 1953 [x0, x1, x2, x3, x4, .int n, x6, x7, x8] (.int n :: st) hi g Φ) : AP M_L_law b 1951 [x0, x1, x2, x3, x4, .int n, x6, x7, x8] (st) hi g Φ := AP.iload (x := n) (i := 5) d_L_law_1951 rfl h
theorem d_L_law_1953 : decode code 1953 = .ok (.if_icmp .eq 5, 3) := by decide +kernel
theorem s_L_law_1953 {x y : Int32} (h1 : x = y → AP M_L_law b 1958 [x0, x1, x2, x3, x4, x5, x6, x7, x8] st hi g Φ) (h2 : ¬ x = y → AP M_L_law b 1956 [x0, x1, x2, x3, x4, x5, x6, x7, x8] st hi g Φ) : AP M_L_law b 1953 [x0, x1, x2, x3, x4, x5, x6, x7, x8] (.int y :: .int x :: st) hi g Φ := AP.icmp_eq d_L_law_1953 (by decide) h1 h2
theorem d_L_law_1956 : decode code 1956 = .ok (.iconst 0, 1) := by decide +kernel
theorem s_L_law_1956 (h : AP M_L_law b 1957 [x0, x1, x2, x3, x4, x5, x6, x7, x8] (.int 0 :: st) hi g Φ) : AP M_L_law b 1956 [x0, x1, x2, x3, x4, x5, x6, x7, x8] (st) hi g Φ := AP.iconst (x := 0) d_L_law_1956 (by decide) h
theorem d_L_law_1957 : decode code 1957 = .ok (.ireturn, 1) := by decide +kernel
theorem s_L_law_1957 {x : Int32} (hx : x = 0 ∨ x = 1) (h : Φ (.ok (some (.int x))) hi g) : AP M_L_law b 1957 [x0, x1, x2, x3, x4, x5, x6, x7, x8] [.int x] hi g Φ := AP.zret d_L_law_1957 rfl hx h
theorem d_L_law_1958 : decode code 1958 = .ok (.iload 5, 2) := by decide +kernel
theorem s_L_law_1958 {n : Int32} (h : AP M_L_law b 1960 [x0, x1, x2, x3, x4, .int n, x6, x7, x8] (.int n :: st) hi g Φ) : AP M_L_law b 1958 [x0, x1, x2, x3, x4, .int n, x6, x7, x8] (st) hi g Φ := AP.iload (x := n) (i := 5) d_L_law_1958 rfl h
theorem d_L_law_1960 : decode code 1960 = .ok (.ifCond .ne 15, 3) := by decide +kernel
theorem s_L_law_1960 {x : Int32} (h1 : ¬ x = 0 → AP M_L_law b 1975 [x0, x1, x2, x3, x4, x5, x6, x7, x8] st hi g Φ) (h2 : x = 0 → AP M_L_law b 1963 [x0, x1, x2, x3, x4, x5, x6, x7, x8] st hi g Φ) : AP M_L_law b 1960 [x0, x1, x2, x3, x4, x5, x6, x7, x8] (.int x :: st) hi g Φ := AP.if_ne d_L_law_1960 (by decide) h1 h2
theorem d_L_law_1963 : decode code 1963 = .ok (.aload_n 3, 1) := by decide +kernel
theorem s_L_law_1963 {n : Nat} (h : AP M_L_law b 1964 [x0, x1, x2, .ref n, x4, x5, x6, x7, x8] (.ref n :: st) hi g Φ) : AP M_L_law b 1963 [x0, x1, x2, .ref n, x4, x5, x6, x7, x8] (st) hi g Φ := AP.aload_n (x := n) (i := 3) d_L_law_1963 rfl rfl h
theorem d_L_law_1964 : decode code 1964 = .ok (.iconst 0, 1) := by decide +kernel
theorem s_L_law_1964 (h : AP M_L_law b 1965 [x0, x1, x2, x3, x4, x5, x6, x7, x8] (.int 0 :: st) hi g Φ) : AP M_L_law b 1964 [x0, x1, x2, x3, x4, x5, x6, x7, x8] (st) hi g Φ := AP.iconst (x := 0) d_L_law_1964 (by decide) h
theorem d_L_law_1965 : decode code 1965 = .ok (.laload, 1) := by decide +kernel
theorem s_L_law_1965 {k n j : Nat} {i : Int32} (hI : am_Inv g) (hs : am_SH k = (4, n)) (hk : k < 134) (hn : n < 2 ^ 31) (hx : i = nI j) (hj : j < n) (h : AP M_L_law b 1966 [x0, x1, x2, x3, x4, x5, x6, x7, x8] (.long (g.2.2 k j) :: st) hi g Φ) : AP M_L_law b 1965 [x0, x1, x2, x3, x4, x5, x6, x7, x8] (.int i :: .ref k :: st) hi g Φ := AP.lald d_L_law_1965 hs (hI.lt hk) hn hx hj h
theorem d_L_law_1966 : decode code 1966 = .ok (.iload 6, 2) := by decide +kernel
theorem s_L_law_1966 {n : Int32} (h : AP M_L_law b 1968 [x0, x1, x2, x3, x4, x5, .int n, x7, x8] (.int n :: st) hi g Φ) : AP M_L_law b 1966 [x0, x1, x2, x3, x4, x5, .int n, x7, x8] (st) hi g Φ := AP.iload (x := n) (i := 6) d_L_law_1966 rfl h
theorem d_L_law_1968 : decode code 1968 = .ok (.i2l, 1) := by decide +kernel
theorem s_L_law_1968 {x : Int32} (h : AP M_L_law b 1969 [x0, x1, x2, x3, x4, x5, x6, x7, x8] (.long x.toInt64 :: st) hi g Φ) : AP M_L_law b 1968 [x0, x1, x2, x3, x4, x5, x6, x7, x8] (.int x :: st) hi g Φ := AP.i2l d_L_law_1968 h
theorem d_L_law_1969 : decode code 1969 = .ok (.lcmp, 1) := by decide +kernel
theorem s_L_law_1969 {x y : Int64} (h : AP M_L_law b 1970 [x0, x1, x2, x3, x4, x5, x6, x7, x8] (.int (lg_cmp x y) :: st) hi g Φ) : AP M_L_law b 1969 [x0, x1, x2, x3, x4, x5, x6, x7, x8] (.long y :: .long x :: st) hi g Φ := AP.lcmp d_L_law_1969 h
theorem d_L_law_1970 : decode code 1970 = .ok (.ifCond .eq 5, 3) := by decide +kernel
theorem s_L_law_1970 {x : Int32} (h1 : x = 0 → AP M_L_law b 1975 [x0, x1, x2, x3, x4, x5, x6, x7, x8] st hi g Φ) (h2 : ¬ x = 0 → AP M_L_law b 1973 [x0, x1, x2, x3, x4, x5, x6, x7, x8] st hi g Φ) : AP M_L_law b 1970 [x0, x1, x2, x3, x4, x5, x6, x7, x8] (.int x :: st) hi g Φ := AP.if_eq d_L_law_1970 (by decide) h1 h2
theorem d_L_law_1973 : decode code 1973 = .ok (.iconst 0, 1) := by decide +kernel
theorem s_L_law_1973 (h : AP M_L_law b 1974 [x0, x1, x2, x3, x4, x5, x6, x7, x8] (.int 0 :: st) hi g Φ) : AP M_L_law b 1973 [x0, x1, x2, x3, x4, x5, x6, x7, x8] (st) hi g Φ := AP.iconst (x := 0) d_L_law_1973 (by decide) h
theorem d_L_law_1974 : decode code 1974 = .ok (.ireturn, 1) := by decide +kernel
theorem s_L_law_1974 {x : Int32} (hx : x = 0 ∨ x = 1) (h : Φ (.ok (some (.int x))) hi g) : AP M_L_law b 1974 [x0, x1, x2, x3, x4, x5, x6, x7, x8] [.int x] hi g Φ := AP.zret d_L_law_1974 rfl hx h
theorem d_L_law_1975 : decode code 1975 = .ok (.goto 776, 3) := by decide +kernel
theorem s_L_law_1975 (h : AP M_L_law b 2751 [x0, x1, x2, x3, x4, x5, x6, x7, x8] st hi g Φ) : AP M_L_law b 1975 [x0, x1, x2, x3, x4, x5, x6, x7, x8] st hi g Φ := AP.goto d_L_law_1975 (by decide) h
theorem d_L_law_1978 : decode code 1978 = .ok (.aload_n 1, 1) := by decide +kernel
theorem s_L_law_1978 {n : Nat} (h : AP M_L_law b 1979 [x0, .ref n, x2, x3, x4, x5, x6, x7, x8] (.ref n :: st) hi g Φ) : AP M_L_law b 1978 [x0, .ref n, x2, x3, x4, x5, x6, x7, x8] (st) hi g Φ := AP.aload_n (x := n) (i := 1) d_L_law_1978 rfl rfl h
theorem d_L_law_1979 : decode code 1979 = .ok (.invokevirtual 264, 3) := by decide +kernel
theorem s_L_law_1979  {k : Nat} {r0 : Int32} {P : am_HI → Prop} (hI : am_Inv g) (hs : am_SH k = (0, 9)) (hk : k < 134) (hst : (st.map Value.category).sum ≤ 8) (hc : am_Cr M_X9_told [.ref k] hi g (some (.int r0)) P) (h : ∀ hi' : am_HI, P hi' → AP M_L_law b 1982 [x0, x1, x2, x3, x4, x5, x6, x7, x8] (.int r0 :: st) hi' g Φ) : AP M_L_law b 1979 [x0, x1, x2, x3, x4, x5, x6, x7, x8] (.ref k :: st) hi g Φ := AP.callVr (As := []) (q := (RX9, TX9, 7)) hI hc k_L_law_264 d_L_law_1979 rfl hs hk rfl rfl hst h
theorem d_L_law_1982 : decode code 1982 = .ok (.aload_n 2, 1) := by decide +kernel
theorem s_L_law_1982 {n : Nat} (h : AP M_L_law b 1983 [x0, x1, .ref n, x3, x4, x5, x6, x7, x8] (.ref n :: st) hi g Φ) : AP M_L_law b 1982 [x0, x1, .ref n, x3, x4, x5, x6, x7, x8] (st) hi g Φ := AP.aload_n (x := n) (i := 2) d_L_law_1982 rfl rfl h
theorem d_L_law_1983 : decode code 1983 = .ok (.invokevirtual 267, 3) := by decide +kernel
theorem s_L_law_1983  {k : Nat} {r0 : Int32} {P : am_HI → Prop} (hI : am_Inv g) (hs : am_SH k = (0, 10)) (hk : k < 134) (hst : (st.map Value.category).sum ≤ 8) (hc : am_Cr M_X10_told [.ref k] hi g (some (.int r0)) P) (h : ∀ hi' : am_HI, P hi' → AP M_L_law b 1986 [x0, x1, x2, x3, x4, x5, x6, x7, x8] (.int r0 :: st) hi' g Φ) : AP M_L_law b 1983 [x0, x1, x2, x3, x4, x5, x6, x7, x8] (.ref k :: st) hi g Φ := AP.callVr (As := []) (q := (RX10, TX10, 15)) hI hc k_L_law_267 d_L_law_1983 rfl hs hk rfl rfl hst h
theorem d_L_law_1986 : decode code 1986 = .ok (.if_icmp .eq 765, 3) := by decide +kernel
theorem s_L_law_1986 {x y : Int32} (h1 : x = y → AP M_L_law b 2751 [x0, x1, x2, x3, x4, x5, x6, x7, x8] st hi g Φ) (h2 : ¬ x = y → AP M_L_law b 1989 [x0, x1, x2, x3, x4, x5, x6, x7, x8] st hi g Φ) : AP M_L_law b 1986 [x0, x1, x2, x3, x4, x5, x6, x7, x8] (.int y :: .int x :: st) hi g Φ := AP.icmp_eq d_L_law_1986 (by decide) h1 h2
theorem d_L_law_1989 : decode code 1989 = .ok (.iconst 0, 1) := by decide +kernel
theorem s_L_law_1989 (h : AP M_L_law b 1990 [x0, x1, x2, x3, x4, x5, x6, x7, x8] (.int 0 :: st) hi g Φ) : AP M_L_law b 1989 [x0, x1, x2, x3, x4, x5, x6, x7, x8] (st) hi g Φ := AP.iconst (x := 0) d_L_law_1989 (by decide) h
theorem d_L_law_1990 : decode code 1990 = .ok (.ireturn, 1) := by decide +kernel
theorem s_L_law_1990 {x : Int32} (hx : x = 0 ∨ x = 1) (h : Φ (.ok (some (.int x))) hi g) : AP M_L_law b 1990 [x0, x1, x2, x3, x4, x5, x6, x7, x8] [.int x] hi g Φ := AP.zret d_L_law_1990 rfl hx h
theorem d_L_law_1991 : decode code 1991 = .ok (.aload_n 1, 1) := by decide +kernel
theorem s_L_law_1991 {n : Nat} (h : AP M_L_law b 1992 [x0, .ref n, x2, x3, x4, x5, x6, x7, x8] (.ref n :: st) hi g Φ) : AP M_L_law b 1991 [x0, .ref n, x2, x3, x4, x5, x6, x7, x8] (st) hi g Φ := AP.aload_n (x := n) (i := 1) d_L_law_1991 rfl rfl h
theorem d_L_law_1992 : decode code 1992 = .ok (.aload_n 0, 1) := by decide +kernel
theorem s_L_law_1992 {n : Nat} (h : AP M_L_law b 1993 [.ref n, x1, x2, x3, x4, x5, x6, x7, x8] (.ref n :: st) hi g Φ) : AP M_L_law b 1992 [.ref n, x1, x2, x3, x4, x5, x6, x7, x8] (st) hi g Φ := AP.aload_n (x := n) (i := 0) d_L_law_1992 rfl rfl h
theorem d_L_law_1993 : decode code 1993 = .ok (.iload 4, 2) := by decide +kernel
theorem s_L_law_1993 {n : Int32} (h : AP M_L_law b 1995 [x0, x1, x2, x3, .int n, x5, x6, x7, x8] (.int n :: st) hi g Φ) : AP M_L_law b 1993 [x0, x1, x2, x3, .int n, x5, x6, x7, x8] (st) hi g Φ := AP.iload (x := n) (i := 4) d_L_law_1993 rfl h
theorem d_L_law_1995 : decode code 1995 = .ok (.iconst 1, 1) := by decide +kernel
theorem s_L_law_1995 (h : AP M_L_law b 1996 [x0, x1, x2, x3, x4, x5, x6, x7, x8] (.int 1 :: st) hi g Φ) : AP M_L_law b 1995 [x0, x1, x2, x3, x4, x5, x6, x7, x8] (st) hi g Φ := AP.iconst (x := 1) d_L_law_1995 (by decide) h
theorem d_L_law_1996 : decode code 1996 = .ok (.iadd, 1) := by decide +kernel
theorem s_L_law_1996 {x y : Int32} (h : AP M_L_law b 1997 [x0, x1, x2, x3, x4, x5, x6, x7, x8] (.int (x + y) :: st) hi g Φ) : AP M_L_law b 1996 [x0, x1, x2, x3, x4, x5, x6, x7, x8] (.int y :: .int x :: st) hi g Φ := AP.iadd d_L_law_1996 h
theorem d_L_law_1997 : decode code 1997 = .ok (.iaload, 1) := by decide +kernel
theorem s_L_law_1997 {k n j : Nat} {i : Int32} (hI : am_Inv g) (hs : am_SH k = (1, n)) (hk : k < 134) (hn : n < 2 ^ 31) (hx : i = nI j) (hj : j < n) (h : AP M_L_law b 1998 [x0, x1, x2, x3, x4, x5, x6, x7, x8] (.int (hi k j) :: st) hi g Φ) : AP M_L_law b 1997 [x0, x1, x2, x3, x4, x5, x6, x7, x8] (.int i :: .ref k :: st) hi g Φ := AP.iald d_L_law_1997 hs (hI.lt hk) hn hx hj h
theorem d_L_law_1998 : decode code 1998 = .ok (.aload_n 3, 1) := by decide +kernel
theorem s_L_law_1998 {n : Nat} (h : AP M_L_law b 1999 [x0, x1, x2, .ref n, x4, x5, x6, x7, x8] (.ref n :: st) hi g Φ) : AP M_L_law b 1998 [x0, x1, x2, .ref n, x4, x5, x6, x7, x8] (st) hi g Φ := AP.aload_n (x := n) (i := 3) d_L_law_1998 rfl rfl h
theorem d_L_law_1999 : decode code 1999 = .ok (.invokestatic 268, 3) := by decide +kernel
-- s_L_law_1999: a call apart
theorem d_L_law_2002 : decode code 2002 = .ok (.istore 5, 2) := by decide +kernel
theorem s_L_law_2002 {n : Int32} (hc : x4.category = 1) (h : AP M_L_law b 2004 [x0, x1, x2, x3, x4, .int n, x6, x7, x8] (st) hi g Φ) : AP M_L_law b 2002 [x0, x1, x2, x3, x4, x5, x6, x7, x8] (.int n :: st) hi g Φ := AP.istore (x := n) (i := 5) d_L_law_2002 (by decide) (by simp [am_st, am_ci, am_cr, am_cl, am_cd, hc]) h
theorem d_L_law_2004 : decode code 2004 = .ok (.aload_n 2, 1) := by decide +kernel
theorem s_L_law_2004 {n : Nat} (h : AP M_L_law b 2005 [x0, x1, .ref n, x3, x4, x5, x6, x7, x8] (.ref n :: st) hi g Φ) : AP M_L_law b 2004 [x0, x1, .ref n, x3, x4, x5, x6, x7, x8] (st) hi g Φ := AP.aload_n (x := n) (i := 2) d_L_law_2004 rfl rfl h
theorem d_L_law_2005 : decode code 2005 = .ok (.aload_n 0, 1) := by decide +kernel
theorem s_L_law_2005 {n : Nat} (h : AP M_L_law b 2006 [.ref n, x1, x2, x3, x4, x5, x6, x7, x8] (.ref n :: st) hi g Φ) : AP M_L_law b 2005 [.ref n, x1, x2, x3, x4, x5, x6, x7, x8] (st) hi g Φ := AP.aload_n (x := n) (i := 0) d_L_law_2005 rfl rfl h
theorem d_L_law_2006 : decode code 2006 = .ok (.iload 4, 2) := by decide +kernel
theorem s_L_law_2006 {n : Int32} (h : AP M_L_law b 2008 [x0, x1, x2, x3, .int n, x5, x6, x7, x8] (.int n :: st) hi g Φ) : AP M_L_law b 2006 [x0, x1, x2, x3, .int n, x5, x6, x7, x8] (st) hi g Φ := AP.iload (x := n) (i := 4) d_L_law_2006 rfl h
theorem d_L_law_2008 : decode code 2008 = .ok (.iconst 1, 1) := by decide +kernel
theorem s_L_law_2008 (h : AP M_L_law b 2009 [x0, x1, x2, x3, x4, x5, x6, x7, x8] (.int 1 :: st) hi g Φ) : AP M_L_law b 2008 [x0, x1, x2, x3, x4, x5, x6, x7, x8] (st) hi g Φ := AP.iconst (x := 1) d_L_law_2008 (by decide) h
theorem d_L_law_2009 : decode code 2009 = .ok (.iadd, 1) := by decide +kernel
theorem s_L_law_2009 {x y : Int32} (h : AP M_L_law b 2010 [x0, x1, x2, x3, x4, x5, x6, x7, x8] (.int (x + y) :: st) hi g Φ) : AP M_L_law b 2009 [x0, x1, x2, x3, x4, x5, x6, x7, x8] (.int y :: .int x :: st) hi g Φ := AP.iadd d_L_law_2009 h
theorem d_L_law_2010 : decode code 2010 = .ok (.iaload, 1) := by decide +kernel
theorem s_L_law_2010 {k n j : Nat} {i : Int32} (hI : am_Inv g) (hs : am_SH k = (1, n)) (hk : k < 134) (hn : n < 2 ^ 31) (hx : i = nI j) (hj : j < n) (h : AP M_L_law b 2011 [x0, x1, x2, x3, x4, x5, x6, x7, x8] (.int (hi k j) :: st) hi g Φ) : AP M_L_law b 2010 [x0, x1, x2, x3, x4, x5, x6, x7, x8] (.int i :: .ref k :: st) hi g Φ := AP.iald d_L_law_2010 hs (hI.lt hk) hn hx hj h
theorem d_L_law_2011 : decode code 2011 = .ok (.invokevirtual 270, 3) := by decide +kernel
theorem s_L_law_2011 {a0 : Int32} {k : Nat} {r0 : Int32} {P : am_HI → Prop} (hI : am_Inv g) (hs : am_SH k = (0, 10)) (hk : k < 134) (hst : (st.map Value.category).sum ≤ 8) (hc : am_Cr M_X10_letterKind [.ref k, .int a0] hi g (some (.int r0)) P) (h : ∀ hi' : am_HI, P hi' → AP M_L_law b 2014 [x0, x1, x2, x3, x4, x5, x6, x7, x8] (.int r0 :: st) hi' g Φ) : AP M_L_law b 2011 [x0, x1, x2, x3, x4, x5, x6, x7, x8] (.int a0 :: .ref k :: st) hi g Φ := AP.callVr (As := [.int a0]) (q := (RX10, TX10, 15)) hI hc k_L_law_270 d_L_law_2011 rfl hs hk rfl rfl hst h
theorem d_L_law_2014 : decode code 2014 = .ok (.istore 6, 2) := by decide +kernel
theorem s_L_law_2014 {n : Int32} (hc : x5.category = 1) (h : AP M_L_law b 2016 [x0, x1, x2, x3, x4, x5, .int n, x7, x8] (st) hi g Φ) : AP M_L_law b 2014 [x0, x1, x2, x3, x4, x5, x6, x7, x8] (.int n :: st) hi g Φ := AP.istore (x := n) (i := 6) d_L_law_2014 (by decide) (by simp [am_st, am_ci, am_cr, am_cl, am_cd, hc]) h
theorem d_L_law_2016 : decode code 2016 = .ok (.aload_n 2, 1) := by decide +kernel
theorem s_L_law_2016 {n : Nat} (h : AP M_L_law b 2017 [x0, x1, .ref n, x3, x4, x5, x6, x7, x8] (.ref n :: st) hi g Φ) : AP M_L_law b 2016 [x0, x1, .ref n, x3, x4, x5, x6, x7, x8] (st) hi g Φ := AP.aload_n (x := n) (i := 2) d_L_law_2016 rfl rfl h
theorem d_L_law_2017 : decode code 2017 = .ok (.invokevirtual 141, 3) := by decide +kernel
theorem s_L_law_2017  {k : Nat} {r0 : Int32} {P : am_HI → Prop} (hI : am_Inv g) (hs : am_SH k = (0, 10)) (hk : k < 134) (hst : (st.map Value.category).sum ≤ 8) (hc : am_Cr M_X10_thrown [.ref k] hi g (some (.int r0)) P) (h : ∀ hi' : am_HI, P hi' → AP M_L_law b 2020 [x0, x1, x2, x3, x4, x5, x6, x7, x8] (.int r0 :: st) hi' g Φ) : AP M_L_law b 2017 [x0, x1, x2, x3, x4, x5, x6, x7, x8] (.ref k :: st) hi g Φ := AP.callVr (As := []) (q := (RX10, TX10, 15)) hI hc k_L_law_141 d_L_law_2017 rfl hs hk rfl rfl hst h
theorem d_L_law_2020 : decode code 2020 = .ok (.iload 5, 2) := by decide +kernel
theorem s_L_law_2020 {n : Int32} (h : AP M_L_law b 2022 [x0, x1, x2, x3, x4, .int n, x6, x7, x8] (.int n :: st) hi g Φ) : AP M_L_law b 2020 [x0, x1, x2, x3, x4, .int n, x6, x7, x8] (st) hi g Φ := AP.iload (x := n) (i := 5) d_L_law_2020 rfl h
theorem d_L_law_2022 : decode code 2022 = .ok (.if_icmp .eq 5, 3) := by decide +kernel
theorem s_L_law_2022 {x y : Int32} (h1 : x = y → AP M_L_law b 2027 [x0, x1, x2, x3, x4, x5, x6, x7, x8] st hi g Φ) (h2 : ¬ x = y → AP M_L_law b 2025 [x0, x1, x2, x3, x4, x5, x6, x7, x8] st hi g Φ) : AP M_L_law b 2022 [x0, x1, x2, x3, x4, x5, x6, x7, x8] (.int y :: .int x :: st) hi g Φ := AP.icmp_eq d_L_law_2022 (by decide) h1 h2
theorem d_L_law_2025 : decode code 2025 = .ok (.iconst 0, 1) := by decide +kernel
theorem s_L_law_2025 (h : AP M_L_law b 2026 [x0, x1, x2, x3, x4, x5, x6, x7, x8] (.int 0 :: st) hi g Φ) : AP M_L_law b 2025 [x0, x1, x2, x3, x4, x5, x6, x7, x8] (st) hi g Φ := AP.iconst (x := 0) d_L_law_2025 (by decide) h
theorem d_L_law_2026 : decode code 2026 = .ok (.ireturn, 1) := by decide +kernel
theorem s_L_law_2026 {x : Int32} (hx : x = 0 ∨ x = 1) (h : Φ (.ok (some (.int x))) hi g) : AP M_L_law b 2026 [x0, x1, x2, x3, x4, x5, x6, x7, x8] [.int x] hi g Φ := AP.zret d_L_law_2026 rfl hx h
theorem d_L_law_2027 : decode code 2027 = .ok (.iload 5, 2) := by decide +kernel
theorem s_L_law_2027 {n : Int32} (h : AP M_L_law b 2029 [x0, x1, x2, x3, x4, .int n, x6, x7, x8] (.int n :: st) hi g Φ) : AP M_L_law b 2027 [x0, x1, x2, x3, x4, .int n, x6, x7, x8] (st) hi g Φ := AP.iload (x := n) (i := 5) d_L_law_2027 rfl h
theorem d_L_law_2029 : decode code 2029 = .ok (.ifCond .ne 15, 3) := by decide +kernel
theorem s_L_law_2029 {x : Int32} (h1 : ¬ x = 0 → AP M_L_law b 2044 [x0, x1, x2, x3, x4, x5, x6, x7, x8] st hi g Φ) (h2 : x = 0 → AP M_L_law b 2032 [x0, x1, x2, x3, x4, x5, x6, x7, x8] st hi g Φ) : AP M_L_law b 2029 [x0, x1, x2, x3, x4, x5, x6, x7, x8] (.int x :: st) hi g Φ := AP.if_ne d_L_law_2029 (by decide) h1 h2
theorem d_L_law_2032 : decode code 2032 = .ok (.aload_n 3, 1) := by decide +kernel
theorem s_L_law_2032 {n : Nat} (h : AP M_L_law b 2033 [x0, x1, x2, .ref n, x4, x5, x6, x7, x8] (.ref n :: st) hi g Φ) : AP M_L_law b 2032 [x0, x1, x2, .ref n, x4, x5, x6, x7, x8] (st) hi g Φ := AP.aload_n (x := n) (i := 3) d_L_law_2032 rfl rfl h
theorem d_L_law_2033 : decode code 2033 = .ok (.iconst 0, 1) := by decide +kernel
theorem s_L_law_2033 (h : AP M_L_law b 2034 [x0, x1, x2, x3, x4, x5, x6, x7, x8] (.int 0 :: st) hi g Φ) : AP M_L_law b 2033 [x0, x1, x2, x3, x4, x5, x6, x7, x8] (st) hi g Φ := AP.iconst (x := 0) d_L_law_2033 (by decide) h
theorem d_L_law_2034 : decode code 2034 = .ok (.laload, 1) := by decide +kernel
theorem s_L_law_2034 {k n j : Nat} {i : Int32} (hI : am_Inv g) (hs : am_SH k = (4, n)) (hk : k < 134) (hn : n < 2 ^ 31) (hx : i = nI j) (hj : j < n) (h : AP M_L_law b 2035 [x0, x1, x2, x3, x4, x5, x6, x7, x8] (.long (g.2.2 k j) :: st) hi g Φ) : AP M_L_law b 2034 [x0, x1, x2, x3, x4, x5, x6, x7, x8] (.int i :: .ref k :: st) hi g Φ := AP.lald d_L_law_2034 hs (hI.lt hk) hn hx hj h
theorem d_L_law_2035 : decode code 2035 = .ok (.iload 6, 2) := by decide +kernel
theorem s_L_law_2035 {n : Int32} (h : AP M_L_law b 2037 [x0, x1, x2, x3, x4, x5, .int n, x7, x8] (.int n :: st) hi g Φ) : AP M_L_law b 2035 [x0, x1, x2, x3, x4, x5, .int n, x7, x8] (st) hi g Φ := AP.iload (x := n) (i := 6) d_L_law_2035 rfl h
theorem d_L_law_2037 : decode code 2037 = .ok (.i2l, 1) := by decide +kernel
theorem s_L_law_2037 {x : Int32} (h : AP M_L_law b 2038 [x0, x1, x2, x3, x4, x5, x6, x7, x8] (.long x.toInt64 :: st) hi g Φ) : AP M_L_law b 2037 [x0, x1, x2, x3, x4, x5, x6, x7, x8] (.int x :: st) hi g Φ := AP.i2l d_L_law_2037 h
theorem d_L_law_2038 : decode code 2038 = .ok (.lcmp, 1) := by decide +kernel
theorem s_L_law_2038 {x y : Int64} (h : AP M_L_law b 2039 [x0, x1, x2, x3, x4, x5, x6, x7, x8] (.int (lg_cmp x y) :: st) hi g Φ) : AP M_L_law b 2038 [x0, x1, x2, x3, x4, x5, x6, x7, x8] (.long y :: .long x :: st) hi g Φ := AP.lcmp d_L_law_2038 h
theorem d_L_law_2039 : decode code 2039 = .ok (.ifCond .eq 5, 3) := by decide +kernel
theorem s_L_law_2039 {x : Int32} (h1 : x = 0 → AP M_L_law b 2044 [x0, x1, x2, x3, x4, x5, x6, x7, x8] st hi g Φ) (h2 : ¬ x = 0 → AP M_L_law b 2042 [x0, x1, x2, x3, x4, x5, x6, x7, x8] st hi g Φ) : AP M_L_law b 2039 [x0, x1, x2, x3, x4, x5, x6, x7, x8] (.int x :: st) hi g Φ := AP.if_eq d_L_law_2039 (by decide) h1 h2
theorem d_L_law_2042 : decode code 2042 = .ok (.iconst 0, 1) := by decide +kernel
theorem s_L_law_2042 (h : AP M_L_law b 2043 [x0, x1, x2, x3, x4, x5, x6, x7, x8] (.int 0 :: st) hi g Φ) : AP M_L_law b 2042 [x0, x1, x2, x3, x4, x5, x6, x7, x8] (st) hi g Φ := AP.iconst (x := 0) d_L_law_2042 (by decide) h
theorem d_L_law_2043 : decode code 2043 = .ok (.ireturn, 1) := by decide +kernel
theorem s_L_law_2043 {x : Int32} (hx : x = 0 ∨ x = 1) (h : Φ (.ok (some (.int x))) hi g) : AP M_L_law b 2043 [x0, x1, x2, x3, x4, x5, x6, x7, x8] [.int x] hi g Φ := AP.zret d_L_law_2043 rfl hx h
theorem d_L_law_2044 : decode code 2044 = .ok (.goto 707, 3) := by decide +kernel
theorem s_L_law_2044 (h : AP M_L_law b 2751 [x0, x1, x2, x3, x4, x5, x6, x7, x8] st hi g Φ) : AP M_L_law b 2044 [x0, x1, x2, x3, x4, x5, x6, x7, x8] st hi g Φ := AP.goto d_L_law_2044 (by decide) h
theorem d_L_law_2047 : decode code 2047 = .ok (.aload_n 1, 1) := by decide +kernel
theorem s_L_law_2047 {n : Nat} (h : AP M_L_law b 2048 [x0, .ref n, x2, x3, x4, x5, x6, x7, x8] (.ref n :: st) hi g Φ) : AP M_L_law b 2047 [x0, .ref n, x2, x3, x4, x5, x6, x7, x8] (st) hi g Φ := AP.aload_n (x := n) (i := 1) d_L_law_2047 rfl rfl h
theorem d_L_law_2048 : decode code 2048 = .ok (.aload_n 0, 1) := by decide +kernel
theorem s_L_law_2048 {n : Nat} (h : AP M_L_law b 2049 [.ref n, x1, x2, x3, x4, x5, x6, x7, x8] (.ref n :: st) hi g Φ) : AP M_L_law b 2048 [.ref n, x1, x2, x3, x4, x5, x6, x7, x8] (st) hi g Φ := AP.aload_n (x := n) (i := 0) d_L_law_2048 rfl rfl h
theorem d_L_law_2049 : decode code 2049 = .ok (.iload 4, 2) := by decide +kernel
theorem s_L_law_2049 {n : Int32} (h : AP M_L_law b 2051 [x0, x1, x2, x3, .int n, x5, x6, x7, x8] (.int n :: st) hi g Φ) : AP M_L_law b 2049 [x0, x1, x2, x3, .int n, x5, x6, x7, x8] (st) hi g Φ := AP.iload (x := n) (i := 4) d_L_law_2049 rfl h
theorem d_L_law_2051 : decode code 2051 = .ok (.iconst 1, 1) := by decide +kernel
theorem s_L_law_2051 (h : AP M_L_law b 2052 [x0, x1, x2, x3, x4, x5, x6, x7, x8] (.int 1 :: st) hi g Φ) : AP M_L_law b 2051 [x0, x1, x2, x3, x4, x5, x6, x7, x8] (st) hi g Φ := AP.iconst (x := 1) d_L_law_2051 (by decide) h
theorem d_L_law_2052 : decode code 2052 = .ok (.iadd, 1) := by decide +kernel
theorem s_L_law_2052 {x y : Int32} (h : AP M_L_law b 2053 [x0, x1, x2, x3, x4, x5, x6, x7, x8] (.int (x + y) :: st) hi g Φ) : AP M_L_law b 2052 [x0, x1, x2, x3, x4, x5, x6, x7, x8] (.int y :: .int x :: st) hi g Φ := AP.iadd d_L_law_2052 h
theorem d_L_law_2053 : decode code 2053 = .ok (.iaload, 1) := by decide +kernel
theorem s_L_law_2053 {k n j : Nat} {i : Int32} (hI : am_Inv g) (hs : am_SH k = (1, n)) (hk : k < 134) (hn : n < 2 ^ 31) (hx : i = nI j) (hj : j < n) (h : AP M_L_law b 2054 [x0, x1, x2, x3, x4, x5, x6, x7, x8] (.int (hi k j) :: st) hi g Φ) : AP M_L_law b 2053 [x0, x1, x2, x3, x4, x5, x6, x7, x8] (.int i :: .ref k :: st) hi g Φ := AP.iald d_L_law_2053 hs (hI.lt hk) hn hx hj h
theorem d_L_law_2054 : decode code 2054 = .ok (.aload_n 3, 1) := by decide +kernel
theorem s_L_law_2054 {n : Nat} (h : AP M_L_law b 2055 [x0, x1, x2, .ref n, x4, x5, x6, x7, x8] (.ref n :: st) hi g Φ) : AP M_L_law b 2054 [x0, x1, x2, .ref n, x4, x5, x6, x7, x8] (st) hi g Φ := AP.aload_n (x := n) (i := 3) d_L_law_2054 rfl rfl h
theorem d_L_law_2055 : decode code 2055 = .ok (.invokestatic 271, 3) := by decide +kernel
-- s_L_law_2055: a call apart
theorem d_L_law_2058 : decode code 2058 = .ok (.istore 5, 2) := by decide +kernel
theorem s_L_law_2058 {n : Int32} (hc : x4.category = 1) (h : AP M_L_law b 2060 [x0, x1, x2, x3, x4, .int n, x6, x7, x8] (st) hi g Φ) : AP M_L_law b 2058 [x0, x1, x2, x3, x4, x5, x6, x7, x8] (.int n :: st) hi g Φ := AP.istore (x := n) (i := 5) d_L_law_2058 (by decide) (by simp [am_st, am_ci, am_cr, am_cl, am_cd, hc]) h
theorem d_L_law_2060 : decode code 2060 = .ok (.aload_n 2, 1) := by decide +kernel
theorem s_L_law_2060 {n : Nat} (h : AP M_L_law b 2061 [x0, x1, .ref n, x3, x4, x5, x6, x7, x8] (.ref n :: st) hi g Φ) : AP M_L_law b 2060 [x0, x1, .ref n, x3, x4, x5, x6, x7, x8] (st) hi g Φ := AP.aload_n (x := n) (i := 2) d_L_law_2060 rfl rfl h
theorem d_L_law_2061 : decode code 2061 = .ok (.aload_n 0, 1) := by decide +kernel
theorem s_L_law_2061 {n : Nat} (h : AP M_L_law b 2062 [.ref n, x1, x2, x3, x4, x5, x6, x7, x8] (.ref n :: st) hi g Φ) : AP M_L_law b 2061 [.ref n, x1, x2, x3, x4, x5, x6, x7, x8] (st) hi g Φ := AP.aload_n (x := n) (i := 0) d_L_law_2061 rfl rfl h
theorem d_L_law_2062 : decode code 2062 = .ok (.iload 4, 2) := by decide +kernel
theorem s_L_law_2062 {n : Int32} (h : AP M_L_law b 2064 [x0, x1, x2, x3, .int n, x5, x6, x7, x8] (.int n :: st) hi g Φ) : AP M_L_law b 2062 [x0, x1, x2, x3, .int n, x5, x6, x7, x8] (st) hi g Φ := AP.iload (x := n) (i := 4) d_L_law_2062 rfl h
theorem d_L_law_2064 : decode code 2064 = .ok (.iconst 1, 1) := by decide +kernel
theorem s_L_law_2064 (h : AP M_L_law b 2065 [x0, x1, x2, x3, x4, x5, x6, x7, x8] (.int 1 :: st) hi g Φ) : AP M_L_law b 2064 [x0, x1, x2, x3, x4, x5, x6, x7, x8] (st) hi g Φ := AP.iconst (x := 1) d_L_law_2064 (by decide) h
theorem d_L_law_2065 : decode code 2065 = .ok (.iadd, 1) := by decide +kernel
theorem s_L_law_2065 {x y : Int32} (h : AP M_L_law b 2066 [x0, x1, x2, x3, x4, x5, x6, x7, x8] (.int (x + y) :: st) hi g Φ) : AP M_L_law b 2065 [x0, x1, x2, x3, x4, x5, x6, x7, x8] (.int y :: .int x :: st) hi g Φ := AP.iadd d_L_law_2065 h
theorem d_L_law_2066 : decode code 2066 = .ok (.iaload, 1) := by decide +kernel
theorem s_L_law_2066 {k n j : Nat} {i : Int32} (hI : am_Inv g) (hs : am_SH k = (1, n)) (hk : k < 134) (hn : n < 2 ^ 31) (hx : i = nI j) (hj : j < n) (h : AP M_L_law b 2067 [x0, x1, x2, x3, x4, x5, x6, x7, x8] (.int (hi k j) :: st) hi g Φ) : AP M_L_law b 2066 [x0, x1, x2, x3, x4, x5, x6, x7, x8] (.int i :: .ref k :: st) hi g Φ := AP.iald d_L_law_2066 hs (hI.lt hk) hn hx hj h
theorem d_L_law_2067 : decode code 2067 = .ok (.invokevirtual 273, 3) := by decide +kernel
theorem s_L_law_2067 {a0 : Int32} {k : Nat} {r0 : Int32} {P : am_HI → Prop} (hI : am_Inv g) (hs : am_SH k = (0, 10)) (hk : k < 134) (hst : (st.map Value.category).sum ≤ 8) (hc : am_Cr M_X10_letterParameter [.ref k, .int a0] hi g (some (.int r0)) P) (h : ∀ hi' : am_HI, P hi' → AP M_L_law b 2070 [x0, x1, x2, x3, x4, x5, x6, x7, x8] (.int r0 :: st) hi' g Φ) : AP M_L_law b 2067 [x0, x1, x2, x3, x4, x5, x6, x7, x8] (.int a0 :: .ref k :: st) hi g Φ := AP.callVr (As := [.int a0]) (q := (RX10, TX10, 15)) hI hc k_L_law_273 d_L_law_2067 rfl hs hk rfl rfl hst h
theorem d_L_law_2070 : decode code 2070 = .ok (.istore 6, 2) := by decide +kernel
theorem s_L_law_2070 {n : Int32} (hc : x5.category = 1) (h : AP M_L_law b 2072 [x0, x1, x2, x3, x4, x5, .int n, x7, x8] (st) hi g Φ) : AP M_L_law b 2070 [x0, x1, x2, x3, x4, x5, x6, x7, x8] (.int n :: st) hi g Φ := AP.istore (x := n) (i := 6) d_L_law_2070 (by decide) (by simp [am_st, am_ci, am_cr, am_cl, am_cd, hc]) h
theorem d_L_law_2072 : decode code 2072 = .ok (.aload_n 2, 1) := by decide +kernel
theorem s_L_law_2072 {n : Nat} (h : AP M_L_law b 2073 [x0, x1, .ref n, x3, x4, x5, x6, x7, x8] (.ref n :: st) hi g Φ) : AP M_L_law b 2072 [x0, x1, .ref n, x3, x4, x5, x6, x7, x8] (st) hi g Φ := AP.aload_n (x := n) (i := 2) d_L_law_2072 rfl rfl h
theorem d_L_law_2073 : decode code 2073 = .ok (.invokevirtual 141, 3) := by decide +kernel
theorem s_L_law_2073  {k : Nat} {r0 : Int32} {P : am_HI → Prop} (hI : am_Inv g) (hs : am_SH k = (0, 10)) (hk : k < 134) (hst : (st.map Value.category).sum ≤ 8) (hc : am_Cr M_X10_thrown [.ref k] hi g (some (.int r0)) P) (h : ∀ hi' : am_HI, P hi' → AP M_L_law b 2076 [x0, x1, x2, x3, x4, x5, x6, x7, x8] (.int r0 :: st) hi' g Φ) : AP M_L_law b 2073 [x0, x1, x2, x3, x4, x5, x6, x7, x8] (.ref k :: st) hi g Φ := AP.callVr (As := []) (q := (RX10, TX10, 15)) hI hc k_L_law_141 d_L_law_2073 rfl hs hk rfl rfl hst h
theorem d_L_law_2076 : decode code 2076 = .ok (.iload 5, 2) := by decide +kernel
theorem s_L_law_2076 {n : Int32} (h : AP M_L_law b 2078 [x0, x1, x2, x3, x4, .int n, x6, x7, x8] (.int n :: st) hi g Φ) : AP M_L_law b 2076 [x0, x1, x2, x3, x4, .int n, x6, x7, x8] (st) hi g Φ := AP.iload (x := n) (i := 5) d_L_law_2076 rfl h
theorem d_L_law_2078 : decode code 2078 = .ok (.if_icmp .eq 5, 3) := by decide +kernel
theorem s_L_law_2078 {x y : Int32} (h1 : x = y → AP M_L_law b 2083 [x0, x1, x2, x3, x4, x5, x6, x7, x8] st hi g Φ) (h2 : ¬ x = y → AP M_L_law b 2081 [x0, x1, x2, x3, x4, x5, x6, x7, x8] st hi g Φ) : AP M_L_law b 2078 [x0, x1, x2, x3, x4, x5, x6, x7, x8] (.int y :: .int x :: st) hi g Φ := AP.icmp_eq d_L_law_2078 (by decide) h1 h2
theorem d_L_law_2081 : decode code 2081 = .ok (.iconst 0, 1) := by decide +kernel
theorem s_L_law_2081 (h : AP M_L_law b 2082 [x0, x1, x2, x3, x4, x5, x6, x7, x8] (.int 0 :: st) hi g Φ) : AP M_L_law b 2081 [x0, x1, x2, x3, x4, x5, x6, x7, x8] (st) hi g Φ := AP.iconst (x := 0) d_L_law_2081 (by decide) h
theorem d_L_law_2082 : decode code 2082 = .ok (.ireturn, 1) := by decide +kernel
theorem s_L_law_2082 {x : Int32} (hx : x = 0 ∨ x = 1) (h : Φ (.ok (some (.int x))) hi g) : AP M_L_law b 2082 [x0, x1, x2, x3, x4, x5, x6, x7, x8] [.int x] hi g Φ := AP.zret d_L_law_2082 rfl hx h
theorem d_L_law_2083 : decode code 2083 = .ok (.iload 5, 2) := by decide +kernel
theorem s_L_law_2083 {n : Int32} (h : AP M_L_law b 2085 [x0, x1, x2, x3, x4, .int n, x6, x7, x8] (.int n :: st) hi g Φ) : AP M_L_law b 2083 [x0, x1, x2, x3, x4, .int n, x6, x7, x8] (st) hi g Φ := AP.iload (x := n) (i := 5) d_L_law_2083 rfl h
theorem d_L_law_2085 : decode code 2085 = .ok (.ifCond .ne 15, 3) := by decide +kernel
theorem s_L_law_2085 {x : Int32} (h1 : ¬ x = 0 → AP M_L_law b 2100 [x0, x1, x2, x3, x4, x5, x6, x7, x8] st hi g Φ) (h2 : x = 0 → AP M_L_law b 2088 [x0, x1, x2, x3, x4, x5, x6, x7, x8] st hi g Φ) : AP M_L_law b 2085 [x0, x1, x2, x3, x4, x5, x6, x7, x8] (.int x :: st) hi g Φ := AP.if_ne d_L_law_2085 (by decide) h1 h2
theorem d_L_law_2088 : decode code 2088 = .ok (.aload_n 3, 1) := by decide +kernel
theorem s_L_law_2088 {n : Nat} (h : AP M_L_law b 2089 [x0, x1, x2, .ref n, x4, x5, x6, x7, x8] (.ref n :: st) hi g Φ) : AP M_L_law b 2088 [x0, x1, x2, .ref n, x4, x5, x6, x7, x8] (st) hi g Φ := AP.aload_n (x := n) (i := 3) d_L_law_2088 rfl rfl h
theorem d_L_law_2089 : decode code 2089 = .ok (.iconst 0, 1) := by decide +kernel
theorem s_L_law_2089 (h : AP M_L_law b 2090 [x0, x1, x2, x3, x4, x5, x6, x7, x8] (.int 0 :: st) hi g Φ) : AP M_L_law b 2089 [x0, x1, x2, x3, x4, x5, x6, x7, x8] (st) hi g Φ := AP.iconst (x := 0) d_L_law_2089 (by decide) h
theorem d_L_law_2090 : decode code 2090 = .ok (.laload, 1) := by decide +kernel
theorem s_L_law_2090 {k n j : Nat} {i : Int32} (hI : am_Inv g) (hs : am_SH k = (4, n)) (hk : k < 134) (hn : n < 2 ^ 31) (hx : i = nI j) (hj : j < n) (h : AP M_L_law b 2091 [x0, x1, x2, x3, x4, x5, x6, x7, x8] (.long (g.2.2 k j) :: st) hi g Φ) : AP M_L_law b 2090 [x0, x1, x2, x3, x4, x5, x6, x7, x8] (.int i :: .ref k :: st) hi g Φ := AP.lald d_L_law_2090 hs (hI.lt hk) hn hx hj h
theorem d_L_law_2091 : decode code 2091 = .ok (.iload 6, 2) := by decide +kernel
theorem s_L_law_2091 {n : Int32} (h : AP M_L_law b 2093 [x0, x1, x2, x3, x4, x5, .int n, x7, x8] (.int n :: st) hi g Φ) : AP M_L_law b 2091 [x0, x1, x2, x3, x4, x5, .int n, x7, x8] (st) hi g Φ := AP.iload (x := n) (i := 6) d_L_law_2091 rfl h
theorem d_L_law_2093 : decode code 2093 = .ok (.i2l, 1) := by decide +kernel
theorem s_L_law_2093 {x : Int32} (h : AP M_L_law b 2094 [x0, x1, x2, x3, x4, x5, x6, x7, x8] (.long x.toInt64 :: st) hi g Φ) : AP M_L_law b 2093 [x0, x1, x2, x3, x4, x5, x6, x7, x8] (.int x :: st) hi g Φ := AP.i2l d_L_law_2093 h
theorem d_L_law_2094 : decode code 2094 = .ok (.lcmp, 1) := by decide +kernel
theorem s_L_law_2094 {x y : Int64} (h : AP M_L_law b 2095 [x0, x1, x2, x3, x4, x5, x6, x7, x8] (.int (lg_cmp x y) :: st) hi g Φ) : AP M_L_law b 2094 [x0, x1, x2, x3, x4, x5, x6, x7, x8] (.long y :: .long x :: st) hi g Φ := AP.lcmp d_L_law_2094 h
theorem d_L_law_2095 : decode code 2095 = .ok (.ifCond .eq 5, 3) := by decide +kernel
theorem s_L_law_2095 {x : Int32} (h1 : x = 0 → AP M_L_law b 2100 [x0, x1, x2, x3, x4, x5, x6, x7, x8] st hi g Φ) (h2 : ¬ x = 0 → AP M_L_law b 2098 [x0, x1, x2, x3, x4, x5, x6, x7, x8] st hi g Φ) : AP M_L_law b 2095 [x0, x1, x2, x3, x4, x5, x6, x7, x8] (.int x :: st) hi g Φ := AP.if_eq d_L_law_2095 (by decide) h1 h2
theorem d_L_law_2098 : decode code 2098 = .ok (.iconst 0, 1) := by decide +kernel
theorem s_L_law_2098 (h : AP M_L_law b 2099 [x0, x1, x2, x3, x4, x5, x6, x7, x8] (.int 0 :: st) hi g Φ) : AP M_L_law b 2098 [x0, x1, x2, x3, x4, x5, x6, x7, x8] (st) hi g Φ := AP.iconst (x := 0) d_L_law_2098 (by decide) h
theorem d_L_law_2099 : decode code 2099 = .ok (.ireturn, 1) := by decide +kernel
theorem s_L_law_2099 {x : Int32} (hx : x = 0 ∨ x = 1) (h : Φ (.ok (some (.int x))) hi g) : AP M_L_law b 2099 [x0, x1, x2, x3, x4, x5, x6, x7, x8] [.int x] hi g Φ := AP.zret d_L_law_2099 rfl hx h
theorem d_L_law_2100 : decode code 2100 = .ok (.goto 651, 3) := by decide +kernel
theorem s_L_law_2100 (h : AP M_L_law b 2751 [x0, x1, x2, x3, x4, x5, x6, x7, x8] st hi g Φ) : AP M_L_law b 2100 [x0, x1, x2, x3, x4, x5, x6, x7, x8] st hi g Φ := AP.goto d_L_law_2100 (by decide) h
theorem d_L_law_2103 : decode code 2103 = .ok (.aload_n 1, 1) := by decide +kernel
theorem s_L_law_2103 {n : Nat} (h : AP M_L_law b 2104 [x0, .ref n, x2, x3, x4, x5, x6, x7, x8] (.ref n :: st) hi g Φ) : AP M_L_law b 2103 [x0, .ref n, x2, x3, x4, x5, x6, x7, x8] (st) hi g Φ := AP.aload_n (x := n) (i := 1) d_L_law_2103 rfl rfl h
theorem d_L_law_2104 : decode code 2104 = .ok (.aload_n 0, 1) := by decide +kernel
theorem s_L_law_2104 {n : Nat} (h : AP M_L_law b 2105 [.ref n, x1, x2, x3, x4, x5, x6, x7, x8] (.ref n :: st) hi g Φ) : AP M_L_law b 2104 [.ref n, x1, x2, x3, x4, x5, x6, x7, x8] (st) hi g Φ := AP.aload_n (x := n) (i := 0) d_L_law_2104 rfl rfl h
theorem d_L_law_2105 : decode code 2105 = .ok (.iload 4, 2) := by decide +kernel
theorem s_L_law_2105 {n : Int32} (h : AP M_L_law b 2107 [x0, x1, x2, x3, .int n, x5, x6, x7, x8] (.int n :: st) hi g Φ) : AP M_L_law b 2105 [x0, x1, x2, x3, .int n, x5, x6, x7, x8] (st) hi g Φ := AP.iload (x := n) (i := 4) d_L_law_2105 rfl h
theorem d_L_law_2107 : decode code 2107 = .ok (.iconst 1, 1) := by decide +kernel
theorem s_L_law_2107 (h : AP M_L_law b 2108 [x0, x1, x2, x3, x4, x5, x6, x7, x8] (.int 1 :: st) hi g Φ) : AP M_L_law b 2107 [x0, x1, x2, x3, x4, x5, x6, x7, x8] (st) hi g Φ := AP.iconst (x := 1) d_L_law_2107 (by decide) h
theorem d_L_law_2108 : decode code 2108 = .ok (.iadd, 1) := by decide +kernel
theorem s_L_law_2108 {x y : Int32} (h : AP M_L_law b 2109 [x0, x1, x2, x3, x4, x5, x6, x7, x8] (.int (x + y) :: st) hi g Φ) : AP M_L_law b 2108 [x0, x1, x2, x3, x4, x5, x6, x7, x8] (.int y :: .int x :: st) hi g Φ := AP.iadd d_L_law_2108 h
theorem d_L_law_2109 : decode code 2109 = .ok (.iaload, 1) := by decide +kernel
theorem s_L_law_2109 {k n j : Nat} {i : Int32} (hI : am_Inv g) (hs : am_SH k = (1, n)) (hk : k < 134) (hn : n < 2 ^ 31) (hx : i = nI j) (hj : j < n) (h : AP M_L_law b 2110 [x0, x1, x2, x3, x4, x5, x6, x7, x8] (.int (hi k j) :: st) hi g Φ) : AP M_L_law b 2109 [x0, x1, x2, x3, x4, x5, x6, x7, x8] (.int i :: .ref k :: st) hi g Φ := AP.iald d_L_law_2109 hs (hI.lt hk) hn hx hj h
theorem d_L_law_2110 : decode code 2110 = .ok (.aload_n 3, 1) := by decide +kernel
theorem s_L_law_2110 {n : Nat} (h : AP M_L_law b 2111 [x0, x1, x2, .ref n, x4, x5, x6, x7, x8] (.ref n :: st) hi g Φ) : AP M_L_law b 2110 [x0, x1, x2, .ref n, x4, x5, x6, x7, x8] (st) hi g Φ := AP.aload_n (x := n) (i := 3) d_L_law_2110 rfl rfl h
theorem d_L_law_2111 : decode code 2111 = .ok (.invokestatic 274, 3) := by decide +kernel
-- s_L_law_2111: a call apart
theorem d_L_law_2114 : decode code 2114 = .ok (.istore 5, 2) := by decide +kernel
theorem s_L_law_2114 {n : Int32} (hc : x4.category = 1) (h : AP M_L_law b 2116 [x0, x1, x2, x3, x4, .int n, x6, x7, x8] (st) hi g Φ) : AP M_L_law b 2114 [x0, x1, x2, x3, x4, x5, x6, x7, x8] (.int n :: st) hi g Φ := AP.istore (x := n) (i := 5) d_L_law_2114 (by decide) (by simp [am_st, am_ci, am_cr, am_cl, am_cd, hc]) h
theorem d_L_law_2116 : decode code 2116 = .ok (.aload_n 2, 1) := by decide +kernel
theorem s_L_law_2116 {n : Nat} (h : AP M_L_law b 2117 [x0, x1, .ref n, x3, x4, x5, x6, x7, x8] (.ref n :: st) hi g Φ) : AP M_L_law b 2116 [x0, x1, .ref n, x3, x4, x5, x6, x7, x8] (st) hi g Φ := AP.aload_n (x := n) (i := 2) d_L_law_2116 rfl rfl h
theorem d_L_law_2117 : decode code 2117 = .ok (.aload_n 0, 1) := by decide +kernel
theorem s_L_law_2117 {n : Nat} (h : AP M_L_law b 2118 [.ref n, x1, x2, x3, x4, x5, x6, x7, x8] (.ref n :: st) hi g Φ) : AP M_L_law b 2117 [.ref n, x1, x2, x3, x4, x5, x6, x7, x8] (st) hi g Φ := AP.aload_n (x := n) (i := 0) d_L_law_2117 rfl rfl h
theorem d_L_law_2118 : decode code 2118 = .ok (.iload 4, 2) := by decide +kernel
theorem s_L_law_2118 {n : Int32} (h : AP M_L_law b 2120 [x0, x1, x2, x3, .int n, x5, x6, x7, x8] (.int n :: st) hi g Φ) : AP M_L_law b 2118 [x0, x1, x2, x3, .int n, x5, x6, x7, x8] (st) hi g Φ := AP.iload (x := n) (i := 4) d_L_law_2118 rfl h
theorem d_L_law_2120 : decode code 2120 = .ok (.iconst 1, 1) := by decide +kernel
theorem s_L_law_2120 (h : AP M_L_law b 2121 [x0, x1, x2, x3, x4, x5, x6, x7, x8] (.int 1 :: st) hi g Φ) : AP M_L_law b 2120 [x0, x1, x2, x3, x4, x5, x6, x7, x8] (st) hi g Φ := AP.iconst (x := 1) d_L_law_2120 (by decide) h
theorem d_L_law_2121 : decode code 2121 = .ok (.iadd, 1) := by decide +kernel
theorem s_L_law_2121 {x y : Int32} (h : AP M_L_law b 2122 [x0, x1, x2, x3, x4, x5, x6, x7, x8] (.int (x + y) :: st) hi g Φ) : AP M_L_law b 2121 [x0, x1, x2, x3, x4, x5, x6, x7, x8] (.int y :: .int x :: st) hi g Φ := AP.iadd d_L_law_2121 h
theorem d_L_law_2122 : decode code 2122 = .ok (.iaload, 1) := by decide +kernel
theorem s_L_law_2122 {k n j : Nat} {i : Int32} (hI : am_Inv g) (hs : am_SH k = (1, n)) (hk : k < 134) (hn : n < 2 ^ 31) (hx : i = nI j) (hj : j < n) (h : AP M_L_law b 2123 [x0, x1, x2, x3, x4, x5, x6, x7, x8] (.int (hi k j) :: st) hi g Φ) : AP M_L_law b 2122 [x0, x1, x2, x3, x4, x5, x6, x7, x8] (.int i :: .ref k :: st) hi g Φ := AP.iald d_L_law_2122 hs (hI.lt hk) hn hx hj h
theorem d_L_law_2123 : decode code 2123 = .ok (.invokevirtual 276, 3) := by decide +kernel
theorem s_L_law_2123 {a0 : Int32} {k : Nat} {r0 : Int32} {P : am_HI → Prop} (hI : am_Inv g) (hs : am_SH k = (0, 10)) (hk : k < 134) (hst : (st.map Value.category).sum ≤ 8) (hc : am_Cr M_X10_letterLeft [.ref k, .int a0] hi g (some (.int r0)) P) (h : ∀ hi' : am_HI, P hi' → AP M_L_law b 2126 [x0, x1, x2, x3, x4, x5, x6, x7, x8] (.int r0 :: st) hi' g Φ) : AP M_L_law b 2123 [x0, x1, x2, x3, x4, x5, x6, x7, x8] (.int a0 :: .ref k :: st) hi g Φ := AP.callVr (As := [.int a0]) (q := (RX10, TX10, 15)) hI hc k_L_law_276 d_L_law_2123 rfl hs hk rfl rfl hst h
theorem d_L_law_2126 : decode code 2126 = .ok (.istore 6, 2) := by decide +kernel
theorem s_L_law_2126 {n : Int32} (hc : x5.category = 1) (h : AP M_L_law b 2128 [x0, x1, x2, x3, x4, x5, .int n, x7, x8] (st) hi g Φ) : AP M_L_law b 2126 [x0, x1, x2, x3, x4, x5, x6, x7, x8] (.int n :: st) hi g Φ := AP.istore (x := n) (i := 6) d_L_law_2126 (by decide) (by simp [am_st, am_ci, am_cr, am_cl, am_cd, hc]) h
theorem d_L_law_2128 : decode code 2128 = .ok (.aload_n 2, 1) := by decide +kernel
theorem s_L_law_2128 {n : Nat} (h : AP M_L_law b 2129 [x0, x1, .ref n, x3, x4, x5, x6, x7, x8] (.ref n :: st) hi g Φ) : AP M_L_law b 2128 [x0, x1, .ref n, x3, x4, x5, x6, x7, x8] (st) hi g Φ := AP.aload_n (x := n) (i := 2) d_L_law_2128 rfl rfl h
theorem d_L_law_2129 : decode code 2129 = .ok (.invokevirtual 141, 3) := by decide +kernel
theorem s_L_law_2129  {k : Nat} {r0 : Int32} {P : am_HI → Prop} (hI : am_Inv g) (hs : am_SH k = (0, 10)) (hk : k < 134) (hst : (st.map Value.category).sum ≤ 8) (hc : am_Cr M_X10_thrown [.ref k] hi g (some (.int r0)) P) (h : ∀ hi' : am_HI, P hi' → AP M_L_law b 2132 [x0, x1, x2, x3, x4, x5, x6, x7, x8] (.int r0 :: st) hi' g Φ) : AP M_L_law b 2129 [x0, x1, x2, x3, x4, x5, x6, x7, x8] (.ref k :: st) hi g Φ := AP.callVr (As := []) (q := (RX10, TX10, 15)) hI hc k_L_law_141 d_L_law_2129 rfl hs hk rfl rfl hst h
theorem d_L_law_2132 : decode code 2132 = .ok (.iload 5, 2) := by decide +kernel
theorem s_L_law_2132 {n : Int32} (h : AP M_L_law b 2134 [x0, x1, x2, x3, x4, .int n, x6, x7, x8] (.int n :: st) hi g Φ) : AP M_L_law b 2132 [x0, x1, x2, x3, x4, .int n, x6, x7, x8] (st) hi g Φ := AP.iload (x := n) (i := 5) d_L_law_2132 rfl h
theorem d_L_law_2134 : decode code 2134 = .ok (.if_icmp .eq 5, 3) := by decide +kernel
theorem s_L_law_2134 {x y : Int32} (h1 : x = y → AP M_L_law b 2139 [x0, x1, x2, x3, x4, x5, x6, x7, x8] st hi g Φ) (h2 : ¬ x = y → AP M_L_law b 2137 [x0, x1, x2, x3, x4, x5, x6, x7, x8] st hi g Φ) : AP M_L_law b 2134 [x0, x1, x2, x3, x4, x5, x6, x7, x8] (.int y :: .int x :: st) hi g Φ := AP.icmp_eq d_L_law_2134 (by decide) h1 h2
theorem d_L_law_2137 : decode code 2137 = .ok (.iconst 0, 1) := by decide +kernel
theorem s_L_law_2137 (h : AP M_L_law b 2138 [x0, x1, x2, x3, x4, x5, x6, x7, x8] (.int 0 :: st) hi g Φ) : AP M_L_law b 2137 [x0, x1, x2, x3, x4, x5, x6, x7, x8] (st) hi g Φ := AP.iconst (x := 0) d_L_law_2137 (by decide) h
theorem d_L_law_2138 : decode code 2138 = .ok (.ireturn, 1) := by decide +kernel
theorem s_L_law_2138 {x : Int32} (hx : x = 0 ∨ x = 1) (h : Φ (.ok (some (.int x))) hi g) : AP M_L_law b 2138 [x0, x1, x2, x3, x4, x5, x6, x7, x8] [.int x] hi g Φ := AP.zret d_L_law_2138 rfl hx h
theorem d_L_law_2139 : decode code 2139 = .ok (.iload 5, 2) := by decide +kernel
theorem s_L_law_2139 {n : Int32} (h : AP M_L_law b 2141 [x0, x1, x2, x3, x4, .int n, x6, x7, x8] (.int n :: st) hi g Φ) : AP M_L_law b 2139 [x0, x1, x2, x3, x4, .int n, x6, x7, x8] (st) hi g Φ := AP.iload (x := n) (i := 5) d_L_law_2139 rfl h
theorem d_L_law_2141 : decode code 2141 = .ok (.ifCond .ne 15, 3) := by decide +kernel
theorem s_L_law_2141 {x : Int32} (h1 : ¬ x = 0 → AP M_L_law b 2156 [x0, x1, x2, x3, x4, x5, x6, x7, x8] st hi g Φ) (h2 : x = 0 → AP M_L_law b 2144 [x0, x1, x2, x3, x4, x5, x6, x7, x8] st hi g Φ) : AP M_L_law b 2141 [x0, x1, x2, x3, x4, x5, x6, x7, x8] (.int x :: st) hi g Φ := AP.if_ne d_L_law_2141 (by decide) h1 h2
theorem d_L_law_2144 : decode code 2144 = .ok (.aload_n 3, 1) := by decide +kernel
theorem s_L_law_2144 {n : Nat} (h : AP M_L_law b 2145 [x0, x1, x2, .ref n, x4, x5, x6, x7, x8] (.ref n :: st) hi g Φ) : AP M_L_law b 2144 [x0, x1, x2, .ref n, x4, x5, x6, x7, x8] (st) hi g Φ := AP.aload_n (x := n) (i := 3) d_L_law_2144 rfl rfl h
theorem d_L_law_2145 : decode code 2145 = .ok (.iconst 0, 1) := by decide +kernel
theorem s_L_law_2145 (h : AP M_L_law b 2146 [x0, x1, x2, x3, x4, x5, x6, x7, x8] (.int 0 :: st) hi g Φ) : AP M_L_law b 2145 [x0, x1, x2, x3, x4, x5, x6, x7, x8] (st) hi g Φ := AP.iconst (x := 0) d_L_law_2145 (by decide) h
theorem d_L_law_2146 : decode code 2146 = .ok (.laload, 1) := by decide +kernel
theorem s_L_law_2146 {k n j : Nat} {i : Int32} (hI : am_Inv g) (hs : am_SH k = (4, n)) (hk : k < 134) (hn : n < 2 ^ 31) (hx : i = nI j) (hj : j < n) (h : AP M_L_law b 2147 [x0, x1, x2, x3, x4, x5, x6, x7, x8] (.long (g.2.2 k j) :: st) hi g Φ) : AP M_L_law b 2146 [x0, x1, x2, x3, x4, x5, x6, x7, x8] (.int i :: .ref k :: st) hi g Φ := AP.lald d_L_law_2146 hs (hI.lt hk) hn hx hj h
theorem d_L_law_2147 : decode code 2147 = .ok (.iload 6, 2) := by decide +kernel
theorem s_L_law_2147 {n : Int32} (h : AP M_L_law b 2149 [x0, x1, x2, x3, x4, x5, .int n, x7, x8] (.int n :: st) hi g Φ) : AP M_L_law b 2147 [x0, x1, x2, x3, x4, x5, .int n, x7, x8] (st) hi g Φ := AP.iload (x := n) (i := 6) d_L_law_2147 rfl h
theorem d_L_law_2149 : decode code 2149 = .ok (.i2l, 1) := by decide +kernel
theorem s_L_law_2149 {x : Int32} (h : AP M_L_law b 2150 [x0, x1, x2, x3, x4, x5, x6, x7, x8] (.long x.toInt64 :: st) hi g Φ) : AP M_L_law b 2149 [x0, x1, x2, x3, x4, x5, x6, x7, x8] (.int x :: st) hi g Φ := AP.i2l d_L_law_2149 h
theorem d_L_law_2150 : decode code 2150 = .ok (.lcmp, 1) := by decide +kernel
theorem s_L_law_2150 {x y : Int64} (h : AP M_L_law b 2151 [x0, x1, x2, x3, x4, x5, x6, x7, x8] (.int (lg_cmp x y) :: st) hi g Φ) : AP M_L_law b 2150 [x0, x1, x2, x3, x4, x5, x6, x7, x8] (.long y :: .long x :: st) hi g Φ := AP.lcmp d_L_law_2150 h
theorem d_L_law_2151 : decode code 2151 = .ok (.ifCond .eq 5, 3) := by decide +kernel
theorem s_L_law_2151 {x : Int32} (h1 : x = 0 → AP M_L_law b 2156 [x0, x1, x2, x3, x4, x5, x6, x7, x8] st hi g Φ) (h2 : ¬ x = 0 → AP M_L_law b 2154 [x0, x1, x2, x3, x4, x5, x6, x7, x8] st hi g Φ) : AP M_L_law b 2151 [x0, x1, x2, x3, x4, x5, x6, x7, x8] (.int x :: st) hi g Φ := AP.if_eq d_L_law_2151 (by decide) h1 h2
theorem d_L_law_2154 : decode code 2154 = .ok (.iconst 0, 1) := by decide +kernel
theorem s_L_law_2154 (h : AP M_L_law b 2155 [x0, x1, x2, x3, x4, x5, x6, x7, x8] (.int 0 :: st) hi g Φ) : AP M_L_law b 2154 [x0, x1, x2, x3, x4, x5, x6, x7, x8] (st) hi g Φ := AP.iconst (x := 0) d_L_law_2154 (by decide) h
theorem d_L_law_2155 : decode code 2155 = .ok (.ireturn, 1) := by decide +kernel
theorem s_L_law_2155 {x : Int32} (hx : x = 0 ∨ x = 1) (h : Φ (.ok (some (.int x))) hi g) : AP M_L_law b 2155 [x0, x1, x2, x3, x4, x5, x6, x7, x8] [.int x] hi g Φ := AP.zret d_L_law_2155 rfl hx h
theorem d_L_law_2156 : decode code 2156 = .ok (.goto 595, 3) := by decide +kernel
theorem s_L_law_2156 (h : AP M_L_law b 2751 [x0, x1, x2, x3, x4, x5, x6, x7, x8] st hi g Φ) : AP M_L_law b 2156 [x0, x1, x2, x3, x4, x5, x6, x7, x8] st hi g Φ := AP.goto d_L_law_2156 (by decide) h
theorem d_L_law_2159 : decode code 2159 = .ok (.aload_n 1, 1) := by decide +kernel
theorem s_L_law_2159 {n : Nat} (h : AP M_L_law b 2160 [x0, .ref n, x2, x3, x4, x5, x6, x7, x8] (.ref n :: st) hi g Φ) : AP M_L_law b 2159 [x0, .ref n, x2, x3, x4, x5, x6, x7, x8] (st) hi g Φ := AP.aload_n (x := n) (i := 1) d_L_law_2159 rfl rfl h
theorem d_L_law_2160 : decode code 2160 = .ok (.invokevirtual 277, 3) := by decide +kernel
theorem s_L_law_2160  {k : Nat} {r0 : Int32} {P : am_HI → Prop} (hI : am_Inv g) (hs : am_SH k = (0, 9)) (hk : k < 134) (hst : (st.map Value.category).sum ≤ 8) (hc : am_Cr M_X9_letterBits [.ref k] hi g (some (.int r0)) P) (h : ∀ hi' : am_HI, P hi' → AP M_L_law b 2163 [x0, x1, x2, x3, x4, x5, x6, x7, x8] (.int r0 :: st) hi' g Φ) : AP M_L_law b 2160 [x0, x1, x2, x3, x4, x5, x6, x7, x8] (.ref k :: st) hi g Φ := AP.callVr (As := []) (q := (RX9, TX9, 7)) hI hc k_L_law_277 d_L_law_2160 rfl hs hk rfl rfl hst h
theorem d_L_law_2163 : decode code 2163 = .ok (.aload_n 2, 1) := by decide +kernel
theorem s_L_law_2163 {n : Nat} (h : AP M_L_law b 2164 [x0, x1, .ref n, x3, x4, x5, x6, x7, x8] (.ref n :: st) hi g Φ) : AP M_L_law b 2163 [x0, x1, .ref n, x3, x4, x5, x6, x7, x8] (st) hi g Φ := AP.aload_n (x := n) (i := 2) d_L_law_2163 rfl rfl h
theorem d_L_law_2164 : decode code 2164 = .ok (.invokevirtual 280, 3) := by decide +kernel
theorem s_L_law_2164  {k : Nat} {r0 : Int32} {P : am_HI → Prop} (hI : am_Inv g) (hs : am_SH k = (0, 10)) (hk : k < 134) (hst : (st.map Value.category).sum ≤ 8) (hc : am_Cr M_X10_letterBits [.ref k] hi g (some (.int r0)) P) (h : ∀ hi' : am_HI, P hi' → AP M_L_law b 2167 [x0, x1, x2, x3, x4, x5, x6, x7, x8] (.int r0 :: st) hi' g Φ) : AP M_L_law b 2164 [x0, x1, x2, x3, x4, x5, x6, x7, x8] (.ref k :: st) hi g Φ := AP.callVr (As := []) (q := (RX10, TX10, 15)) hI hc k_L_law_280 d_L_law_2164 rfl hs hk rfl rfl hst h
theorem d_L_law_2167 : decode code 2167 = .ok (.if_icmp .eq 584, 3) := by decide +kernel
theorem s_L_law_2167 {x y : Int32} (h1 : x = y → AP M_L_law b 2751 [x0, x1, x2, x3, x4, x5, x6, x7, x8] st hi g Φ) (h2 : ¬ x = y → AP M_L_law b 2170 [x0, x1, x2, x3, x4, x5, x6, x7, x8] st hi g Φ) : AP M_L_law b 2167 [x0, x1, x2, x3, x4, x5, x6, x7, x8] (.int y :: .int x :: st) hi g Φ := AP.icmp_eq d_L_law_2167 (by decide) h1 h2
theorem d_L_law_2170 : decode code 2170 = .ok (.iconst 0, 1) := by decide +kernel
theorem s_L_law_2170 (h : AP M_L_law b 2171 [x0, x1, x2, x3, x4, x5, x6, x7, x8] (.int 0 :: st) hi g Φ) : AP M_L_law b 2170 [x0, x1, x2, x3, x4, x5, x6, x7, x8] (st) hi g Φ := AP.iconst (x := 0) d_L_law_2170 (by decide) h
theorem d_L_law_2171 : decode code 2171 = .ok (.ireturn, 1) := by decide +kernel
theorem s_L_law_2171 {x : Int32} (hx : x = 0 ∨ x = 1) (h : Φ (.ok (some (.int x))) hi g) : AP M_L_law b 2171 [x0, x1, x2, x3, x4, x5, x6, x7, x8] [.int x] hi g Φ := AP.zret d_L_law_2171 rfl hx h
theorem d_L_law_2172 : decode code 2172 = .ok (.aload_n 1, 1) := by decide +kernel
theorem s_L_law_2172 {n : Nat} (h : AP M_L_law b 2173 [x0, .ref n, x2, x3, x4, x5, x6, x7, x8] (.ref n :: st) hi g Φ) : AP M_L_law b 2172 [x0, .ref n, x2, x3, x4, x5, x6, x7, x8] (st) hi g Φ := AP.aload_n (x := n) (i := 1) d_L_law_2172 rfl rfl h
theorem d_L_law_2173 : decode code 2173 = .ok (.aload_n 0, 1) := by decide +kernel
theorem s_L_law_2173 {n : Nat} (h : AP M_L_law b 2174 [.ref n, x1, x2, x3, x4, x5, x6, x7, x8] (.ref n :: st) hi g Φ) : AP M_L_law b 2173 [.ref n, x1, x2, x3, x4, x5, x6, x7, x8] (st) hi g Φ := AP.aload_n (x := n) (i := 0) d_L_law_2173 rfl rfl h
theorem d_L_law_2174 : decode code 2174 = .ok (.iload 4, 2) := by decide +kernel
theorem s_L_law_2174 {n : Int32} (h : AP M_L_law b 2176 [x0, x1, x2, x3, .int n, x5, x6, x7, x8] (.int n :: st) hi g Φ) : AP M_L_law b 2174 [x0, x1, x2, x3, .int n, x5, x6, x7, x8] (st) hi g Φ := AP.iload (x := n) (i := 4) d_L_law_2174 rfl h
theorem d_L_law_2176 : decode code 2176 = .ok (.iconst 1, 1) := by decide +kernel
theorem s_L_law_2176 (h : AP M_L_law b 2177 [x0, x1, x2, x3, x4, x5, x6, x7, x8] (.int 1 :: st) hi g Φ) : AP M_L_law b 2176 [x0, x1, x2, x3, x4, x5, x6, x7, x8] (st) hi g Φ := AP.iconst (x := 1) d_L_law_2176 (by decide) h
theorem d_L_law_2177 : decode code 2177 = .ok (.iadd, 1) := by decide +kernel
theorem s_L_law_2177 {x y : Int32} (h : AP M_L_law b 2178 [x0, x1, x2, x3, x4, x5, x6, x7, x8] (.int (x + y) :: st) hi g Φ) : AP M_L_law b 2177 [x0, x1, x2, x3, x4, x5, x6, x7, x8] (.int y :: .int x :: st) hi g Φ := AP.iadd d_L_law_2177 h
theorem d_L_law_2178 : decode code 2178 = .ok (.iaload, 1) := by decide +kernel
theorem s_L_law_2178 {k n j : Nat} {i : Int32} (hI : am_Inv g) (hs : am_SH k = (1, n)) (hk : k < 134) (hn : n < 2 ^ 31) (hx : i = nI j) (hj : j < n) (h : AP M_L_law b 2179 [x0, x1, x2, x3, x4, x5, x6, x7, x8] (.int (hi k j) :: st) hi g Φ) : AP M_L_law b 2178 [x0, x1, x2, x3, x4, x5, x6, x7, x8] (.int i :: .ref k :: st) hi g Φ := AP.iald d_L_law_2178 hs (hI.lt hk) hn hx hj h
theorem d_L_law_2179 : decode code 2179 = .ok (.aload_n 3, 1) := by decide +kernel
theorem s_L_law_2179 {n : Nat} (h : AP M_L_law b 2180 [x0, x1, x2, .ref n, x4, x5, x6, x7, x8] (.ref n :: st) hi g Φ) : AP M_L_law b 2179 [x0, x1, x2, .ref n, x4, x5, x6, x7, x8] (st) hi g Φ := AP.aload_n (x := n) (i := 3) d_L_law_2179 rfl rfl h
theorem d_L_law_2180 : decode code 2180 = .ok (.invokestatic 281, 3) := by decide +kernel
-- s_L_law_2180: a call apart
theorem d_L_law_2183 : decode code 2183 = .ok (.istore 5, 2) := by decide +kernel
theorem s_L_law_2183 {n : Int32} (hc : x4.category = 1) (h : AP M_L_law b 2185 [x0, x1, x2, x3, x4, .int n, x6, x7, x8] (st) hi g Φ) : AP M_L_law b 2183 [x0, x1, x2, x3, x4, x5, x6, x7, x8] (.int n :: st) hi g Φ := AP.istore (x := n) (i := 5) d_L_law_2183 (by decide) (by simp [am_st, am_ci, am_cr, am_cl, am_cd, hc]) h
theorem d_L_law_2185 : decode code 2185 = .ok (.aload_n 2, 1) := by decide +kernel
theorem s_L_law_2185 {n : Nat} (h : AP M_L_law b 2186 [x0, x1, .ref n, x3, x4, x5, x6, x7, x8] (.ref n :: st) hi g Φ) : AP M_L_law b 2185 [x0, x1, .ref n, x3, x4, x5, x6, x7, x8] (st) hi g Φ := AP.aload_n (x := n) (i := 2) d_L_law_2185 rfl rfl h
theorem d_L_law_2186 : decode code 2186 = .ok (.aload_n 0, 1) := by decide +kernel
theorem s_L_law_2186 {n : Nat} (h : AP M_L_law b 2187 [.ref n, x1, x2, x3, x4, x5, x6, x7, x8] (.ref n :: st) hi g Φ) : AP M_L_law b 2186 [.ref n, x1, x2, x3, x4, x5, x6, x7, x8] (st) hi g Φ := AP.aload_n (x := n) (i := 0) d_L_law_2186 rfl rfl h
theorem d_L_law_2187 : decode code 2187 = .ok (.iload 4, 2) := by decide +kernel
theorem s_L_law_2187 {n : Int32} (h : AP M_L_law b 2189 [x0, x1, x2, x3, .int n, x5, x6, x7, x8] (.int n :: st) hi g Φ) : AP M_L_law b 2187 [x0, x1, x2, x3, .int n, x5, x6, x7, x8] (st) hi g Φ := AP.iload (x := n) (i := 4) d_L_law_2187 rfl h
theorem d_L_law_2189 : decode code 2189 = .ok (.iconst 1, 1) := by decide +kernel
theorem s_L_law_2189 (h : AP M_L_law b 2190 [x0, x1, x2, x3, x4, x5, x6, x7, x8] (.int 1 :: st) hi g Φ) : AP M_L_law b 2189 [x0, x1, x2, x3, x4, x5, x6, x7, x8] (st) hi g Φ := AP.iconst (x := 1) d_L_law_2189 (by decide) h
theorem d_L_law_2190 : decode code 2190 = .ok (.iadd, 1) := by decide +kernel
theorem s_L_law_2190 {x y : Int32} (h : AP M_L_law b 2191 [x0, x1, x2, x3, x4, x5, x6, x7, x8] (.int (x + y) :: st) hi g Φ) : AP M_L_law b 2190 [x0, x1, x2, x3, x4, x5, x6, x7, x8] (.int y :: .int x :: st) hi g Φ := AP.iadd d_L_law_2190 h
theorem d_L_law_2191 : decode code 2191 = .ok (.iaload, 1) := by decide +kernel
theorem s_L_law_2191 {k n j : Nat} {i : Int32} (hI : am_Inv g) (hs : am_SH k = (1, n)) (hk : k < 134) (hn : n < 2 ^ 31) (hx : i = nI j) (hj : j < n) (h : AP M_L_law b 2192 [x0, x1, x2, x3, x4, x5, x6, x7, x8] (.int (hi k j) :: st) hi g Φ) : AP M_L_law b 2191 [x0, x1, x2, x3, x4, x5, x6, x7, x8] (.int i :: .ref k :: st) hi g Φ := AP.iald d_L_law_2191 hs (hI.lt hk) hn hx hj h
theorem d_L_law_2192 : decode code 2192 = .ok (.invokevirtual 283, 3) := by decide +kernel
theorem s_L_law_2192 {a0 : Int32} {k : Nat} {r0 : Int32} {P : am_HI → Prop} (hI : am_Inv g) (hs : am_SH k = (0, 10)) (hk : k < 134) (hst : (st.map Value.category).sum ≤ 8) (hc : am_Cr M_X10_letterBit [.ref k, .int a0] hi g (some (.int r0)) P) (h : ∀ hi' : am_HI, P hi' → AP M_L_law b 2195 [x0, x1, x2, x3, x4, x5, x6, x7, x8] (.int r0 :: st) hi' g Φ) : AP M_L_law b 2192 [x0, x1, x2, x3, x4, x5, x6, x7, x8] (.int a0 :: .ref k :: st) hi g Φ := AP.callVr (As := [.int a0]) (q := (RX10, TX10, 15)) hI hc k_L_law_283 d_L_law_2192 rfl hs hk rfl rfl hst h
theorem d_L_law_2195 : decode code 2195 = .ok (.istore 6, 2) := by decide +kernel
theorem s_L_law_2195 {n : Int32} (hc : x5.category = 1) (h : AP M_L_law b 2197 [x0, x1, x2, x3, x4, x5, .int n, x7, x8] (st) hi g Φ) : AP M_L_law b 2195 [x0, x1, x2, x3, x4, x5, x6, x7, x8] (.int n :: st) hi g Φ := AP.istore (x := n) (i := 6) d_L_law_2195 (by decide) (by simp [am_st, am_ci, am_cr, am_cl, am_cd, hc]) h
theorem d_L_law_2197 : decode code 2197 = .ok (.aload_n 2, 1) := by decide +kernel
theorem s_L_law_2197 {n : Nat} (h : AP M_L_law b 2198 [x0, x1, .ref n, x3, x4, x5, x6, x7, x8] (.ref n :: st) hi g Φ) : AP M_L_law b 2197 [x0, x1, .ref n, x3, x4, x5, x6, x7, x8] (st) hi g Φ := AP.aload_n (x := n) (i := 2) d_L_law_2197 rfl rfl h
theorem d_L_law_2198 : decode code 2198 = .ok (.invokevirtual 141, 3) := by decide +kernel
theorem s_L_law_2198  {k : Nat} {r0 : Int32} {P : am_HI → Prop} (hI : am_Inv g) (hs : am_SH k = (0, 10)) (hk : k < 134) (hst : (st.map Value.category).sum ≤ 8) (hc : am_Cr M_X10_thrown [.ref k] hi g (some (.int r0)) P) (h : ∀ hi' : am_HI, P hi' → AP M_L_law b 2201 [x0, x1, x2, x3, x4, x5, x6, x7, x8] (.int r0 :: st) hi' g Φ) : AP M_L_law b 2198 [x0, x1, x2, x3, x4, x5, x6, x7, x8] (.ref k :: st) hi g Φ := AP.callVr (As := []) (q := (RX10, TX10, 15)) hI hc k_L_law_141 d_L_law_2198 rfl hs hk rfl rfl hst h
theorem d_L_law_2201 : decode code 2201 = .ok (.iload 5, 2) := by decide +kernel
theorem s_L_law_2201 {n : Int32} (h : AP M_L_law b 2203 [x0, x1, x2, x3, x4, .int n, x6, x7, x8] (.int n :: st) hi g Φ) : AP M_L_law b 2201 [x0, x1, x2, x3, x4, .int n, x6, x7, x8] (st) hi g Φ := AP.iload (x := n) (i := 5) d_L_law_2201 rfl h
theorem d_L_law_2203 : decode code 2203 = .ok (.if_icmp .eq 5, 3) := by decide +kernel
theorem s_L_law_2203 {x y : Int32} (h1 : x = y → AP M_L_law b 2208 [x0, x1, x2, x3, x4, x5, x6, x7, x8] st hi g Φ) (h2 : ¬ x = y → AP M_L_law b 2206 [x0, x1, x2, x3, x4, x5, x6, x7, x8] st hi g Φ) : AP M_L_law b 2203 [x0, x1, x2, x3, x4, x5, x6, x7, x8] (.int y :: .int x :: st) hi g Φ := AP.icmp_eq d_L_law_2203 (by decide) h1 h2
theorem d_L_law_2206 : decode code 2206 = .ok (.iconst 0, 1) := by decide +kernel
theorem s_L_law_2206 (h : AP M_L_law b 2207 [x0, x1, x2, x3, x4, x5, x6, x7, x8] (.int 0 :: st) hi g Φ) : AP M_L_law b 2206 [x0, x1, x2, x3, x4, x5, x6, x7, x8] (st) hi g Φ := AP.iconst (x := 0) d_L_law_2206 (by decide) h
theorem d_L_law_2207 : decode code 2207 = .ok (.ireturn, 1) := by decide +kernel
theorem s_L_law_2207 {x : Int32} (hx : x = 0 ∨ x = 1) (h : Φ (.ok (some (.int x))) hi g) : AP M_L_law b 2207 [x0, x1, x2, x3, x4, x5, x6, x7, x8] [.int x] hi g Φ := AP.zret d_L_law_2207 rfl hx h
theorem d_L_law_2208 : decode code 2208 = .ok (.iload 5, 2) := by decide +kernel
theorem s_L_law_2208 {n : Int32} (h : AP M_L_law b 2210 [x0, x1, x2, x3, x4, .int n, x6, x7, x8] (.int n :: st) hi g Φ) : AP M_L_law b 2208 [x0, x1, x2, x3, x4, .int n, x6, x7, x8] (st) hi g Φ := AP.iload (x := n) (i := 5) d_L_law_2208 rfl h
theorem d_L_law_2210 : decode code 2210 = .ok (.ifCond .ne 22, 3) := by decide +kernel
theorem s_L_law_2210 {x : Int32} (h1 : ¬ x = 0 → AP M_L_law b 2232 [x0, x1, x2, x3, x4, x5, x6, x7, x8] st hi g Φ) (h2 : x = 0 → AP M_L_law b 2213 [x0, x1, x2, x3, x4, x5, x6, x7, x8] st hi g Φ) : AP M_L_law b 2210 [x0, x1, x2, x3, x4, x5, x6, x7, x8] (.int x :: st) hi g Φ := AP.if_ne d_L_law_2210 (by decide) h1 h2
theorem d_L_law_2213 : decode code 2213 = .ok (.aload_n 3, 1) := by decide +kernel
theorem s_L_law_2213 {n : Nat} (h : AP M_L_law b 2214 [x0, x1, x2, .ref n, x4, x5, x6, x7, x8] (.ref n :: st) hi g Φ) : AP M_L_law b 2213 [x0, x1, x2, .ref n, x4, x5, x6, x7, x8] (st) hi g Φ := AP.aload_n (x := n) (i := 3) d_L_law_2213 rfl rfl h
theorem d_L_law_2214 : decode code 2214 = .ok (.iconst 0, 1) := by decide +kernel
theorem s_L_law_2214 (h : AP M_L_law b 2215 [x0, x1, x2, x3, x4, x5, x6, x7, x8] (.int 0 :: st) hi g Φ) : AP M_L_law b 2214 [x0, x1, x2, x3, x4, x5, x6, x7, x8] (st) hi g Φ := AP.iconst (x := 0) d_L_law_2214 (by decide) h
theorem d_L_law_2215 : decode code 2215 = .ok (.laload, 1) := by decide +kernel
theorem s_L_law_2215 {k n j : Nat} {i : Int32} (hI : am_Inv g) (hs : am_SH k = (4, n)) (hk : k < 134) (hn : n < 2 ^ 31) (hx : i = nI j) (hj : j < n) (h : AP M_L_law b 2216 [x0, x1, x2, x3, x4, x5, x6, x7, x8] (.long (g.2.2 k j) :: st) hi g Φ) : AP M_L_law b 2215 [x0, x1, x2, x3, x4, x5, x6, x7, x8] (.int i :: .ref k :: st) hi g Φ := AP.lald d_L_law_2215 hs (hI.lt hk) hn hx hj h
theorem d_L_law_2216 : decode code 2216 = .ok (.iload 6, 2) := by decide +kernel
theorem s_L_law_2216 {n : Int32} (h : AP M_L_law b 2218 [x0, x1, x2, x3, x4, x5, .int n, x7, x8] (.int n :: st) hi g Φ) : AP M_L_law b 2216 [x0, x1, x2, x3, x4, x5, .int n, x7, x8] (st) hi g Φ := AP.iload (x := n) (i := 6) d_L_law_2216 rfl h
theorem d_L_law_2218 : decode code 2218 = .ok (.ifCond .eq 7, 3) := by decide +kernel
theorem s_L_law_2218 {x : Int32} (h1 : x = 0 → AP M_L_law b 2225 [x0, x1, x2, x3, x4, x5, x6, x7, x8] st hi g Φ) (h2 : ¬ x = 0 → AP M_L_law b 2221 [x0, x1, x2, x3, x4, x5, x6, x7, x8] st hi g Φ) : AP M_L_law b 2218 [x0, x1, x2, x3, x4, x5, x6, x7, x8] (.int x :: st) hi g Φ := AP.if_eq d_L_law_2218 (by decide) h1 h2
theorem d_L_law_2221 : decode code 2221 = .ok (.lconst 1, 1) := by decide +kernel
theorem s_L_law_2221 (h : AP M_L_law b 2222 [x0, x1, x2, x3, x4, x5, x6, x7, x8] (.long 1 :: st) hi g Φ) : AP M_L_law b 2221 [x0, x1, x2, x3, x4, x5, x6, x7, x8] (st) hi g Φ := AP.lconst (x := 1) d_L_law_2221 (by decide) h
theorem d_L_law_2222 : decode code 2222 = .ok (.goto 4, 3) := by decide +kernel
theorem s_L_law_2222 (h : AP M_L_law b 2226 [x0, x1, x2, x3, x4, x5, x6, x7, x8] st hi g Φ) : AP M_L_law b 2222 [x0, x1, x2, x3, x4, x5, x6, x7, x8] st hi g Φ := AP.goto d_L_law_2222 (by decide) h
theorem d_L_law_2225 : decode code 2225 = .ok (.lconst 0, 1) := by decide +kernel
theorem s_L_law_2225 (h : AP M_L_law b 2226 [x0, x1, x2, x3, x4, x5, x6, x7, x8] (.long 0 :: st) hi g Φ) : AP M_L_law b 2225 [x0, x1, x2, x3, x4, x5, x6, x7, x8] (st) hi g Φ := AP.lconst (x := 0) d_L_law_2225 (by decide) h
theorem d_L_law_2226 : decode code 2226 = .ok (.lcmp, 1) := by decide +kernel
theorem s_L_law_2226 {x y : Int64} (h : AP M_L_law b 2227 [x0, x1, x2, x3, x4, x5, x6, x7, x8] (.int (lg_cmp x y) :: st) hi g Φ) : AP M_L_law b 2226 [x0, x1, x2, x3, x4, x5, x6, x7, x8] (.long y :: .long x :: st) hi g Φ := AP.lcmp d_L_law_2226 h
theorem d_L_law_2227 : decode code 2227 = .ok (.ifCond .eq 5, 3) := by decide +kernel
theorem s_L_law_2227 {x : Int32} (h1 : x = 0 → AP M_L_law b 2232 [x0, x1, x2, x3, x4, x5, x6, x7, x8] st hi g Φ) (h2 : ¬ x = 0 → AP M_L_law b 2230 [x0, x1, x2, x3, x4, x5, x6, x7, x8] st hi g Φ) : AP M_L_law b 2227 [x0, x1, x2, x3, x4, x5, x6, x7, x8] (.int x :: st) hi g Φ := AP.if_eq d_L_law_2227 (by decide) h1 h2
theorem d_L_law_2230 : decode code 2230 = .ok (.iconst 0, 1) := by decide +kernel
theorem s_L_law_2230 (h : AP M_L_law b 2231 [x0, x1, x2, x3, x4, x5, x6, x7, x8] (.int 0 :: st) hi g Φ) : AP M_L_law b 2230 [x0, x1, x2, x3, x4, x5, x6, x7, x8] (st) hi g Φ := AP.iconst (x := 0) d_L_law_2230 (by decide) h
theorem d_L_law_2231 : decode code 2231 = .ok (.ireturn, 1) := by decide +kernel
theorem s_L_law_2231 {x : Int32} (hx : x = 0 ∨ x = 1) (h : Φ (.ok (some (.int x))) hi g) : AP M_L_law b 2231 [x0, x1, x2, x3, x4, x5, x6, x7, x8] [.int x] hi g Φ := AP.zret d_L_law_2231 rfl hx h
theorem d_L_law_2232 : decode code 2232 = .ok (.goto 519, 3) := by decide +kernel
theorem s_L_law_2232 (h : AP M_L_law b 2751 [x0, x1, x2, x3, x4, x5, x6, x7, x8] st hi g Φ) : AP M_L_law b 2232 [x0, x1, x2, x3, x4, x5, x6, x7, x8] st hi g Φ := AP.goto d_L_law_2232 (by decide) h
theorem d_L_law_2235 : decode code 2235 = .ok (.aload_n 1, 1) := by decide +kernel
theorem s_L_law_2235 {n : Nat} (h : AP M_L_law b 2236 [x0, .ref n, x2, x3, x4, x5, x6, x7, x8] (.ref n :: st) hi g Φ) : AP M_L_law b 2235 [x0, .ref n, x2, x3, x4, x5, x6, x7, x8] (st) hi g Φ := AP.aload_n (x := n) (i := 1) d_L_law_2235 rfl rfl h
theorem d_L_law_2236 : decode code 2236 = .ok (.aload_n 0, 1) := by decide +kernel
theorem s_L_law_2236 {n : Nat} (h : AP M_L_law b 2237 [.ref n, x1, x2, x3, x4, x5, x6, x7, x8] (.ref n :: st) hi g Φ) : AP M_L_law b 2236 [.ref n, x1, x2, x3, x4, x5, x6, x7, x8] (st) hi g Φ := AP.aload_n (x := n) (i := 0) d_L_law_2236 rfl rfl h
theorem d_L_law_2237 : decode code 2237 = .ok (.iload 4, 2) := by decide +kernel
theorem s_L_law_2237 {n : Int32} (h : AP M_L_law b 2239 [x0, x1, x2, x3, .int n, x5, x6, x7, x8] (.int n :: st) hi g Φ) : AP M_L_law b 2237 [x0, x1, x2, x3, .int n, x5, x6, x7, x8] (st) hi g Φ := AP.iload (x := n) (i := 4) d_L_law_2237 rfl h
theorem d_L_law_2239 : decode code 2239 = .ok (.iconst 1, 1) := by decide +kernel
theorem s_L_law_2239 (h : AP M_L_law b 2240 [x0, x1, x2, x3, x4, x5, x6, x7, x8] (.int 1 :: st) hi g Φ) : AP M_L_law b 2239 [x0, x1, x2, x3, x4, x5, x6, x7, x8] (st) hi g Φ := AP.iconst (x := 1) d_L_law_2239 (by decide) h
theorem d_L_law_2240 : decode code 2240 = .ok (.iadd, 1) := by decide +kernel
theorem s_L_law_2240 {x y : Int32} (h : AP M_L_law b 2241 [x0, x1, x2, x3, x4, x5, x6, x7, x8] (.int (x + y) :: st) hi g Φ) : AP M_L_law b 2240 [x0, x1, x2, x3, x4, x5, x6, x7, x8] (.int y :: .int x :: st) hi g Φ := AP.iadd d_L_law_2240 h
theorem d_L_law_2241 : decode code 2241 = .ok (.iaload, 1) := by decide +kernel
theorem s_L_law_2241 {k n j : Nat} {i : Int32} (hI : am_Inv g) (hs : am_SH k = (1, n)) (hk : k < 134) (hn : n < 2 ^ 31) (hx : i = nI j) (hj : j < n) (h : AP M_L_law b 2242 [x0, x1, x2, x3, x4, x5, x6, x7, x8] (.int (hi k j) :: st) hi g Φ) : AP M_L_law b 2241 [x0, x1, x2, x3, x4, x5, x6, x7, x8] (.int i :: .ref k :: st) hi g Φ := AP.iald d_L_law_2241 hs (hI.lt hk) hn hx hj h
theorem d_L_law_2242 : decode code 2242 = .ok (.aload_n 3, 1) := by decide +kernel
theorem s_L_law_2242 {n : Nat} (h : AP M_L_law b 2243 [x0, x1, x2, .ref n, x4, x5, x6, x7, x8] (.ref n :: st) hi g Φ) : AP M_L_law b 2242 [x0, x1, x2, .ref n, x4, x5, x6, x7, x8] (st) hi g Φ := AP.aload_n (x := n) (i := 3) d_L_law_2242 rfl rfl h
theorem d_L_law_2243 : decode code 2243 = .ok (.invokestatic 284, 3) := by decide +kernel
-- s_L_law_2243: a call apart
theorem d_L_law_2246 : decode code 2246 = .ok (.istore 5, 2) := by decide +kernel
theorem s_L_law_2246 {n : Int32} (hc : x4.category = 1) (h : AP M_L_law b 2248 [x0, x1, x2, x3, x4, .int n, x6, x7, x8] (st) hi g Φ) : AP M_L_law b 2246 [x0, x1, x2, x3, x4, x5, x6, x7, x8] (.int n :: st) hi g Φ := AP.istore (x := n) (i := 5) d_L_law_2246 (by decide) (by simp [am_st, am_ci, am_cr, am_cl, am_cd, hc]) h
theorem d_L_law_2248 : decode code 2248 = .ok (.aload_n 2, 1) := by decide +kernel
theorem s_L_law_2248 {n : Nat} (h : AP M_L_law b 2249 [x0, x1, .ref n, x3, x4, x5, x6, x7, x8] (.ref n :: st) hi g Φ) : AP M_L_law b 2248 [x0, x1, .ref n, x3, x4, x5, x6, x7, x8] (st) hi g Φ := AP.aload_n (x := n) (i := 2) d_L_law_2248 rfl rfl h
theorem d_L_law_2249 : decode code 2249 = .ok (.aload_n 0, 1) := by decide +kernel
theorem s_L_law_2249 {n : Nat} (h : AP M_L_law b 2250 [.ref n, x1, x2, x3, x4, x5, x6, x7, x8] (.ref n :: st) hi g Φ) : AP M_L_law b 2249 [.ref n, x1, x2, x3, x4, x5, x6, x7, x8] (st) hi g Φ := AP.aload_n (x := n) (i := 0) d_L_law_2249 rfl rfl h
theorem d_L_law_2250 : decode code 2250 = .ok (.iload 4, 2) := by decide +kernel
theorem s_L_law_2250 {n : Int32} (h : AP M_L_law b 2252 [x0, x1, x2, x3, .int n, x5, x6, x7, x8] (.int n :: st) hi g Φ) : AP M_L_law b 2250 [x0, x1, x2, x3, .int n, x5, x6, x7, x8] (st) hi g Φ := AP.iload (x := n) (i := 4) d_L_law_2250 rfl h
theorem d_L_law_2252 : decode code 2252 = .ok (.iconst 1, 1) := by decide +kernel
theorem s_L_law_2252 (h : AP M_L_law b 2253 [x0, x1, x2, x3, x4, x5, x6, x7, x8] (.int 1 :: st) hi g Φ) : AP M_L_law b 2252 [x0, x1, x2, x3, x4, x5, x6, x7, x8] (st) hi g Φ := AP.iconst (x := 1) d_L_law_2252 (by decide) h
theorem d_L_law_2253 : decode code 2253 = .ok (.iadd, 1) := by decide +kernel
theorem s_L_law_2253 {x y : Int32} (h : AP M_L_law b 2254 [x0, x1, x2, x3, x4, x5, x6, x7, x8] (.int (x + y) :: st) hi g Φ) : AP M_L_law b 2253 [x0, x1, x2, x3, x4, x5, x6, x7, x8] (.int y :: .int x :: st) hi g Φ := AP.iadd d_L_law_2253 h
theorem d_L_law_2254 : decode code 2254 = .ok (.iaload, 1) := by decide +kernel
theorem s_L_law_2254 {k n j : Nat} {i : Int32} (hI : am_Inv g) (hs : am_SH k = (1, n)) (hk : k < 134) (hn : n < 2 ^ 31) (hx : i = nI j) (hj : j < n) (h : AP M_L_law b 2255 [x0, x1, x2, x3, x4, x5, x6, x7, x8] (.int (hi k j) :: st) hi g Φ) : AP M_L_law b 2254 [x0, x1, x2, x3, x4, x5, x6, x7, x8] (.int i :: .ref k :: st) hi g Φ := AP.iald d_L_law_2254 hs (hI.lt hk) hn hx hj h
theorem d_L_law_2255 : decode code 2255 = .ok (.invokevirtual 286, 3) := by decide +kernel
theorem s_L_law_2255 {a0 : Int32} {k : Nat} {r0 : Int32} {P : am_HI → Prop} (hI : am_Inv g) (hs : am_SH k = (0, 10)) (hk : k < 134) (hst : (st.map Value.category).sum ≤ 8) (hc : am_Cr M_X10_heard [.ref k, .int a0] hi g (some (.int r0)) P) (h : ∀ hi' : am_HI, P hi' → AP M_L_law b 2258 [x0, x1, x2, x3, x4, x5, x6, x7, x8] (.int r0 :: st) hi' g Φ) : AP M_L_law b 2255 [x0, x1, x2, x3, x4, x5, x6, x7, x8] (.int a0 :: .ref k :: st) hi g Φ := AP.callVr (As := [.int a0]) (q := (RX10, TX10, 15)) hI hc k_L_law_286 d_L_law_2255 rfl hs hk rfl rfl hst h
theorem d_L_law_2258 : decode code 2258 = .ok (.istore 6, 2) := by decide +kernel
theorem s_L_law_2258 {n : Int32} (hc : x5.category = 1) (h : AP M_L_law b 2260 [x0, x1, x2, x3, x4, x5, .int n, x7, x8] (st) hi g Φ) : AP M_L_law b 2258 [x0, x1, x2, x3, x4, x5, x6, x7, x8] (.int n :: st) hi g Φ := AP.istore (x := n) (i := 6) d_L_law_2258 (by decide) (by simp [am_st, am_ci, am_cr, am_cl, am_cd, hc]) h
theorem d_L_law_2260 : decode code 2260 = .ok (.aload_n 2, 1) := by decide +kernel
theorem s_L_law_2260 {n : Nat} (h : AP M_L_law b 2261 [x0, x1, .ref n, x3, x4, x5, x6, x7, x8] (.ref n :: st) hi g Φ) : AP M_L_law b 2260 [x0, x1, .ref n, x3, x4, x5, x6, x7, x8] (st) hi g Φ := AP.aload_n (x := n) (i := 2) d_L_law_2260 rfl rfl h
theorem d_L_law_2261 : decode code 2261 = .ok (.invokevirtual 141, 3) := by decide +kernel
theorem s_L_law_2261  {k : Nat} {r0 : Int32} {P : am_HI → Prop} (hI : am_Inv g) (hs : am_SH k = (0, 10)) (hk : k < 134) (hst : (st.map Value.category).sum ≤ 8) (hc : am_Cr M_X10_thrown [.ref k] hi g (some (.int r0)) P) (h : ∀ hi' : am_HI, P hi' → AP M_L_law b 2264 [x0, x1, x2, x3, x4, x5, x6, x7, x8] (.int r0 :: st) hi' g Φ) : AP M_L_law b 2261 [x0, x1, x2, x3, x4, x5, x6, x7, x8] (.ref k :: st) hi g Φ := AP.callVr (As := []) (q := (RX10, TX10, 15)) hI hc k_L_law_141 d_L_law_2261 rfl hs hk rfl rfl hst h
theorem d_L_law_2264 : decode code 2264 = .ok (.iload 5, 2) := by decide +kernel
theorem s_L_law_2264 {n : Int32} (h : AP M_L_law b 2266 [x0, x1, x2, x3, x4, .int n, x6, x7, x8] (.int n :: st) hi g Φ) : AP M_L_law b 2264 [x0, x1, x2, x3, x4, .int n, x6, x7, x8] (st) hi g Φ := AP.iload (x := n) (i := 5) d_L_law_2264 rfl h
theorem d_L_law_2266 : decode code 2266 = .ok (.if_icmp .eq 5, 3) := by decide +kernel
theorem s_L_law_2266 {x y : Int32} (h1 : x = y → AP M_L_law b 2271 [x0, x1, x2, x3, x4, x5, x6, x7, x8] st hi g Φ) (h2 : ¬ x = y → AP M_L_law b 2269 [x0, x1, x2, x3, x4, x5, x6, x7, x8] st hi g Φ) : AP M_L_law b 2266 [x0, x1, x2, x3, x4, x5, x6, x7, x8] (.int y :: .int x :: st) hi g Φ := AP.icmp_eq d_L_law_2266 (by decide) h1 h2
theorem d_L_law_2269 : decode code 2269 = .ok (.iconst 0, 1) := by decide +kernel
theorem s_L_law_2269 (h : AP M_L_law b 2270 [x0, x1, x2, x3, x4, x5, x6, x7, x8] (.int 0 :: st) hi g Φ) : AP M_L_law b 2269 [x0, x1, x2, x3, x4, x5, x6, x7, x8] (st) hi g Φ := AP.iconst (x := 0) d_L_law_2269 (by decide) h
theorem d_L_law_2270 : decode code 2270 = .ok (.ireturn, 1) := by decide +kernel
theorem s_L_law_2270 {x : Int32} (hx : x = 0 ∨ x = 1) (h : Φ (.ok (some (.int x))) hi g) : AP M_L_law b 2270 [x0, x1, x2, x3, x4, x5, x6, x7, x8] [.int x] hi g Φ := AP.zret d_L_law_2270 rfl hx h
theorem d_L_law_2271 : decode code 2271 = .ok (.iload 5, 2) := by decide +kernel
theorem s_L_law_2271 {n : Int32} (h : AP M_L_law b 2273 [x0, x1, x2, x3, x4, .int n, x6, x7, x8] (.int n :: st) hi g Φ) : AP M_L_law b 2271 [x0, x1, x2, x3, x4, .int n, x6, x7, x8] (st) hi g Φ := AP.iload (x := n) (i := 5) d_L_law_2271 rfl h
theorem d_L_law_2273 : decode code 2273 = .ok (.ifCond .ne 15, 3) := by decide +kernel
theorem s_L_law_2273 {x : Int32} (h1 : ¬ x = 0 → AP M_L_law b 2288 [x0, x1, x2, x3, x4, x5, x6, x7, x8] st hi g Φ) (h2 : x = 0 → AP M_L_law b 2276 [x0, x1, x2, x3, x4, x5, x6, x7, x8] st hi g Φ) : AP M_L_law b 2273 [x0, x1, x2, x3, x4, x5, x6, x7, x8] (.int x :: st) hi g Φ := AP.if_ne d_L_law_2273 (by decide) h1 h2
theorem d_L_law_2276 : decode code 2276 = .ok (.aload_n 3, 1) := by decide +kernel
theorem s_L_law_2276 {n : Nat} (h : AP M_L_law b 2277 [x0, x1, x2, .ref n, x4, x5, x6, x7, x8] (.ref n :: st) hi g Φ) : AP M_L_law b 2276 [x0, x1, x2, .ref n, x4, x5, x6, x7, x8] (st) hi g Φ := AP.aload_n (x := n) (i := 3) d_L_law_2276 rfl rfl h
theorem d_L_law_2277 : decode code 2277 = .ok (.iconst 0, 1) := by decide +kernel
theorem s_L_law_2277 (h : AP M_L_law b 2278 [x0, x1, x2, x3, x4, x5, x6, x7, x8] (.int 0 :: st) hi g Φ) : AP M_L_law b 2277 [x0, x1, x2, x3, x4, x5, x6, x7, x8] (st) hi g Φ := AP.iconst (x := 0) d_L_law_2277 (by decide) h
theorem d_L_law_2278 : decode code 2278 = .ok (.laload, 1) := by decide +kernel
theorem s_L_law_2278 {k n j : Nat} {i : Int32} (hI : am_Inv g) (hs : am_SH k = (4, n)) (hk : k < 134) (hn : n < 2 ^ 31) (hx : i = nI j) (hj : j < n) (h : AP M_L_law b 2279 [x0, x1, x2, x3, x4, x5, x6, x7, x8] (.long (g.2.2 k j) :: st) hi g Φ) : AP M_L_law b 2278 [x0, x1, x2, x3, x4, x5, x6, x7, x8] (.int i :: .ref k :: st) hi g Φ := AP.lald d_L_law_2278 hs (hI.lt hk) hn hx hj h
theorem d_L_law_2279 : decode code 2279 = .ok (.iload 6, 2) := by decide +kernel
theorem s_L_law_2279 {n : Int32} (h : AP M_L_law b 2281 [x0, x1, x2, x3, x4, x5, .int n, x7, x8] (.int n :: st) hi g Φ) : AP M_L_law b 2279 [x0, x1, x2, x3, x4, x5, .int n, x7, x8] (st) hi g Φ := AP.iload (x := n) (i := 6) d_L_law_2279 rfl h
theorem d_L_law_2281 : decode code 2281 = .ok (.i2l, 1) := by decide +kernel
theorem s_L_law_2281 {x : Int32} (h : AP M_L_law b 2282 [x0, x1, x2, x3, x4, x5, x6, x7, x8] (.long x.toInt64 :: st) hi g Φ) : AP M_L_law b 2281 [x0, x1, x2, x3, x4, x5, x6, x7, x8] (.int x :: st) hi g Φ := AP.i2l d_L_law_2281 h
theorem d_L_law_2282 : decode code 2282 = .ok (.lcmp, 1) := by decide +kernel
theorem s_L_law_2282 {x y : Int64} (h : AP M_L_law b 2283 [x0, x1, x2, x3, x4, x5, x6, x7, x8] (.int (lg_cmp x y) :: st) hi g Φ) : AP M_L_law b 2282 [x0, x1, x2, x3, x4, x5, x6, x7, x8] (.long y :: .long x :: st) hi g Φ := AP.lcmp d_L_law_2282 h
theorem d_L_law_2283 : decode code 2283 = .ok (.ifCond .eq 5, 3) := by decide +kernel
theorem s_L_law_2283 {x : Int32} (h1 : x = 0 → AP M_L_law b 2288 [x0, x1, x2, x3, x4, x5, x6, x7, x8] st hi g Φ) (h2 : ¬ x = 0 → AP M_L_law b 2286 [x0, x1, x2, x3, x4, x5, x6, x7, x8] st hi g Φ) : AP M_L_law b 2283 [x0, x1, x2, x3, x4, x5, x6, x7, x8] (.int x :: st) hi g Φ := AP.if_eq d_L_law_2283 (by decide) h1 h2
theorem d_L_law_2286 : decode code 2286 = .ok (.iconst 0, 1) := by decide +kernel
theorem s_L_law_2286 (h : AP M_L_law b 2287 [x0, x1, x2, x3, x4, x5, x6, x7, x8] (.int 0 :: st) hi g Φ) : AP M_L_law b 2286 [x0, x1, x2, x3, x4, x5, x6, x7, x8] (st) hi g Φ := AP.iconst (x := 0) d_L_law_2286 (by decide) h
theorem d_L_law_2287 : decode code 2287 = .ok (.ireturn, 1) := by decide +kernel
theorem s_L_law_2287 {x : Int32} (hx : x = 0 ∨ x = 1) (h : Φ (.ok (some (.int x))) hi g) : AP M_L_law b 2287 [x0, x1, x2, x3, x4, x5, x6, x7, x8] [.int x] hi g Φ := AP.zret d_L_law_2287 rfl hx h
theorem d_L_law_2288 : decode code 2288 = .ok (.goto 463, 3) := by decide +kernel
theorem s_L_law_2288 (h : AP M_L_law b 2751 [x0, x1, x2, x3, x4, x5, x6, x7, x8] st hi g Φ) : AP M_L_law b 2288 [x0, x1, x2, x3, x4, x5, x6, x7, x8] st hi g Φ := AP.goto d_L_law_2288 (by decide) h
theorem d_L_law_2291 : decode code 2291 = .ok (.aload_n 1, 1) := by decide +kernel
theorem s_L_law_2291 {n : Nat} (h : AP M_L_law b 2292 [x0, .ref n, x2, x3, x4, x5, x6, x7, x8] (.ref n :: st) hi g Φ) : AP M_L_law b 2291 [x0, .ref n, x2, x3, x4, x5, x6, x7, x8] (st) hi g Φ := AP.aload_n (x := n) (i := 1) d_L_law_2291 rfl rfl h
theorem d_L_law_2292 : decode code 2292 = .ok (.aload_n 0, 1) := by decide +kernel
theorem s_L_law_2292 {n : Nat} (h : AP M_L_law b 2293 [.ref n, x1, x2, x3, x4, x5, x6, x7, x8] (.ref n :: st) hi g Φ) : AP M_L_law b 2292 [.ref n, x1, x2, x3, x4, x5, x6, x7, x8] (st) hi g Φ := AP.aload_n (x := n) (i := 0) d_L_law_2292 rfl rfl h
theorem d_L_law_2293 : decode code 2293 = .ok (.iload 4, 2) := by decide +kernel
theorem s_L_law_2293 {n : Int32} (h : AP M_L_law b 2295 [x0, x1, x2, x3, .int n, x5, x6, x7, x8] (.int n :: st) hi g Φ) : AP M_L_law b 2293 [x0, x1, x2, x3, .int n, x5, x6, x7, x8] (st) hi g Φ := AP.iload (x := n) (i := 4) d_L_law_2293 rfl h
theorem d_L_law_2295 : decode code 2295 = .ok (.iconst 1, 1) := by decide +kernel
theorem s_L_law_2295 (h : AP M_L_law b 2296 [x0, x1, x2, x3, x4, x5, x6, x7, x8] (.int 1 :: st) hi g Φ) : AP M_L_law b 2295 [x0, x1, x2, x3, x4, x5, x6, x7, x8] (st) hi g Φ := AP.iconst (x := 1) d_L_law_2295 (by decide) h
theorem d_L_law_2296 : decode code 2296 = .ok (.iadd, 1) := by decide +kernel
theorem s_L_law_2296 {x y : Int32} (h : AP M_L_law b 2297 [x0, x1, x2, x3, x4, x5, x6, x7, x8] (.int (x + y) :: st) hi g Φ) : AP M_L_law b 2296 [x0, x1, x2, x3, x4, x5, x6, x7, x8] (.int y :: .int x :: st) hi g Φ := AP.iadd d_L_law_2296 h
theorem d_L_law_2297 : decode code 2297 = .ok (.iaload, 1) := by decide +kernel
theorem s_L_law_2297 {k n j : Nat} {i : Int32} (hI : am_Inv g) (hs : am_SH k = (1, n)) (hk : k < 134) (hn : n < 2 ^ 31) (hx : i = nI j) (hj : j < n) (h : AP M_L_law b 2298 [x0, x1, x2, x3, x4, x5, x6, x7, x8] (.int (hi k j) :: st) hi g Φ) : AP M_L_law b 2297 [x0, x1, x2, x3, x4, x5, x6, x7, x8] (.int i :: .ref k :: st) hi g Φ := AP.iald d_L_law_2297 hs (hI.lt hk) hn hx hj h
theorem d_L_law_2298 : decode code 2298 = .ok (.aload_n 3, 1) := by decide +kernel
theorem s_L_law_2298 {n : Nat} (h : AP M_L_law b 2299 [x0, x1, x2, .ref n, x4, x5, x6, x7, x8] (.ref n :: st) hi g Φ) : AP M_L_law b 2298 [x0, x1, x2, .ref n, x4, x5, x6, x7, x8] (st) hi g Φ := AP.aload_n (x := n) (i := 3) d_L_law_2298 rfl rfl h
theorem d_L_law_2299 : decode code 2299 = .ok (.invokestatic 287, 3) := by decide +kernel
-- s_L_law_2299: a call apart
theorem d_L_law_2302 : decode code 2302 = .ok (.istore 5, 2) := by decide +kernel
theorem s_L_law_2302 {n : Int32} (hc : x4.category = 1) (h : AP M_L_law b 2304 [x0, x1, x2, x3, x4, .int n, x6, x7, x8] (st) hi g Φ) : AP M_L_law b 2302 [x0, x1, x2, x3, x4, x5, x6, x7, x8] (.int n :: st) hi g Φ := AP.istore (x := n) (i := 5) d_L_law_2302 (by decide) (by simp [am_st, am_ci, am_cr, am_cl, am_cd, hc]) h
theorem d_L_law_2304 : decode code 2304 = .ok (.aload_n 2, 1) := by decide +kernel
theorem s_L_law_2304 {n : Nat} (h : AP M_L_law b 2305 [x0, x1, .ref n, x3, x4, x5, x6, x7, x8] (.ref n :: st) hi g Φ) : AP M_L_law b 2304 [x0, x1, .ref n, x3, x4, x5, x6, x7, x8] (st) hi g Φ := AP.aload_n (x := n) (i := 2) d_L_law_2304 rfl rfl h
theorem d_L_law_2305 : decode code 2305 = .ok (.aload_n 0, 1) := by decide +kernel
theorem s_L_law_2305 {n : Nat} (h : AP M_L_law b 2306 [.ref n, x1, x2, x3, x4, x5, x6, x7, x8] (.ref n :: st) hi g Φ) : AP M_L_law b 2305 [.ref n, x1, x2, x3, x4, x5, x6, x7, x8] (st) hi g Φ := AP.aload_n (x := n) (i := 0) d_L_law_2305 rfl rfl h
theorem d_L_law_2306 : decode code 2306 = .ok (.iload 4, 2) := by decide +kernel
theorem s_L_law_2306 {n : Int32} (h : AP M_L_law b 2308 [x0, x1, x2, x3, .int n, x5, x6, x7, x8] (.int n :: st) hi g Φ) : AP M_L_law b 2306 [x0, x1, x2, x3, .int n, x5, x6, x7, x8] (st) hi g Φ := AP.iload (x := n) (i := 4) d_L_law_2306 rfl h
theorem d_L_law_2308 : decode code 2308 = .ok (.iconst 1, 1) := by decide +kernel
theorem s_L_law_2308 (h : AP M_L_law b 2309 [x0, x1, x2, x3, x4, x5, x6, x7, x8] (.int 1 :: st) hi g Φ) : AP M_L_law b 2308 [x0, x1, x2, x3, x4, x5, x6, x7, x8] (st) hi g Φ := AP.iconst (x := 1) d_L_law_2308 (by decide) h
theorem d_L_law_2309 : decode code 2309 = .ok (.iadd, 1) := by decide +kernel
theorem s_L_law_2309 {x y : Int32} (h : AP M_L_law b 2310 [x0, x1, x2, x3, x4, x5, x6, x7, x8] (.int (x + y) :: st) hi g Φ) : AP M_L_law b 2309 [x0, x1, x2, x3, x4, x5, x6, x7, x8] (.int y :: .int x :: st) hi g Φ := AP.iadd d_L_law_2309 h
theorem d_L_law_2310 : decode code 2310 = .ok (.iaload, 1) := by decide +kernel
theorem s_L_law_2310 {k n j : Nat} {i : Int32} (hI : am_Inv g) (hs : am_SH k = (1, n)) (hk : k < 134) (hn : n < 2 ^ 31) (hx : i = nI j) (hj : j < n) (h : AP M_L_law b 2311 [x0, x1, x2, x3, x4, x5, x6, x7, x8] (.int (hi k j) :: st) hi g Φ) : AP M_L_law b 2310 [x0, x1, x2, x3, x4, x5, x6, x7, x8] (.int i :: .ref k :: st) hi g Φ := AP.iald d_L_law_2310 hs (hI.lt hk) hn hx hj h
theorem d_L_law_2311 : decode code 2311 = .ok (.invokevirtual 289, 3) := by decide +kernel
theorem s_L_law_2311 {a0 : Int32} {k : Nat} {r0 : Int32} {P : am_HI → Prop} (hI : am_Inv g) (hs : am_SH k = (0, 10)) (hk : k < 134) (hst : (st.map Value.category).sum ≤ 8) (hc : am_Cr M_X10_heardByBits [.ref k, .int a0] hi g (some (.int r0)) P) (h : ∀ hi' : am_HI, P hi' → AP M_L_law b 2314 [x0, x1, x2, x3, x4, x5, x6, x7, x8] (.int r0 :: st) hi' g Φ) : AP M_L_law b 2311 [x0, x1, x2, x3, x4, x5, x6, x7, x8] (.int a0 :: .ref k :: st) hi g Φ := AP.callVr (As := [.int a0]) (q := (RX10, TX10, 15)) hI hc k_L_law_289 d_L_law_2311 rfl hs hk rfl rfl hst h
theorem d_L_law_2314 : decode code 2314 = .ok (.istore 6, 2) := by decide +kernel
theorem s_L_law_2314 {n : Int32} (hc : x5.category = 1) (h : AP M_L_law b 2316 [x0, x1, x2, x3, x4, x5, .int n, x7, x8] (st) hi g Φ) : AP M_L_law b 2314 [x0, x1, x2, x3, x4, x5, x6, x7, x8] (.int n :: st) hi g Φ := AP.istore (x := n) (i := 6) d_L_law_2314 (by decide) (by simp [am_st, am_ci, am_cr, am_cl, am_cd, hc]) h
theorem d_L_law_2316 : decode code 2316 = .ok (.aload_n 2, 1) := by decide +kernel
theorem s_L_law_2316 {n : Nat} (h : AP M_L_law b 2317 [x0, x1, .ref n, x3, x4, x5, x6, x7, x8] (.ref n :: st) hi g Φ) : AP M_L_law b 2316 [x0, x1, .ref n, x3, x4, x5, x6, x7, x8] (st) hi g Φ := AP.aload_n (x := n) (i := 2) d_L_law_2316 rfl rfl h
theorem d_L_law_2317 : decode code 2317 = .ok (.invokevirtual 141, 3) := by decide +kernel
theorem s_L_law_2317  {k : Nat} {r0 : Int32} {P : am_HI → Prop} (hI : am_Inv g) (hs : am_SH k = (0, 10)) (hk : k < 134) (hst : (st.map Value.category).sum ≤ 8) (hc : am_Cr M_X10_thrown [.ref k] hi g (some (.int r0)) P) (h : ∀ hi' : am_HI, P hi' → AP M_L_law b 2320 [x0, x1, x2, x3, x4, x5, x6, x7, x8] (.int r0 :: st) hi' g Φ) : AP M_L_law b 2317 [x0, x1, x2, x3, x4, x5, x6, x7, x8] (.ref k :: st) hi g Φ := AP.callVr (As := []) (q := (RX10, TX10, 15)) hI hc k_L_law_141 d_L_law_2317 rfl hs hk rfl rfl hst h
theorem d_L_law_2320 : decode code 2320 = .ok (.iload 5, 2) := by decide +kernel
theorem s_L_law_2320 {n : Int32} (h : AP M_L_law b 2322 [x0, x1, x2, x3, x4, .int n, x6, x7, x8] (.int n :: st) hi g Φ) : AP M_L_law b 2320 [x0, x1, x2, x3, x4, .int n, x6, x7, x8] (st) hi g Φ := AP.iload (x := n) (i := 5) d_L_law_2320 rfl h
theorem d_L_law_2322 : decode code 2322 = .ok (.if_icmp .eq 5, 3) := by decide +kernel
theorem s_L_law_2322 {x y : Int32} (h1 : x = y → AP M_L_law b 2327 [x0, x1, x2, x3, x4, x5, x6, x7, x8] st hi g Φ) (h2 : ¬ x = y → AP M_L_law b 2325 [x0, x1, x2, x3, x4, x5, x6, x7, x8] st hi g Φ) : AP M_L_law b 2322 [x0, x1, x2, x3, x4, x5, x6, x7, x8] (.int y :: .int x :: st) hi g Φ := AP.icmp_eq d_L_law_2322 (by decide) h1 h2
theorem d_L_law_2325 : decode code 2325 = .ok (.iconst 0, 1) := by decide +kernel
theorem s_L_law_2325 (h : AP M_L_law b 2326 [x0, x1, x2, x3, x4, x5, x6, x7, x8] (.int 0 :: st) hi g Φ) : AP M_L_law b 2325 [x0, x1, x2, x3, x4, x5, x6, x7, x8] (st) hi g Φ := AP.iconst (x := 0) d_L_law_2325 (by decide) h
theorem d_L_law_2326 : decode code 2326 = .ok (.ireturn, 1) := by decide +kernel
theorem s_L_law_2326 {x : Int32} (hx : x = 0 ∨ x = 1) (h : Φ (.ok (some (.int x))) hi g) : AP M_L_law b 2326 [x0, x1, x2, x3, x4, x5, x6, x7, x8] [.int x] hi g Φ := AP.zret d_L_law_2326 rfl hx h
theorem d_L_law_2327 : decode code 2327 = .ok (.iload 5, 2) := by decide +kernel
theorem s_L_law_2327 {n : Int32} (h : AP M_L_law b 2329 [x0, x1, x2, x3, x4, .int n, x6, x7, x8] (.int n :: st) hi g Φ) : AP M_L_law b 2327 [x0, x1, x2, x3, x4, .int n, x6, x7, x8] (st) hi g Φ := AP.iload (x := n) (i := 5) d_L_law_2327 rfl h
theorem d_L_law_2329 : decode code 2329 = .ok (.ifCond .ne 15, 3) := by decide +kernel
theorem s_L_law_2329 {x : Int32} (h1 : ¬ x = 0 → AP M_L_law b 2344 [x0, x1, x2, x3, x4, x5, x6, x7, x8] st hi g Φ) (h2 : x = 0 → AP M_L_law b 2332 [x0, x1, x2, x3, x4, x5, x6, x7, x8] st hi g Φ) : AP M_L_law b 2329 [x0, x1, x2, x3, x4, x5, x6, x7, x8] (.int x :: st) hi g Φ := AP.if_ne d_L_law_2329 (by decide) h1 h2
theorem d_L_law_2332 : decode code 2332 = .ok (.aload_n 3, 1) := by decide +kernel
theorem s_L_law_2332 {n : Nat} (h : AP M_L_law b 2333 [x0, x1, x2, .ref n, x4, x5, x6, x7, x8] (.ref n :: st) hi g Φ) : AP M_L_law b 2332 [x0, x1, x2, .ref n, x4, x5, x6, x7, x8] (st) hi g Φ := AP.aload_n (x := n) (i := 3) d_L_law_2332 rfl rfl h
theorem d_L_law_2333 : decode code 2333 = .ok (.iconst 0, 1) := by decide +kernel
theorem s_L_law_2333 (h : AP M_L_law b 2334 [x0, x1, x2, x3, x4, x5, x6, x7, x8] (.int 0 :: st) hi g Φ) : AP M_L_law b 2333 [x0, x1, x2, x3, x4, x5, x6, x7, x8] (st) hi g Φ := AP.iconst (x := 0) d_L_law_2333 (by decide) h
theorem d_L_law_2334 : decode code 2334 = .ok (.laload, 1) := by decide +kernel
theorem s_L_law_2334 {k n j : Nat} {i : Int32} (hI : am_Inv g) (hs : am_SH k = (4, n)) (hk : k < 134) (hn : n < 2 ^ 31) (hx : i = nI j) (hj : j < n) (h : AP M_L_law b 2335 [x0, x1, x2, x3, x4, x5, x6, x7, x8] (.long (g.2.2 k j) :: st) hi g Φ) : AP M_L_law b 2334 [x0, x1, x2, x3, x4, x5, x6, x7, x8] (.int i :: .ref k :: st) hi g Φ := AP.lald d_L_law_2334 hs (hI.lt hk) hn hx hj h
theorem d_L_law_2335 : decode code 2335 = .ok (.iload 6, 2) := by decide +kernel
theorem s_L_law_2335 {n : Int32} (h : AP M_L_law b 2337 [x0, x1, x2, x3, x4, x5, .int n, x7, x8] (.int n :: st) hi g Φ) : AP M_L_law b 2335 [x0, x1, x2, x3, x4, x5, .int n, x7, x8] (st) hi g Φ := AP.iload (x := n) (i := 6) d_L_law_2335 rfl h
theorem d_L_law_2337 : decode code 2337 = .ok (.i2l, 1) := by decide +kernel
theorem s_L_law_2337 {x : Int32} (h : AP M_L_law b 2338 [x0, x1, x2, x3, x4, x5, x6, x7, x8] (.long x.toInt64 :: st) hi g Φ) : AP M_L_law b 2337 [x0, x1, x2, x3, x4, x5, x6, x7, x8] (.int x :: st) hi g Φ := AP.i2l d_L_law_2337 h
theorem d_L_law_2338 : decode code 2338 = .ok (.lcmp, 1) := by decide +kernel
theorem s_L_law_2338 {x y : Int64} (h : AP M_L_law b 2339 [x0, x1, x2, x3, x4, x5, x6, x7, x8] (.int (lg_cmp x y) :: st) hi g Φ) : AP M_L_law b 2338 [x0, x1, x2, x3, x4, x5, x6, x7, x8] (.long y :: .long x :: st) hi g Φ := AP.lcmp d_L_law_2338 h
theorem d_L_law_2339 : decode code 2339 = .ok (.ifCond .eq 5, 3) := by decide +kernel
theorem s_L_law_2339 {x : Int32} (h1 : x = 0 → AP M_L_law b 2344 [x0, x1, x2, x3, x4, x5, x6, x7, x8] st hi g Φ) (h2 : ¬ x = 0 → AP M_L_law b 2342 [x0, x1, x2, x3, x4, x5, x6, x7, x8] st hi g Φ) : AP M_L_law b 2339 [x0, x1, x2, x3, x4, x5, x6, x7, x8] (.int x :: st) hi g Φ := AP.if_eq d_L_law_2339 (by decide) h1 h2
theorem d_L_law_2342 : decode code 2342 = .ok (.iconst 0, 1) := by decide +kernel
theorem s_L_law_2342 (h : AP M_L_law b 2343 [x0, x1, x2, x3, x4, x5, x6, x7, x8] (.int 0 :: st) hi g Φ) : AP M_L_law b 2342 [x0, x1, x2, x3, x4, x5, x6, x7, x8] (st) hi g Φ := AP.iconst (x := 0) d_L_law_2342 (by decide) h
theorem d_L_law_2343 : decode code 2343 = .ok (.ireturn, 1) := by decide +kernel
theorem s_L_law_2343 {x : Int32} (hx : x = 0 ∨ x = 1) (h : Φ (.ok (some (.int x))) hi g) : AP M_L_law b 2343 [x0, x1, x2, x3, x4, x5, x6, x7, x8] [.int x] hi g Φ := AP.zret d_L_law_2343 rfl hx h
theorem d_L_law_2344 : decode code 2344 = .ok (.goto 407, 3) := by decide +kernel
theorem s_L_law_2344 (h : AP M_L_law b 2751 [x0, x1, x2, x3, x4, x5, x6, x7, x8] st hi g Φ) : AP M_L_law b 2344 [x0, x1, x2, x3, x4, x5, x6, x7, x8] st hi g Φ := AP.goto d_L_law_2344 (by decide) h
theorem d_L_law_2347 : decode code 2347 = .ok (.aload_n 1, 1) := by decide +kernel
theorem s_L_law_2347 {n : Nat} (h : AP M_L_law b 2348 [x0, .ref n, x2, x3, x4, x5, x6, x7, x8] (.ref n :: st) hi g Φ) : AP M_L_law b 2347 [x0, .ref n, x2, x3, x4, x5, x6, x7, x8] (st) hi g Φ := AP.aload_n (x := n) (i := 1) d_L_law_2347 rfl rfl h
theorem d_L_law_2348 : decode code 2348 = .ok (.invokevirtual 290, 3) := by decide +kernel
theorem s_L_law_2348  {k : Nat} {r0 : Int32} {P : am_HI → Prop} (hI : am_Inv g) (hs : am_SH k = (0, 9)) (hk : k < 134) (hst : (st.map Value.category).sum ≤ 8) (hc : am_Cr M_X9_unlike [.ref k] hi g (some (.int r0)) P) (h : ∀ hi' : am_HI, P hi' → AP M_L_law b 2351 [x0, x1, x2, x3, x4, x5, x6, x7, x8] (.int r0 :: st) hi' g Φ) : AP M_L_law b 2348 [x0, x1, x2, x3, x4, x5, x6, x7, x8] (.ref k :: st) hi g Φ := AP.callVr (As := []) (q := (RX9, TX9, 7)) hI hc k_L_law_290 d_L_law_2348 rfl hs hk rfl rfl hst h
theorem d_L_law_2351 : decode code 2351 = .ok (.aload_n 2, 1) := by decide +kernel
theorem s_L_law_2351 {n : Nat} (h : AP M_L_law b 2352 [x0, x1, .ref n, x3, x4, x5, x6, x7, x8] (.ref n :: st) hi g Φ) : AP M_L_law b 2351 [x0, x1, .ref n, x3, x4, x5, x6, x7, x8] (st) hi g Φ := AP.aload_n (x := n) (i := 2) d_L_law_2351 rfl rfl h
theorem d_L_law_2352 : decode code 2352 = .ok (.invokevirtual 293, 3) := by decide +kernel
theorem s_L_law_2352  {k : Nat} {r0 : Int32} {P : am_HI → Prop} (hI : am_Inv g) (hs : am_SH k = (0, 10)) (hk : k < 134) (hst : (st.map Value.category).sum ≤ 8) (hc : am_Cr M_X10_unlike [.ref k] hi g (some (.int r0)) P) (h : ∀ hi' : am_HI, P hi' → AP M_L_law b 2355 [x0, x1, x2, x3, x4, x5, x6, x7, x8] (.int r0 :: st) hi' g Φ) : AP M_L_law b 2352 [x0, x1, x2, x3, x4, x5, x6, x7, x8] (.ref k :: st) hi g Φ := AP.callVr (As := []) (q := (RX10, TX10, 15)) hI hc k_L_law_293 d_L_law_2352 rfl hs hk rfl rfl hst h
theorem d_L_law_2355 : decode code 2355 = .ok (.if_icmp .eq 396, 3) := by decide +kernel
theorem s_L_law_2355 {x y : Int32} (h1 : x = y → AP M_L_law b 2751 [x0, x1, x2, x3, x4, x5, x6, x7, x8] st hi g Φ) (h2 : ¬ x = y → AP M_L_law b 2358 [x0, x1, x2, x3, x4, x5, x6, x7, x8] st hi g Φ) : AP M_L_law b 2355 [x0, x1, x2, x3, x4, x5, x6, x7, x8] (.int y :: .int x :: st) hi g Φ := AP.icmp_eq d_L_law_2355 (by decide) h1 h2
theorem d_L_law_2358 : decode code 2358 = .ok (.iconst 0, 1) := by decide +kernel
theorem s_L_law_2358 (h : AP M_L_law b 2359 [x0, x1, x2, x3, x4, x5, x6, x7, x8] (.int 0 :: st) hi g Φ) : AP M_L_law b 2358 [x0, x1, x2, x3, x4, x5, x6, x7, x8] (st) hi g Φ := AP.iconst (x := 0) d_L_law_2358 (by decide) h
theorem d_L_law_2359 : decode code 2359 = .ok (.ireturn, 1) := by decide +kernel
theorem s_L_law_2359 {x : Int32} (hx : x = 0 ∨ x = 1) (h : Φ (.ok (some (.int x))) hi g) : AP M_L_law b 2359 [x0, x1, x2, x3, x4, x5, x6, x7, x8] [.int x] hi g Φ := AP.zret d_L_law_2359 rfl hx h
theorem d_L_law_2360 : decode code 2360 = .ok (.aload_n 1, 1) := by decide +kernel
theorem s_L_law_2360 {n : Nat} (h : AP M_L_law b 2361 [x0, .ref n, x2, x3, x4, x5, x6, x7, x8] (.ref n :: st) hi g Φ) : AP M_L_law b 2360 [x0, .ref n, x2, x3, x4, x5, x6, x7, x8] (st) hi g Φ := AP.aload_n (x := n) (i := 1) d_L_law_2360 rfl rfl h
theorem d_L_law_2361 : decode code 2361 = .ok (.invokevirtual 294, 3) := by decide +kernel
theorem s_L_law_2361  {k : Nat} {r0 : Int32} {P : am_HI → Prop} (hI : am_Inv g) (hs : am_SH k = (0, 9)) (hk : k < 134) (hst : (st.map Value.category).sum ≤ 8) (hc : am_Cr M_X9_firstUnlike [.ref k] hi g (some (.int r0)) P) (h : ∀ hi' : am_HI, P hi' → AP M_L_law b 2364 [x0, x1, x2, x3, x4, x5, x6, x7, x8] (.int r0 :: st) hi' g Φ) : AP M_L_law b 2361 [x0, x1, x2, x3, x4, x5, x6, x7, x8] (.ref k :: st) hi g Φ := AP.callVr (As := []) (q := (RX9, TX9, 7)) hI hc k_L_law_294 d_L_law_2361 rfl hs hk rfl rfl hst h
theorem d_L_law_2364 : decode code 2364 = .ok (.aload_n 2, 1) := by decide +kernel
theorem s_L_law_2364 {n : Nat} (h : AP M_L_law b 2365 [x0, x1, .ref n, x3, x4, x5, x6, x7, x8] (.ref n :: st) hi g Φ) : AP M_L_law b 2364 [x0, x1, .ref n, x3, x4, x5, x6, x7, x8] (st) hi g Φ := AP.aload_n (x := n) (i := 2) d_L_law_2364 rfl rfl h
theorem d_L_law_2365 : decode code 2365 = .ok (.invokevirtual 297, 3) := by decide +kernel
theorem s_L_law_2365  {k : Nat} {r0 : Int32} {P : am_HI → Prop} (hI : am_Inv g) (hs : am_SH k = (0, 10)) (hk : k < 134) (hst : (st.map Value.category).sum ≤ 8) (hc : am_Cr M_X10_firstUnlike [.ref k] hi g (some (.int r0)) P) (h : ∀ hi' : am_HI, P hi' → AP M_L_law b 2368 [x0, x1, x2, x3, x4, x5, x6, x7, x8] (.int r0 :: st) hi' g Φ) : AP M_L_law b 2365 [x0, x1, x2, x3, x4, x5, x6, x7, x8] (.ref k :: st) hi g Φ := AP.callVr (As := []) (q := (RX10, TX10, 15)) hI hc k_L_law_297 d_L_law_2365 rfl hs hk rfl rfl hst h
theorem d_L_law_2368 : decode code 2368 = .ok (.if_icmp .eq 383, 3) := by decide +kernel
theorem s_L_law_2368 {x y : Int32} (h1 : x = y → AP M_L_law b 2751 [x0, x1, x2, x3, x4, x5, x6, x7, x8] st hi g Φ) (h2 : ¬ x = y → AP M_L_law b 2371 [x0, x1, x2, x3, x4, x5, x6, x7, x8] st hi g Φ) : AP M_L_law b 2368 [x0, x1, x2, x3, x4, x5, x6, x7, x8] (.int y :: .int x :: st) hi g Φ := AP.icmp_eq d_L_law_2368 (by decide) h1 h2
theorem d_L_law_2371 : decode code 2371 = .ok (.iconst 0, 1) := by decide +kernel
theorem s_L_law_2371 (h : AP M_L_law b 2372 [x0, x1, x2, x3, x4, x5, x6, x7, x8] (.int 0 :: st) hi g Φ) : AP M_L_law b 2371 [x0, x1, x2, x3, x4, x5, x6, x7, x8] (st) hi g Φ := AP.iconst (x := 0) d_L_law_2371 (by decide) h
theorem d_L_law_2372 : decode code 2372 = .ok (.ireturn, 1) := by decide +kernel
theorem s_L_law_2372 {x : Int32} (hx : x = 0 ∨ x = 1) (h : Φ (.ok (some (.int x))) hi g) : AP M_L_law b 2372 [x0, x1, x2, x3, x4, x5, x6, x7, x8] [.int x] hi g Φ := AP.zret d_L_law_2372 rfl hx h
theorem d_L_law_2373 : decode code 2373 = .ok (.aload_n 1, 1) := by decide +kernel
theorem s_L_law_2373 {n : Nat} (h : AP M_L_law b 2374 [x0, .ref n, x2, x3, x4, x5, x6, x7, x8] (.ref n :: st) hi g Φ) : AP M_L_law b 2373 [x0, .ref n, x2, x3, x4, x5, x6, x7, x8] (st) hi g Φ := AP.aload_n (x := n) (i := 1) d_L_law_2373 rfl rfl h
theorem d_L_law_2374 : decode code 2374 = .ok (.aload_n 0, 1) := by decide +kernel
theorem s_L_law_2374 {n : Nat} (h : AP M_L_law b 2375 [.ref n, x1, x2, x3, x4, x5, x6, x7, x8] (.ref n :: st) hi g Φ) : AP M_L_law b 2374 [.ref n, x1, x2, x3, x4, x5, x6, x7, x8] (st) hi g Φ := AP.aload_n (x := n) (i := 0) d_L_law_2374 rfl rfl h
theorem d_L_law_2375 : decode code 2375 = .ok (.iload 4, 2) := by decide +kernel
theorem s_L_law_2375 {n : Int32} (h : AP M_L_law b 2377 [x0, x1, x2, x3, .int n, x5, x6, x7, x8] (.int n :: st) hi g Φ) : AP M_L_law b 2375 [x0, x1, x2, x3, .int n, x5, x6, x7, x8] (st) hi g Φ := AP.iload (x := n) (i := 4) d_L_law_2375 rfl h
theorem d_L_law_2377 : decode code 2377 = .ok (.iconst 1, 1) := by decide +kernel
theorem s_L_law_2377 (h : AP M_L_law b 2378 [x0, x1, x2, x3, x4, x5, x6, x7, x8] (.int 1 :: st) hi g Φ) : AP M_L_law b 2377 [x0, x1, x2, x3, x4, x5, x6, x7, x8] (st) hi g Φ := AP.iconst (x := 1) d_L_law_2377 (by decide) h
theorem d_L_law_2378 : decode code 2378 = .ok (.iadd, 1) := by decide +kernel
theorem s_L_law_2378 {x y : Int32} (h : AP M_L_law b 2379 [x0, x1, x2, x3, x4, x5, x6, x7, x8] (.int (x + y) :: st) hi g Φ) : AP M_L_law b 2378 [x0, x1, x2, x3, x4, x5, x6, x7, x8] (.int y :: .int x :: st) hi g Φ := AP.iadd d_L_law_2378 h
theorem d_L_law_2379 : decode code 2379 = .ok (.iaload, 1) := by decide +kernel
theorem s_L_law_2379 {k n j : Nat} {i : Int32} (hI : am_Inv g) (hs : am_SH k = (1, n)) (hk : k < 134) (hn : n < 2 ^ 31) (hx : i = nI j) (hj : j < n) (h : AP M_L_law b 2380 [x0, x1, x2, x3, x4, x5, x6, x7, x8] (.int (hi k j) :: st) hi g Φ) : AP M_L_law b 2379 [x0, x1, x2, x3, x4, x5, x6, x7, x8] (.int i :: .ref k :: st) hi g Φ := AP.iald d_L_law_2379 hs (hI.lt hk) hn hx hj h
theorem d_L_law_2380 : decode code 2380 = .ok (.aload_n 3, 1) := by decide +kernel
theorem s_L_law_2380 {n : Nat} (h : AP M_L_law b 2381 [x0, x1, x2, .ref n, x4, x5, x6, x7, x8] (.ref n :: st) hi g Φ) : AP M_L_law b 2380 [x0, x1, x2, .ref n, x4, x5, x6, x7, x8] (st) hi g Φ := AP.aload_n (x := n) (i := 3) d_L_law_2380 rfl rfl h
theorem d_L_law_2381 : decode code 2381 = .ok (.invokestatic 298, 3) := by decide +kernel
-- s_L_law_2381: a call apart
theorem d_L_law_2384 : decode code 2384 = .ok (.istore 5, 2) := by decide +kernel
theorem s_L_law_2384 {n : Int32} (hc : x4.category = 1) (h : AP M_L_law b 2386 [x0, x1, x2, x3, x4, .int n, x6, x7, x8] (st) hi g Φ) : AP M_L_law b 2384 [x0, x1, x2, x3, x4, x5, x6, x7, x8] (.int n :: st) hi g Φ := AP.istore (x := n) (i := 5) d_L_law_2384 (by decide) (by simp [am_st, am_ci, am_cr, am_cl, am_cd, hc]) h
theorem d_L_law_2386 : decode code 2386 = .ok (.aload_n 2, 1) := by decide +kernel
theorem s_L_law_2386 {n : Nat} (h : AP M_L_law b 2387 [x0, x1, .ref n, x3, x4, x5, x6, x7, x8] (.ref n :: st) hi g Φ) : AP M_L_law b 2386 [x0, x1, .ref n, x3, x4, x5, x6, x7, x8] (st) hi g Φ := AP.aload_n (x := n) (i := 2) d_L_law_2386 rfl rfl h
theorem d_L_law_2387 : decode code 2387 = .ok (.aload_n 0, 1) := by decide +kernel
theorem s_L_law_2387 {n : Nat} (h : AP M_L_law b 2388 [.ref n, x1, x2, x3, x4, x5, x6, x7, x8] (.ref n :: st) hi g Φ) : AP M_L_law b 2387 [.ref n, x1, x2, x3, x4, x5, x6, x7, x8] (st) hi g Φ := AP.aload_n (x := n) (i := 0) d_L_law_2387 rfl rfl h
theorem d_L_law_2388 : decode code 2388 = .ok (.iload 4, 2) := by decide +kernel
theorem s_L_law_2388 {n : Int32} (h : AP M_L_law b 2390 [x0, x1, x2, x3, .int n, x5, x6, x7, x8] (.int n :: st) hi g Φ) : AP M_L_law b 2388 [x0, x1, x2, x3, .int n, x5, x6, x7, x8] (st) hi g Φ := AP.iload (x := n) (i := 4) d_L_law_2388 rfl h
theorem d_L_law_2390 : decode code 2390 = .ok (.iconst 1, 1) := by decide +kernel
theorem s_L_law_2390 (h : AP M_L_law b 2391 [x0, x1, x2, x3, x4, x5, x6, x7, x8] (.int 1 :: st) hi g Φ) : AP M_L_law b 2390 [x0, x1, x2, x3, x4, x5, x6, x7, x8] (st) hi g Φ := AP.iconst (x := 1) d_L_law_2390 (by decide) h
theorem d_L_law_2391 : decode code 2391 = .ok (.iadd, 1) := by decide +kernel
theorem s_L_law_2391 {x y : Int32} (h : AP M_L_law b 2392 [x0, x1, x2, x3, x4, x5, x6, x7, x8] (.int (x + y) :: st) hi g Φ) : AP M_L_law b 2391 [x0, x1, x2, x3, x4, x5, x6, x7, x8] (.int y :: .int x :: st) hi g Φ := AP.iadd d_L_law_2391 h
theorem d_L_law_2392 : decode code 2392 = .ok (.iaload, 1) := by decide +kernel
theorem s_L_law_2392 {k n j : Nat} {i : Int32} (hI : am_Inv g) (hs : am_SH k = (1, n)) (hk : k < 134) (hn : n < 2 ^ 31) (hx : i = nI j) (hj : j < n) (h : AP M_L_law b 2393 [x0, x1, x2, x3, x4, x5, x6, x7, x8] (.int (hi k j) :: st) hi g Φ) : AP M_L_law b 2392 [x0, x1, x2, x3, x4, x5, x6, x7, x8] (.int i :: .ref k :: st) hi g Φ := AP.iald d_L_law_2392 hs (hI.lt hk) hn hx hj h
theorem d_L_law_2393 : decode code 2393 = .ok (.invokevirtual 300, 3) := by decide +kernel
theorem s_L_law_2393 {a0 : Int32} {k : Nat} {r0 : Int32} {P : am_HI → Prop} (hI : am_Inv g) (hs : am_SH k = (0, 10)) (hk : k < 134) (hst : (st.map Value.category).sum ≤ 8) (hc : am_Cr M_X10_harm [.ref k, .int a0] hi g (some (.int r0)) P) (h : ∀ hi' : am_HI, P hi' → AP M_L_law b 2396 [x0, x1, x2, x3, x4, x5, x6, x7, x8] (.int r0 :: st) hi' g Φ) : AP M_L_law b 2393 [x0, x1, x2, x3, x4, x5, x6, x7, x8] (.int a0 :: .ref k :: st) hi g Φ := AP.callVr (As := [.int a0]) (q := (RX10, TX10, 15)) hI hc k_L_law_300 d_L_law_2393 rfl hs hk rfl rfl hst h
theorem d_L_law_2396 : decode code 2396 = .ok (.istore 6, 2) := by decide +kernel
theorem s_L_law_2396 {n : Int32} (hc : x5.category = 1) (h : AP M_L_law b 2398 [x0, x1, x2, x3, x4, x5, .int n, x7, x8] (st) hi g Φ) : AP M_L_law b 2396 [x0, x1, x2, x3, x4, x5, x6, x7, x8] (.int n :: st) hi g Φ := AP.istore (x := n) (i := 6) d_L_law_2396 (by decide) (by simp [am_st, am_ci, am_cr, am_cl, am_cd, hc]) h
theorem d_L_law_2398 : decode code 2398 = .ok (.aload_n 2, 1) := by decide +kernel
theorem s_L_law_2398 {n : Nat} (h : AP M_L_law b 2399 [x0, x1, .ref n, x3, x4, x5, x6, x7, x8] (.ref n :: st) hi g Φ) : AP M_L_law b 2398 [x0, x1, .ref n, x3, x4, x5, x6, x7, x8] (st) hi g Φ := AP.aload_n (x := n) (i := 2) d_L_law_2398 rfl rfl h
theorem d_L_law_2399 : decode code 2399 = .ok (.invokevirtual 141, 3) := by decide +kernel
theorem s_L_law_2399  {k : Nat} {r0 : Int32} {P : am_HI → Prop} (hI : am_Inv g) (hs : am_SH k = (0, 10)) (hk : k < 134) (hst : (st.map Value.category).sum ≤ 8) (hc : am_Cr M_X10_thrown [.ref k] hi g (some (.int r0)) P) (h : ∀ hi' : am_HI, P hi' → AP M_L_law b 2402 [x0, x1, x2, x3, x4, x5, x6, x7, x8] (.int r0 :: st) hi' g Φ) : AP M_L_law b 2399 [x0, x1, x2, x3, x4, x5, x6, x7, x8] (.ref k :: st) hi g Φ := AP.callVr (As := []) (q := (RX10, TX10, 15)) hI hc k_L_law_141 d_L_law_2399 rfl hs hk rfl rfl hst h
theorem d_L_law_2402 : decode code 2402 = .ok (.iload 5, 2) := by decide +kernel
theorem s_L_law_2402 {n : Int32} (h : AP M_L_law b 2404 [x0, x1, x2, x3, x4, .int n, x6, x7, x8] (.int n :: st) hi g Φ) : AP M_L_law b 2402 [x0, x1, x2, x3, x4, .int n, x6, x7, x8] (st) hi g Φ := AP.iload (x := n) (i := 5) d_L_law_2402 rfl h
theorem d_L_law_2404 : decode code 2404 = .ok (.if_icmp .eq 5, 3) := by decide +kernel
theorem s_L_law_2404 {x y : Int32} (h1 : x = y → AP M_L_law b 2409 [x0, x1, x2, x3, x4, x5, x6, x7, x8] st hi g Φ) (h2 : ¬ x = y → AP M_L_law b 2407 [x0, x1, x2, x3, x4, x5, x6, x7, x8] st hi g Φ) : AP M_L_law b 2404 [x0, x1, x2, x3, x4, x5, x6, x7, x8] (.int y :: .int x :: st) hi g Φ := AP.icmp_eq d_L_law_2404 (by decide) h1 h2
theorem d_L_law_2407 : decode code 2407 = .ok (.iconst 0, 1) := by decide +kernel
theorem s_L_law_2407 (h : AP M_L_law b 2408 [x0, x1, x2, x3, x4, x5, x6, x7, x8] (.int 0 :: st) hi g Φ) : AP M_L_law b 2407 [x0, x1, x2, x3, x4, x5, x6, x7, x8] (st) hi g Φ := AP.iconst (x := 0) d_L_law_2407 (by decide) h
theorem d_L_law_2408 : decode code 2408 = .ok (.ireturn, 1) := by decide +kernel
theorem s_L_law_2408 {x : Int32} (hx : x = 0 ∨ x = 1) (h : Φ (.ok (some (.int x))) hi g) : AP M_L_law b 2408 [x0, x1, x2, x3, x4, x5, x6, x7, x8] [.int x] hi g Φ := AP.zret d_L_law_2408 rfl hx h
theorem d_L_law_2409 : decode code 2409 = .ok (.iload 5, 2) := by decide +kernel
theorem s_L_law_2409 {n : Int32} (h : AP M_L_law b 2411 [x0, x1, x2, x3, x4, .int n, x6, x7, x8] (.int n :: st) hi g Φ) : AP M_L_law b 2409 [x0, x1, x2, x3, x4, .int n, x6, x7, x8] (st) hi g Φ := AP.iload (x := n) (i := 5) d_L_law_2409 rfl h
theorem d_L_law_2411 : decode code 2411 = .ok (.ifCond .ne 15, 3) := by decide +kernel
theorem s_L_law_2411 {x : Int32} (h1 : ¬ x = 0 → AP M_L_law b 2426 [x0, x1, x2, x3, x4, x5, x6, x7, x8] st hi g Φ) (h2 : x = 0 → AP M_L_law b 2414 [x0, x1, x2, x3, x4, x5, x6, x7, x8] st hi g Φ) : AP M_L_law b 2411 [x0, x1, x2, x3, x4, x5, x6, x7, x8] (.int x :: st) hi g Φ := AP.if_ne d_L_law_2411 (by decide) h1 h2
theorem d_L_law_2414 : decode code 2414 = .ok (.aload_n 3, 1) := by decide +kernel
theorem s_L_law_2414 {n : Nat} (h : AP M_L_law b 2415 [x0, x1, x2, .ref n, x4, x5, x6, x7, x8] (.ref n :: st) hi g Φ) : AP M_L_law b 2414 [x0, x1, x2, .ref n, x4, x5, x6, x7, x8] (st) hi g Φ := AP.aload_n (x := n) (i := 3) d_L_law_2414 rfl rfl h
theorem d_L_law_2415 : decode code 2415 = .ok (.iconst 0, 1) := by decide +kernel
theorem s_L_law_2415 (h : AP M_L_law b 2416 [x0, x1, x2, x3, x4, x5, x6, x7, x8] (.int 0 :: st) hi g Φ) : AP M_L_law b 2415 [x0, x1, x2, x3, x4, x5, x6, x7, x8] (st) hi g Φ := AP.iconst (x := 0) d_L_law_2415 (by decide) h
theorem d_L_law_2416 : decode code 2416 = .ok (.laload, 1) := by decide +kernel
theorem s_L_law_2416 {k n j : Nat} {i : Int32} (hI : am_Inv g) (hs : am_SH k = (4, n)) (hk : k < 134) (hn : n < 2 ^ 31) (hx : i = nI j) (hj : j < n) (h : AP M_L_law b 2417 [x0, x1, x2, x3, x4, x5, x6, x7, x8] (.long (g.2.2 k j) :: st) hi g Φ) : AP M_L_law b 2416 [x0, x1, x2, x3, x4, x5, x6, x7, x8] (.int i :: .ref k :: st) hi g Φ := AP.lald d_L_law_2416 hs (hI.lt hk) hn hx hj h
theorem d_L_law_2417 : decode code 2417 = .ok (.iload 6, 2) := by decide +kernel
theorem s_L_law_2417 {n : Int32} (h : AP M_L_law b 2419 [x0, x1, x2, x3, x4, x5, .int n, x7, x8] (.int n :: st) hi g Φ) : AP M_L_law b 2417 [x0, x1, x2, x3, x4, x5, .int n, x7, x8] (st) hi g Φ := AP.iload (x := n) (i := 6) d_L_law_2417 rfl h
theorem d_L_law_2419 : decode code 2419 = .ok (.i2l, 1) := by decide +kernel
theorem s_L_law_2419 {x : Int32} (h : AP M_L_law b 2420 [x0, x1, x2, x3, x4, x5, x6, x7, x8] (.long x.toInt64 :: st) hi g Φ) : AP M_L_law b 2419 [x0, x1, x2, x3, x4, x5, x6, x7, x8] (.int x :: st) hi g Φ := AP.i2l d_L_law_2419 h
theorem d_L_law_2420 : decode code 2420 = .ok (.lcmp, 1) := by decide +kernel
theorem s_L_law_2420 {x y : Int64} (h : AP M_L_law b 2421 [x0, x1, x2, x3, x4, x5, x6, x7, x8] (.int (lg_cmp x y) :: st) hi g Φ) : AP M_L_law b 2420 [x0, x1, x2, x3, x4, x5, x6, x7, x8] (.long y :: .long x :: st) hi g Φ := AP.lcmp d_L_law_2420 h
theorem d_L_law_2421 : decode code 2421 = .ok (.ifCond .eq 5, 3) := by decide +kernel
theorem s_L_law_2421 {x : Int32} (h1 : x = 0 → AP M_L_law b 2426 [x0, x1, x2, x3, x4, x5, x6, x7, x8] st hi g Φ) (h2 : ¬ x = 0 → AP M_L_law b 2424 [x0, x1, x2, x3, x4, x5, x6, x7, x8] st hi g Φ) : AP M_L_law b 2421 [x0, x1, x2, x3, x4, x5, x6, x7, x8] (.int x :: st) hi g Φ := AP.if_eq d_L_law_2421 (by decide) h1 h2
theorem d_L_law_2424 : decode code 2424 = .ok (.iconst 0, 1) := by decide +kernel
theorem s_L_law_2424 (h : AP M_L_law b 2425 [x0, x1, x2, x3, x4, x5, x6, x7, x8] (.int 0 :: st) hi g Φ) : AP M_L_law b 2424 [x0, x1, x2, x3, x4, x5, x6, x7, x8] (st) hi g Φ := AP.iconst (x := 0) d_L_law_2424 (by decide) h
theorem d_L_law_2425 : decode code 2425 = .ok (.ireturn, 1) := by decide +kernel
theorem s_L_law_2425 {x : Int32} (hx : x = 0 ∨ x = 1) (h : Φ (.ok (some (.int x))) hi g) : AP M_L_law b 2425 [x0, x1, x2, x3, x4, x5, x6, x7, x8] [.int x] hi g Φ := AP.zret d_L_law_2425 rfl hx h
theorem d_L_law_2426 : decode code 2426 = .ok (.goto 325, 3) := by decide +kernel
theorem s_L_law_2426 (h : AP M_L_law b 2751 [x0, x1, x2, x3, x4, x5, x6, x7, x8] st hi g Φ) : AP M_L_law b 2426 [x0, x1, x2, x3, x4, x5, x6, x7, x8] st hi g Φ := AP.goto d_L_law_2426 (by decide) h
theorem d_L_law_2429 : decode code 2429 = .ok (.aload_n 1, 1) := by decide +kernel
theorem s_L_law_2429 {n : Nat} (h : AP M_L_law b 2430 [x0, .ref n, x2, x3, x4, x5, x6, x7, x8] (.ref n :: st) hi g Φ) : AP M_L_law b 2429 [x0, .ref n, x2, x3, x4, x5, x6, x7, x8] (st) hi g Φ := AP.aload_n (x := n) (i := 1) d_L_law_2429 rfl rfl h
theorem d_L_law_2430 : decode code 2430 = .ok (.invokevirtual 301, 3) := by decide +kernel
theorem s_L_law_2430  {k : Nat} {r0 : Int32} {P : am_HI → Prop} (hI : am_Inv g) (hs : am_SH k = (0, 9)) (hk : k < 134) (hst : (st.map Value.category).sum ≤ 8) (hc : am_Cr M_X9_worst [.ref k] hi g (some (.int r0)) P) (h : ∀ hi' : am_HI, P hi' → AP M_L_law b 2433 [x0, x1, x2, x3, x4, x5, x6, x7, x8] (.int r0 :: st) hi' g Φ) : AP M_L_law b 2430 [x0, x1, x2, x3, x4, x5, x6, x7, x8] (.ref k :: st) hi g Φ := AP.callVr (As := []) (q := (RX9, TX9, 7)) hI hc k_L_law_301 d_L_law_2430 rfl hs hk rfl rfl hst h
theorem d_L_law_2433 : decode code 2433 = .ok (.aload_n 2, 1) := by decide +kernel
theorem s_L_law_2433 {n : Nat} (h : AP M_L_law b 2434 [x0, x1, .ref n, x3, x4, x5, x6, x7, x8] (.ref n :: st) hi g Φ) : AP M_L_law b 2433 [x0, x1, .ref n, x3, x4, x5, x6, x7, x8] (st) hi g Φ := AP.aload_n (x := n) (i := 2) d_L_law_2433 rfl rfl h
theorem d_L_law_2434 : decode code 2434 = .ok (.invokevirtual 304, 3) := by decide +kernel
theorem s_L_law_2434  {k : Nat} {r0 : Int32} {P : am_HI → Prop} (hI : am_Inv g) (hs : am_SH k = (0, 10)) (hk : k < 134) (hst : (st.map Value.category).sum ≤ 8) (hc : am_Cr M_X10_worst [.ref k] hi g (some (.int r0)) P) (h : ∀ hi' : am_HI, P hi' → AP M_L_law b 2437 [x0, x1, x2, x3, x4, x5, x6, x7, x8] (.int r0 :: st) hi' g Φ) : AP M_L_law b 2434 [x0, x1, x2, x3, x4, x5, x6, x7, x8] (.ref k :: st) hi g Φ := AP.callVr (As := []) (q := (RX10, TX10, 15)) hI hc k_L_law_304 d_L_law_2434 rfl hs hk rfl rfl hst h
theorem d_L_law_2437 : decode code 2437 = .ok (.if_icmp .eq 314, 3) := by decide +kernel
theorem s_L_law_2437 {x y : Int32} (h1 : x = y → AP M_L_law b 2751 [x0, x1, x2, x3, x4, x5, x6, x7, x8] st hi g Φ) (h2 : ¬ x = y → AP M_L_law b 2440 [x0, x1, x2, x3, x4, x5, x6, x7, x8] st hi g Φ) : AP M_L_law b 2437 [x0, x1, x2, x3, x4, x5, x6, x7, x8] (.int y :: .int x :: st) hi g Φ := AP.icmp_eq d_L_law_2437 (by decide) h1 h2
theorem d_L_law_2440 : decode code 2440 = .ok (.iconst 0, 1) := by decide +kernel
theorem s_L_law_2440 (h : AP M_L_law b 2441 [x0, x1, x2, x3, x4, x5, x6, x7, x8] (.int 0 :: st) hi g Φ) : AP M_L_law b 2440 [x0, x1, x2, x3, x4, x5, x6, x7, x8] (st) hi g Φ := AP.iconst (x := 0) d_L_law_2440 (by decide) h
theorem d_L_law_2441 : decode code 2441 = .ok (.ireturn, 1) := by decide +kernel
theorem s_L_law_2441 {x : Int32} (hx : x = 0 ∨ x = 1) (h : Φ (.ok (some (.int x))) hi g) : AP M_L_law b 2441 [x0, x1, x2, x3, x4, x5, x6, x7, x8] [.int x] hi g Φ := AP.zret d_L_law_2441 rfl hx h
theorem d_L_law_2442 : decode code 2442 = .ok (.aload_n 1, 1) := by decide +kernel
theorem s_L_law_2442 {n : Nat} (h : AP M_L_law b 2443 [x0, .ref n, x2, x3, x4, x5, x6, x7, x8] (.ref n :: st) hi g Φ) : AP M_L_law b 2442 [x0, .ref n, x2, x3, x4, x5, x6, x7, x8] (st) hi g Φ := AP.aload_n (x := n) (i := 1) d_L_law_2442 rfl rfl h
theorem d_L_law_2443 : decode code 2443 = .ok (.invokevirtual 305, 3) := by decide +kernel
theorem s_L_law_2443  {k : Nat} {r0 : Int32} {P : am_HI → Prop} (hI : am_Inv g) (hs : am_SH k = (0, 9)) (hk : k < 134) (hst : (st.map Value.category).sum ≤ 8) (hc : am_Cr M_X9_sent [.ref k] hi g (some (.int r0)) P) (h : ∀ hi' : am_HI, P hi' → AP M_L_law b 2446 [x0, x1, x2, x3, x4, x5, x6, x7, x8] (.int r0 :: st) hi' g Φ) : AP M_L_law b 2443 [x0, x1, x2, x3, x4, x5, x6, x7, x8] (.ref k :: st) hi g Φ := AP.callVr (As := []) (q := (RX9, TX9, 7)) hI hc k_L_law_305 d_L_law_2443 rfl hs hk rfl rfl hst h
theorem d_L_law_2446 : decode code 2446 = .ok (.aload_n 2, 1) := by decide +kernel
theorem s_L_law_2446 {n : Nat} (h : AP M_L_law b 2447 [x0, x1, .ref n, x3, x4, x5, x6, x7, x8] (.ref n :: st) hi g Φ) : AP M_L_law b 2446 [x0, x1, .ref n, x3, x4, x5, x6, x7, x8] (st) hi g Φ := AP.aload_n (x := n) (i := 2) d_L_law_2446 rfl rfl h
theorem d_L_law_2447 : decode code 2447 = .ok (.invokevirtual 308, 3) := by decide +kernel
theorem s_L_law_2447  {k : Nat} {r0 : Int32} {P : am_HI → Prop} (hI : am_Inv g) (hs : am_SH k = (0, 10)) (hk : k < 134) (hst : (st.map Value.category).sum ≤ 8) (hc : am_Cr M_X10_sent [.ref k] hi g (some (.int r0)) P) (h : ∀ hi' : am_HI, P hi' → AP M_L_law b 2450 [x0, x1, x2, x3, x4, x5, x6, x7, x8] (.int r0 :: st) hi' g Φ) : AP M_L_law b 2447 [x0, x1, x2, x3, x4, x5, x6, x7, x8] (.ref k :: st) hi g Φ := AP.callVr (As := []) (q := (RX10, TX10, 15)) hI hc k_L_law_308 d_L_law_2447 rfl hs hk rfl rfl hst h
theorem d_L_law_2450 : decode code 2450 = .ok (.if_icmp .eq 301, 3) := by decide +kernel
theorem s_L_law_2450 {x y : Int32} (h1 : x = y → AP M_L_law b 2751 [x0, x1, x2, x3, x4, x5, x6, x7, x8] st hi g Φ) (h2 : ¬ x = y → AP M_L_law b 2453 [x0, x1, x2, x3, x4, x5, x6, x7, x8] st hi g Φ) : AP M_L_law b 2450 [x0, x1, x2, x3, x4, x5, x6, x7, x8] (.int y :: .int x :: st) hi g Φ := AP.icmp_eq d_L_law_2450 (by decide) h1 h2
theorem d_L_law_2453 : decode code 2453 = .ok (.iconst 0, 1) := by decide +kernel
theorem s_L_law_2453 (h : AP M_L_law b 2454 [x0, x1, x2, x3, x4, x5, x6, x7, x8] (.int 0 :: st) hi g Φ) : AP M_L_law b 2453 [x0, x1, x2, x3, x4, x5, x6, x7, x8] (st) hi g Φ := AP.iconst (x := 0) d_L_law_2453 (by decide) h
theorem d_L_law_2454 : decode code 2454 = .ok (.ireturn, 1) := by decide +kernel
theorem s_L_law_2454 {x : Int32} (hx : x = 0 ∨ x = 1) (h : Φ (.ok (some (.int x))) hi g) : AP M_L_law b 2454 [x0, x1, x2, x3, x4, x5, x6, x7, x8] [.int x] hi g Φ := AP.zret d_L_law_2454 rfl hx h
theorem d_L_law_2455 : decode code 2455 = .ok (.aload_n 1, 1) := by decide +kernel
theorem s_L_law_2455 {n : Nat} (h : AP M_L_law b 2456 [x0, .ref n, x2, x3, x4, x5, x6, x7, x8] (.ref n :: st) hi g Φ) : AP M_L_law b 2455 [x0, .ref n, x2, x3, x4, x5, x6, x7, x8] (st) hi g Φ := AP.aload_n (x := n) (i := 1) d_L_law_2455 rfl rfl h
theorem d_L_law_2456 : decode code 2456 = .ok (.aload_n 0, 1) := by decide +kernel
theorem s_L_law_2456 {n : Nat} (h : AP M_L_law b 2457 [.ref n, x1, x2, x3, x4, x5, x6, x7, x8] (.ref n :: st) hi g Φ) : AP M_L_law b 2456 [.ref n, x1, x2, x3, x4, x5, x6, x7, x8] (st) hi g Φ := AP.aload_n (x := n) (i := 0) d_L_law_2456 rfl rfl h
theorem d_L_law_2457 : decode code 2457 = .ok (.iload 4, 2) := by decide +kernel
theorem s_L_law_2457 {n : Int32} (h : AP M_L_law b 2459 [x0, x1, x2, x3, .int n, x5, x6, x7, x8] (.int n :: st) hi g Φ) : AP M_L_law b 2457 [x0, x1, x2, x3, .int n, x5, x6, x7, x8] (st) hi g Φ := AP.iload (x := n) (i := 4) d_L_law_2457 rfl h
theorem d_L_law_2459 : decode code 2459 = .ok (.iconst 1, 1) := by decide +kernel
theorem s_L_law_2459 (h : AP M_L_law b 2460 [x0, x1, x2, x3, x4, x5, x6, x7, x8] (.int 1 :: st) hi g Φ) : AP M_L_law b 2459 [x0, x1, x2, x3, x4, x5, x6, x7, x8] (st) hi g Φ := AP.iconst (x := 1) d_L_law_2459 (by decide) h
theorem d_L_law_2460 : decode code 2460 = .ok (.iadd, 1) := by decide +kernel
theorem s_L_law_2460 {x y : Int32} (h : AP M_L_law b 2461 [x0, x1, x2, x3, x4, x5, x6, x7, x8] (.int (x + y) :: st) hi g Φ) : AP M_L_law b 2460 [x0, x1, x2, x3, x4, x5, x6, x7, x8] (.int y :: .int x :: st) hi g Φ := AP.iadd d_L_law_2460 h
theorem d_L_law_2461 : decode code 2461 = .ok (.iaload, 1) := by decide +kernel
theorem s_L_law_2461 {k n j : Nat} {i : Int32} (hI : am_Inv g) (hs : am_SH k = (1, n)) (hk : k < 134) (hn : n < 2 ^ 31) (hx : i = nI j) (hj : j < n) (h : AP M_L_law b 2462 [x0, x1, x2, x3, x4, x5, x6, x7, x8] (.int (hi k j) :: st) hi g Φ) : AP M_L_law b 2461 [x0, x1, x2, x3, x4, x5, x6, x7, x8] (.int i :: .ref k :: st) hi g Φ := AP.iald d_L_law_2461 hs (hI.lt hk) hn hx hj h
theorem d_L_law_2462 : decode code 2462 = .ok (.aload_n 3, 1) := by decide +kernel
theorem s_L_law_2462 {n : Nat} (h : AP M_L_law b 2463 [x0, x1, x2, .ref n, x4, x5, x6, x7, x8] (.ref n :: st) hi g Φ) : AP M_L_law b 2462 [x0, x1, x2, .ref n, x4, x5, x6, x7, x8] (st) hi g Φ := AP.aload_n (x := n) (i := 3) d_L_law_2462 rfl rfl h
theorem d_L_law_2463 : decode code 2463 = .ok (.invokestatic 309, 3) := by decide +kernel
-- s_L_law_2463: a call apart
theorem d_L_law_2466 : decode code 2466 = .ok (.istore 5, 2) := by decide +kernel
theorem s_L_law_2466 {n : Int32} (hc : x4.category = 1) (h : AP M_L_law b 2468 [x0, x1, x2, x3, x4, .int n, x6, x7, x8] (st) hi g Φ) : AP M_L_law b 2466 [x0, x1, x2, x3, x4, x5, x6, x7, x8] (.int n :: st) hi g Φ := AP.istore (x := n) (i := 5) d_L_law_2466 (by decide) (by simp [am_st, am_ci, am_cr, am_cl, am_cd, hc]) h
theorem d_L_law_2468 : decode code 2468 = .ok (.aload_n 2, 1) := by decide +kernel
theorem s_L_law_2468 {n : Nat} (h : AP M_L_law b 2469 [x0, x1, .ref n, x3, x4, x5, x6, x7, x8] (.ref n :: st) hi g Φ) : AP M_L_law b 2468 [x0, x1, .ref n, x3, x4, x5, x6, x7, x8] (st) hi g Φ := AP.aload_n (x := n) (i := 2) d_L_law_2468 rfl rfl h
theorem d_L_law_2469 : decode code 2469 = .ok (.aload_n 0, 1) := by decide +kernel
theorem s_L_law_2469 {n : Nat} (h : AP M_L_law b 2470 [.ref n, x1, x2, x3, x4, x5, x6, x7, x8] (.ref n :: st) hi g Φ) : AP M_L_law b 2469 [.ref n, x1, x2, x3, x4, x5, x6, x7, x8] (st) hi g Φ := AP.aload_n (x := n) (i := 0) d_L_law_2469 rfl rfl h
theorem d_L_law_2470 : decode code 2470 = .ok (.iload 4, 2) := by decide +kernel
theorem s_L_law_2470 {n : Int32} (h : AP M_L_law b 2472 [x0, x1, x2, x3, .int n, x5, x6, x7, x8] (.int n :: st) hi g Φ) : AP M_L_law b 2470 [x0, x1, x2, x3, .int n, x5, x6, x7, x8] (st) hi g Φ := AP.iload (x := n) (i := 4) d_L_law_2470 rfl h
theorem d_L_law_2472 : decode code 2472 = .ok (.iconst 1, 1) := by decide +kernel
theorem s_L_law_2472 (h : AP M_L_law b 2473 [x0, x1, x2, x3, x4, x5, x6, x7, x8] (.int 1 :: st) hi g Φ) : AP M_L_law b 2472 [x0, x1, x2, x3, x4, x5, x6, x7, x8] (st) hi g Φ := AP.iconst (x := 1) d_L_law_2472 (by decide) h
theorem d_L_law_2473 : decode code 2473 = .ok (.iadd, 1) := by decide +kernel
theorem s_L_law_2473 {x y : Int32} (h : AP M_L_law b 2474 [x0, x1, x2, x3, x4, x5, x6, x7, x8] (.int (x + y) :: st) hi g Φ) : AP M_L_law b 2473 [x0, x1, x2, x3, x4, x5, x6, x7, x8] (.int y :: .int x :: st) hi g Φ := AP.iadd d_L_law_2473 h
theorem d_L_law_2474 : decode code 2474 = .ok (.iaload, 1) := by decide +kernel
theorem s_L_law_2474 {k n j : Nat} {i : Int32} (hI : am_Inv g) (hs : am_SH k = (1, n)) (hk : k < 134) (hn : n < 2 ^ 31) (hx : i = nI j) (hj : j < n) (h : AP M_L_law b 2475 [x0, x1, x2, x3, x4, x5, x6, x7, x8] (.int (hi k j) :: st) hi g Φ) : AP M_L_law b 2474 [x0, x1, x2, x3, x4, x5, x6, x7, x8] (.int i :: .ref k :: st) hi g Φ := AP.iald d_L_law_2474 hs (hI.lt hk) hn hx hj h
theorem d_L_law_2475 : decode code 2475 = .ok (.invokevirtual 311, 3) := by decide +kernel
theorem s_L_law_2475 {a0 : Int32} {k : Nat} {r0 : Int32} {P : am_HI → Prop} (hI : am_Inv g) (hs : am_SH k = (0, 10)) (hk : k < 134) (hst : (st.map Value.category).sum ≤ 8) (hc : am_Cr M_X10_keep [.ref k, .int a0] hi g (some (.int r0)) P) (h : ∀ hi' : am_HI, P hi' → AP M_L_law b 2478 [x0, x1, x2, x3, x4, x5, x6, x7, x8] (.int r0 :: st) hi' g Φ) : AP M_L_law b 2475 [x0, x1, x2, x3, x4, x5, x6, x7, x8] (.int a0 :: .ref k :: st) hi g Φ := AP.callVr (As := [.int a0]) (q := (RX10, TX10, 15)) hI hc k_L_law_311 d_L_law_2475 rfl hs hk rfl rfl hst h
theorem d_L_law_2478 : decode code 2478 = .ok (.istore 6, 2) := by decide +kernel
theorem s_L_law_2478 {n : Int32} (hc : x5.category = 1) (h : AP M_L_law b 2480 [x0, x1, x2, x3, x4, x5, .int n, x7, x8] (st) hi g Φ) : AP M_L_law b 2478 [x0, x1, x2, x3, x4, x5, x6, x7, x8] (.int n :: st) hi g Φ := AP.istore (x := n) (i := 6) d_L_law_2478 (by decide) (by simp [am_st, am_ci, am_cr, am_cl, am_cd, hc]) h
theorem d_L_law_2480 : decode code 2480 = .ok (.aload_n 2, 1) := by decide +kernel
theorem s_L_law_2480 {n : Nat} (h : AP M_L_law b 2481 [x0, x1, .ref n, x3, x4, x5, x6, x7, x8] (.ref n :: st) hi g Φ) : AP M_L_law b 2480 [x0, x1, .ref n, x3, x4, x5, x6, x7, x8] (st) hi g Φ := AP.aload_n (x := n) (i := 2) d_L_law_2480 rfl rfl h
theorem d_L_law_2481 : decode code 2481 = .ok (.invokevirtual 141, 3) := by decide +kernel
theorem s_L_law_2481  {k : Nat} {r0 : Int32} {P : am_HI → Prop} (hI : am_Inv g) (hs : am_SH k = (0, 10)) (hk : k < 134) (hst : (st.map Value.category).sum ≤ 8) (hc : am_Cr M_X10_thrown [.ref k] hi g (some (.int r0)) P) (h : ∀ hi' : am_HI, P hi' → AP M_L_law b 2484 [x0, x1, x2, x3, x4, x5, x6, x7, x8] (.int r0 :: st) hi' g Φ) : AP M_L_law b 2481 [x0, x1, x2, x3, x4, x5, x6, x7, x8] (.ref k :: st) hi g Φ := AP.callVr (As := []) (q := (RX10, TX10, 15)) hI hc k_L_law_141 d_L_law_2481 rfl hs hk rfl rfl hst h
theorem d_L_law_2484 : decode code 2484 = .ok (.iload 5, 2) := by decide +kernel
theorem s_L_law_2484 {n : Int32} (h : AP M_L_law b 2486 [x0, x1, x2, x3, x4, .int n, x6, x7, x8] (.int n :: st) hi g Φ) : AP M_L_law b 2484 [x0, x1, x2, x3, x4, .int n, x6, x7, x8] (st) hi g Φ := AP.iload (x := n) (i := 5) d_L_law_2484 rfl h
theorem d_L_law_2486 : decode code 2486 = .ok (.if_icmp .eq 5, 3) := by decide +kernel
theorem s_L_law_2486 {x y : Int32} (h1 : x = y → AP M_L_law b 2491 [x0, x1, x2, x3, x4, x5, x6, x7, x8] st hi g Φ) (h2 : ¬ x = y → AP M_L_law b 2489 [x0, x1, x2, x3, x4, x5, x6, x7, x8] st hi g Φ) : AP M_L_law b 2486 [x0, x1, x2, x3, x4, x5, x6, x7, x8] (.int y :: .int x :: st) hi g Φ := AP.icmp_eq d_L_law_2486 (by decide) h1 h2
theorem d_L_law_2489 : decode code 2489 = .ok (.iconst 0, 1) := by decide +kernel
theorem s_L_law_2489 (h : AP M_L_law b 2490 [x0, x1, x2, x3, x4, x5, x6, x7, x8] (.int 0 :: st) hi g Φ) : AP M_L_law b 2489 [x0, x1, x2, x3, x4, x5, x6, x7, x8] (st) hi g Φ := AP.iconst (x := 0) d_L_law_2489 (by decide) h
theorem d_L_law_2490 : decode code 2490 = .ok (.ireturn, 1) := by decide +kernel
theorem s_L_law_2490 {x : Int32} (hx : x = 0 ∨ x = 1) (h : Φ (.ok (some (.int x))) hi g) : AP M_L_law b 2490 [x0, x1, x2, x3, x4, x5, x6, x7, x8] [.int x] hi g Φ := AP.zret d_L_law_2490 rfl hx h
theorem d_L_law_2491 : decode code 2491 = .ok (.iload 5, 2) := by decide +kernel
theorem s_L_law_2491 {n : Int32} (h : AP M_L_law b 2493 [x0, x1, x2, x3, x4, .int n, x6, x7, x8] (.int n :: st) hi g Φ) : AP M_L_law b 2491 [x0, x1, x2, x3, x4, .int n, x6, x7, x8] (st) hi g Φ := AP.iload (x := n) (i := 5) d_L_law_2491 rfl h
theorem d_L_law_2493 : decode code 2493 = .ok (.ifCond .ne 15, 3) := by decide +kernel
theorem s_L_law_2493 {x : Int32} (h1 : ¬ x = 0 → AP M_L_law b 2508 [x0, x1, x2, x3, x4, x5, x6, x7, x8] st hi g Φ) (h2 : x = 0 → AP M_L_law b 2496 [x0, x1, x2, x3, x4, x5, x6, x7, x8] st hi g Φ) : AP M_L_law b 2493 [x0, x1, x2, x3, x4, x5, x6, x7, x8] (.int x :: st) hi g Φ := AP.if_ne d_L_law_2493 (by decide) h1 h2
theorem d_L_law_2496 : decode code 2496 = .ok (.aload_n 3, 1) := by decide +kernel
theorem s_L_law_2496 {n : Nat} (h : AP M_L_law b 2497 [x0, x1, x2, .ref n, x4, x5, x6, x7, x8] (.ref n :: st) hi g Φ) : AP M_L_law b 2496 [x0, x1, x2, .ref n, x4, x5, x6, x7, x8] (st) hi g Φ := AP.aload_n (x := n) (i := 3) d_L_law_2496 rfl rfl h
theorem d_L_law_2497 : decode code 2497 = .ok (.iconst 0, 1) := by decide +kernel
theorem s_L_law_2497 (h : AP M_L_law b 2498 [x0, x1, x2, x3, x4, x5, x6, x7, x8] (.int 0 :: st) hi g Φ) : AP M_L_law b 2497 [x0, x1, x2, x3, x4, x5, x6, x7, x8] (st) hi g Φ := AP.iconst (x := 0) d_L_law_2497 (by decide) h
theorem d_L_law_2498 : decode code 2498 = .ok (.laload, 1) := by decide +kernel
theorem s_L_law_2498 {k n j : Nat} {i : Int32} (hI : am_Inv g) (hs : am_SH k = (4, n)) (hk : k < 134) (hn : n < 2 ^ 31) (hx : i = nI j) (hj : j < n) (h : AP M_L_law b 2499 [x0, x1, x2, x3, x4, x5, x6, x7, x8] (.long (g.2.2 k j) :: st) hi g Φ) : AP M_L_law b 2498 [x0, x1, x2, x3, x4, x5, x6, x7, x8] (.int i :: .ref k :: st) hi g Φ := AP.lald d_L_law_2498 hs (hI.lt hk) hn hx hj h
theorem d_L_law_2499 : decode code 2499 = .ok (.iload 6, 2) := by decide +kernel
theorem s_L_law_2499 {n : Int32} (h : AP M_L_law b 2501 [x0, x1, x2, x3, x4, x5, .int n, x7, x8] (.int n :: st) hi g Φ) : AP M_L_law b 2499 [x0, x1, x2, x3, x4, x5, .int n, x7, x8] (st) hi g Φ := AP.iload (x := n) (i := 6) d_L_law_2499 rfl h
theorem d_L_law_2501 : decode code 2501 = .ok (.i2l, 1) := by decide +kernel
theorem s_L_law_2501 {x : Int32} (h : AP M_L_law b 2502 [x0, x1, x2, x3, x4, x5, x6, x7, x8] (.long x.toInt64 :: st) hi g Φ) : AP M_L_law b 2501 [x0, x1, x2, x3, x4, x5, x6, x7, x8] (.int x :: st) hi g Φ := AP.i2l d_L_law_2501 h
theorem d_L_law_2502 : decode code 2502 = .ok (.lcmp, 1) := by decide +kernel
theorem s_L_law_2502 {x y : Int64} (h : AP M_L_law b 2503 [x0, x1, x2, x3, x4, x5, x6, x7, x8] (.int (lg_cmp x y) :: st) hi g Φ) : AP M_L_law b 2502 [x0, x1, x2, x3, x4, x5, x6, x7, x8] (.long y :: .long x :: st) hi g Φ := AP.lcmp d_L_law_2502 h
theorem d_L_law_2503 : decode code 2503 = .ok (.ifCond .eq 5, 3) := by decide +kernel
theorem s_L_law_2503 {x : Int32} (h1 : x = 0 → AP M_L_law b 2508 [x0, x1, x2, x3, x4, x5, x6, x7, x8] st hi g Φ) (h2 : ¬ x = 0 → AP M_L_law b 2506 [x0, x1, x2, x3, x4, x5, x6, x7, x8] st hi g Φ) : AP M_L_law b 2503 [x0, x1, x2, x3, x4, x5, x6, x7, x8] (.int x :: st) hi g Φ := AP.if_eq d_L_law_2503 (by decide) h1 h2
theorem d_L_law_2506 : decode code 2506 = .ok (.iconst 0, 1) := by decide +kernel
theorem s_L_law_2506 (h : AP M_L_law b 2507 [x0, x1, x2, x3, x4, x5, x6, x7, x8] (.int 0 :: st) hi g Φ) : AP M_L_law b 2506 [x0, x1, x2, x3, x4, x5, x6, x7, x8] (st) hi g Φ := AP.iconst (x := 0) d_L_law_2506 (by decide) h
theorem d_L_law_2507 : decode code 2507 = .ok (.ireturn, 1) := by decide +kernel
theorem s_L_law_2507 {x : Int32} (hx : x = 0 ∨ x = 1) (h : Φ (.ok (some (.int x))) hi g) : AP M_L_law b 2507 [x0, x1, x2, x3, x4, x5, x6, x7, x8] [.int x] hi g Φ := AP.zret d_L_law_2507 rfl hx h
theorem d_L_law_2508 : decode code 2508 = .ok (.goto 243, 3) := by decide +kernel
theorem s_L_law_2508 (h : AP M_L_law b 2751 [x0, x1, x2, x3, x4, x5, x6, x7, x8] st hi g Φ) : AP M_L_law b 2508 [x0, x1, x2, x3, x4, x5, x6, x7, x8] st hi g Φ := AP.goto d_L_law_2508 (by decide) h
theorem d_L_law_2511 : decode code 2511 = .ok (.aload_n 1, 1) := by decide +kernel
theorem s_L_law_2511 {n : Nat} (h : AP M_L_law b 2512 [x0, .ref n, x2, x3, x4, x5, x6, x7, x8] (.ref n :: st) hi g Φ) : AP M_L_law b 2511 [x0, .ref n, x2, x3, x4, x5, x6, x7, x8] (st) hi g Φ := AP.aload_n (x := n) (i := 1) d_L_law_2511 rfl rfl h
theorem d_L_law_2512 : decode code 2512 = .ok (.aload_n 0, 1) := by decide +kernel
theorem s_L_law_2512 {n : Nat} (h : AP M_L_law b 2513 [.ref n, x1, x2, x3, x4, x5, x6, x7, x8] (.ref n :: st) hi g Φ) : AP M_L_law b 2512 [.ref n, x1, x2, x3, x4, x5, x6, x7, x8] (st) hi g Φ := AP.aload_n (x := n) (i := 0) d_L_law_2512 rfl rfl h
theorem d_L_law_2513 : decode code 2513 = .ok (.iload 4, 2) := by decide +kernel
theorem s_L_law_2513 {n : Int32} (h : AP M_L_law b 2515 [x0, x1, x2, x3, .int n, x5, x6, x7, x8] (.int n :: st) hi g Φ) : AP M_L_law b 2513 [x0, x1, x2, x3, .int n, x5, x6, x7, x8] (st) hi g Φ := AP.iload (x := n) (i := 4) d_L_law_2513 rfl h
theorem d_L_law_2515 : decode code 2515 = .ok (.iconst 1, 1) := by decide +kernel
theorem s_L_law_2515 (h : AP M_L_law b 2516 [x0, x1, x2, x3, x4, x5, x6, x7, x8] (.int 1 :: st) hi g Φ) : AP M_L_law b 2515 [x0, x1, x2, x3, x4, x5, x6, x7, x8] (st) hi g Φ := AP.iconst (x := 1) d_L_law_2515 (by decide) h
theorem d_L_law_2516 : decode code 2516 = .ok (.iadd, 1) := by decide +kernel
theorem s_L_law_2516 {x y : Int32} (h : AP M_L_law b 2517 [x0, x1, x2, x3, x4, x5, x6, x7, x8] (.int (x + y) :: st) hi g Φ) : AP M_L_law b 2516 [x0, x1, x2, x3, x4, x5, x6, x7, x8] (.int y :: .int x :: st) hi g Φ := AP.iadd d_L_law_2516 h
theorem d_L_law_2517 : decode code 2517 = .ok (.iaload, 1) := by decide +kernel
theorem s_L_law_2517 {k n j : Nat} {i : Int32} (hI : am_Inv g) (hs : am_SH k = (1, n)) (hk : k < 134) (hn : n < 2 ^ 31) (hx : i = nI j) (hj : j < n) (h : AP M_L_law b 2518 [x0, x1, x2, x3, x4, x5, x6, x7, x8] (.int (hi k j) :: st) hi g Φ) : AP M_L_law b 2517 [x0, x1, x2, x3, x4, x5, x6, x7, x8] (.int i :: .ref k :: st) hi g Φ := AP.iald d_L_law_2517 hs (hI.lt hk) hn hx hj h
theorem d_L_law_2518 : decode code 2518 = .ok (.aload_n 3, 1) := by decide +kernel
theorem s_L_law_2518 {n : Nat} (h : AP M_L_law b 2519 [x0, x1, x2, .ref n, x4, x5, x6, x7, x8] (.ref n :: st) hi g Φ) : AP M_L_law b 2518 [x0, x1, x2, .ref n, x4, x5, x6, x7, x8] (st) hi g Φ := AP.aload_n (x := n) (i := 3) d_L_law_2518 rfl rfl h
theorem d_L_law_2519 : decode code 2519 = .ok (.invokestatic 312, 3) := by decide +kernel
-- s_L_law_2519: a call apart
theorem d_L_law_2522 : decode code 2522 = .ok (.istore 5, 2) := by decide +kernel
theorem s_L_law_2522 {n : Int32} (hc : x4.category = 1) (h : AP M_L_law b 2524 [x0, x1, x2, x3, x4, .int n, x6, x7, x8] (st) hi g Φ) : AP M_L_law b 2522 [x0, x1, x2, x3, x4, x5, x6, x7, x8] (.int n :: st) hi g Φ := AP.istore (x := n) (i := 5) d_L_law_2522 (by decide) (by simp [am_st, am_ci, am_cr, am_cl, am_cd, hc]) h
theorem d_L_law_2524 : decode code 2524 = .ok (.aload_n 2, 1) := by decide +kernel
theorem s_L_law_2524 {n : Nat} (h : AP M_L_law b 2525 [x0, x1, .ref n, x3, x4, x5, x6, x7, x8] (.ref n :: st) hi g Φ) : AP M_L_law b 2524 [x0, x1, .ref n, x3, x4, x5, x6, x7, x8] (st) hi g Φ := AP.aload_n (x := n) (i := 2) d_L_law_2524 rfl rfl h
theorem d_L_law_2525 : decode code 2525 = .ok (.aload_n 0, 1) := by decide +kernel
theorem s_L_law_2525 {n : Nat} (h : AP M_L_law b 2526 [.ref n, x1, x2, x3, x4, x5, x6, x7, x8] (.ref n :: st) hi g Φ) : AP M_L_law b 2525 [.ref n, x1, x2, x3, x4, x5, x6, x7, x8] (st) hi g Φ := AP.aload_n (x := n) (i := 0) d_L_law_2525 rfl rfl h
theorem d_L_law_2526 : decode code 2526 = .ok (.iload 4, 2) := by decide +kernel
theorem s_L_law_2526 {n : Int32} (h : AP M_L_law b 2528 [x0, x1, x2, x3, .int n, x5, x6, x7, x8] (.int n :: st) hi g Φ) : AP M_L_law b 2526 [x0, x1, x2, x3, .int n, x5, x6, x7, x8] (st) hi g Φ := AP.iload (x := n) (i := 4) d_L_law_2526 rfl h
theorem d_L_law_2528 : decode code 2528 = .ok (.iconst 1, 1) := by decide +kernel
theorem s_L_law_2528 (h : AP M_L_law b 2529 [x0, x1, x2, x3, x4, x5, x6, x7, x8] (.int 1 :: st) hi g Φ) : AP M_L_law b 2528 [x0, x1, x2, x3, x4, x5, x6, x7, x8] (st) hi g Φ := AP.iconst (x := 1) d_L_law_2528 (by decide) h
theorem d_L_law_2529 : decode code 2529 = .ok (.iadd, 1) := by decide +kernel
theorem s_L_law_2529 {x y : Int32} (h : AP M_L_law b 2530 [x0, x1, x2, x3, x4, x5, x6, x7, x8] (.int (x + y) :: st) hi g Φ) : AP M_L_law b 2529 [x0, x1, x2, x3, x4, x5, x6, x7, x8] (.int y :: .int x :: st) hi g Φ := AP.iadd d_L_law_2529 h
theorem d_L_law_2530 : decode code 2530 = .ok (.iaload, 1) := by decide +kernel
theorem s_L_law_2530 {k n j : Nat} {i : Int32} (hI : am_Inv g) (hs : am_SH k = (1, n)) (hk : k < 134) (hn : n < 2 ^ 31) (hx : i = nI j) (hj : j < n) (h : AP M_L_law b 2531 [x0, x1, x2, x3, x4, x5, x6, x7, x8] (.int (hi k j) :: st) hi g Φ) : AP M_L_law b 2530 [x0, x1, x2, x3, x4, x5, x6, x7, x8] (.int i :: .ref k :: st) hi g Φ := AP.iald d_L_law_2530 hs (hI.lt hk) hn hx hj h
theorem d_L_law_2531 : decode code 2531 = .ok (.invokevirtual 314, 3) := by decide +kernel
theorem s_L_law_2531 {a0 : Int32} {k : Nat} {r0 : Int32} {P : am_HI → Prop} (hI : am_Inv g) (hs : am_SH k = (0, 10)) (hk : k < 134) (hst : (st.map Value.category).sum ≤ 8) (hc : am_Cr M_X10_goBack [.ref k, .int a0] hi g (some (.int r0)) P) (h : ∀ hi' : am_HI, P hi' → AP M_L_law b 2534 [x0, x1, x2, x3, x4, x5, x6, x7, x8] (.int r0 :: st) hi' g Φ) : AP M_L_law b 2531 [x0, x1, x2, x3, x4, x5, x6, x7, x8] (.int a0 :: .ref k :: st) hi g Φ := AP.callVr (As := [.int a0]) (q := (RX10, TX10, 15)) hI hc k_L_law_314 d_L_law_2531 rfl hs hk rfl rfl hst h
theorem d_L_law_2534 : decode code 2534 = .ok (.istore 6, 2) := by decide +kernel
theorem s_L_law_2534 {n : Int32} (hc : x5.category = 1) (h : AP M_L_law b 2536 [x0, x1, x2, x3, x4, x5, .int n, x7, x8] (st) hi g Φ) : AP M_L_law b 2534 [x0, x1, x2, x3, x4, x5, x6, x7, x8] (.int n :: st) hi g Φ := AP.istore (x := n) (i := 6) d_L_law_2534 (by decide) (by simp [am_st, am_ci, am_cr, am_cl, am_cd, hc]) h
theorem d_L_law_2536 : decode code 2536 = .ok (.aload_n 2, 1) := by decide +kernel
theorem s_L_law_2536 {n : Nat} (h : AP M_L_law b 2537 [x0, x1, .ref n, x3, x4, x5, x6, x7, x8] (.ref n :: st) hi g Φ) : AP M_L_law b 2536 [x0, x1, .ref n, x3, x4, x5, x6, x7, x8] (st) hi g Φ := AP.aload_n (x := n) (i := 2) d_L_law_2536 rfl rfl h
theorem d_L_law_2537 : decode code 2537 = .ok (.invokevirtual 141, 3) := by decide +kernel
theorem s_L_law_2537  {k : Nat} {r0 : Int32} {P : am_HI → Prop} (hI : am_Inv g) (hs : am_SH k = (0, 10)) (hk : k < 134) (hst : (st.map Value.category).sum ≤ 8) (hc : am_Cr M_X10_thrown [.ref k] hi g (some (.int r0)) P) (h : ∀ hi' : am_HI, P hi' → AP M_L_law b 2540 [x0, x1, x2, x3, x4, x5, x6, x7, x8] (.int r0 :: st) hi' g Φ) : AP M_L_law b 2537 [x0, x1, x2, x3, x4, x5, x6, x7, x8] (.ref k :: st) hi g Φ := AP.callVr (As := []) (q := (RX10, TX10, 15)) hI hc k_L_law_141 d_L_law_2537 rfl hs hk rfl rfl hst h
theorem d_L_law_2540 : decode code 2540 = .ok (.iload 5, 2) := by decide +kernel
theorem s_L_law_2540 {n : Int32} (h : AP M_L_law b 2542 [x0, x1, x2, x3, x4, .int n, x6, x7, x8] (.int n :: st) hi g Φ) : AP M_L_law b 2540 [x0, x1, x2, x3, x4, .int n, x6, x7, x8] (st) hi g Φ := AP.iload (x := n) (i := 5) d_L_law_2540 rfl h
theorem d_L_law_2542 : decode code 2542 = .ok (.if_icmp .eq 5, 3) := by decide +kernel
theorem s_L_law_2542 {x y : Int32} (h1 : x = y → AP M_L_law b 2547 [x0, x1, x2, x3, x4, x5, x6, x7, x8] st hi g Φ) (h2 : ¬ x = y → AP M_L_law b 2545 [x0, x1, x2, x3, x4, x5, x6, x7, x8] st hi g Φ) : AP M_L_law b 2542 [x0, x1, x2, x3, x4, x5, x6, x7, x8] (.int y :: .int x :: st) hi g Φ := AP.icmp_eq d_L_law_2542 (by decide) h1 h2
theorem d_L_law_2545 : decode code 2545 = .ok (.iconst 0, 1) := by decide +kernel
theorem s_L_law_2545 (h : AP M_L_law b 2546 [x0, x1, x2, x3, x4, x5, x6, x7, x8] (.int 0 :: st) hi g Φ) : AP M_L_law b 2545 [x0, x1, x2, x3, x4, x5, x6, x7, x8] (st) hi g Φ := AP.iconst (x := 0) d_L_law_2545 (by decide) h
theorem d_L_law_2546 : decode code 2546 = .ok (.ireturn, 1) := by decide +kernel
theorem s_L_law_2546 {x : Int32} (hx : x = 0 ∨ x = 1) (h : Φ (.ok (some (.int x))) hi g) : AP M_L_law b 2546 [x0, x1, x2, x3, x4, x5, x6, x7, x8] [.int x] hi g Φ := AP.zret d_L_law_2546 rfl hx h
theorem d_L_law_2547 : decode code 2547 = .ok (.iload 5, 2) := by decide +kernel
theorem s_L_law_2547 {n : Int32} (h : AP M_L_law b 2549 [x0, x1, x2, x3, x4, .int n, x6, x7, x8] (.int n :: st) hi g Φ) : AP M_L_law b 2547 [x0, x1, x2, x3, x4, .int n, x6, x7, x8] (st) hi g Φ := AP.iload (x := n) (i := 5) d_L_law_2547 rfl h
theorem d_L_law_2549 : decode code 2549 = .ok (.ifCond .ne 15, 3) := by decide +kernel
theorem s_L_law_2549 {x : Int32} (h1 : ¬ x = 0 → AP M_L_law b 2564 [x0, x1, x2, x3, x4, x5, x6, x7, x8] st hi g Φ) (h2 : x = 0 → AP M_L_law b 2552 [x0, x1, x2, x3, x4, x5, x6, x7, x8] st hi g Φ) : AP M_L_law b 2549 [x0, x1, x2, x3, x4, x5, x6, x7, x8] (.int x :: st) hi g Φ := AP.if_ne d_L_law_2549 (by decide) h1 h2
theorem d_L_law_2552 : decode code 2552 = .ok (.aload_n 3, 1) := by decide +kernel
theorem s_L_law_2552 {n : Nat} (h : AP M_L_law b 2553 [x0, x1, x2, .ref n, x4, x5, x6, x7, x8] (.ref n :: st) hi g Φ) : AP M_L_law b 2552 [x0, x1, x2, .ref n, x4, x5, x6, x7, x8] (st) hi g Φ := AP.aload_n (x := n) (i := 3) d_L_law_2552 rfl rfl h
theorem d_L_law_2553 : decode code 2553 = .ok (.iconst 0, 1) := by decide +kernel
theorem s_L_law_2553 (h : AP M_L_law b 2554 [x0, x1, x2, x3, x4, x5, x6, x7, x8] (.int 0 :: st) hi g Φ) : AP M_L_law b 2553 [x0, x1, x2, x3, x4, x5, x6, x7, x8] (st) hi g Φ := AP.iconst (x := 0) d_L_law_2553 (by decide) h
theorem d_L_law_2554 : decode code 2554 = .ok (.laload, 1) := by decide +kernel
theorem s_L_law_2554 {k n j : Nat} {i : Int32} (hI : am_Inv g) (hs : am_SH k = (4, n)) (hk : k < 134) (hn : n < 2 ^ 31) (hx : i = nI j) (hj : j < n) (h : AP M_L_law b 2555 [x0, x1, x2, x3, x4, x5, x6, x7, x8] (.long (g.2.2 k j) :: st) hi g Φ) : AP M_L_law b 2554 [x0, x1, x2, x3, x4, x5, x6, x7, x8] (.int i :: .ref k :: st) hi g Φ := AP.lald d_L_law_2554 hs (hI.lt hk) hn hx hj h
theorem d_L_law_2555 : decode code 2555 = .ok (.iload 6, 2) := by decide +kernel
theorem s_L_law_2555 {n : Int32} (h : AP M_L_law b 2557 [x0, x1, x2, x3, x4, x5, .int n, x7, x8] (.int n :: st) hi g Φ) : AP M_L_law b 2555 [x0, x1, x2, x3, x4, x5, .int n, x7, x8] (st) hi g Φ := AP.iload (x := n) (i := 6) d_L_law_2555 rfl h
theorem d_L_law_2557 : decode code 2557 = .ok (.i2l, 1) := by decide +kernel
theorem s_L_law_2557 {x : Int32} (h : AP M_L_law b 2558 [x0, x1, x2, x3, x4, x5, x6, x7, x8] (.long x.toInt64 :: st) hi g Φ) : AP M_L_law b 2557 [x0, x1, x2, x3, x4, x5, x6, x7, x8] (.int x :: st) hi g Φ := AP.i2l d_L_law_2557 h
theorem d_L_law_2558 : decode code 2558 = .ok (.lcmp, 1) := by decide +kernel
theorem s_L_law_2558 {x y : Int64} (h : AP M_L_law b 2559 [x0, x1, x2, x3, x4, x5, x6, x7, x8] (.int (lg_cmp x y) :: st) hi g Φ) : AP M_L_law b 2558 [x0, x1, x2, x3, x4, x5, x6, x7, x8] (.long y :: .long x :: st) hi g Φ := AP.lcmp d_L_law_2558 h
theorem d_L_law_2559 : decode code 2559 = .ok (.ifCond .eq 5, 3) := by decide +kernel
theorem s_L_law_2559 {x : Int32} (h1 : x = 0 → AP M_L_law b 2564 [x0, x1, x2, x3, x4, x5, x6, x7, x8] st hi g Φ) (h2 : ¬ x = 0 → AP M_L_law b 2562 [x0, x1, x2, x3, x4, x5, x6, x7, x8] st hi g Φ) : AP M_L_law b 2559 [x0, x1, x2, x3, x4, x5, x6, x7, x8] (.int x :: st) hi g Φ := AP.if_eq d_L_law_2559 (by decide) h1 h2
theorem d_L_law_2562 : decode code 2562 = .ok (.iconst 0, 1) := by decide +kernel
theorem s_L_law_2562 (h : AP M_L_law b 2563 [x0, x1, x2, x3, x4, x5, x6, x7, x8] (.int 0 :: st) hi g Φ) : AP M_L_law b 2562 [x0, x1, x2, x3, x4, x5, x6, x7, x8] (st) hi g Φ := AP.iconst (x := 0) d_L_law_2562 (by decide) h
theorem d_L_law_2563 : decode code 2563 = .ok (.ireturn, 1) := by decide +kernel
theorem s_L_law_2563 {x : Int32} (hx : x = 0 ∨ x = 1) (h : Φ (.ok (some (.int x))) hi g) : AP M_L_law b 2563 [x0, x1, x2, x3, x4, x5, x6, x7, x8] [.int x] hi g Φ := AP.zret d_L_law_2563 rfl hx h
theorem d_L_law_2564 : decode code 2564 = .ok (.goto 187, 3) := by decide +kernel
theorem s_L_law_2564 (h : AP M_L_law b 2751 [x0, x1, x2, x3, x4, x5, x6, x7, x8] st hi g Φ) : AP M_L_law b 2564 [x0, x1, x2, x3, x4, x5, x6, x7, x8] st hi g Φ := AP.goto d_L_law_2564 (by decide) h
theorem d_L_law_2567 : decode code 2567 = .ok (.aload_n 1, 1) := by decide +kernel
theorem s_L_law_2567 {n : Nat} (h : AP M_L_law b 2568 [x0, .ref n, x2, x3, x4, x5, x6, x7, x8] (.ref n :: st) hi g Φ) : AP M_L_law b 2567 [x0, .ref n, x2, x3, x4, x5, x6, x7, x8] (st) hi g Φ := AP.aload_n (x := n) (i := 1) d_L_law_2567 rfl rfl h
theorem d_L_law_2568 : decode code 2568 = .ok (.aload_n 0, 1) := by decide +kernel
theorem s_L_law_2568 {n : Nat} (h : AP M_L_law b 2569 [.ref n, x1, x2, x3, x4, x5, x6, x7, x8] (.ref n :: st) hi g Φ) : AP M_L_law b 2568 [.ref n, x1, x2, x3, x4, x5, x6, x7, x8] (st) hi g Φ := AP.aload_n (x := n) (i := 0) d_L_law_2568 rfl rfl h
theorem d_L_law_2569 : decode code 2569 = .ok (.iload 4, 2) := by decide +kernel
theorem s_L_law_2569 {n : Int32} (h : AP M_L_law b 2571 [x0, x1, x2, x3, .int n, x5, x6, x7, x8] (.int n :: st) hi g Φ) : AP M_L_law b 2569 [x0, x1, x2, x3, .int n, x5, x6, x7, x8] (st) hi g Φ := AP.iload (x := n) (i := 4) d_L_law_2569 rfl h
theorem d_L_law_2571 : decode code 2571 = .ok (.iconst 1, 1) := by decide +kernel
theorem s_L_law_2571 (h : AP M_L_law b 2572 [x0, x1, x2, x3, x4, x5, x6, x7, x8] (.int 1 :: st) hi g Φ) : AP M_L_law b 2571 [x0, x1, x2, x3, x4, x5, x6, x7, x8] (st) hi g Φ := AP.iconst (x := 1) d_L_law_2571 (by decide) h
theorem d_L_law_2572 : decode code 2572 = .ok (.iadd, 1) := by decide +kernel
theorem s_L_law_2572 {x y : Int32} (h : AP M_L_law b 2573 [x0, x1, x2, x3, x4, x5, x6, x7, x8] (.int (x + y) :: st) hi g Φ) : AP M_L_law b 2572 [x0, x1, x2, x3, x4, x5, x6, x7, x8] (.int y :: .int x :: st) hi g Φ := AP.iadd d_L_law_2572 h
theorem d_L_law_2573 : decode code 2573 = .ok (.iaload, 1) := by decide +kernel
theorem s_L_law_2573 {k n j : Nat} {i : Int32} (hI : am_Inv g) (hs : am_SH k = (1, n)) (hk : k < 134) (hn : n < 2 ^ 31) (hx : i = nI j) (hj : j < n) (h : AP M_L_law b 2574 [x0, x1, x2, x3, x4, x5, x6, x7, x8] (.int (hi k j) :: st) hi g Φ) : AP M_L_law b 2573 [x0, x1, x2, x3, x4, x5, x6, x7, x8] (.int i :: .ref k :: st) hi g Φ := AP.iald d_L_law_2573 hs (hI.lt hk) hn hx hj h
theorem d_L_law_2574 : decode code 2574 = .ok (.aload_n 3, 1) := by decide +kernel
theorem s_L_law_2574 {n : Nat} (h : AP M_L_law b 2575 [x0, x1, x2, .ref n, x4, x5, x6, x7, x8] (.ref n :: st) hi g Φ) : AP M_L_law b 2574 [x0, x1, x2, .ref n, x4, x5, x6, x7, x8] (st) hi g Φ := AP.aload_n (x := n) (i := 3) d_L_law_2574 rfl rfl h
theorem d_L_law_2575 : decode code 2575 = .ok (.invokestatic 315, 3) := by decide +kernel
-- s_L_law_2575: a call apart
theorem d_L_law_2578 : decode code 2578 = .ok (.istore 5, 2) := by decide +kernel
theorem s_L_law_2578 {n : Int32} (hc : x4.category = 1) (h : AP M_L_law b 2580 [x0, x1, x2, x3, x4, .int n, x6, x7, x8] (st) hi g Φ) : AP M_L_law b 2578 [x0, x1, x2, x3, x4, x5, x6, x7, x8] (.int n :: st) hi g Φ := AP.istore (x := n) (i := 5) d_L_law_2578 (by decide) (by simp [am_st, am_ci, am_cr, am_cl, am_cd, hc]) h
theorem d_L_law_2580 : decode code 2580 = .ok (.aload_n 2, 1) := by decide +kernel
theorem s_L_law_2580 {n : Nat} (h : AP M_L_law b 2581 [x0, x1, .ref n, x3, x4, x5, x6, x7, x8] (.ref n :: st) hi g Φ) : AP M_L_law b 2580 [x0, x1, .ref n, x3, x4, x5, x6, x7, x8] (st) hi g Φ := AP.aload_n (x := n) (i := 2) d_L_law_2580 rfl rfl h
theorem d_L_law_2581 : decode code 2581 = .ok (.aload_n 0, 1) := by decide +kernel
theorem s_L_law_2581 {n : Nat} (h : AP M_L_law b 2582 [.ref n, x1, x2, x3, x4, x5, x6, x7, x8] (.ref n :: st) hi g Φ) : AP M_L_law b 2581 [.ref n, x1, x2, x3, x4, x5, x6, x7, x8] (st) hi g Φ := AP.aload_n (x := n) (i := 0) d_L_law_2581 rfl rfl h
theorem d_L_law_2582 : decode code 2582 = .ok (.iload 4, 2) := by decide +kernel
theorem s_L_law_2582 {n : Int32} (h : AP M_L_law b 2584 [x0, x1, x2, x3, .int n, x5, x6, x7, x8] (.int n :: st) hi g Φ) : AP M_L_law b 2582 [x0, x1, x2, x3, .int n, x5, x6, x7, x8] (st) hi g Φ := AP.iload (x := n) (i := 4) d_L_law_2582 rfl h
theorem d_L_law_2584 : decode code 2584 = .ok (.iconst 1, 1) := by decide +kernel
theorem s_L_law_2584 (h : AP M_L_law b 2585 [x0, x1, x2, x3, x4, x5, x6, x7, x8] (.int 1 :: st) hi g Φ) : AP M_L_law b 2584 [x0, x1, x2, x3, x4, x5, x6, x7, x8] (st) hi g Φ := AP.iconst (x := 1) d_L_law_2584 (by decide) h
theorem d_L_law_2585 : decode code 2585 = .ok (.iadd, 1) := by decide +kernel
theorem s_L_law_2585 {x y : Int32} (h : AP M_L_law b 2586 [x0, x1, x2, x3, x4, x5, x6, x7, x8] (.int (x + y) :: st) hi g Φ) : AP M_L_law b 2585 [x0, x1, x2, x3, x4, x5, x6, x7, x8] (.int y :: .int x :: st) hi g Φ := AP.iadd d_L_law_2585 h
theorem d_L_law_2586 : decode code 2586 = .ok (.iaload, 1) := by decide +kernel
theorem s_L_law_2586 {k n j : Nat} {i : Int32} (hI : am_Inv g) (hs : am_SH k = (1, n)) (hk : k < 134) (hn : n < 2 ^ 31) (hx : i = nI j) (hj : j < n) (h : AP M_L_law b 2587 [x0, x1, x2, x3, x4, x5, x6, x7, x8] (.int (hi k j) :: st) hi g Φ) : AP M_L_law b 2586 [x0, x1, x2, x3, x4, x5, x6, x7, x8] (.int i :: .ref k :: st) hi g Φ := AP.iald d_L_law_2586 hs (hI.lt hk) hn hx hj h
theorem d_L_law_2587 : decode code 2587 = .ok (.invokevirtual 317, 3) := by decide +kernel
theorem s_L_law_2587 {a0 : Int32} {k : Nat} {r0 : Int32} {P : am_HI → Prop} (hI : am_Inv g) (hs : am_SH k = (0, 10)) (hk : k < 134) (hst : (st.map Value.category).sum ≤ 8) (hc : am_Cr M_X10_append [.ref k, .int a0] hi g (some (.int r0)) P) (h : ∀ hi' : am_HI, P hi' → AP M_L_law b 2590 [x0, x1, x2, x3, x4, x5, x6, x7, x8] (.int r0 :: st) hi' g Φ) : AP M_L_law b 2587 [x0, x1, x2, x3, x4, x5, x6, x7, x8] (.int a0 :: .ref k :: st) hi g Φ := AP.callVr (As := [.int a0]) (q := (RX10, TX10, 15)) hI hc k_L_law_317 d_L_law_2587 rfl hs hk rfl rfl hst h
theorem d_L_law_2590 : decode code 2590 = .ok (.istore 6, 2) := by decide +kernel
theorem s_L_law_2590 {n : Int32} (hc : x5.category = 1) (h : AP M_L_law b 2592 [x0, x1, x2, x3, x4, x5, .int n, x7, x8] (st) hi g Φ) : AP M_L_law b 2590 [x0, x1, x2, x3, x4, x5, x6, x7, x8] (.int n :: st) hi g Φ := AP.istore (x := n) (i := 6) d_L_law_2590 (by decide) (by simp [am_st, am_ci, am_cr, am_cl, am_cd, hc]) h
theorem d_L_law_2592 : decode code 2592 = .ok (.aload_n 2, 1) := by decide +kernel
theorem s_L_law_2592 {n : Nat} (h : AP M_L_law b 2593 [x0, x1, .ref n, x3, x4, x5, x6, x7, x8] (.ref n :: st) hi g Φ) : AP M_L_law b 2592 [x0, x1, .ref n, x3, x4, x5, x6, x7, x8] (st) hi g Φ := AP.aload_n (x := n) (i := 2) d_L_law_2592 rfl rfl h
theorem d_L_law_2593 : decode code 2593 = .ok (.invokevirtual 141, 3) := by decide +kernel
theorem s_L_law_2593  {k : Nat} {r0 : Int32} {P : am_HI → Prop} (hI : am_Inv g) (hs : am_SH k = (0, 10)) (hk : k < 134) (hst : (st.map Value.category).sum ≤ 8) (hc : am_Cr M_X10_thrown [.ref k] hi g (some (.int r0)) P) (h : ∀ hi' : am_HI, P hi' → AP M_L_law b 2596 [x0, x1, x2, x3, x4, x5, x6, x7, x8] (.int r0 :: st) hi' g Φ) : AP M_L_law b 2593 [x0, x1, x2, x3, x4, x5, x6, x7, x8] (.ref k :: st) hi g Φ := AP.callVr (As := []) (q := (RX10, TX10, 15)) hI hc k_L_law_141 d_L_law_2593 rfl hs hk rfl rfl hst h
theorem d_L_law_2596 : decode code 2596 = .ok (.iload 5, 2) := by decide +kernel
theorem s_L_law_2596 {n : Int32} (h : AP M_L_law b 2598 [x0, x1, x2, x3, x4, .int n, x6, x7, x8] (.int n :: st) hi g Φ) : AP M_L_law b 2596 [x0, x1, x2, x3, x4, .int n, x6, x7, x8] (st) hi g Φ := AP.iload (x := n) (i := 5) d_L_law_2596 rfl h
theorem d_L_law_2598 : decode code 2598 = .ok (.if_icmp .eq 5, 3) := by decide +kernel
theorem s_L_law_2598 {x y : Int32} (h1 : x = y → AP M_L_law b 2603 [x0, x1, x2, x3, x4, x5, x6, x7, x8] st hi g Φ) (h2 : ¬ x = y → AP M_L_law b 2601 [x0, x1, x2, x3, x4, x5, x6, x7, x8] st hi g Φ) : AP M_L_law b 2598 [x0, x1, x2, x3, x4, x5, x6, x7, x8] (.int y :: .int x :: st) hi g Φ := AP.icmp_eq d_L_law_2598 (by decide) h1 h2
theorem d_L_law_2601 : decode code 2601 = .ok (.iconst 0, 1) := by decide +kernel
theorem s_L_law_2601 (h : AP M_L_law b 2602 [x0, x1, x2, x3, x4, x5, x6, x7, x8] (.int 0 :: st) hi g Φ) : AP M_L_law b 2601 [x0, x1, x2, x3, x4, x5, x6, x7, x8] (st) hi g Φ := AP.iconst (x := 0) d_L_law_2601 (by decide) h
theorem d_L_law_2602 : decode code 2602 = .ok (.ireturn, 1) := by decide +kernel
theorem s_L_law_2602 {x : Int32} (hx : x = 0 ∨ x = 1) (h : Φ (.ok (some (.int x))) hi g) : AP M_L_law b 2602 [x0, x1, x2, x3, x4, x5, x6, x7, x8] [.int x] hi g Φ := AP.zret d_L_law_2602 rfl hx h
theorem d_L_law_2603 : decode code 2603 = .ok (.iload 5, 2) := by decide +kernel
theorem s_L_law_2603 {n : Int32} (h : AP M_L_law b 2605 [x0, x1, x2, x3, x4, .int n, x6, x7, x8] (.int n :: st) hi g Φ) : AP M_L_law b 2603 [x0, x1, x2, x3, x4, .int n, x6, x7, x8] (st) hi g Φ := AP.iload (x := n) (i := 5) d_L_law_2603 rfl h
theorem d_L_law_2605 : decode code 2605 = .ok (.ifCond .ne 15, 3) := by decide +kernel
theorem s_L_law_2605 {x : Int32} (h1 : ¬ x = 0 → AP M_L_law b 2620 [x0, x1, x2, x3, x4, x5, x6, x7, x8] st hi g Φ) (h2 : x = 0 → AP M_L_law b 2608 [x0, x1, x2, x3, x4, x5, x6, x7, x8] st hi g Φ) : AP M_L_law b 2605 [x0, x1, x2, x3, x4, x5, x6, x7, x8] (.int x :: st) hi g Φ := AP.if_ne d_L_law_2605 (by decide) h1 h2
theorem d_L_law_2608 : decode code 2608 = .ok (.aload_n 3, 1) := by decide +kernel
theorem s_L_law_2608 {n : Nat} (h : AP M_L_law b 2609 [x0, x1, x2, .ref n, x4, x5, x6, x7, x8] (.ref n :: st) hi g Φ) : AP M_L_law b 2608 [x0, x1, x2, .ref n, x4, x5, x6, x7, x8] (st) hi g Φ := AP.aload_n (x := n) (i := 3) d_L_law_2608 rfl rfl h
theorem d_L_law_2609 : decode code 2609 = .ok (.iconst 0, 1) := by decide +kernel
theorem s_L_law_2609 (h : AP M_L_law b 2610 [x0, x1, x2, x3, x4, x5, x6, x7, x8] (.int 0 :: st) hi g Φ) : AP M_L_law b 2609 [x0, x1, x2, x3, x4, x5, x6, x7, x8] (st) hi g Φ := AP.iconst (x := 0) d_L_law_2609 (by decide) h
theorem d_L_law_2610 : decode code 2610 = .ok (.laload, 1) := by decide +kernel
theorem s_L_law_2610 {k n j : Nat} {i : Int32} (hI : am_Inv g) (hs : am_SH k = (4, n)) (hk : k < 134) (hn : n < 2 ^ 31) (hx : i = nI j) (hj : j < n) (h : AP M_L_law b 2611 [x0, x1, x2, x3, x4, x5, x6, x7, x8] (.long (g.2.2 k j) :: st) hi g Φ) : AP M_L_law b 2610 [x0, x1, x2, x3, x4, x5, x6, x7, x8] (.int i :: .ref k :: st) hi g Φ := AP.lald d_L_law_2610 hs (hI.lt hk) hn hx hj h
theorem d_L_law_2611 : decode code 2611 = .ok (.iload 6, 2) := by decide +kernel
theorem s_L_law_2611 {n : Int32} (h : AP M_L_law b 2613 [x0, x1, x2, x3, x4, x5, .int n, x7, x8] (.int n :: st) hi g Φ) : AP M_L_law b 2611 [x0, x1, x2, x3, x4, x5, .int n, x7, x8] (st) hi g Φ := AP.iload (x := n) (i := 6) d_L_law_2611 rfl h
theorem d_L_law_2613 : decode code 2613 = .ok (.i2l, 1) := by decide +kernel
theorem s_L_law_2613 {x : Int32} (h : AP M_L_law b 2614 [x0, x1, x2, x3, x4, x5, x6, x7, x8] (.long x.toInt64 :: st) hi g Φ) : AP M_L_law b 2613 [x0, x1, x2, x3, x4, x5, x6, x7, x8] (.int x :: st) hi g Φ := AP.i2l d_L_law_2613 h
theorem d_L_law_2614 : decode code 2614 = .ok (.lcmp, 1) := by decide +kernel
theorem s_L_law_2614 {x y : Int64} (h : AP M_L_law b 2615 [x0, x1, x2, x3, x4, x5, x6, x7, x8] (.int (lg_cmp x y) :: st) hi g Φ) : AP M_L_law b 2614 [x0, x1, x2, x3, x4, x5, x6, x7, x8] (.long y :: .long x :: st) hi g Φ := AP.lcmp d_L_law_2614 h
theorem d_L_law_2615 : decode code 2615 = .ok (.ifCond .eq 5, 3) := by decide +kernel
theorem s_L_law_2615 {x : Int32} (h1 : x = 0 → AP M_L_law b 2620 [x0, x1, x2, x3, x4, x5, x6, x7, x8] st hi g Φ) (h2 : ¬ x = 0 → AP M_L_law b 2618 [x0, x1, x2, x3, x4, x5, x6, x7, x8] st hi g Φ) : AP M_L_law b 2615 [x0, x1, x2, x3, x4, x5, x6, x7, x8] (.int x :: st) hi g Φ := AP.if_eq d_L_law_2615 (by decide) h1 h2
theorem d_L_law_2618 : decode code 2618 = .ok (.iconst 0, 1) := by decide +kernel
theorem s_L_law_2618 (h : AP M_L_law b 2619 [x0, x1, x2, x3, x4, x5, x6, x7, x8] (.int 0 :: st) hi g Φ) : AP M_L_law b 2618 [x0, x1, x2, x3, x4, x5, x6, x7, x8] (st) hi g Φ := AP.iconst (x := 0) d_L_law_2618 (by decide) h
theorem d_L_law_2619 : decode code 2619 = .ok (.ireturn, 1) := by decide +kernel
theorem s_L_law_2619 {x : Int32} (hx : x = 0 ∨ x = 1) (h : Φ (.ok (some (.int x))) hi g) : AP M_L_law b 2619 [x0, x1, x2, x3, x4, x5, x6, x7, x8] [.int x] hi g Φ := AP.zret d_L_law_2619 rfl hx h
theorem d_L_law_2620 : decode code 2620 = .ok (.goto 131, 3) := by decide +kernel
theorem s_L_law_2620 (h : AP M_L_law b 2751 [x0, x1, x2, x3, x4, x5, x6, x7, x8] st hi g Φ) : AP M_L_law b 2620 [x0, x1, x2, x3, x4, x5, x6, x7, x8] st hi g Φ := AP.goto d_L_law_2620 (by decide) h
theorem d_L_law_2623 : decode code 2623 = .ok (.aload_n 1, 1) := by decide +kernel
theorem s_L_law_2623 {n : Nat} (h : AP M_L_law b 2624 [x0, .ref n, x2, x3, x4, x5, x6, x7, x8] (.ref n :: st) hi g Φ) : AP M_L_law b 2623 [x0, .ref n, x2, x3, x4, x5, x6, x7, x8] (st) hi g Φ := AP.aload_n (x := n) (i := 1) d_L_law_2623 rfl rfl h
theorem d_L_law_2624 : decode code 2624 = .ok (.invokevirtual 318, 3) := by decide +kernel
theorem s_L_law_2624  {k : Nat} {r0 : Int32} {P : am_HI → Prop} (hI : am_Inv g) (hs : am_SH k = (0, 9)) (hk : k < 134) (hst : (st.map Value.category).sum ≤ 8) (hc : am_Cr M_X9_clearText [.ref k] hi g (some (.int r0)) P) (h : ∀ hi' : am_HI, P hi' → AP M_L_law b 2627 [x0, x1, x2, x3, x4, x5, x6, x7, x8] (.int r0 :: st) hi' g Φ) : AP M_L_law b 2624 [x0, x1, x2, x3, x4, x5, x6, x7, x8] (.ref k :: st) hi g Φ := AP.callVr (As := []) (q := (RX9, TX9, 7)) hI hc k_L_law_318 d_L_law_2624 rfl hs hk rfl rfl hst h
theorem d_L_law_2627 : decode code 2627 = .ok (.aload_n 2, 1) := by decide +kernel
theorem s_L_law_2627 {n : Nat} (h : AP M_L_law b 2628 [x0, x1, .ref n, x3, x4, x5, x6, x7, x8] (.ref n :: st) hi g Φ) : AP M_L_law b 2627 [x0, x1, .ref n, x3, x4, x5, x6, x7, x8] (st) hi g Φ := AP.aload_n (x := n) (i := 2) d_L_law_2627 rfl rfl h
theorem d_L_law_2628 : decode code 2628 = .ok (.invokevirtual 321, 3) := by decide +kernel
theorem s_L_law_2628  {k : Nat} {r0 : Int32} {P : am_HI → Prop} (hI : am_Inv g) (hs : am_SH k = (0, 10)) (hk : k < 134) (hst : (st.map Value.category).sum ≤ 8) (hc : am_Cr M_X10_clearText [.ref k] hi g (some (.int r0)) P) (h : ∀ hi' : am_HI, P hi' → AP M_L_law b 2631 [x0, x1, x2, x3, x4, x5, x6, x7, x8] (.int r0 :: st) hi' g Φ) : AP M_L_law b 2628 [x0, x1, x2, x3, x4, x5, x6, x7, x8] (.ref k :: st) hi g Φ := AP.callVr (As := []) (q := (RX10, TX10, 15)) hI hc k_L_law_321 d_L_law_2628 rfl hs hk rfl rfl hst h
theorem d_L_law_2631 : decode code 2631 = .ok (.if_icmp .eq 120, 3) := by decide +kernel
theorem s_L_law_2631 {x y : Int32} (h1 : x = y → AP M_L_law b 2751 [x0, x1, x2, x3, x4, x5, x6, x7, x8] st hi g Φ) (h2 : ¬ x = y → AP M_L_law b 2634 [x0, x1, x2, x3, x4, x5, x6, x7, x8] st hi g Φ) : AP M_L_law b 2631 [x0, x1, x2, x3, x4, x5, x6, x7, x8] (.int y :: .int x :: st) hi g Φ := AP.icmp_eq d_L_law_2631 (by decide) h1 h2
theorem d_L_law_2634 : decode code 2634 = .ok (.iconst 0, 1) := by decide +kernel
theorem s_L_law_2634 (h : AP M_L_law b 2635 [x0, x1, x2, x3, x4, x5, x6, x7, x8] (.int 0 :: st) hi g Φ) : AP M_L_law b 2634 [x0, x1, x2, x3, x4, x5, x6, x7, x8] (st) hi g Φ := AP.iconst (x := 0) d_L_law_2634 (by decide) h
theorem d_L_law_2635 : decode code 2635 = .ok (.ireturn, 1) := by decide +kernel
theorem s_L_law_2635 {x : Int32} (hx : x = 0 ∨ x = 1) (h : Φ (.ok (some (.int x))) hi g) : AP M_L_law b 2635 [x0, x1, x2, x3, x4, x5, x6, x7, x8] [.int x] hi g Φ := AP.zret d_L_law_2635 rfl hx h
theorem d_L_law_2636 : decode code 2636 = .ok (.aload_n 1, 1) := by decide +kernel
theorem s_L_law_2636 {n : Nat} (h : AP M_L_law b 2637 [x0, .ref n, x2, x3, x4, x5, x6, x7, x8] (.ref n :: st) hi g Φ) : AP M_L_law b 2636 [x0, .ref n, x2, x3, x4, x5, x6, x7, x8] (st) hi g Φ := AP.aload_n (x := n) (i := 1) d_L_law_2636 rfl rfl h
theorem d_L_law_2637 : decode code 2637 = .ok (.invokevirtual 322, 3) := by decide +kernel
theorem s_L_law_2637  {k : Nat} {r0 : Int32} {P : am_HI → Prop} (hI : am_Inv g) (hs : am_SH k = (0, 9)) (hk : k < 134) (hst : (st.map Value.category).sum ≤ 8) (hc : am_Cr M_X9_firstError [.ref k] hi g (some (.int r0)) P) (h : ∀ hi' : am_HI, P hi' → AP M_L_law b 2640 [x0, x1, x2, x3, x4, x5, x6, x7, x8] (.int r0 :: st) hi' g Φ) : AP M_L_law b 2637 [x0, x1, x2, x3, x4, x5, x6, x7, x8] (.ref k :: st) hi g Φ := AP.callVr (As := []) (q := (RX9, TX9, 7)) hI hc k_L_law_322 d_L_law_2637 rfl hs hk rfl rfl hst h
theorem d_L_law_2640 : decode code 2640 = .ok (.aload_n 2, 1) := by decide +kernel
theorem s_L_law_2640 {n : Nat} (h : AP M_L_law b 2641 [x0, x1, .ref n, x3, x4, x5, x6, x7, x8] (.ref n :: st) hi g Φ) : AP M_L_law b 2640 [x0, x1, .ref n, x3, x4, x5, x6, x7, x8] (st) hi g Φ := AP.aload_n (x := n) (i := 2) d_L_law_2640 rfl rfl h
theorem d_L_law_2641 : decode code 2641 = .ok (.invokevirtual 325, 3) := by decide +kernel
theorem s_L_law_2641  {k : Nat} {r0 : Int32} {P : am_HI → Prop} (hI : am_Inv g) (hs : am_SH k = (0, 10)) (hk : k < 134) (hst : (st.map Value.category).sum ≤ 8) (hc : am_Cr M_X10_firstError [.ref k] hi g (some (.int r0)) P) (h : ∀ hi' : am_HI, P hi' → AP M_L_law b 2644 [x0, x1, x2, x3, x4, x5, x6, x7, x8] (.int r0 :: st) hi' g Φ) : AP M_L_law b 2641 [x0, x1, x2, x3, x4, x5, x6, x7, x8] (.ref k :: st) hi g Φ := AP.callVr (As := []) (q := (RX10, TX10, 15)) hI hc k_L_law_325 d_L_law_2641 rfl hs hk rfl rfl hst h
theorem d_L_law_2644 : decode code 2644 = .ok (.if_icmp .eq 107, 3) := by decide +kernel
theorem s_L_law_2644 {x y : Int32} (h1 : x = y → AP M_L_law b 2751 [x0, x1, x2, x3, x4, x5, x6, x7, x8] st hi g Φ) (h2 : ¬ x = y → AP M_L_law b 2647 [x0, x1, x2, x3, x4, x5, x6, x7, x8] st hi g Φ) : AP M_L_law b 2644 [x0, x1, x2, x3, x4, x5, x6, x7, x8] (.int y :: .int x :: st) hi g Φ := AP.icmp_eq d_L_law_2644 (by decide) h1 h2
theorem d_L_law_2647 : decode code 2647 = .ok (.iconst 0, 1) := by decide +kernel
theorem s_L_law_2647 (h : AP M_L_law b 2648 [x0, x1, x2, x3, x4, x5, x6, x7, x8] (.int 0 :: st) hi g Φ) : AP M_L_law b 2647 [x0, x1, x2, x3, x4, x5, x6, x7, x8] (st) hi g Φ := AP.iconst (x := 0) d_L_law_2647 (by decide) h
theorem d_L_law_2648 : decode code 2648 = .ok (.ireturn, 1) := by decide +kernel
theorem s_L_law_2648 {x : Int32} (hx : x = 0 ∨ x = 1) (h : Φ (.ok (some (.int x))) hi g) : AP M_L_law b 2648 [x0, x1, x2, x3, x4, x5, x6, x7, x8] [.int x] hi g Φ := AP.zret d_L_law_2648 rfl hx h
theorem d_L_law_2649 : decode code 2649 = .ok (.aload_n 1, 1) := by decide +kernel
theorem s_L_law_2649 {n : Nat} (h : AP M_L_law b 2650 [x0, .ref n, x2, x3, x4, x5, x6, x7, x8] (.ref n :: st) hi g Φ) : AP M_L_law b 2649 [x0, .ref n, x2, x3, x4, x5, x6, x7, x8] (st) hi g Φ := AP.aload_n (x := n) (i := 1) d_L_law_2649 rfl rfl h
theorem d_L_law_2650 : decode code 2650 = .ok (.aload_n 3, 1) := by decide +kernel
theorem s_L_law_2650 {n : Nat} (h : AP M_L_law b 2651 [x0, x1, x2, .ref n, x4, x5, x6, x7, x8] (.ref n :: st) hi g Φ) : AP M_L_law b 2650 [x0, x1, x2, .ref n, x4, x5, x6, x7, x8] (st) hi g Φ := AP.aload_n (x := n) (i := 3) d_L_law_2650 rfl rfl h
theorem d_L_law_2651 : decode code 2651 = .ok (.invokestatic 326, 3) := by decide +kernel
-- s_L_law_2651: a call apart
theorem d_L_law_2654 : decode code 2654 = .ok (.istore 5, 2) := by decide +kernel
theorem s_L_law_2654 {n : Int32} (hc : x4.category = 1) (h : AP M_L_law b 2656 [x0, x1, x2, x3, x4, .int n, x6, x7, x8] (st) hi g Φ) : AP M_L_law b 2654 [x0, x1, x2, x3, x4, x5, x6, x7, x8] (.int n :: st) hi g Φ := AP.istore (x := n) (i := 5) d_L_law_2654 (by decide) (by simp [am_st, am_ci, am_cr, am_cl, am_cd, hc]) h
theorem d_L_law_2656 : decode code 2656 = .ok (.aload_n 2, 1) := by decide +kernel
theorem s_L_law_2656 {n : Nat} (h : AP M_L_law b 2657 [x0, x1, .ref n, x3, x4, x5, x6, x7, x8] (.ref n :: st) hi g Φ) : AP M_L_law b 2656 [x0, x1, .ref n, x3, x4, x5, x6, x7, x8] (st) hi g Φ := AP.aload_n (x := n) (i := 2) d_L_law_2656 rfl rfl h
theorem d_L_law_2657 : decode code 2657 = .ok (.invokevirtual 328, 3) := by decide +kernel
theorem s_L_law_2657  {k : Nat} {r0 : Int32} {P : am_HI → Prop} (hI : am_Inv g) (hs : am_SH k = (0, 10)) (hk : k < 134) (hst : (st.map Value.category).sum ≤ 8) (hc : am_Cr M_X10_doWorks [.ref k] hi g (some (.int r0)) P) (h : ∀ hi' : am_HI, P hi' → AP M_L_law b 2660 [x0, x1, x2, x3, x4, x5, x6, x7, x8] (.int r0 :: st) hi' g Φ) : AP M_L_law b 2657 [x0, x1, x2, x3, x4, x5, x6, x7, x8] (.ref k :: st) hi g Φ := AP.callVr (As := []) (q := (RX10, TX10, 15)) hI hc k_L_law_328 d_L_law_2657 rfl hs hk rfl rfl hst h
theorem d_L_law_2660 : decode code 2660 = .ok (.istore 6, 2) := by decide +kernel
theorem s_L_law_2660 {n : Int32} (hc : x5.category = 1) (h : AP M_L_law b 2662 [x0, x1, x2, x3, x4, x5, .int n, x7, x8] (st) hi g Φ) : AP M_L_law b 2660 [x0, x1, x2, x3, x4, x5, x6, x7, x8] (.int n :: st) hi g Φ := AP.istore (x := n) (i := 6) d_L_law_2660 (by decide) (by simp [am_st, am_ci, am_cr, am_cl, am_cd, hc]) h
theorem d_L_law_2662 : decode code 2662 = .ok (.aload_n 2, 1) := by decide +kernel
theorem s_L_law_2662 {n : Nat} (h : AP M_L_law b 2663 [x0, x1, .ref n, x3, x4, x5, x6, x7, x8] (.ref n :: st) hi g Φ) : AP M_L_law b 2662 [x0, x1, .ref n, x3, x4, x5, x6, x7, x8] (st) hi g Φ := AP.aload_n (x := n) (i := 2) d_L_law_2662 rfl rfl h
theorem d_L_law_2663 : decode code 2663 = .ok (.invokevirtual 141, 3) := by decide +kernel
theorem s_L_law_2663  {k : Nat} {r0 : Int32} {P : am_HI → Prop} (hI : am_Inv g) (hs : am_SH k = (0, 10)) (hk : k < 134) (hst : (st.map Value.category).sum ≤ 8) (hc : am_Cr M_X10_thrown [.ref k] hi g (some (.int r0)) P) (h : ∀ hi' : am_HI, P hi' → AP M_L_law b 2666 [x0, x1, x2, x3, x4, x5, x6, x7, x8] (.int r0 :: st) hi' g Φ) : AP M_L_law b 2663 [x0, x1, x2, x3, x4, x5, x6, x7, x8] (.ref k :: st) hi g Φ := AP.callVr (As := []) (q := (RX10, TX10, 15)) hI hc k_L_law_141 d_L_law_2663 rfl hs hk rfl rfl hst h
theorem d_L_law_2666 : decode code 2666 = .ok (.iload 5, 2) := by decide +kernel
theorem s_L_law_2666 {n : Int32} (h : AP M_L_law b 2668 [x0, x1, x2, x3, x4, .int n, x6, x7, x8] (.int n :: st) hi g Φ) : AP M_L_law b 2666 [x0, x1, x2, x3, x4, .int n, x6, x7, x8] (st) hi g Φ := AP.iload (x := n) (i := 5) d_L_law_2666 rfl h
theorem d_L_law_2668 : decode code 2668 = .ok (.if_icmp .eq 5, 3) := by decide +kernel
theorem s_L_law_2668 {x y : Int32} (h1 : x = y → AP M_L_law b 2673 [x0, x1, x2, x3, x4, x5, x6, x7, x8] st hi g Φ) (h2 : ¬ x = y → AP M_L_law b 2671 [x0, x1, x2, x3, x4, x5, x6, x7, x8] st hi g Φ) : AP M_L_law b 2668 [x0, x1, x2, x3, x4, x5, x6, x7, x8] (.int y :: .int x :: st) hi g Φ := AP.icmp_eq d_L_law_2668 (by decide) h1 h2
theorem d_L_law_2671 : decode code 2671 = .ok (.iconst 0, 1) := by decide +kernel
theorem s_L_law_2671 (h : AP M_L_law b 2672 [x0, x1, x2, x3, x4, x5, x6, x7, x8] (.int 0 :: st) hi g Φ) : AP M_L_law b 2671 [x0, x1, x2, x3, x4, x5, x6, x7, x8] (st) hi g Φ := AP.iconst (x := 0) d_L_law_2671 (by decide) h
theorem d_L_law_2672 : decode code 2672 = .ok (.ireturn, 1) := by decide +kernel
theorem s_L_law_2672 {x : Int32} (hx : x = 0 ∨ x = 1) (h : Φ (.ok (some (.int x))) hi g) : AP M_L_law b 2672 [x0, x1, x2, x3, x4, x5, x6, x7, x8] [.int x] hi g Φ := AP.zret d_L_law_2672 rfl hx h
theorem d_L_law_2673 : decode code 2673 = .ok (.iload 5, 2) := by decide +kernel
theorem s_L_law_2673 {n : Int32} (h : AP M_L_law b 2675 [x0, x1, x2, x3, x4, .int n, x6, x7, x8] (.int n :: st) hi g Φ) : AP M_L_law b 2673 [x0, x1, x2, x3, x4, .int n, x6, x7, x8] (st) hi g Φ := AP.iload (x := n) (i := 5) d_L_law_2673 rfl h
theorem d_L_law_2675 : decode code 2675 = .ok (.ifCond .ne 15, 3) := by decide +kernel
theorem s_L_law_2675 {x : Int32} (h1 : ¬ x = 0 → AP M_L_law b 2690 [x0, x1, x2, x3, x4, x5, x6, x7, x8] st hi g Φ) (h2 : x = 0 → AP M_L_law b 2678 [x0, x1, x2, x3, x4, x5, x6, x7, x8] st hi g Φ) : AP M_L_law b 2675 [x0, x1, x2, x3, x4, x5, x6, x7, x8] (.int x :: st) hi g Φ := AP.if_ne d_L_law_2675 (by decide) h1 h2
theorem d_L_law_2678 : decode code 2678 = .ok (.aload_n 3, 1) := by decide +kernel
theorem s_L_law_2678 {n : Nat} (h : AP M_L_law b 2679 [x0, x1, x2, .ref n, x4, x5, x6, x7, x8] (.ref n :: st) hi g Φ) : AP M_L_law b 2678 [x0, x1, x2, .ref n, x4, x5, x6, x7, x8] (st) hi g Φ := AP.aload_n (x := n) (i := 3) d_L_law_2678 rfl rfl h
theorem d_L_law_2679 : decode code 2679 = .ok (.iconst 0, 1) := by decide +kernel
theorem s_L_law_2679 (h : AP M_L_law b 2680 [x0, x1, x2, x3, x4, x5, x6, x7, x8] (.int 0 :: st) hi g Φ) : AP M_L_law b 2679 [x0, x1, x2, x3, x4, x5, x6, x7, x8] (st) hi g Φ := AP.iconst (x := 0) d_L_law_2679 (by decide) h
theorem d_L_law_2680 : decode code 2680 = .ok (.laload, 1) := by decide +kernel
theorem s_L_law_2680 {k n j : Nat} {i : Int32} (hI : am_Inv g) (hs : am_SH k = (4, n)) (hk : k < 134) (hn : n < 2 ^ 31) (hx : i = nI j) (hj : j < n) (h : AP M_L_law b 2681 [x0, x1, x2, x3, x4, x5, x6, x7, x8] (.long (g.2.2 k j) :: st) hi g Φ) : AP M_L_law b 2680 [x0, x1, x2, x3, x4, x5, x6, x7, x8] (.int i :: .ref k :: st) hi g Φ := AP.lald d_L_law_2680 hs (hI.lt hk) hn hx hj h
theorem d_L_law_2681 : decode code 2681 = .ok (.iload 6, 2) := by decide +kernel
theorem s_L_law_2681 {n : Int32} (h : AP M_L_law b 2683 [x0, x1, x2, x3, x4, x5, .int n, x7, x8] (.int n :: st) hi g Φ) : AP M_L_law b 2681 [x0, x1, x2, x3, x4, x5, .int n, x7, x8] (st) hi g Φ := AP.iload (x := n) (i := 6) d_L_law_2681 rfl h
theorem d_L_law_2683 : decode code 2683 = .ok (.i2l, 1) := by decide +kernel
theorem s_L_law_2683 {x : Int32} (h : AP M_L_law b 2684 [x0, x1, x2, x3, x4, x5, x6, x7, x8] (.long x.toInt64 :: st) hi g Φ) : AP M_L_law b 2683 [x0, x1, x2, x3, x4, x5, x6, x7, x8] (.int x :: st) hi g Φ := AP.i2l d_L_law_2683 h
theorem d_L_law_2684 : decode code 2684 = .ok (.lcmp, 1) := by decide +kernel
theorem s_L_law_2684 {x y : Int64} (h : AP M_L_law b 2685 [x0, x1, x2, x3, x4, x5, x6, x7, x8] (.int (lg_cmp x y) :: st) hi g Φ) : AP M_L_law b 2684 [x0, x1, x2, x3, x4, x5, x6, x7, x8] (.long y :: .long x :: st) hi g Φ := AP.lcmp d_L_law_2684 h
theorem d_L_law_2685 : decode code 2685 = .ok (.ifCond .eq 5, 3) := by decide +kernel
theorem s_L_law_2685 {x : Int32} (h1 : x = 0 → AP M_L_law b 2690 [x0, x1, x2, x3, x4, x5, x6, x7, x8] st hi g Φ) (h2 : ¬ x = 0 → AP M_L_law b 2688 [x0, x1, x2, x3, x4, x5, x6, x7, x8] st hi g Φ) : AP M_L_law b 2685 [x0, x1, x2, x3, x4, x5, x6, x7, x8] (.int x :: st) hi g Φ := AP.if_eq d_L_law_2685 (by decide) h1 h2
theorem d_L_law_2688 : decode code 2688 = .ok (.iconst 0, 1) := by decide +kernel
theorem s_L_law_2688 (h : AP M_L_law b 2689 [x0, x1, x2, x3, x4, x5, x6, x7, x8] (.int 0 :: st) hi g Φ) : AP M_L_law b 2688 [x0, x1, x2, x3, x4, x5, x6, x7, x8] (st) hi g Φ := AP.iconst (x := 0) d_L_law_2688 (by decide) h
theorem d_L_law_2689 : decode code 2689 = .ok (.ireturn, 1) := by decide +kernel
theorem s_L_law_2689 {x : Int32} (hx : x = 0 ∨ x = 1) (h : Φ (.ok (some (.int x))) hi g) : AP M_L_law b 2689 [x0, x1, x2, x3, x4, x5, x6, x7, x8] [.int x] hi g Φ := AP.zret d_L_law_2689 rfl hx h
theorem d_L_law_2690 : decode code 2690 = .ok (.goto 61, 3) := by decide +kernel
theorem s_L_law_2690 (h : AP M_L_law b 2751 [x0, x1, x2, x3, x4, x5, x6, x7, x8] st hi g Φ) : AP M_L_law b 2690 [x0, x1, x2, x3, x4, x5, x6, x7, x8] st hi g Φ := AP.goto d_L_law_2690 (by decide) h
theorem d_L_law_2693 : decode code 2693 = .ok (.aload_n 1, 1) := by decide +kernel
theorem s_L_law_2693 {n : Nat} (h : AP M_L_law b 2694 [x0, .ref n, x2, x3, x4, x5, x6, x7, x8] (.ref n :: st) hi g Φ) : AP M_L_law b 2693 [x0, .ref n, x2, x3, x4, x5, x6, x7, x8] (st) hi g Φ := AP.aload_n (x := n) (i := 1) d_L_law_2693 rfl rfl h
theorem d_L_law_2694 : decode code 2694 = .ok (.aload_n 3, 1) := by decide +kernel
theorem s_L_law_2694 {n : Nat} (h : AP M_L_law b 2695 [x0, x1, x2, .ref n, x4, x5, x6, x7, x8] (.ref n :: st) hi g Φ) : AP M_L_law b 2694 [x0, x1, x2, .ref n, x4, x5, x6, x7, x8] (st) hi g Φ := AP.aload_n (x := n) (i := 3) d_L_law_2694 rfl rfl h
theorem d_L_law_2695 : decode code 2695 = .ok (.invokestatic 329, 3) := by decide +kernel
-- s_L_law_2695: a call apart
theorem d_L_law_2698 : decode code 2698 = .ok (.istore 5, 2) := by decide +kernel
theorem s_L_law_2698 {n : Int32} (hc : x4.category = 1) (h : AP M_L_law b 2700 [x0, x1, x2, x3, x4, .int n, x6, x7, x8] (st) hi g Φ) : AP M_L_law b 2698 [x0, x1, x2, x3, x4, x5, x6, x7, x8] (.int n :: st) hi g Φ := AP.istore (x := n) (i := 5) d_L_law_2698 (by decide) (by simp [am_st, am_ci, am_cr, am_cl, am_cd, hc]) h
theorem d_L_law_2700 : decode code 2700 = .ok (.aload_n 2, 1) := by decide +kernel
theorem s_L_law_2700 {n : Nat} (h : AP M_L_law b 2701 [x0, x1, .ref n, x3, x4, x5, x6, x7, x8] (.ref n :: st) hi g Φ) : AP M_L_law b 2700 [x0, x1, .ref n, x3, x4, x5, x6, x7, x8] (st) hi g Φ := AP.aload_n (x := n) (i := 2) d_L_law_2700 rfl rfl h
theorem d_L_law_2701 : decode code 2701 = .ok (.invokevirtual 331, 3) := by decide +kernel
theorem s_L_law_2701  {k : Nat} {r0 : Int32} {P : am_HI → Prop} (hI : am_Inv g) (hs : am_SH k = (0, 10)) (hk : k < 134) (hst : (st.map Value.category).sum ≤ 8) (hc : am_Cr M_X10_undo [.ref k] hi g (some (.int r0)) P) (h : ∀ hi' : am_HI, P hi' → AP M_L_law b 2704 [x0, x1, x2, x3, x4, x5, x6, x7, x8] (.int r0 :: st) hi' g Φ) : AP M_L_law b 2701 [x0, x1, x2, x3, x4, x5, x6, x7, x8] (.ref k :: st) hi g Φ := AP.callVr (As := []) (q := (RX10, TX10, 15)) hI hc k_L_law_331 d_L_law_2701 rfl hs hk rfl rfl hst h
theorem d_L_law_2704 : decode code 2704 = .ok (.istore 6, 2) := by decide +kernel
theorem s_L_law_2704 {n : Int32} (hc : x5.category = 1) (h : AP M_L_law b 2706 [x0, x1, x2, x3, x4, x5, .int n, x7, x8] (st) hi g Φ) : AP M_L_law b 2704 [x0, x1, x2, x3, x4, x5, x6, x7, x8] (.int n :: st) hi g Φ := AP.istore (x := n) (i := 6) d_L_law_2704 (by decide) (by simp [am_st, am_ci, am_cr, am_cl, am_cd, hc]) h
theorem d_L_law_2706 : decode code 2706 = .ok (.aload_n 2, 1) := by decide +kernel
theorem s_L_law_2706 {n : Nat} (h : AP M_L_law b 2707 [x0, x1, .ref n, x3, x4, x5, x6, x7, x8] (.ref n :: st) hi g Φ) : AP M_L_law b 2706 [x0, x1, .ref n, x3, x4, x5, x6, x7, x8] (st) hi g Φ := AP.aload_n (x := n) (i := 2) d_L_law_2706 rfl rfl h
theorem d_L_law_2707 : decode code 2707 = .ok (.invokevirtual 141, 3) := by decide +kernel
theorem s_L_law_2707  {k : Nat} {r0 : Int32} {P : am_HI → Prop} (hI : am_Inv g) (hs : am_SH k = (0, 10)) (hk : k < 134) (hst : (st.map Value.category).sum ≤ 8) (hc : am_Cr M_X10_thrown [.ref k] hi g (some (.int r0)) P) (h : ∀ hi' : am_HI, P hi' → AP M_L_law b 2710 [x0, x1, x2, x3, x4, x5, x6, x7, x8] (.int r0 :: st) hi' g Φ) : AP M_L_law b 2707 [x0, x1, x2, x3, x4, x5, x6, x7, x8] (.ref k :: st) hi g Φ := AP.callVr (As := []) (q := (RX10, TX10, 15)) hI hc k_L_law_141 d_L_law_2707 rfl hs hk rfl rfl hst h
theorem d_L_law_2710 : decode code 2710 = .ok (.iload 5, 2) := by decide +kernel
theorem s_L_law_2710 {n : Int32} (h : AP M_L_law b 2712 [x0, x1, x2, x3, x4, .int n, x6, x7, x8] (.int n :: st) hi g Φ) : AP M_L_law b 2710 [x0, x1, x2, x3, x4, .int n, x6, x7, x8] (st) hi g Φ := AP.iload (x := n) (i := 5) d_L_law_2710 rfl h
theorem d_L_law_2712 : decode code 2712 = .ok (.if_icmp .eq 5, 3) := by decide +kernel
theorem s_L_law_2712 {x y : Int32} (h1 : x = y → AP M_L_law b 2717 [x0, x1, x2, x3, x4, x5, x6, x7, x8] st hi g Φ) (h2 : ¬ x = y → AP M_L_law b 2715 [x0, x1, x2, x3, x4, x5, x6, x7, x8] st hi g Φ) : AP M_L_law b 2712 [x0, x1, x2, x3, x4, x5, x6, x7, x8] (.int y :: .int x :: st) hi g Φ := AP.icmp_eq d_L_law_2712 (by decide) h1 h2
theorem d_L_law_2715 : decode code 2715 = .ok (.iconst 0, 1) := by decide +kernel
theorem s_L_law_2715 (h : AP M_L_law b 2716 [x0, x1, x2, x3, x4, x5, x6, x7, x8] (.int 0 :: st) hi g Φ) : AP M_L_law b 2715 [x0, x1, x2, x3, x4, x5, x6, x7, x8] (st) hi g Φ := AP.iconst (x := 0) d_L_law_2715 (by decide) h
theorem d_L_law_2716 : decode code 2716 = .ok (.ireturn, 1) := by decide +kernel
theorem s_L_law_2716 {x : Int32} (hx : x = 0 ∨ x = 1) (h : Φ (.ok (some (.int x))) hi g) : AP M_L_law b 2716 [x0, x1, x2, x3, x4, x5, x6, x7, x8] [.int x] hi g Φ := AP.zret d_L_law_2716 rfl hx h
theorem d_L_law_2717 : decode code 2717 = .ok (.iload 5, 2) := by decide +kernel
theorem s_L_law_2717 {n : Int32} (h : AP M_L_law b 2719 [x0, x1, x2, x3, x4, .int n, x6, x7, x8] (.int n :: st) hi g Φ) : AP M_L_law b 2717 [x0, x1, x2, x3, x4, .int n, x6, x7, x8] (st) hi g Φ := AP.iload (x := n) (i := 5) d_L_law_2717 rfl h
theorem d_L_law_2719 : decode code 2719 = .ok (.ifCond .ne 15, 3) := by decide +kernel
theorem s_L_law_2719 {x : Int32} (h1 : ¬ x = 0 → AP M_L_law b 2734 [x0, x1, x2, x3, x4, x5, x6, x7, x8] st hi g Φ) (h2 : x = 0 → AP M_L_law b 2722 [x0, x1, x2, x3, x4, x5, x6, x7, x8] st hi g Φ) : AP M_L_law b 2719 [x0, x1, x2, x3, x4, x5, x6, x7, x8] (.int x :: st) hi g Φ := AP.if_ne d_L_law_2719 (by decide) h1 h2
theorem d_L_law_2722 : decode code 2722 = .ok (.aload_n 3, 1) := by decide +kernel
theorem s_L_law_2722 {n : Nat} (h : AP M_L_law b 2723 [x0, x1, x2, .ref n, x4, x5, x6, x7, x8] (.ref n :: st) hi g Φ) : AP M_L_law b 2722 [x0, x1, x2, .ref n, x4, x5, x6, x7, x8] (st) hi g Φ := AP.aload_n (x := n) (i := 3) d_L_law_2722 rfl rfl h
theorem d_L_law_2723 : decode code 2723 = .ok (.iconst 0, 1) := by decide +kernel
theorem s_L_law_2723 (h : AP M_L_law b 2724 [x0, x1, x2, x3, x4, x5, x6, x7, x8] (.int 0 :: st) hi g Φ) : AP M_L_law b 2723 [x0, x1, x2, x3, x4, x5, x6, x7, x8] (st) hi g Φ := AP.iconst (x := 0) d_L_law_2723 (by decide) h
theorem d_L_law_2724 : decode code 2724 = .ok (.laload, 1) := by decide +kernel
theorem s_L_law_2724 {k n j : Nat} {i : Int32} (hI : am_Inv g) (hs : am_SH k = (4, n)) (hk : k < 134) (hn : n < 2 ^ 31) (hx : i = nI j) (hj : j < n) (h : AP M_L_law b 2725 [x0, x1, x2, x3, x4, x5, x6, x7, x8] (.long (g.2.2 k j) :: st) hi g Φ) : AP M_L_law b 2724 [x0, x1, x2, x3, x4, x5, x6, x7, x8] (.int i :: .ref k :: st) hi g Φ := AP.lald d_L_law_2724 hs (hI.lt hk) hn hx hj h
theorem d_L_law_2725 : decode code 2725 = .ok (.iload 6, 2) := by decide +kernel
theorem s_L_law_2725 {n : Int32} (h : AP M_L_law b 2727 [x0, x1, x2, x3, x4, x5, .int n, x7, x8] (.int n :: st) hi g Φ) : AP M_L_law b 2725 [x0, x1, x2, x3, x4, x5, .int n, x7, x8] (st) hi g Φ := AP.iload (x := n) (i := 6) d_L_law_2725 rfl h
theorem d_L_law_2727 : decode code 2727 = .ok (.i2l, 1) := by decide +kernel
theorem s_L_law_2727 {x : Int32} (h : AP M_L_law b 2728 [x0, x1, x2, x3, x4, x5, x6, x7, x8] (.long x.toInt64 :: st) hi g Φ) : AP M_L_law b 2727 [x0, x1, x2, x3, x4, x5, x6, x7, x8] (.int x :: st) hi g Φ := AP.i2l d_L_law_2727 h
theorem d_L_law_2728 : decode code 2728 = .ok (.lcmp, 1) := by decide +kernel
theorem s_L_law_2728 {x y : Int64} (h : AP M_L_law b 2729 [x0, x1, x2, x3, x4, x5, x6, x7, x8] (.int (lg_cmp x y) :: st) hi g Φ) : AP M_L_law b 2728 [x0, x1, x2, x3, x4, x5, x6, x7, x8] (.long y :: .long x :: st) hi g Φ := AP.lcmp d_L_law_2728 h
theorem d_L_law_2729 : decode code 2729 = .ok (.ifCond .eq 5, 3) := by decide +kernel
theorem s_L_law_2729 {x : Int32} (h1 : x = 0 → AP M_L_law b 2734 [x0, x1, x2, x3, x4, x5, x6, x7, x8] st hi g Φ) (h2 : ¬ x = 0 → AP M_L_law b 2732 [x0, x1, x2, x3, x4, x5, x6, x7, x8] st hi g Φ) : AP M_L_law b 2729 [x0, x1, x2, x3, x4, x5, x6, x7, x8] (.int x :: st) hi g Φ := AP.if_eq d_L_law_2729 (by decide) h1 h2
theorem d_L_law_2732 : decode code 2732 = .ok (.iconst 0, 1) := by decide +kernel
theorem s_L_law_2732 (h : AP M_L_law b 2733 [x0, x1, x2, x3, x4, x5, x6, x7, x8] (.int 0 :: st) hi g Φ) : AP M_L_law b 2732 [x0, x1, x2, x3, x4, x5, x6, x7, x8] (st) hi g Φ := AP.iconst (x := 0) d_L_law_2732 (by decide) h
theorem d_L_law_2733 : decode code 2733 = .ok (.ireturn, 1) := by decide +kernel
theorem s_L_law_2733 {x : Int32} (hx : x = 0 ∨ x = 1) (h : Φ (.ok (some (.int x))) hi g) : AP M_L_law b 2733 [x0, x1, x2, x3, x4, x5, x6, x7, x8] [.int x] hi g Φ := AP.zret d_L_law_2733 rfl hx h
theorem d_L_law_2734 : decode code 2734 = .ok (.goto 17, 3) := by decide +kernel
theorem s_L_law_2734 (h : AP M_L_law b 2751 [x0, x1, x2, x3, x4, x5, x6, x7, x8] st hi g Φ) : AP M_L_law b 2734 [x0, x1, x2, x3, x4, x5, x6, x7, x8] st hi g Φ := AP.goto d_L_law_2734 (by decide) h
theorem d_L_law_2737 : decode code 2737 = .ok (.aload_n 1, 1) := by decide +kernel
theorem s_L_law_2737 {n : Nat} (h : AP M_L_law b 2738 [x0, .ref n, x2, x3, x4, x5, x6, x7, x8] (.ref n :: st) hi g Φ) : AP M_L_law b 2737 [x0, .ref n, x2, x3, x4, x5, x6, x7, x8] (st) hi g Φ := AP.aload_n (x := n) (i := 1) d_L_law_2737 rfl rfl h
theorem d_L_law_2738 : decode code 2738 = .ok (.invokevirtual 332, 3) := by decide +kernel
theorem s_L_law_2738  {k : Nat} {r0 : Int64} {P : am_HI → Prop} (hI : am_Inv g) (hs : am_SH k = (0, 9)) (hk : k < 134) (hst : (st.map Value.category).sum ≤ 8) (hc : am_Cr M_X9_digest [.ref k] hi g (some (.long r0)) P) (h : ∀ hi' : am_HI, P hi' → AP M_L_law b 2741 [x0, x1, x2, x3, x4, x5, x6, x7, x8] (.long r0 :: st) hi' g Φ) : AP M_L_law b 2738 [x0, x1, x2, x3, x4, x5, x6, x7, x8] (.ref k :: st) hi g Φ := AP.callVr (As := []) (q := (RX9, TX9, 7)) hI hc k_L_law_332 d_L_law_2738 rfl hs hk rfl rfl hst h
theorem d_L_law_2741 : decode code 2741 = .ok (.aload_n 2, 1) := by decide +kernel
theorem s_L_law_2741 {n : Nat} (h : AP M_L_law b 2742 [x0, x1, .ref n, x3, x4, x5, x6, x7, x8] (.ref n :: st) hi g Φ) : AP M_L_law b 2741 [x0, x1, .ref n, x3, x4, x5, x6, x7, x8] (st) hi g Φ := AP.aload_n (x := n) (i := 2) d_L_law_2741 rfl rfl h
theorem d_L_law_2742 : decode code 2742 = .ok (.invokevirtual 336, 3) := by decide +kernel
theorem s_L_law_2742  {k : Nat} {r0 : Int64} {P : am_HI → Prop} (hI : am_Inv g) (hs : am_SH k = (0, 10)) (hk : k < 134) (hst : (st.map Value.category).sum ≤ 8) (hc : am_Cr M_X10_digest [.ref k] hi g (some (.long r0)) P) (h : ∀ hi' : am_HI, P hi' → AP M_L_law b 2745 [x0, x1, x2, x3, x4, x5, x6, x7, x8] (.long r0 :: st) hi' g Φ) : AP M_L_law b 2742 [x0, x1, x2, x3, x4, x5, x6, x7, x8] (.ref k :: st) hi g Φ := AP.callVr (As := []) (q := (RX10, TX10, 15)) hI hc k_L_law_336 d_L_law_2742 rfl hs hk rfl rfl hst h
theorem d_L_law_2745 : decode code 2745 = .ok (.lcmp, 1) := by decide +kernel
theorem s_L_law_2745 {x y : Int64} (h : AP M_L_law b 2746 [x0, x1, x2, x3, x4, x5, x6, x7, x8] (.int (lg_cmp x y) :: st) hi g Φ) : AP M_L_law b 2745 [x0, x1, x2, x3, x4, x5, x6, x7, x8] (.long y :: .long x :: st) hi g Φ := AP.lcmp d_L_law_2745 h
theorem d_L_law_2746 : decode code 2746 = .ok (.ifCond .eq 5, 3) := by decide +kernel
theorem s_L_law_2746 {x : Int32} (h1 : x = 0 → AP M_L_law b 2751 [x0, x1, x2, x3, x4, x5, x6, x7, x8] st hi g Φ) (h2 : ¬ x = 0 → AP M_L_law b 2749 [x0, x1, x2, x3, x4, x5, x6, x7, x8] st hi g Φ) : AP M_L_law b 2746 [x0, x1, x2, x3, x4, x5, x6, x7, x8] (.int x :: st) hi g Φ := AP.if_eq d_L_law_2746 (by decide) h1 h2
theorem d_L_law_2749 : decode code 2749 = .ok (.iconst 0, 1) := by decide +kernel
theorem s_L_law_2749 (h : AP M_L_law b 2750 [x0, x1, x2, x3, x4, x5, x6, x7, x8] (.int 0 :: st) hi g Φ) : AP M_L_law b 2749 [x0, x1, x2, x3, x4, x5, x6, x7, x8] (st) hi g Φ := AP.iconst (x := 0) d_L_law_2749 (by decide) h
theorem d_L_law_2750 : decode code 2750 = .ok (.ireturn, 1) := by decide +kernel
theorem s_L_law_2750 {x : Int32} (hx : x = 0 ∨ x = 1) (h : Φ (.ok (some (.int x))) hi g) : AP M_L_law b 2750 [x0, x1, x2, x3, x4, x5, x6, x7, x8] [.int x] hi g Φ := AP.zret d_L_law_2750 rfl hx h
theorem d_L_law_2751 : decode code 2751 = .ok (.iinc 4 4, 3) := by decide +kernel
theorem s_L_law_2751 {n : Int32} (hc : x3.category = 1) (h : AP M_L_law b 2754 [x0, x1, x2, x3, .int (n + 4), x5, x6, x7, x8] (st) hi g Φ) : AP M_L_law b 2751 [x0, x1, x2, x3, .int n, x5, x6, x7, x8] (st) hi g Φ := AP.iinc (i := 4) (x := n) (y := n + 4) d_L_law_2751 rfl rfl (by decide) (by simp [am_st, am_ci, am_cr, am_cl, am_cd, hc]) h
theorem d_L_law_2754 : decode code 2754 = .ok (.goto (-2731), 3) := by decide +kernel
theorem s_L_law_2754 (h : AP M_L_law b 23 [x0, x1, x2, x3, x4, x5, x6, x7, x8] st hi g Φ) : AP M_L_law b 2754 [x0, x1, x2, x3, x4, x5, x6, x7, x8] st hi g Φ := AP.goto d_L_law_2754 (by decide) h
theorem d_L_law_2757 : decode code 2757 = .ok (.iconst 1, 1) := by decide +kernel
theorem s_L_law_2757 (h : AP M_L_law b 2758 [x0, x1, x2, x3, x4, x5, x6, x7, x8] (.int 1 :: st) hi g Φ) : AP M_L_law b 2757 [x0, x1, x2, x3, x4, x5, x6, x7, x8] (st) hi g Φ := AP.iconst (x := 1) d_L_law_2757 (by decide) h
theorem d_L_law_2758 : decode code 2758 = .ok (.ireturn, 1) := by decide +kernel
theorem s_L_law_2758 {x : Int32} (hx : x = 0 ∨ x = 1) (h : Φ (.ok (some (.int x))) hi g) : AP M_L_law b 2758 [x0, x1, x2, x3, x4, x5, x6, x7, x8] [.int x] hi g Φ := AP.zret d_L_law_2758 rfl hx h
end
