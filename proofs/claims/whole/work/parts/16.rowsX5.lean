/-! ===== rows by program ===== -/
section
variable {b : Nat × Nat} {st : List Value} {hi : am_HI} {g : am_G} {Φ : am_P} {x0 x1 : Value}
theorem d_X5_has_0 : decode cX5_has 0 = .ok (.aload_n 0, 1) := by decide +kernel
theorem s_X5_has_0 {n : Nat} (h : AP M_X5_has b 1 [.ref n, x1] (.ref n :: st) hi g Φ) : AP M_X5_has b 0 [.ref n, x1] (st) hi g Φ := AP.aload_n (x := n) (i := 0) d_X5_has_0 rfl rfl h
theorem d_X5_has_1 : decode cX5_has 1 = .ok (.getfield 18, 3) := by decide +kernel
theorem s_X5_has_1 {k r : Nat} (hI : am_Inv g) (hs : am_SH k = (0, 5)) (hk : k < 134) (hr : am_HRf k 1 = some r) (hn : k ≠ 39) (h : AP M_X5_has b 4 [x0, x1] (.ref r :: st) hi g Φ) : AP M_X5_has b 1 [x0, x1] (.ref k :: st) hi g Φ := AP.getR (j := 1) (q := (RX5, TX5, 2)) d_X5_has_1 hs (hI.lt hk) rfl (by decide) (by decide) w_278 (hI.r hn hr) h
theorem d_X5_has_4 : decode cX5_has 4 = .ok (.iload_n 1, 1) := by decide +kernel
theorem s_X5_has_4 {n : Int32} (h : AP M_X5_has b 5 [x0, .int n] (.int n :: st) hi g Φ) : AP M_X5_has b 4 [x0, .int n] (st) hi g Φ := AP.iload_n (x := n) (i := 1) d_X5_has_4 rfl rfl h
theorem d_X5_has_5 : decode cX5_has 5 = .ok (.baload, 1) := by decide +kernel
theorem s_X5_has_5 {k n j : Nat} {i : Int32} (hI : am_Inv g) (hs : am_SH k = (2, n)) (hk : k < 134) (hn : n < 2 ^ 31) (hx : i = nI j) (hj : j < n) (h : AP M_X5_has b 6 [x0, x1] (.int (hi k j) :: st) hi g Φ) : AP M_X5_has b 5 [x0, x1] (.int i :: .ref k :: st) hi g Φ := AP.zald d_X5_has_5 hs (hI.lt hk) hn hx hj h
theorem d_X5_has_6 : decode cX5_has 6 = .ok (.ireturn, 1) := by decide +kernel
theorem s_X5_has_6 {x : Int32} (hx : x = 0 ∨ x = 1) (h : Φ (.ok (some (.int x))) hi g) : AP M_X5_has b 6 [x0, x1] [.int x] hi g Φ := AP.zret d_X5_has_6 rfl hx h
end
section
variable {b : Nat × Nat} {st : List Value} {hi : am_HI} {g : am_G} {Φ : am_P} {x0 x1 x2 : Value}
theorem d_X5_put_0 : decode cX5_put 0 = .ok (.aload_n 0, 1) := by decide +kernel
theorem s_X5_put_0 {n : Nat} (h : AP M_X5_put b 1 [.ref n, x1, x2] (.ref n :: st) hi g Φ) : AP M_X5_put b 0 [.ref n, x1, x2] (st) hi g Φ := AP.aload_n (x := n) (i := 0) d_X5_put_0 rfl rfl h
theorem d_X5_put_1 : decode cX5_put 1 = .ok (.getfield 12, 3) := by decide +kernel
theorem s_X5_put_1 {k r : Nat} (hI : am_Inv g) (hs : am_SH k = (0, 5)) (hk : k < 134) (hr : am_HRf k 0 = some r) (hn : k ≠ 39) (h : AP M_X5_put b 4 [x0, x1, x2] (.ref r :: st) hi g Φ) : AP M_X5_put b 1 [x0, x1, x2] (.ref k :: st) hi g Φ := AP.getR (j := 0) (q := (RX5, TX5, 2)) d_X5_put_1 hs (hI.lt hk) rfl (by decide) (by decide) w_277 (hI.r hn hr) h
theorem d_X5_put_4 : decode cX5_put 4 = .ok (.iload_n 1, 1) := by decide +kernel
theorem s_X5_put_4 {n : Int32} (h : AP M_X5_put b 5 [x0, .int n, x2] (.int n :: st) hi g Φ) : AP M_X5_put b 4 [x0, .int n, x2] (st) hi g Φ := AP.iload_n (x := n) (i := 1) d_X5_put_4 rfl rfl h
theorem d_X5_put_5 : decode cX5_put 5 = .ok (.aaload, 1) := by decide +kernel
theorem s_X5_put_5 {k n j r : Nat} {i : Int32} (hI : am_Inv g) (hs : am_SH k = (6, n)) (hk : k < 134) (hn : n < 2 ^ 31) (hx : i = nI j) (hj : j < n) (hr : g.2.1 k j = some r) (h : AP M_X5_put b 6 [x0, x1, x2] (.ref r :: st) hi g Φ) : AP M_X5_put b 5 [x0, x1, x2] (.int i :: .ref k :: st) hi g Φ := AP.rald d_X5_put_5 hs (hI.lt hk) hn hx hj hr h
theorem s_X5_put_5a {k n j r : Nat} {i : Int32} (hI : am_Inv g) (hs : am_SH k = (5, n)) (hk : k < 134) (hn : n < 2 ^ 31) (hx : i = nI j) (hj : j < n) (hr : g.2.1 k j = some r) (h : AP M_X5_put b 6 [x0, x1, x2] (.ref r :: st) hi g Φ) : AP M_X5_put b 5 [x0, x1, x2] (.int i :: .ref k :: st) hi g Φ := AP.aald d_X5_put_5 hs (hI.lt hk) hn hx hj hr h
theorem d_X5_put_6 : decode cX5_put 6 = .ok (.aload_n 2, 1) := by decide +kernel
theorem s_X5_put_6 {n : Nat} (h : AP M_X5_put b 7 [x0, x1, .ref n] (.ref n :: st) hi g Φ) : AP M_X5_put b 6 [x0, x1, .ref n] (st) hi g Φ := AP.aload_n (x := n) (i := 2) d_X5_put_6 rfl rfl h
theorem d_X5_put_7 : decode cX5_put 7 = .ok (.invokevirtual 22, 3) := by decide +kernel
theorem s_X5_put_7 {a0 : Nat} {k : Nat} {P : am_HI → Prop} (hI : am_Inv g) (hs : am_SH k = (0, 6)) (hk : k < 134) (hst : (st.map Value.category).sum ≤ 8) (hc : am_Cr M_X6_copyFrom [.ref k, .ref a0] hi g none P) (h : ∀ hi' : am_HI, P hi' → AP M_X5_put b 10 [x0, x1, x2] (st) hi' g Φ) : AP M_X5_put b 7 [x0, x1, x2] (.ref a0 :: .ref k :: st) hi g Φ := AP.callVr (As := [.ref a0]) (q := (RX6, TX6, 8)) hI hc k_X5_put_22 d_X5_put_7 rfl hs hk rfl rfl hst h
theorem d_X5_put_10 : decode cX5_put 10 = .ok (.aload_n 0, 1) := by decide +kernel
theorem s_X5_put_10 {n : Nat} (h : AP M_X5_put b 11 [.ref n, x1, x2] (.ref n :: st) hi g Φ) : AP M_X5_put b 10 [.ref n, x1, x2] (st) hi g Φ := AP.aload_n (x := n) (i := 0) d_X5_put_10 rfl rfl h
theorem d_X5_put_11 : decode cX5_put 11 = .ok (.getfield 18, 3) := by decide +kernel
theorem s_X5_put_11 {k r : Nat} (hI : am_Inv g) (hs : am_SH k = (0, 5)) (hk : k < 134) (hr : am_HRf k 1 = some r) (hn : k ≠ 39) (h : AP M_X5_put b 14 [x0, x1, x2] (.ref r :: st) hi g Φ) : AP M_X5_put b 11 [x0, x1, x2] (.ref k :: st) hi g Φ := AP.getR (j := 1) (q := (RX5, TX5, 2)) d_X5_put_11 hs (hI.lt hk) rfl (by decide) (by decide) w_278 (hI.r hn hr) h
theorem d_X5_put_14 : decode cX5_put 14 = .ok (.iload_n 1, 1) := by decide +kernel
theorem s_X5_put_14 {n : Int32} (h : AP M_X5_put b 15 [x0, .int n, x2] (.int n :: st) hi g Φ) : AP M_X5_put b 14 [x0, .int n, x2] (st) hi g Φ := AP.iload_n (x := n) (i := 1) d_X5_put_14 rfl rfl h
theorem d_X5_put_15 : decode cX5_put 15 = .ok (.iconst 1, 1) := by decide +kernel
theorem s_X5_put_15 (h : AP M_X5_put b 16 [x0, x1, x2] (.int 1 :: st) hi g Φ) : AP M_X5_put b 15 [x0, x1, x2] (st) hi g Φ := AP.iconst (x := 1) d_X5_put_15 (by decide) h
theorem d_X5_put_16 : decode cX5_put 16 = .ok (.bastore, 1) := by decide +kernel
theorem s_X5_put_16 {k n j : Nat} {i x : Int32} (hI : am_Inv g) (hs : am_SH k = (2, n)) (hk : k < 134) (hn : n < 2 ^ 31) (hx : i = nI j) (hj : j < n) (hb : vp_nar .boolean x = x) (h : AP M_X5_put b 17 [x0, x1, x2] (st) (am_up hi k j x) g Φ) : AP M_X5_put b 16 [x0, x1, x2] (.int x :: .int i :: .ref k :: st) hi g Φ := AP.zast d_X5_put_16 hs (hI.lt hk) hn hx hj hb h
theorem d_X5_put_17 : decode cX5_put 17 = .ok (.return_, 1) := by decide +kernel
theorem s_X5_put_17 (h : Φ (.ok none) hi g) : AP M_X5_put b 17 [x0, x1, x2] [] hi g Φ := AP.vret d_X5_put_17 rfl h
end
section
variable {b : Nat × Nat} {st : List Value} {hi : am_HI} {g : am_G} {Φ : am_P} {x0 x1 x2 : Value}
theorem d_X5_restore_0 : decode cX5_restore 0 = .ok (.aload_n 2, 1) := by decide +kernel
theorem s_X5_restore_0 {n : Nat} (h : AP M_X5_restore b 1 [x0, x1, .ref n] (.ref n :: st) hi g Φ) : AP M_X5_restore b 0 [x0, x1, .ref n] (st) hi g Φ := AP.aload_n (x := n) (i := 2) d_X5_restore_0 rfl rfl h
theorem d_X5_restore_1 : decode cX5_restore 1 = .ok (.aload_n 0, 1) := by decide +kernel
theorem s_X5_restore_1 {n : Nat} (h : AP M_X5_restore b 2 [.ref n, x1, x2] (.ref n :: st) hi g Φ) : AP M_X5_restore b 1 [.ref n, x1, x2] (st) hi g Φ := AP.aload_n (x := n) (i := 0) d_X5_restore_1 rfl rfl h
theorem d_X5_restore_2 : decode cX5_restore 2 = .ok (.getfield 12, 3) := by decide +kernel
theorem s_X5_restore_2 {k r : Nat} (hI : am_Inv g) (hs : am_SH k = (0, 5)) (hk : k < 134) (hr : am_HRf k 0 = some r) (hn : k ≠ 39) (h : AP M_X5_restore b 5 [x0, x1, x2] (.ref r :: st) hi g Φ) : AP M_X5_restore b 2 [x0, x1, x2] (.ref k :: st) hi g Φ := AP.getR (j := 0) (q := (RX5, TX5, 2)) d_X5_restore_2 hs (hI.lt hk) rfl (by decide) (by decide) w_277 (hI.r hn hr) h
theorem d_X5_restore_5 : decode cX5_restore 5 = .ok (.iload_n 1, 1) := by decide +kernel
theorem s_X5_restore_5 {n : Int32} (h : AP M_X5_restore b 6 [x0, .int n, x2] (.int n :: st) hi g Φ) : AP M_X5_restore b 5 [x0, .int n, x2] (st) hi g Φ := AP.iload_n (x := n) (i := 1) d_X5_restore_5 rfl rfl h
theorem d_X5_restore_6 : decode cX5_restore 6 = .ok (.aaload, 1) := by decide +kernel
theorem s_X5_restore_6 {k n j r : Nat} {i : Int32} (hI : am_Inv g) (hs : am_SH k = (6, n)) (hk : k < 134) (hn : n < 2 ^ 31) (hx : i = nI j) (hj : j < n) (hr : g.2.1 k j = some r) (h : AP M_X5_restore b 7 [x0, x1, x2] (.ref r :: st) hi g Φ) : AP M_X5_restore b 6 [x0, x1, x2] (.int i :: .ref k :: st) hi g Φ := AP.rald d_X5_restore_6 hs (hI.lt hk) hn hx hj hr h
theorem s_X5_restore_6a {k n j r : Nat} {i : Int32} (hI : am_Inv g) (hs : am_SH k = (5, n)) (hk : k < 134) (hn : n < 2 ^ 31) (hx : i = nI j) (hj : j < n) (hr : g.2.1 k j = some r) (h : AP M_X5_restore b 7 [x0, x1, x2] (.ref r :: st) hi g Φ) : AP M_X5_restore b 6 [x0, x1, x2] (.int i :: .ref k :: st) hi g Φ := AP.aald d_X5_restore_6 hs (hI.lt hk) hn hx hj hr h
theorem d_X5_restore_7 : decode cX5_restore 7 = .ok (.invokevirtual 22, 3) := by decide +kernel
theorem s_X5_restore_7 {a0 : Nat} {k : Nat} {P : am_HI → Prop} (hI : am_Inv g) (hs : am_SH k = (0, 6)) (hk : k < 134) (hst : (st.map Value.category).sum ≤ 8) (hc : am_Cr M_X6_copyFrom [.ref k, .ref a0] hi g none P) (h : ∀ hi' : am_HI, P hi' → AP M_X5_restore b 10 [x0, x1, x2] (st) hi' g Φ) : AP M_X5_restore b 7 [x0, x1, x2] (.ref a0 :: .ref k :: st) hi g Φ := AP.callVr (As := [.ref a0]) (q := (RX6, TX6, 8)) hI hc k_X5_restore_22 d_X5_restore_7 rfl hs hk rfl rfl hst h
theorem d_X5_restore_10 : decode cX5_restore 10 = .ok (.return_, 1) := by decide +kernel
theorem s_X5_restore_10 (h : Φ (.ok none) hi g) : AP M_X5_restore b 10 [x0, x1, x2] [] hi g Φ := AP.vret d_X5_restore_10 rfl h
end
