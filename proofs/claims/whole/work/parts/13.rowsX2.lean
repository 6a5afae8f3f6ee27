/-! ===== rows by program ===== -/
section
variable {b : Nat × Nat} {st : List Value} {hi : am_HI} {g : am_G} {Φ : am_P} {x0 x1 : Value}
theorem d_X2_copyFrom_0 : decode cX2_copyFrom 0 = .ok (.aload_n 1, 1) := by decide +kernel
theorem s_X2_copyFrom_0 {n : Nat} (h : AP M_X2_copyFrom b 1 [x0, .ref n] (.ref n :: st) hi g Φ) : AP M_X2_copyFrom b 0 [x0, .ref n] (st) hi g Φ := AP.aload_n (x := n) (i := 1) d_X2_copyFrom_0 rfl rfl h
theorem d_X2_copyFrom_1 : decode cX2_copyFrom 1 = .ok (.getfield 9, 3) := by decide +kernel
theorem s_X2_copyFrom_1 {k r : Nat} (hI : am_Inv g) (hs : am_SH k = (0, 2)) (hk : k < 134) (hr : am_HRf k 0 = some r) (hn : k ≠ 39) (h : AP M_X2_copyFrom b 4 [x0, x1] (.ref r :: st) hi g Φ) : AP M_X2_copyFrom b 1 [x0, x1] (.ref k :: st) hi g Φ := AP.getR (j := 0) (q := (RX2, TX2, 8)) d_X2_copyFrom_1 hs (hI.lt hk) rfl (by decide) (by decide) w_113 (hI.r hn hr) h
theorem d_X2_copyFrom_4 : decode cX2_copyFrom 4 = .ok (.iconst 0, 1) := by decide +kernel
theorem s_X2_copyFrom_4 (h : AP M_X2_copyFrom b 5 [x0, x1] (.int 0 :: st) hi g Φ) : AP M_X2_copyFrom b 4 [x0, x1] (st) hi g Φ := AP.iconst (x := 0) d_X2_copyFrom_4 (by decide) h
theorem d_X2_copyFrom_5 : decode cX2_copyFrom 5 = .ok (.aload_n 0, 1) := by decide +kernel
theorem s_X2_copyFrom_5 {n : Nat} (h : AP M_X2_copyFrom b 6 [.ref n, x1] (.ref n :: st) hi g Φ) : AP M_X2_copyFrom b 5 [.ref n, x1] (st) hi g Φ := AP.aload_n (x := n) (i := 0) d_X2_copyFrom_5 rfl rfl h
theorem d_X2_copyFrom_6 : decode cX2_copyFrom 6 = .ok (.getfield 9, 3) := by decide +kernel
theorem s_X2_copyFrom_6 {k r : Nat} (hI : am_Inv g) (hs : am_SH k = (0, 2)) (hk : k < 134) (hr : am_HRf k 0 = some r) (hn : k ≠ 39) (h : AP M_X2_copyFrom b 9 [x0, x1] (.ref r :: st) hi g Φ) : AP M_X2_copyFrom b 6 [x0, x1] (.ref k :: st) hi g Φ := AP.getR (j := 0) (q := (RX2, TX2, 8)) d_X2_copyFrom_6 hs (hI.lt hk) rfl (by decide) (by decide) w_113 (hI.r hn hr) h
theorem d_X2_copyFrom_9 : decode cX2_copyFrom 9 = .ok (.iconst 0, 1) := by decide +kernel
theorem s_X2_copyFrom_9 (h : AP M_X2_copyFrom b 10 [x0, x1] (.int 0 :: st) hi g Φ) : AP M_X2_copyFrom b 9 [x0, x1] (st) hi g Φ := AP.iconst (x := 0) d_X2_copyFrom_9 (by decide) h
theorem d_X2_copyFrom_10 : decode cX2_copyFrom 10 = .ok (.iconst 4, 1) := by decide +kernel
theorem s_X2_copyFrom_10 (h : AP M_X2_copyFrom b 11 [x0, x1] (.int 4 :: st) hi g Φ) : AP M_X2_copyFrom b 10 [x0, x1] (st) hi g Φ := AP.iconst (x := 4) d_X2_copyFrom_10 (by decide) h
theorem d_X2_copyFrom_11 : decode cX2_copyFrom 11 = .ok (.invokestatic 37, 3) := by decide +kernel
-- s_X2_copyFrom_11: a call apart
theorem d_X2_copyFrom_14 : decode cX2_copyFrom 14 = .ok (.aload_n 1, 1) := by decide +kernel
theorem s_X2_copyFrom_14 {n : Nat} (h : AP M_X2_copyFrom b 15 [x0, .ref n] (.ref n :: st) hi g Φ) : AP M_X2_copyFrom b 14 [x0, .ref n] (st) hi g Φ := AP.aload_n (x := n) (i := 1) d_X2_copyFrom_14 rfl rfl h
theorem d_X2_copyFrom_15 : decode cX2_copyFrom 15 = .ok (.getfield 15, 3) := by decide +kernel
theorem s_X2_copyFrom_15 {k r : Nat} (hI : am_Inv g) (hs : am_SH k = (0, 2)) (hk : k < 134) (hr : am_HRf k 1 = some r) (hn : k ≠ 39) (h : AP M_X2_copyFrom b 18 [x0, x1] (.ref r :: st) hi g Φ) : AP M_X2_copyFrom b 15 [x0, x1] (.ref k :: st) hi g Φ := AP.getR (j := 1) (q := (RX2, TX2, 8)) d_X2_copyFrom_15 hs (hI.lt hk) rfl (by decide) (by decide) w_116 (hI.r hn hr) h
theorem d_X2_copyFrom_18 : decode cX2_copyFrom 18 = .ok (.iconst 0, 1) := by decide +kernel
theorem s_X2_copyFrom_18 (h : AP M_X2_copyFrom b 19 [x0, x1] (.int 0 :: st) hi g Φ) : AP M_X2_copyFrom b 18 [x0, x1] (st) hi g Φ := AP.iconst (x := 0) d_X2_copyFrom_18 (by decide) h
theorem d_X2_copyFrom_19 : decode cX2_copyFrom 19 = .ok (.aload_n 0, 1) := by decide +kernel
theorem s_X2_copyFrom_19 {n : Nat} (h : AP M_X2_copyFrom b 20 [.ref n, x1] (.ref n :: st) hi g Φ) : AP M_X2_copyFrom b 19 [.ref n, x1] (st) hi g Φ := AP.aload_n (x := n) (i := 0) d_X2_copyFrom_19 rfl rfl h
theorem d_X2_copyFrom_20 : decode cX2_copyFrom 20 = .ok (.getfield 15, 3) := by decide +kernel
theorem s_X2_copyFrom_20 {k r : Nat} (hI : am_Inv g) (hs : am_SH k = (0, 2)) (hk : k < 134) (hr : am_HRf k 1 = some r) (hn : k ≠ 39) (h : AP M_X2_copyFrom b 23 [x0, x1] (.ref r :: st) hi g Φ) : AP M_X2_copyFrom b 20 [x0, x1] (.ref k :: st) hi g Φ := AP.getR (j := 1) (q := (RX2, TX2, 8)) d_X2_copyFrom_20 hs (hI.lt hk) rfl (by decide) (by decide) w_116 (hI.r hn hr) h
theorem d_X2_copyFrom_23 : decode cX2_copyFrom 23 = .ok (.iconst 0, 1) := by decide +kernel
theorem s_X2_copyFrom_23 (h : AP M_X2_copyFrom b 24 [x0, x1] (.int 0 :: st) hi g Φ) : AP M_X2_copyFrom b 23 [x0, x1] (st) hi g Φ := AP.iconst (x := 0) d_X2_copyFrom_23 (by decide) h
theorem d_X2_copyFrom_24 : decode cX2_copyFrom 24 = .ok (.bipush 6, 2) := by decide +kernel
theorem s_X2_copyFrom_24 (h : AP M_X2_copyFrom b 26 [x0, x1] (.int 6 :: st) hi g Φ) : AP M_X2_copyFrom b 24 [x0, x1] (st) hi g Φ := AP.bipush (x := 6) d_X2_copyFrom_24 (by decide) h
theorem d_X2_copyFrom_26 : decode cX2_copyFrom 26 = .ok (.invokestatic 37, 3) := by decide +kernel
-- s_X2_copyFrom_26: a call apart
theorem d_X2_copyFrom_29 : decode cX2_copyFrom 29 = .ok (.aload_n 1, 1) := by decide +kernel
theorem s_X2_copyFrom_29 {n : Nat} (h : AP M_X2_copyFrom b 30 [x0, .ref n] (.ref n :: st) hi g Φ) : AP M_X2_copyFrom b 29 [x0, .ref n] (st) hi g Φ := AP.aload_n (x := n) (i := 1) d_X2_copyFrom_29 rfl rfl h
theorem d_X2_copyFrom_30 : decode cX2_copyFrom 30 = .ok (.getfield 18, 3) := by decide +kernel
theorem s_X2_copyFrom_30 {k r : Nat} (hI : am_Inv g) (hs : am_SH k = (0, 2)) (hk : k < 134) (hr : am_HRf k 2 = some r) (hn : k ≠ 39) (h : AP M_X2_copyFrom b 33 [x0, x1] (.ref r :: st) hi g Φ) : AP M_X2_copyFrom b 30 [x0, x1] (.ref k :: st) hi g Φ := AP.getR (j := 2) (q := (RX2, TX2, 8)) d_X2_copyFrom_30 hs (hI.lt hk) rfl (by decide) (by decide) w_120 (hI.r hn hr) h
theorem d_X2_copyFrom_33 : decode cX2_copyFrom 33 = .ok (.iconst 0, 1) := by decide +kernel
theorem s_X2_copyFrom_33 (h : AP M_X2_copyFrom b 34 [x0, x1] (.int 0 :: st) hi g Φ) : AP M_X2_copyFrom b 33 [x0, x1] (st) hi g Φ := AP.iconst (x := 0) d_X2_copyFrom_33 (by decide) h
theorem d_X2_copyFrom_34 : decode cX2_copyFrom 34 = .ok (.aload_n 0, 1) := by decide +kernel
theorem s_X2_copyFrom_34 {n : Nat} (h : AP M_X2_copyFrom b 35 [.ref n, x1] (.ref n :: st) hi g Φ) : AP M_X2_copyFrom b 34 [.ref n, x1] (st) hi g Φ := AP.aload_n (x := n) (i := 0) d_X2_copyFrom_34 rfl rfl h
theorem d_X2_copyFrom_35 : decode cX2_copyFrom 35 = .ok (.getfield 18, 3) := by decide +kernel
theorem s_X2_copyFrom_35 {k r : Nat} (hI : am_Inv g) (hs : am_SH k = (0, 2)) (hk : k < 134) (hr : am_HRf k 2 = some r) (hn : k ≠ 39) (h : AP M_X2_copyFrom b 38 [x0, x1] (.ref r :: st) hi g Φ) : AP M_X2_copyFrom b 35 [x0, x1] (.ref k :: st) hi g Φ := AP.getR (j := 2) (q := (RX2, TX2, 8)) d_X2_copyFrom_35 hs (hI.lt hk) rfl (by decide) (by decide) w_120 (hI.r hn hr) h
theorem d_X2_copyFrom_38 : decode cX2_copyFrom 38 = .ok (.iconst 0, 1) := by decide +kernel
theorem s_X2_copyFrom_38 (h : AP M_X2_copyFrom b 39 [x0, x1] (.int 0 :: st) hi g Φ) : AP M_X2_copyFrom b 38 [x0, x1] (st) hi g Φ := AP.iconst (x := 0) d_X2_copyFrom_38 (by decide) h
theorem d_X2_copyFrom_39 : decode cX2_copyFrom 39 = .ok (.bipush 6, 2) := by decide +kernel
theorem s_X2_copyFrom_39 (h : AP M_X2_copyFrom b 41 [x0, x1] (.int 6 :: st) hi g Φ) : AP M_X2_copyFrom b 39 [x0, x1] (st) hi g Φ := AP.bipush (x := 6) d_X2_copyFrom_39 (by decide) h
theorem d_X2_copyFrom_41 : decode cX2_copyFrom 41 = .ok (.invokestatic 37, 3) := by decide +kernel
-- s_X2_copyFrom_41: a call apart
theorem d_X2_copyFrom_44 : decode cX2_copyFrom 44 = .ok (.aload_n 1, 1) := by decide +kernel
theorem s_X2_copyFrom_44 {n : Nat} (h : AP M_X2_copyFrom b 45 [x0, .ref n] (.ref n :: st) hi g Φ) : AP M_X2_copyFrom b 44 [x0, .ref n] (st) hi g Φ := AP.aload_n (x := n) (i := 1) d_X2_copyFrom_44 rfl rfl h
theorem d_X2_copyFrom_45 : decode cX2_copyFrom 45 = .ok (.getfield 21, 3) := by decide +kernel
theorem s_X2_copyFrom_45 {k r : Nat} (hI : am_Inv g) (hs : am_SH k = (0, 2)) (hk : k < 134) (hr : am_HRf k 3 = some r) (hn : k ≠ 39) (h : AP M_X2_copyFrom b 48 [x0, x1] (.ref r :: st) hi g Φ) : AP M_X2_copyFrom b 45 [x0, x1] (.ref k :: st) hi g Φ := AP.getR (j := 3) (q := (RX2, TX2, 8)) d_X2_copyFrom_45 hs (hI.lt hk) rfl (by decide) (by decide) w_123 (hI.r hn hr) h
theorem d_X2_copyFrom_48 : decode cX2_copyFrom 48 = .ok (.iconst 0, 1) := by decide +kernel
theorem s_X2_copyFrom_48 (h : AP M_X2_copyFrom b 49 [x0, x1] (.int 0 :: st) hi g Φ) : AP M_X2_copyFrom b 48 [x0, x1] (st) hi g Φ := AP.iconst (x := 0) d_X2_copyFrom_48 (by decide) h
theorem d_X2_copyFrom_49 : decode cX2_copyFrom 49 = .ok (.aload_n 0, 1) := by decide +kernel
theorem s_X2_copyFrom_49 {n : Nat} (h : AP M_X2_copyFrom b 50 [.ref n, x1] (.ref n :: st) hi g Φ) : AP M_X2_copyFrom b 49 [.ref n, x1] (st) hi g Φ := AP.aload_n (x := n) (i := 0) d_X2_copyFrom_49 rfl rfl h
theorem d_X2_copyFrom_50 : decode cX2_copyFrom 50 = .ok (.getfield 21, 3) := by decide +kernel
theorem s_X2_copyFrom_50 {k r : Nat} (hI : am_Inv g) (hs : am_SH k = (0, 2)) (hk : k < 134) (hr : am_HRf k 3 = some r) (hn : k ≠ 39) (h : AP M_X2_copyFrom b 53 [x0, x1] (.ref r :: st) hi g Φ) : AP M_X2_copyFrom b 50 [x0, x1] (.ref k :: st) hi g Φ := AP.getR (j := 3) (q := (RX2, TX2, 8)) d_X2_copyFrom_50 hs (hI.lt hk) rfl (by decide) (by decide) w_123 (hI.r hn hr) h
theorem d_X2_copyFrom_53 : decode cX2_copyFrom 53 = .ok (.iconst 0, 1) := by decide +kernel
theorem s_X2_copyFrom_53 (h : AP M_X2_copyFrom b 54 [x0, x1] (.int 0 :: st) hi g Φ) : AP M_X2_copyFrom b 53 [x0, x1] (st) hi g Φ := AP.iconst (x := 0) d_X2_copyFrom_53 (by decide) h
theorem d_X2_copyFrom_54 : decode cX2_copyFrom 54 = .ok (.bipush 48, 2) := by decide +kernel
theorem s_X2_copyFrom_54 (h : AP M_X2_copyFrom b 56 [x0, x1] (.int 48 :: st) hi g Φ) : AP M_X2_copyFrom b 54 [x0, x1] (st) hi g Φ := AP.bipush (x := 48) d_X2_copyFrom_54 (by decide) h
theorem d_X2_copyFrom_56 : decode cX2_copyFrom 56 = .ok (.invokestatic 37, 3) := by decide +kernel
-- s_X2_copyFrom_56: a call apart
theorem d_X2_copyFrom_59 : decode cX2_copyFrom 59 = .ok (.aload_n 1, 1) := by decide +kernel
theorem s_X2_copyFrom_59 {n : Nat} (h : AP M_X2_copyFrom b 60 [x0, .ref n] (.ref n :: st) hi g Φ) : AP M_X2_copyFrom b 59 [x0, .ref n] (st) hi g Φ := AP.aload_n (x := n) (i := 1) d_X2_copyFrom_59 rfl rfl h
theorem d_X2_copyFrom_60 : decode cX2_copyFrom 60 = .ok (.getfield 24, 3) := by decide +kernel
theorem s_X2_copyFrom_60 {k r : Nat} (hI : am_Inv g) (hs : am_SH k = (0, 2)) (hk : k < 134) (hr : am_HRf k 4 = some r) (hn : k ≠ 39) (h : AP M_X2_copyFrom b 63 [x0, x1] (.ref r :: st) hi g Φ) : AP M_X2_copyFrom b 60 [x0, x1] (.ref k :: st) hi g Φ := AP.getR (j := 4) (q := (RX2, TX2, 8)) d_X2_copyFrom_60 hs (hI.lt hk) rfl (by decide) (by decide) w_127 (hI.r hn hr) h
theorem d_X2_copyFrom_63 : decode cX2_copyFrom 63 = .ok (.iconst 0, 1) := by decide +kernel
theorem s_X2_copyFrom_63 (h : AP M_X2_copyFrom b 64 [x0, x1] (.int 0 :: st) hi g Φ) : AP M_X2_copyFrom b 63 [x0, x1] (st) hi g Φ := AP.iconst (x := 0) d_X2_copyFrom_63 (by decide) h
theorem d_X2_copyFrom_64 : decode cX2_copyFrom 64 = .ok (.aload_n 0, 1) := by decide +kernel
theorem s_X2_copyFrom_64 {n : Nat} (h : AP M_X2_copyFrom b 65 [.ref n, x1] (.ref n :: st) hi g Φ) : AP M_X2_copyFrom b 64 [.ref n, x1] (st) hi g Φ := AP.aload_n (x := n) (i := 0) d_X2_copyFrom_64 rfl rfl h
theorem d_X2_copyFrom_65 : decode cX2_copyFrom 65 = .ok (.getfield 24, 3) := by decide +kernel
theorem s_X2_copyFrom_65 {k r : Nat} (hI : am_Inv g) (hs : am_SH k = (0, 2)) (hk : k < 134) (hr : am_HRf k 4 = some r) (hn : k ≠ 39) (h : AP M_X2_copyFrom b 68 [x0, x1] (.ref r :: st) hi g Φ) : AP M_X2_copyFrom b 65 [x0, x1] (.ref k :: st) hi g Φ := AP.getR (j := 4) (q := (RX2, TX2, 8)) d_X2_copyFrom_65 hs (hI.lt hk) rfl (by decide) (by decide) w_127 (hI.r hn hr) h
theorem d_X2_copyFrom_68 : decode cX2_copyFrom 68 = .ok (.iconst 0, 1) := by decide +kernel
theorem s_X2_copyFrom_68 (h : AP M_X2_copyFrom b 69 [x0, x1] (.int 0 :: st) hi g Φ) : AP M_X2_copyFrom b 68 [x0, x1] (st) hi g Φ := AP.iconst (x := 0) d_X2_copyFrom_68 (by decide) h
theorem d_X2_copyFrom_69 : decode cX2_copyFrom 69 = .ok (.bipush 48, 2) := by decide +kernel
theorem s_X2_copyFrom_69 (h : AP M_X2_copyFrom b 71 [x0, x1] (.int 48 :: st) hi g Φ) : AP M_X2_copyFrom b 69 [x0, x1] (st) hi g Φ := AP.bipush (x := 48) d_X2_copyFrom_69 (by decide) h
theorem d_X2_copyFrom_71 : decode cX2_copyFrom 71 = .ok (.invokestatic 37, 3) := by decide +kernel
-- s_X2_copyFrom_71: a call apart
theorem d_X2_copyFrom_74 : decode cX2_copyFrom 74 = .ok (.aload_n 0, 1) := by decide +kernel
theorem s_X2_copyFrom_74 {n : Nat} (h : AP M_X2_copyFrom b 75 [.ref n, x1] (.ref n :: st) hi g Φ) : AP M_X2_copyFrom b 74 [.ref n, x1] (st) hi g Φ := AP.aload_n (x := n) (i := 0) d_X2_copyFrom_74 rfl rfl h
theorem d_X2_copyFrom_75 : decode cX2_copyFrom 75 = .ok (.aload_n 1, 1) := by decide +kernel
theorem s_X2_copyFrom_75 {n : Nat} (h : AP M_X2_copyFrom b 76 [x0, .ref n] (.ref n :: st) hi g Φ) : AP M_X2_copyFrom b 75 [x0, .ref n] (st) hi g Φ := AP.aload_n (x := n) (i := 1) d_X2_copyFrom_75 rfl rfl h
theorem d_X2_copyFrom_76 : decode cX2_copyFrom 76 = .ok (.getfield 27, 3) := by decide +kernel
theorem s_X2_copyFrom_76 {k : Nat} (hI : am_Inv g) (hs : am_SH k = (0, 2)) (hk : k < 134) (h : AP M_X2_copyFrom b 79 [x0, x1] (.int (hi k 5) :: st) hi g Φ) : AP M_X2_copyFrom b 76 [x0, x1] (.ref k :: st) hi g Φ := AP.getI (j := 5) (q := (RX2, TX2, 8)) d_X2_copyFrom_76 hs (hI.lt hk) rfl (by decide) (by decide) w_130 h
theorem d_X2_copyFrom_79 : decode cX2_copyFrom 79 = .ok (.putfield 27, 3) := by decide +kernel
theorem s_X2_copyFrom_79 {k : Nat} {n : Int32} (hI : am_Inv g) (hs : am_SH k = (0, 2)) (hk : k < 134) (h : AP M_X2_copyFrom b 82 [x0, x1] (st) (am_up hi k 5 n) g Φ) : AP M_X2_copyFrom b 79 [x0, x1] (.int n :: .ref k :: st) hi g Φ := AP.putI (j := 5) (q := (RX2, TX2, 8)) d_X2_copyFrom_79 hs (hI.lt hk) rfl (by decide) rfl rfl w_130 h
theorem d_X2_copyFrom_82 : decode cX2_copyFrom 82 = .ok (.aload_n 0, 1) := by decide +kernel
theorem s_X2_copyFrom_82 {n : Nat} (h : AP M_X2_copyFrom b 83 [.ref n, x1] (.ref n :: st) hi g Φ) : AP M_X2_copyFrom b 82 [.ref n, x1] (st) hi g Φ := AP.aload_n (x := n) (i := 0) d_X2_copyFrom_82 rfl rfl h
theorem d_X2_copyFrom_83 : decode cX2_copyFrom 83 = .ok (.aload_n 1, 1) := by decide +kernel
theorem s_X2_copyFrom_83 {n : Nat} (h : AP M_X2_copyFrom b 84 [x0, .ref n] (.ref n :: st) hi g Φ) : AP M_X2_copyFrom b 83 [x0, .ref n] (st) hi g Φ := AP.aload_n (x := n) (i := 1) d_X2_copyFrom_83 rfl rfl h
theorem d_X2_copyFrom_84 : decode cX2_copyFrom 84 = .ok (.getfield 31, 3) := by decide +kernel
theorem s_X2_copyFrom_84 {k : Nat} (hI : am_Inv g) (hs : am_SH k = (0, 2)) (hk : k < 134) (h : AP M_X2_copyFrom b 87 [x0, x1] (.int (hi k 6) :: st) hi g Φ) : AP M_X2_copyFrom b 84 [x0, x1] (.ref k :: st) hi g Φ := AP.getI (j := 6) (q := (RX2, TX2, 8)) d_X2_copyFrom_84 hs (hI.lt hk) rfl (by decide) (by decide) w_134 h
theorem d_X2_copyFrom_87 : decode cX2_copyFrom 87 = .ok (.putfield 31, 3) := by decide +kernel
theorem s_X2_copyFrom_87 {k : Nat} {n : Int32} (hI : am_Inv g) (hs : am_SH k = (0, 2)) (hk : k < 134) (h : AP M_X2_copyFrom b 90 [x0, x1] (st) (am_up hi k 6 n) g Φ) : AP M_X2_copyFrom b 87 [x0, x1] (.int n :: .ref k :: st) hi g Φ := AP.putI (j := 6) (q := (RX2, TX2, 8)) d_X2_copyFrom_87 hs (hI.lt hk) rfl (by decide) rfl rfl w_134 h
theorem d_X2_copyFrom_90 : decode cX2_copyFrom 90 = .ok (.aload_n 0, 1) := by decide +kernel
theorem s_X2_copyFrom_90 {n : Nat} (h : AP M_X2_copyFrom b 91 [.ref n, x1] (.ref n :: st) hi g Φ) : AP M_X2_copyFrom b 90 [.ref n, x1] (st) hi g Φ := AP.aload_n (x := n) (i := 0) d_X2_copyFrom_90 rfl rfl h
theorem d_X2_copyFrom_91 : decode cX2_copyFrom 91 = .ok (.aload_n 1, 1) := by decide +kernel
theorem s_X2_copyFrom_91 {n : Nat} (h : AP M_X2_copyFrom b 92 [x0, .ref n] (.ref n :: st) hi g Φ) : AP M_X2_copyFrom b 91 [x0, .ref n] (st) hi g Φ := AP.aload_n (x := n) (i := 1) d_X2_copyFrom_91 rfl rfl h
theorem d_X2_copyFrom_92 : decode cX2_copyFrom 92 = .ok (.getfield 34, 3) := by decide +kernel
theorem s_X2_copyFrom_92 {k : Nat} (hI : am_Inv g) (hs : am_SH k = (0, 2)) (hk : k < 134) (h : AP M_X2_copyFrom b 95 [x0, x1] (.int (hi k 7) :: st) hi g Φ) : AP M_X2_copyFrom b 92 [x0, x1] (.ref k :: st) hi g Φ := AP.getI (j := 7) (q := (RX2, TX2, 8)) d_X2_copyFrom_92 hs (hI.lt hk) rfl (by decide) (by decide) w_137 h
theorem d_X2_copyFrom_95 : decode cX2_copyFrom 95 = .ok (.putfield 34, 3) := by decide +kernel
theorem s_X2_copyFrom_95 {k : Nat} {n : Int32} (hI : am_Inv g) (hs : am_SH k = (0, 2)) (hk : k < 134) (h : AP M_X2_copyFrom b 98 [x0, x1] (st) (am_up hi k 7 n) g Φ) : AP M_X2_copyFrom b 95 [x0, x1] (.int n :: .ref k :: st) hi g Φ := AP.putI (j := 7) (q := (RX2, TX2, 8)) d_X2_copyFrom_95 hs (hI.lt hk) rfl (by decide) rfl rfl w_137 h
theorem d_X2_copyFrom_98 : decode cX2_copyFrom 98 = .ok (.return_, 1) := by decide +kernel
theorem s_X2_copyFrom_98 (h : Φ (.ok none) hi g) : AP M_X2_copyFrom b 98 [x0, x1] [] hi g Φ := AP.vret d_X2_copyFrom_98 rfl h
end
section
variable {b : Nat × Nat} {st : List Value} {hi : am_HI} {g : am_G} {Φ : am_P} {x0 x1 x2 : Value}
theorem d_X2_countBits_0 : decode cX2_countBits 0 = .ok (.aload_n 0, 1) := by decide +kernel
theorem s_X2_countBits_0 {n : Nat} (h : AP M_X2_countBits b 1 [.ref n, x1, x2] (.ref n :: st) hi g Φ) : AP M_X2_countBits b 0 [.ref n, x1, x2] (st) hi g Φ := AP.aload_n (x := n) (i := 0) d_X2_countBits_0 rfl rfl h
theorem d_X2_countBits_1 : decode cX2_countBits 1 = .ok (.getfield 27, 3) := by decide +kernel
theorem s_X2_countBits_1 {k : Nat} (hI : am_Inv g) (hs : am_SH k = (0, 2)) (hk : k < 134) (h : AP M_X2_countBits b 4 [x0, x1, x2] (.int (hi k 5) :: st) hi g Φ) : AP M_X2_countBits b 1 [x0, x1, x2] (.ref k :: st) hi g Φ := AP.getI (j := 5) (q := (RX2, TX2, 8)) d_X2_countBits_1 hs (hI.lt hk) rfl (by decide) (by decide) w_130 h
theorem d_X2_countBits_4 : decode cX2_countBits 4 = .ok (.invokestatic 43, 3) := by decide +kernel
theorem s_X2_countBits_4 {a0 : Int32} {r0 : Int32} {P : am_HI → Prop} (hI : am_Inv g) (hst : (st.map Value.category).sum ≤ 8) (hc : am_Cr M_X9_blocksOf [.int a0] hi g (some (.int r0)) P) (h : ∀ hi' : am_HI, P hi' → AP M_X2_countBits b 7 [x0, x1, x2] (.int r0 :: st) hi' g Φ) : AP M_X2_countBits b 4 [x0, x1, x2] (.int a0 :: st) hi g Φ := AP.callNr (As := [.int a0]) hI hc k_X2_countBits_43 d_X2_countBits_4 rfl hst h
theorem d_X2_countBits_7 : decode cX2_countBits 7 = .ok (.bipush 6, 2) := by decide +kernel
theorem s_X2_countBits_7 (h : AP M_X2_countBits b 9 [x0, x1, x2] (.int 6 :: st) hi g Φ) : AP M_X2_countBits b 7 [x0, x1, x2] (st) hi g Φ := AP.bipush (x := 6) d_X2_countBits_7 (by decide) h
theorem d_X2_countBits_9 : decode cX2_countBits 9 = .ok (.imul, 1) := by decide +kernel
theorem s_X2_countBits_9 {x y : Int32} (h : AP M_X2_countBits b 10 [x0, x1, x2] (.int (x * y) :: st) hi g Φ) : AP M_X2_countBits b 9 [x0, x1, x2] (.int y :: .int x :: st) hi g Φ := AP.imul d_X2_countBits_9 h
theorem d_X2_countBits_10 : decode cX2_countBits 10 = .ok (.istore_n 1, 1) := by decide +kernel
theorem s_X2_countBits_10 {n : Int32} (hc : x0.category = 1) (h : AP M_X2_countBits b 11 [x0, .int n, x2] (st) hi g Φ) : AP M_X2_countBits b 10 [x0, x1, x2] (.int n :: st) hi g Φ := AP.istore_n (x := n) (i := 1) d_X2_countBits_10 rfl (by decide) (by simp [am_st, am_ci, am_cr, am_cl, am_cd, hc]) h
theorem d_X2_countBits_11 : decode cX2_countBits 11 = .ok (.iconst 0, 1) := by decide +kernel
theorem s_X2_countBits_11 (h : AP M_X2_countBits b 12 [x0, x1, x2] (.int 0 :: st) hi g Φ) : AP M_X2_countBits b 11 [x0, x1, x2] (st) hi g Φ := AP.iconst (x := 0) d_X2_countBits_11 (by decide) h
theorem d_X2_countBits_12 : decode cX2_countBits 12 = .ok (.istore_n 2, 1) := by decide +kernel
theorem s_X2_countBits_12 {n : Int32} (hc : x1.category = 1) (h : AP M_X2_countBits b 13 [x0, x1, .int n] (st) hi g Φ) : AP M_X2_countBits b 12 [x0, x1, x2] (.int n :: st) hi g Φ := AP.istore_n (x := n) (i := 2) d_X2_countBits_12 rfl (by decide) (by simp [am_st, am_ci, am_cr, am_cl, am_cd, hc]) h
theorem d_X2_countBits_13 : decode cX2_countBits 13 = .ok (.iload_n 2, 1) := by decide +kernel
theorem s_X2_countBits_13 {n : Int32} (h : AP M_X2_countBits b 14 [x0, x1, .int n] (.int n :: st) hi g Φ) : AP M_X2_countBits b 13 [x0, x1, .int n] (st) hi g Φ := AP.iload_n (x := n) (i := 2) d_X2_countBits_13 rfl rfl h
theorem d_X2_countBits_14 : decode cX2_countBits 14 = .ok (.aload_n 0, 1) := by decide +kernel
theorem s_X2_countBits_14 {n : Nat} (h : AP M_X2_countBits b 15 [.ref n, x1, x2] (.ref n :: st) hi g Φ) : AP M_X2_countBits b 14 [.ref n, x1, x2] (st) hi g Φ := AP.aload_n (x := n) (i := 0) d_X2_countBits_14 rfl rfl h
theorem d_X2_countBits_15 : decode cX2_countBits 15 = .ok (.getfield 27, 3) := by decide +kernel
theorem s_X2_countBits_15 {k : Nat} (hI : am_Inv g) (hs : am_SH k = (0, 2)) (hk : k < 134) (h : AP M_X2_countBits b 18 [x0, x1, x2] (.int (hi k 5) :: st) hi g Φ) : AP M_X2_countBits b 15 [x0, x1, x2] (.ref k :: st) hi g Φ := AP.getI (j := 5) (q := (RX2, TX2, 8)) d_X2_countBits_15 hs (hI.lt hk) rfl (by decide) (by decide) w_130 h
theorem d_X2_countBits_18 : decode cX2_countBits 18 = .ok (.if_icmp .ge 33, 3) := by decide +kernel
theorem s_X2_countBits_18 {x y : Int32} (h1 : y ≤ x → AP M_X2_countBits b 51 [x0, x1, x2] st hi g Φ) (h2 : ¬ y ≤ x → AP M_X2_countBits b 21 [x0, x1, x2] st hi g Φ) : AP M_X2_countBits b 18 [x0, x1, x2] (.int y :: .int x :: st) hi g Φ := AP.icmp_ge d_X2_countBits_18 (by decide) h1 h2
theorem d_X2_countBits_21 : decode cX2_countBits 21 = .ok (.iload_n 1, 1) := by decide +kernel
theorem s_X2_countBits_21 {n : Int32} (h : AP M_X2_countBits b 22 [x0, .int n, x2] (.int n :: st) hi g Φ) : AP M_X2_countBits b 21 [x0, .int n, x2] (st) hi g Φ := AP.iload_n (x := n) (i := 1) d_X2_countBits_21 rfl rfl h
theorem d_X2_countBits_22 : decode cX2_countBits 22 = .ok (.aload_n 0, 1) := by decide +kernel
theorem s_X2_countBits_22 {n : Nat} (h : AP M_X2_countBits b 23 [.ref n, x1, x2] (.ref n :: st) hi g Φ) : AP M_X2_countBits b 22 [.ref n, x1, x2] (st) hi g Φ := AP.aload_n (x := n) (i := 0) d_X2_countBits_22 rfl rfl h
theorem d_X2_countBits_23 : decode cX2_countBits 23 = .ok (.getfield 21, 3) := by decide +kernel
theorem s_X2_countBits_23 {k r : Nat} (hI : am_Inv g) (hs : am_SH k = (0, 2)) (hk : k < 134) (hr : am_HRf k 3 = some r) (hn : k ≠ 39) (h : AP M_X2_countBits b 26 [x0, x1, x2] (.ref r :: st) hi g Φ) : AP M_X2_countBits b 23 [x0, x1, x2] (.ref k :: st) hi g Φ := AP.getR (j := 3) (q := (RX2, TX2, 8)) d_X2_countBits_23 hs (hI.lt hk) rfl (by decide) (by decide) w_123 (hI.r hn hr) h
theorem d_X2_countBits_26 : decode cX2_countBits 26 = .ok (.iload_n 2, 1) := by decide +kernel
theorem s_X2_countBits_26 {n : Int32} (h : AP M_X2_countBits b 27 [x0, x1, .int n] (.int n :: st) hi g Φ) : AP M_X2_countBits b 26 [x0, x1, .int n] (st) hi g Φ := AP.iload_n (x := n) (i := 2) d_X2_countBits_26 rfl rfl h
theorem d_X2_countBits_27 : decode cX2_countBits 27 = .ok (.iaload, 1) := by decide +kernel
theorem s_X2_countBits_27 {k n j : Nat} {i : Int32} (hI : am_Inv g) (hs : am_SH k = (1, n)) (hk : k < 134) (hn : n < 2 ^ 31) (hx : i = nI j) (hj : j < n) (h : AP M_X2_countBits b 28 [x0, x1, x2] (.int (hi k j) :: st) hi g Φ) : AP M_X2_countBits b 27 [x0, x1, x2] (.int i :: .ref k :: st) hi g Φ := AP.iald d_X2_countBits_27 hs (hI.lt hk) hn hx hj h
theorem d_X2_countBits_28 : decode cX2_countBits 28 = .ok (.invokestatic 47, 3) := by decide +kernel
theorem s_X2_countBits_28 {a0 : Int32} {r0 : Int32} {P : am_HI → Prop} (hI : am_Inv g) (hst : (st.map Value.category).sum ≤ 8) (hc : am_Cr M_X9_fold [.int a0] hi g (some (.int r0)) P) (h : ∀ hi' : am_HI, P hi' → AP M_X2_countBits b 31 [x0, x1, x2] (.int r0 :: st) hi' g Φ) : AP M_X2_countBits b 28 [x0, x1, x2] (.int a0 :: st) hi g Φ := AP.callNr (As := [.int a0]) hI hc k_X2_countBits_47 d_X2_countBits_28 rfl hst h
theorem d_X2_countBits_31 : decode cX2_countBits 31 = .ok (.aload_n 0, 1) := by decide +kernel
theorem s_X2_countBits_31 {n : Nat} (h : AP M_X2_countBits b 32 [.ref n, x1, x2] (.ref n :: st) hi g Φ) : AP M_X2_countBits b 31 [.ref n, x1, x2] (st) hi g Φ := AP.aload_n (x := n) (i := 0) d_X2_countBits_31 rfl rfl h
theorem d_X2_countBits_32 : decode cX2_countBits 32 = .ok (.getfield 18, 3) := by decide +kernel
theorem s_X2_countBits_32 {k r : Nat} (hI : am_Inv g) (hs : am_SH k = (0, 2)) (hk : k < 134) (hr : am_HRf k 2 = some r) (hn : k ≠ 39) (h : AP M_X2_countBits b 35 [x0, x1, x2] (.ref r :: st) hi g Φ) : AP M_X2_countBits b 32 [x0, x1, x2] (.ref k :: st) hi g Φ := AP.getR (j := 2) (q := (RX2, TX2, 8)) d_X2_countBits_32 hs (hI.lt hk) rfl (by decide) (by decide) w_120 (hI.r hn hr) h
theorem d_X2_countBits_35 : decode cX2_countBits 35 = .ok (.iload_n 2, 1) := by decide +kernel
theorem s_X2_countBits_35 {n : Int32} (h : AP M_X2_countBits b 36 [x0, x1, .int n] (.int n :: st) hi g Φ) : AP M_X2_countBits b 35 [x0, x1, .int n] (st) hi g Φ := AP.iload_n (x := n) (i := 2) d_X2_countBits_35 rfl rfl h
theorem d_X2_countBits_36 : decode cX2_countBits 36 = .ok (.bipush 8, 2) := by decide +kernel
theorem s_X2_countBits_36 (h : AP M_X2_countBits b 38 [x0, x1, x2] (.int 8 :: st) hi g Φ) : AP M_X2_countBits b 36 [x0, x1, x2] (st) hi g Φ := AP.bipush (x := 8) d_X2_countBits_36 (by decide) h
theorem d_X2_countBits_38 : decode cX2_countBits 38 = .ok (.idiv, 1) := by decide +kernel
theorem s_X2_countBits_38 {x y : Int32} (hy : ¬ y = 0) (h : AP M_X2_countBits b 39 [x0, x1, x2] (.int (x / y) :: st) hi g Φ) : AP M_X2_countBits b 38 [x0, x1, x2] (.int y :: .int x :: st) hi g Φ := AP.idiv d_X2_countBits_38 hy h
theorem d_X2_countBits_39 : decode cX2_countBits 39 = .ok (.iaload, 1) := by decide +kernel
theorem s_X2_countBits_39 {k n j : Nat} {i : Int32} (hI : am_Inv g) (hs : am_SH k = (1, n)) (hk : k < 134) (hn : n < 2 ^ 31) (hx : i = nI j) (hj : j < n) (h : AP M_X2_countBits b 40 [x0, x1, x2] (.int (hi k j) :: st) hi g Φ) : AP M_X2_countBits b 39 [x0, x1, x2] (.int i :: .ref k :: st) hi g Φ := AP.iald d_X2_countBits_39 hs (hI.lt hk) hn hx hj h
theorem d_X2_countBits_40 : decode cX2_countBits 40 = .ok (.invokestatic 50, 3) := by decide +kernel
theorem s_X2_countBits_40 {a0 : Int32} {a1 : Int32} {r0 : Int32} {P : am_HI → Prop} (hI : am_Inv g) (hst : (st.map Value.category).sum ≤ 8) (hc : am_Cr M_X9_bitsOfFolded [.int a0, .int a1] hi g (some (.int r0)) P) (h : ∀ hi' : am_HI, P hi' → AP M_X2_countBits b 43 [x0, x1, x2] (.int r0 :: st) hi' g Φ) : AP M_X2_countBits b 40 [x0, x1, x2] (.int a1 :: .int a0 :: st) hi g Φ := AP.callNr (As := [.int a0, .int a1]) hI hc k_X2_countBits_50 d_X2_countBits_40 rfl hst h
theorem d_X2_countBits_43 : decode cX2_countBits 43 = .ok (.iadd, 1) := by decide +kernel
theorem s_X2_countBits_43 {x y : Int32} (h : AP M_X2_countBits b 44 [x0, x1, x2] (.int (x + y) :: st) hi g Φ) : AP M_X2_countBits b 43 [x0, x1, x2] (.int y :: .int x :: st) hi g Φ := AP.iadd d_X2_countBits_43 h
theorem d_X2_countBits_44 : decode cX2_countBits 44 = .ok (.istore_n 1, 1) := by decide +kernel
theorem s_X2_countBits_44 {n : Int32} (hc : x0.category = 1) (h : AP M_X2_countBits b 45 [x0, .int n, x2] (st) hi g Φ) : AP M_X2_countBits b 44 [x0, x1, x2] (.int n :: st) hi g Φ := AP.istore_n (x := n) (i := 1) d_X2_countBits_44 rfl (by decide) (by simp [am_st, am_ci, am_cr, am_cl, am_cd, hc]) h
theorem d_X2_countBits_45 : decode cX2_countBits 45 = .ok (.iinc 2 1, 3) := by decide +kernel
theorem s_X2_countBits_45 {n : Int32} (hc : x1.category = 1) (h : AP M_X2_countBits b 48 [x0, x1, .int (n + 1)] (st) hi g Φ) : AP M_X2_countBits b 45 [x0, x1, .int n] (st) hi g Φ := AP.iinc (i := 2) (x := n) (y := n + 1) d_X2_countBits_45 rfl rfl (by decide) (by simp [am_st, am_ci, am_cr, am_cl, am_cd, hc]) h
theorem d_X2_countBits_48 : decode cX2_countBits 48 = .ok (.goto (-35), 3) := by decide +kernel
theorem s_X2_countBits_48 (h : AP M_X2_countBits b 13 [x0, x1, x2] st hi g Φ) : AP M_X2_countBits b 48 [x0, x1, x2] st hi g Φ := AP.goto d_X2_countBits_48 (by decide) h
theorem d_X2_countBits_51 : decode cX2_countBits 51 = .ok (.iload_n 1, 1) := by decide +kernel
theorem s_X2_countBits_51 {n : Int32} (h : AP M_X2_countBits b 52 [x0, .int n, x2] (.int n :: st) hi g Φ) : AP M_X2_countBits b 51 [x0, .int n, x2] (st) hi g Φ := AP.iload_n (x := n) (i := 1) d_X2_countBits_51 rfl rfl h
theorem d_X2_countBits_52 : decode cX2_countBits 52 = .ok (.ireturn, 1) := by decide +kernel
theorem s_X2_countBits_52 {x : Int32} (h : Φ (.ok (some (.int x))) hi g) : AP M_X2_countBits b 52 [x0, x1, x2] [.int x] hi g Φ := AP.iret d_X2_countBits_52 rfl h
end
