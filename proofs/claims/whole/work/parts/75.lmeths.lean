/-! ===== the law's own methods: by program ===== -/
theorem l_add {hi : am_HI} {g : am_G} (hI : am_Inv g) {v1 : Int32} {r : Int32} {P : am_HI → am_G → Prop} (hc : am_Cg M_X9_add [.ref 0, .int v1] hi g (some (.int r)) P) : am_Cl M_L_add [.ref 0, .int v1, .ref 133] hi g 0 (fun h g' => ∃ g2, P h g2 ∧ g' = am_upl g2 133 0 r.toInt64) := by
  refine am_cln (by decide) (Nat.le_of_ble_eq_true rfl) (fun Φ hΦ => ?_)
  show AP M_L_add _ 0 [.ref 0, .int v1, .ref 133, jk] [] _ g Φ
  refine s_L_add_0 ?_
  refine s_L_add_1 ?_
  refine s_L_add_2 ?_
  refine s_L_add_3 ?_
  refine AP.callVg (As := [.int v1]) (q := (RX9, TX9, 7)) hI hc k_L_add_7 d_L_add_4 rfl rfl (by decide) rfl rfl (by decide) (fun h' g' hI' hP => ?_)
  refine s_L_add_7 ?_
  refine s_L_add_8 hI' rfl (by decide) (by decide) (j := 0) rfl (by decide) ?_
  refine s_L_add_9 ?_
  refine s_L_add_18 ?_
  exact s_L_add_19 (hΦ _ _ (hI'.upl _ _ _) ⟨g', hP, rfl⟩)
theorem l1_add {hi : am_HI} {g : am_G} (hI : am_Inv g) {v1 : Int32} {P : am_HI → Prop} (hc : am_Th M_X9_add [.ref 0, .int v1] hi g am_x1 P) : am_Cl M_L_add [.ref 0, .int v1, .ref 133] hi g 1 (fun h g' => P h ∧ g' = g) := by
  refine am_cln (by decide) (Nat.le_of_ble_eq_true rfl) (fun Φ hΦ => ?_)
  show AP M_L_add _ 0 [.ref 0, .int v1, .ref 133, jk] [] _ g Φ
  refine s_L_add_0 ?_
  refine s_L_add_1 ?_
  refine s_L_add_2 ?_
  refine s_L_add_3 ?_
  refine AP.callVX (b2 := (0, 0)) (i := 3) (hp := 12) (npc := 13) (As := [.int v1]) (q := (RX9, TX9, 7)) hI hc k_L_add_7 d_L_add_4 rfl rfl (by decide) rfl rfl (by decide) ⟨by decide, by decide⟩ ⟨[], (0, 9, 12, 13), [(0, 9, 15, 15)], _, rfl, (fun z hz => by cases hz), by decide, rfl, by decide, lw_l1, lw_c1⟩ ⟨by decide, Or.inl ⟨3, d_L_add_12, rfl, rfl⟩⟩ (fun h' hP => ?_)
  show AP M_L_add _ 13 [.ref 0, .int v1, .ref 133, jk] [] _ g Φ
  refine s_L_add_13 ?_
  exact s_L_add_14 (hΦ _ _ hI ⟨hP, rfl⟩)
theorem l2_add {hi : am_HI} {g : am_G} (hI : am_Inv g) {v1 : Int32} {P : am_HI → Prop} (hc : am_Th M_X9_add [.ref 0, .int v1] hi g am_x2 P) : am_Cl M_L_add [.ref 0, .int v1, .ref 133] hi g 2 (fun h g' => P h ∧ g' = g) := by
  refine am_cln (by decide) (Nat.le_of_ble_eq_true rfl) (fun Φ hΦ => ?_)
  show AP M_L_add _ 0 [.ref 0, .int v1, .ref 133, jk] [] _ g Φ
  refine s_L_add_0 ?_
  refine s_L_add_1 ?_
  refine s_L_add_2 ?_
  refine s_L_add_3 ?_
  refine AP.callVX (b2 := (0, 0)) (i := 3) (hp := 15) (npc := 16) (As := [.int v1]) (q := (RX9, TX9, 7)) hI hc k_L_add_7 d_L_add_4 rfl rfl (by decide) rfl rfl (by decide) ⟨by decide, by decide⟩ ⟨[(0, 9, 12, 13)], (0, 9, 15, 15), [], _, rfl, (fun z hz => by cases List.mem_singleton.mp hz; exact ⟨by decide, _, lw_l1, by decide⟩), by decide, rfl, by decide, lw_l2, lw_c2⟩ ⟨by decide, Or.inl ⟨3, d_L_add_15, rfl, rfl⟩⟩ (fun h' hP => ?_)
  show AP M_L_add _ 16 [.ref 0, .int v1, .ref 133, jk] [] _ g Φ
  refine s_L_add_16 ?_
  exact s_L_add_17 (hΦ _ _ hI ⟨hP, rfl⟩)
theorem l_echo {hi : am_HI} {g : am_G} (hI : am_Inv g) {v1 v2 v3 : Int32} {r : Int32} {P : am_HI → am_G → Prop} (hc : am_Cg M_X9_echo [.ref 0, .int v1, .int v2, .int v3] hi g (some (.int r)) P) : am_Cl M_L_echo [.ref 0, .int v1, .int v2, .int v3, .ref 133] hi g 0 (fun h g' => ∃ g2, P h g2 ∧ g' = am_upl g2 133 0 r.toInt64) := by
  refine am_cln (by decide) (Nat.le_of_ble_eq_true rfl) (fun Φ hΦ => ?_)
  show AP M_L_echo _ 0 [.ref 0, .int v1, .int v2, .int v3, .ref 133, jk] [] _ g Φ
  refine s_L_echo_0 ?_
  refine s_L_echo_2 ?_
  refine s_L_echo_3 ?_
  refine s_L_echo_4 ?_
  refine s_L_echo_5 ?_
  refine s_L_echo_6 ?_
  refine AP.callVg (As := [.int v1, .int v2, .int v3]) (q := (RX9, TX9, 7)) hI hc k_L_echo_17 d_L_echo_7 rfl rfl (by decide) rfl rfl (by decide) (fun h' g' hI' hP => ?_)
  refine s_L_echo_10 ?_
  refine s_L_echo_11 hI' rfl (by decide) (by decide) (j := 0) rfl (by decide) ?_
  refine s_L_echo_12 ?_
  refine s_L_echo_23 ?_
  exact s_L_echo_24 (hΦ _ _ (hI'.upl _ _ _) ⟨g', hP, rfl⟩)
theorem l1_echo {hi : am_HI} {g : am_G} (hI : am_Inv g) {v1 v2 v3 : Int32} {P : am_HI → Prop} (hc : am_Th M_X9_echo [.ref 0, .int v1, .int v2, .int v3] hi g am_x1 P) : am_Cl M_L_echo [.ref 0, .int v1, .int v2, .int v3, .ref 133] hi g 1 (fun h g' => P h ∧ g' = g) := by
  refine am_cln (by decide) (Nat.le_of_ble_eq_true rfl) (fun Φ hΦ => ?_)
  show AP M_L_echo _ 0 [.ref 0, .int v1, .int v2, .int v3, .ref 133, jk] [] _ g Φ
  refine s_L_echo_0 ?_
  refine s_L_echo_2 ?_
  refine s_L_echo_3 ?_
  refine s_L_echo_4 ?_
  refine s_L_echo_5 ?_
  refine s_L_echo_6 ?_
  refine AP.callVX (b2 := (0, 0)) (i := 5) (hp := 15) (npc := 17) (As := [.int v1, .int v2, .int v3]) (q := (RX9, TX9, 7)) hI hc k_L_echo_17 d_L_echo_7 rfl rfl (by decide) rfl rfl (by decide) ⟨by decide, by decide⟩ ⟨[], (0, 12, 15, 13), [(0, 12, 19, 15)], _, rfl, (fun z hz => by cases hz), by decide, rfl, by decide, lw_l1, lw_c1⟩ ⟨by decide, Or.inr ⟨d_L_echo_15, rfl⟩⟩ (fun h' hP => ?_)
  show AP M_L_echo _ 17 [.ref 0, .int v1, .int v2, .int v3, .ref 133, jk] [] _ g Φ
  refine s_L_echo_17 ?_
  exact s_L_echo_18 (hΦ _ _ hI ⟨hP, rfl⟩)
theorem l2_echo {hi : am_HI} {g : am_G} (hI : am_Inv g) {v1 v2 v3 : Int32} {P : am_HI → Prop} (hc : am_Th M_X9_echo [.ref 0, .int v1, .int v2, .int v3] hi g am_x2 P) : am_Cl M_L_echo [.ref 0, .int v1, .int v2, .int v3, .ref 133] hi g 2 (fun h g' => P h ∧ g' = g) := by
  refine am_cln (by decide) (Nat.le_of_ble_eq_true rfl) (fun Φ hΦ => ?_)
  show AP M_L_echo _ 0 [.ref 0, .int v1, .int v2, .int v3, .ref 133, jk] [] _ g Φ
  refine s_L_echo_0 ?_
  refine s_L_echo_2 ?_
  refine s_L_echo_3 ?_
  refine s_L_echo_4 ?_
  refine s_L_echo_5 ?_
  refine s_L_echo_6 ?_
  refine AP.callVX (b2 := (0, 0)) (i := 5) (hp := 19) (npc := 21) (As := [.int v1, .int v2, .int v3]) (q := (RX9, TX9, 7)) hI hc k_L_echo_17 d_L_echo_7 rfl rfl (by decide) rfl rfl (by decide) ⟨by decide, by decide⟩ ⟨[(0, 12, 15, 13)], (0, 12, 19, 15), [], _, rfl, (fun z hz => by cases List.mem_singleton.mp hz; exact ⟨by decide, _, lw_l1, by decide⟩), by decide, rfl, by decide, lw_l2, lw_c2⟩ ⟨by decide, Or.inr ⟨d_L_echo_19, rfl⟩⟩ (fun h' hP => ?_)
  show AP M_L_echo _ 21 [.ref 0, .int v1, .int v2, .int v3, .ref 133, jk] [] _ g Φ
  refine s_L_echo_21 ?_
  exact s_L_echo_22 (hΦ _ _ hI ⟨hP, rfl⟩)
theorem l_change {hi : am_HI} {g : am_G} (hI : am_Inv g) {v1 v2 : Int32} {r : Int32} {P : am_HI → am_G → Prop} (hc : am_Cg M_X9_change [.ref 0, .int v1, .int v2] hi g (some (.int r)) P) : am_Cl M_L_change [.ref 0, .int v1, .int v2, .ref 133] hi g 0 (fun h g' => ∃ g2, P h g2 ∧ g' = am_upl g2 133 0 r.toInt64) := by
  refine am_cln (by decide) (Nat.le_of_ble_eq_true rfl) (fun Φ hΦ => ?_)
  show AP M_L_change _ 0 [.ref 0, .int v1, .int v2, .ref 133, jk] [] _ g Φ
  refine s_L_change_0 ?_
  refine s_L_change_1 ?_
  refine s_L_change_2 ?_
  refine s_L_change_3 ?_
  refine s_L_change_4 ?_
  refine AP.callVg (As := [.int v1, .int v2]) (q := (RX9, TX9, 7)) hI hc k_L_change_21 d_L_change_5 rfl rfl (by decide) rfl rfl (by decide) (fun h' g' hI' hP => ?_)
  refine s_L_change_8 ?_
  refine s_L_change_9 hI' rfl (by decide) (by decide) (j := 0) rfl (by decide) ?_
  refine s_L_change_10 ?_
  refine s_L_change_21 ?_
  exact s_L_change_22 (hΦ _ _ (hI'.upl _ _ _) ⟨g', hP, rfl⟩)
theorem l1_change {hi : am_HI} {g : am_G} (hI : am_Inv g) {v1 v2 : Int32} {P : am_HI → Prop} (hc : am_Th M_X9_change [.ref 0, .int v1, .int v2] hi g am_x0 P) : am_Cl M_L_change [.ref 0, .int v1, .int v2, .ref 133] hi g 1 (fun h g' => P h ∧ g' = g) := by
  refine am_cln (by decide) (Nat.le_of_ble_eq_true rfl) (fun Φ hΦ => ?_)
  show AP M_L_change _ 0 [.ref 0, .int v1, .int v2, .ref 133, jk] [] _ g Φ
  refine s_L_change_0 ?_
  refine s_L_change_1 ?_
  refine s_L_change_2 ?_
  refine s_L_change_3 ?_
  refine s_L_change_4 ?_
  refine AP.callVX (b2 := (0, 0)) (i := 4) (hp := 13) (npc := 15) (As := [.int v1, .int v2]) (q := (RX9, TX9, 7)) hI hc k_L_change_21 d_L_change_5 rfl rfl (by decide) rfl rfl (by decide) ⟨by decide, by decide⟩ ⟨[], (0, 10, 13, 25), [(0, 10, 17, 13)], _, rfl, (fun z hz => by cases hz), by decide, rfl, by decide, lw_l0, lw_c0⟩ ⟨by decide, Or.inr ⟨d_L_change_13, rfl⟩⟩ (fun h' hP => ?_)
  show AP M_L_change _ 15 [.ref 0, .int v1, .int v2, .ref 133, jk] [] _ g Φ
  refine s_L_change_15 ?_
  exact s_L_change_16 (hΦ _ _ hI ⟨hP, rfl⟩)
theorem l2_change {hi : am_HI} {g : am_G} (hI : am_Inv g) {v1 v2 : Int32} {P : am_HI → Prop} (hc : am_Th M_X9_change [.ref 0, .int v1, .int v2] hi g am_x1 P) : am_Cl M_L_change [.ref 0, .int v1, .int v2, .ref 133] hi g 2 (fun h g' => P h ∧ g' = g) := by
  refine am_cln (by decide) (Nat.le_of_ble_eq_true rfl) (fun Φ hΦ => ?_)
  show AP M_L_change _ 0 [.ref 0, .int v1, .int v2, .ref 133, jk] [] _ g Φ
  refine s_L_change_0 ?_
  refine s_L_change_1 ?_
  refine s_L_change_2 ?_
  refine s_L_change_3 ?_
  refine s_L_change_4 ?_
  refine AP.callVX (b2 := (0, 0)) (i := 4) (hp := 17) (npc := 19) (As := [.int v1, .int v2]) (q := (RX9, TX9, 7)) hI hc k_L_change_21 d_L_change_5 rfl rfl (by decide) rfl rfl (by decide) ⟨by decide, by decide⟩ ⟨[(0, 10, 13, 25)], (0, 10, 17, 13), [], _, rfl, (fun z hz => by cases List.mem_singleton.mp hz; exact ⟨by decide, _, lw_l0, by decide⟩), by decide, rfl, by decide, lw_l1, lw_c1⟩ ⟨by decide, Or.inr ⟨d_L_change_17, rfl⟩⟩ (fun h' hP => ?_)
  show AP M_L_change _ 19 [.ref 0, .int v1, .int v2, .ref 133, jk] [] _ g Φ
  refine s_L_change_19 ?_
  exact s_L_change_20 (hΦ _ _ hI ⟨hP, rfl⟩)
theorem l_drop {hi : am_HI} {g : am_G} (hI : am_Inv g) {r : Int32} {P : am_HI → am_G → Prop} (hc : am_Cg M_X9_drop [.ref 0] hi g (some (.int r)) P) : am_Cl M_L_drop [.ref 0, .ref 133] hi g 0 (fun h g' => ∃ g2, P h g2 ∧ g' = am_upl g2 133 0 r.toInt64) := by
  refine am_cln (by decide) (Nat.le_of_ble_eq_true rfl) (fun Φ hΦ => ?_)
  show AP M_L_drop _ 0 [.ref 0, .ref 133, jk] [] _ g Φ
  refine s_L_drop_0 ?_
  refine s_L_drop_1 ?_
  refine s_L_drop_2 ?_
  refine AP.callVg (As := []) (q := (RX9, TX9, 7)) hI hc k_L_drop_27 d_L_drop_3 rfl rfl (by decide) rfl rfl (by decide) (fun h' g' hI' hP => ?_)
  refine s_L_drop_6 ?_
  refine s_L_drop_7 hI' rfl (by decide) (by decide) (j := 0) rfl (by decide) ?_
  refine s_L_drop_8 ?_
  refine s_L_drop_14 ?_
  exact s_L_drop_15 (hΦ _ _ (hI'.upl _ _ _) ⟨g', hP, rfl⟩)
theorem l1_drop {hi : am_HI} {g : am_G} (hI : am_Inv g) {P : am_HI → Prop} (hc : am_Th M_X9_drop [.ref 0] hi g am_x2 P) : am_Cl M_L_drop [.ref 0, .ref 133] hi g 1 (fun h g' => P h ∧ g' = g) := by
  refine am_cln (by decide) (Nat.le_of_ble_eq_true rfl) (fun Φ hΦ => ?_)
  show AP M_L_drop _ 0 [.ref 0, .ref 133, jk] [] _ g Φ
  refine s_L_drop_0 ?_
  refine s_L_drop_1 ?_
  refine s_L_drop_2 ?_
  refine AP.callVX (b2 := (0, 0)) (i := 2) (hp := 11) (npc := 12) (As := []) (q := (RX9, TX9, 7)) hI hc k_L_drop_27 d_L_drop_3 rfl rfl (by decide) rfl rfl (by decide) ⟨by decide, by decide⟩ ⟨[], (0, 8, 11, 15), [], _, rfl, (fun z hz => by cases hz), by decide, rfl, by decide, lw_l2, lw_c2⟩ ⟨by decide, Or.inl ⟨2, d_L_drop_11, rfl, rfl⟩⟩ (fun h' hP => ?_)
  show AP M_L_drop _ 12 [.ref 0, .ref 133, jk] [] _ g Φ
  refine s_L_drop_12 ?_
  exact s_L_drop_13 (hΦ _ _ hI ⟨hP, rfl⟩)
theorem l_setDelay {hi : am_HI} {g : am_G} (hI : am_Inv g) {v1 : Int32} {r : Int32} {P : am_HI → am_G → Prop} (hc : am_Cg M_X9_setDelay [.ref 0, .int v1] hi g (some (.int r)) P) : am_Cl M_L_setDelay [.ref 0, .int v1, .ref 133] hi g 0 (fun h g' => ∃ g2, P h g2 ∧ g' = am_upl g2 133 0 r.toInt64) := by
  refine am_cln (by decide) (Nat.le_of_ble_eq_true rfl) (fun Φ hΦ => ?_)
  show AP M_L_setDelay _ 0 [.ref 0, .int v1, .ref 133, jk] [] _ g Φ
  refine s_L_setDelay_0 ?_
  refine s_L_setDelay_1 ?_
  refine s_L_setDelay_2 ?_
  refine s_L_setDelay_3 ?_
  refine AP.callVg (As := [.int v1]) (q := (RX9, TX9, 7)) hI hc k_L_setDelay_31 d_L_setDelay_4 rfl rfl (by decide) rfl rfl (by decide) (fun h' g' hI' hP => ?_)
  refine s_L_setDelay_7 ?_
  refine s_L_setDelay_8 hI' rfl (by decide) (by decide) (j := 0) rfl (by decide) ?_
  refine s_L_setDelay_9 ?_
  refine s_L_setDelay_15 ?_
  exact s_L_setDelay_16 (hΦ _ _ (hI'.upl _ _ _) ⟨g', hP, rfl⟩)
theorem l1_setDelay {hi : am_HI} {g : am_G} (hI : am_Inv g) {v1 : Int32} {P : am_HI → Prop} (hc : am_Th M_X9_setDelay [.ref 0, .int v1] hi g am_x1 P) : am_Cl M_L_setDelay [.ref 0, .int v1, .ref 133] hi g 1 (fun h g' => P h ∧ g' = g) := by
  refine am_cln (by decide) (Nat.le_of_ble_eq_true rfl) (fun Φ hΦ => ?_)
  show AP M_L_setDelay _ 0 [.ref 0, .int v1, .ref 133, jk] [] _ g Φ
  refine s_L_setDelay_0 ?_
  refine s_L_setDelay_1 ?_
  refine s_L_setDelay_2 ?_
  refine s_L_setDelay_3 ?_
  refine AP.callVX (b2 := (0, 0)) (i := 3) (hp := 12) (npc := 13) (As := [.int v1]) (q := (RX9, TX9, 7)) hI hc k_L_setDelay_31 d_L_setDelay_4 rfl rfl (by decide) rfl rfl (by decide) ⟨by decide, by decide⟩ ⟨[], (0, 9, 12, 13), [], _, rfl, (fun z hz => by cases hz), by decide, rfl, by decide, lw_l1, lw_c1⟩ ⟨by decide, Or.inl ⟨3, d_L_setDelay_12, rfl, rfl⟩⟩ (fun h' hP => ?_)
  show AP M_L_setDelay _ 13 [.ref 0, .int v1, .ref 133, jk] [] _ g Φ
  refine s_L_setDelay_13 ?_
  exact s_L_setDelay_14 (hΦ _ _ hI ⟨hP, rfl⟩)
theorem l_setSpeed {hi : am_HI} {g : am_G} (hI : am_Inv g) {v1 : Int32} {r : Int32} {P : am_HI → am_G → Prop} (hc : am_Cg M_X9_setSpeed [.ref 0, .int v1] hi g (some (.int r)) P) : am_Cl M_L_setSpeed [.ref 0, .int v1, .ref 133] hi g 0 (fun h g' => ∃ g2, P h g2 ∧ g' = am_upl g2 133 0 r.toInt64) := by
  refine am_cln (by decide) (Nat.le_of_ble_eq_true rfl) (fun Φ hΦ => ?_)
  show AP M_L_setSpeed _ 0 [.ref 0, .int v1, .ref 133, jk] [] _ g Φ
  refine s_L_setSpeed_0 ?_
  refine s_L_setSpeed_1 ?_
  refine s_L_setSpeed_2 ?_
  refine s_L_setSpeed_3 ?_
  refine AP.callVg (As := [.int v1]) (q := (RX9, TX9, 7)) hI hc k_L_setSpeed_34 d_L_setSpeed_4 rfl rfl (by decide) rfl rfl (by decide) (fun h' g' hI' hP => ?_)
  refine s_L_setSpeed_7 ?_
  refine s_L_setSpeed_8 hI' rfl (by decide) (by decide) (j := 0) rfl (by decide) ?_
  refine s_L_setSpeed_9 ?_
  refine s_L_setSpeed_15 ?_
  exact s_L_setSpeed_16 (hΦ _ _ (hI'.upl _ _ _) ⟨g', hP, rfl⟩)
theorem l1_setSpeed {hi : am_HI} {g : am_G} (hI : am_Inv g) {v1 : Int32} {P : am_HI → Prop} (hc : am_Th M_X9_setSpeed [.ref 0, .int v1] hi g am_x1 P) : am_Cl M_L_setSpeed [.ref 0, .int v1, .ref 133] hi g 1 (fun h g' => P h ∧ g' = g) := by
  refine am_cln (by decide) (Nat.le_of_ble_eq_true rfl) (fun Φ hΦ => ?_)
  show AP M_L_setSpeed _ 0 [.ref 0, .int v1, .ref 133, jk] [] _ g Φ
  refine s_L_setSpeed_0 ?_
  refine s_L_setSpeed_1 ?_
  refine s_L_setSpeed_2 ?_
  refine s_L_setSpeed_3 ?_
  refine AP.callVX (b2 := (0, 0)) (i := 3) (hp := 12) (npc := 13) (As := [.int v1]) (q := (RX9, TX9, 7)) hI hc k_L_setSpeed_34 d_L_setSpeed_4 rfl rfl (by decide) rfl rfl (by decide) ⟨by decide, by decide⟩ ⟨[], (0, 9, 12, 13), [], _, rfl, (fun z hz => by cases hz), by decide, rfl, by decide, lw_l1, lw_c1⟩ ⟨by decide, Or.inl ⟨3, d_L_setSpeed_12, rfl, rfl⟩⟩ (fun h' hP => ?_)
  show AP M_L_setSpeed _ 13 [.ref 0, .int v1, .ref 133, jk] [] _ g Φ
  refine s_L_setSpeed_13 ?_
  exact s_L_setSpeed_14 (hΦ _ _ hI ⟨hP, rfl⟩)
theorem l_setWeight {hi : am_HI} {g : am_G} (hI : am_Inv g) {v1 v2 : Int32} {r : Int32} {P : am_HI → am_G → Prop} (hc : am_Cg M_X9_setWeight [.ref 0, .int v1, .int v2] hi g (some (.int r)) P) : am_Cl M_L_setWeight [.ref 0, .int v1, .int v2, .ref 133] hi g 0 (fun h g' => ∃ g2, P h g2 ∧ g' = am_upl g2 133 0 r.toInt64) := by
  refine am_cln (by decide) (Nat.le_of_ble_eq_true rfl) (fun Φ hΦ => ?_)
  show AP M_L_setWeight _ 0 [.ref 0, .int v1, .int v2, .ref 133, jk] [] _ g Φ
  refine s_L_setWeight_0 ?_
  refine s_L_setWeight_1 ?_
  refine s_L_setWeight_2 ?_
  refine s_L_setWeight_3 ?_
  refine s_L_setWeight_4 ?_
  refine AP.callVg (As := [.int v1, .int v2]) (q := (RX9, TX9, 7)) hI hc k_L_setWeight_37 d_L_setWeight_5 rfl rfl (by decide) rfl rfl (by decide) (fun h' g' hI' hP => ?_)
  refine s_L_setWeight_8 ?_
  refine s_L_setWeight_9 hI' rfl (by decide) (by decide) (j := 0) rfl (by decide) ?_
  refine s_L_setWeight_10 ?_
  refine s_L_setWeight_17 ?_
  exact s_L_setWeight_18 (hΦ _ _ (hI'.upl _ _ _) ⟨g', hP, rfl⟩)
theorem l1_setWeight {hi : am_HI} {g : am_G} (hI : am_Inv g) {v1 v2 : Int32} {P : am_HI → Prop} (hc : am_Th M_X9_setWeight [.ref 0, .int v1, .int v2] hi g am_x1 P) : am_Cl M_L_setWeight [.ref 0, .int v1, .int v2, .ref 133] hi g 1 (fun h g' => P h ∧ g' = g) := by
  refine am_cln (by decide) (Nat.le_of_ble_eq_true rfl) (fun Φ hΦ => ?_)
  show AP M_L_setWeight _ 0 [.ref 0, .int v1, .int v2, .ref 133, jk] [] _ g Φ
  refine s_L_setWeight_0 ?_
  refine s_L_setWeight_1 ?_
  refine s_L_setWeight_2 ?_
  refine s_L_setWeight_3 ?_
  refine s_L_setWeight_4 ?_
  refine AP.callVX (b2 := (0, 0)) (i := 4) (hp := 13) (npc := 15) (As := [.int v1, .int v2]) (q := (RX9, TX9, 7)) hI hc k_L_setWeight_37 d_L_setWeight_5 rfl rfl (by decide) rfl rfl (by decide) ⟨by decide, by decide⟩ ⟨[], (0, 10, 13, 13), [], _, rfl, (fun z hz => by cases hz), by decide, rfl, by decide, lw_l1, lw_c1⟩ ⟨by decide, Or.inr ⟨d_L_setWeight_13, rfl⟩⟩ (fun h' hP => ?_)
  show AP M_L_setWeight _ 15 [.ref 0, .int v1, .int v2, .ref 133, jk] [] _ g Φ
  refine s_L_setWeight_15 ?_
  exact s_L_setWeight_16 (hΦ _ _ hI ⟨hP, rfl⟩)
theorem l_turnKind {hi : am_HI} {g : am_G} (hI : am_Inv g) {v1 : Int32} {x : Bool} {P : am_HI → am_G → Prop} (hc : am_Cg M_X9_turnKind [.ref 0, .int v1] hi g (some (.int (bI x))) P) : am_Cl M_L_turnKind [.ref 0, .int v1, .ref 133] hi g 0 (fun h g' => ∃ g2, P h g2 ∧ g' = am_upl g2 133 0 (if x = true then 1 else 0)) := by
  refine am_cln (by decide) (Nat.le_of_ble_eq_true rfl) (fun Φ hΦ => ?_)
  show AP M_L_turnKind _ 0 [.ref 0, .int v1, .ref 133, jk] [] _ g Φ
  refine s_L_turnKind_0 ?_
  refine s_L_turnKind_1 ?_
  refine s_L_turnKind_2 ?_
  refine s_L_turnKind_3 ?_
  refine AP.callVg (As := [.int v1]) (q := (RX9, TX9, 7)) hI hc k_L_turnKind_40 d_L_turnKind_4 rfl rfl (by decide) rfl rfl (by decide) (fun h' g' hI' hP => ?_)
  cases x
  · refine s_L_turnKind_7 (fun _ => ?_) (fun e => absurd rfl e)
    refine s_L_turnKind_14 ?_
    refine s_L_turnKind_15 hI' rfl (by decide) (by decide) (j := 0) rfl (by decide) ?_
    refine s_L_turnKind_16 ?_
    refine s_L_turnKind_25 ?_
    exact s_L_turnKind_26 (hΦ _ _ (hI'.upl _ _ _) ⟨g', hP, rfl⟩)
  · refine s_L_turnKind_7 (fun e => absurd e (by decide)) (fun _ => ?_)
    refine s_L_turnKind_10 ?_
    refine s_L_turnKind_11 ?_
    refine s_L_turnKind_15 hI' rfl (by decide) (by decide) (j := 0) rfl (by decide) ?_
    refine s_L_turnKind_16 ?_
    refine s_L_turnKind_25 ?_
    exact s_L_turnKind_26 (hΦ _ _ (hI'.upl _ _ _) ⟨g', hP, rfl⟩)
theorem l1_turnKind {hi : am_HI} {g : am_G} (hI : am_Inv g) {v1 : Int32} {P : am_HI → Prop} (hc : am_Th M_X9_turnKind [.ref 0, .int v1] hi g am_x1 P) : am_Cl M_L_turnKind [.ref 0, .int v1, .ref 133] hi g 1 (fun h g' => P h ∧ g' = g) := by
  refine am_cln (by decide) (Nat.le_of_ble_eq_true rfl) (fun Φ hΦ => ?_)
  show AP M_L_turnKind _ 0 [.ref 0, .int v1, .ref 133, jk] [] _ g Φ
  refine s_L_turnKind_0 ?_
  refine s_L_turnKind_1 ?_
  refine s_L_turnKind_2 ?_
  refine s_L_turnKind_3 ?_
  refine AP.callVX (b2 := (0, 0)) (i := 3) (hp := 19) (npc := 20) (As := [.int v1]) (q := (RX9, TX9, 7)) hI hc k_L_turnKind_40 d_L_turnKind_4 rfl rfl (by decide) rfl rfl (by decide) ⟨by decide, by decide⟩ ⟨[], (0, 16, 19, 13), [(0, 16, 22, 15)], _, rfl, (fun z hz => by cases hz), by decide, rfl, by decide, lw_l1, lw_c1⟩ ⟨by decide, Or.inl ⟨3, d_L_turnKind_19, rfl, rfl⟩⟩ (fun h' hP => ?_)
  show AP M_L_turnKind _ 20 [.ref 0, .int v1, .ref 133, jk] [] _ g Φ
  refine s_L_turnKind_20 ?_
  exact s_L_turnKind_21 (hΦ _ _ hI ⟨hP, rfl⟩)
theorem l2_turnKind {hi : am_HI} {g : am_G} (hI : am_Inv g) {v1 : Int32} {P : am_HI → Prop} (hc : am_Th M_X9_turnKind [.ref 0, .int v1] hi g am_x2 P) : am_Cl M_L_turnKind [.ref 0, .int v1, .ref 133] hi g 2 (fun h g' => P h ∧ g' = g) := by
  refine am_cln (by decide) (Nat.le_of_ble_eq_true rfl) (fun Φ hΦ => ?_)
  show AP M_L_turnKind _ 0 [.ref 0, .int v1, .ref 133, jk] [] _ g Φ
  refine s_L_turnKind_0 ?_
  refine s_L_turnKind_1 ?_
  refine s_L_turnKind_2 ?_
  refine s_L_turnKind_3 ?_
  refine AP.callVX (b2 := (0, 0)) (i := 3) (hp := 22) (npc := 23) (As := [.int v1]) (q := (RX9, TX9, 7)) hI hc k_L_turnKind_40 d_L_turnKind_4 rfl rfl (by decide) rfl rfl (by decide) ⟨by decide, by decide⟩ ⟨[(0, 16, 19, 13)], (0, 16, 22, 15), [], _, rfl, (fun z hz => by cases List.mem_singleton.mp hz; exact ⟨by decide, _, lw_l1, by decide⟩), by decide, rfl, by decide, lw_l2, lw_c2⟩ ⟨by decide, Or.inl ⟨3, d_L_turnKind_22, rfl, rfl⟩⟩ (fun h' hP => ?_)
  show AP M_L_turnKind _ 23 [.ref 0, .int v1, .ref 133, jk] [] _ g Φ
  refine s_L_turnKind_23 ?_
  exact s_L_turnKind_24 (hΦ _ _ hI ⟨hP, rfl⟩)
theorem l_send {hi : am_HI} {g : am_G} (hI : am_Inv g) {r : Int32} {P : am_HI → am_G → Prop} (hc : am_Cg M_X9_send [.ref 0] hi g (some (.int r)) P) : am_Cl M_L_send [.ref 0, .ref 133] hi g 0 (fun h g' => ∃ g2, P h g2 ∧ g' = am_upl g2 133 0 r.toInt64) := by
  refine am_cln (by decide) (Nat.le_of_ble_eq_true rfl) (fun Φ hΦ => ?_)
  show AP M_L_send _ 0 [.ref 0, .ref 133, jk] [] _ g Φ
  refine s_L_send_0 ?_
  refine s_L_send_1 ?_
  refine s_L_send_2 ?_
  refine AP.callVg (As := []) (q := (RX9, TX9, 7)) hI hc k_L_send_44 d_L_send_3 rfl rfl (by decide) rfl rfl (by decide) (fun h' g' hI' hP => ?_)
  refine s_L_send_6 ?_
  refine s_L_send_7 hI' rfl (by decide) (by decide) (j := 0) rfl (by decide) ?_
  refine s_L_send_8 ?_
  refine s_L_send_14 ?_
  exact s_L_send_15 (hΦ _ _ (hI'.upl _ _ _) ⟨g', hP, rfl⟩)
theorem l1_send {hi : am_HI} {g : am_G} (hI : am_Inv g) {P : am_HI → Prop} (hc : am_Th M_X9_send [.ref 0] hi g am_x2 P) : am_Cl M_L_send [.ref 0, .ref 133] hi g 1 (fun h g' => P h ∧ g' = g) := by
  refine am_cln (by decide) (Nat.le_of_ble_eq_true rfl) (fun Φ hΦ => ?_)
  show AP M_L_send _ 0 [.ref 0, .ref 133, jk] [] _ g Φ
  refine s_L_send_0 ?_
  refine s_L_send_1 ?_
  refine s_L_send_2 ?_
  refine AP.callVX (b2 := (0, 0)) (i := 2) (hp := 11) (npc := 12) (As := []) (q := (RX9, TX9, 7)) hI hc k_L_send_44 d_L_send_3 rfl rfl (by decide) rfl rfl (by decide) ⟨by decide, by decide⟩ ⟨[], (0, 8, 11, 15), [], _, rfl, (fun z hz => by cases hz), by decide, rfl, by decide, lw_l2, lw_c2⟩ ⟨by decide, Or.inl ⟨2, d_L_send_11, rfl, rfl⟩⟩ (fun h' hP => ?_)
  show AP M_L_send _ 12 [.ref 0, .ref 133, jk] [] _ g Φ
  refine s_L_send_12 ?_
  exact s_L_send_13 (hΦ _ _ hI ⟨hP, rfl⟩)
theorem l_tamper {hi : am_HI} {g : am_G} (hI : am_Inv g) {v1 v2 : Int32} {r : Int32} {P : am_HI → am_G → Prop} (hc : am_Cg M_X9_tamper [.ref 0, .int v1, .int v2] hi g (some (.int r)) P) : am_Cl M_L_tamper [.ref 0, .int v1, .int v2, .ref 133] hi g 0 (fun h g' => ∃ g2, P h g2 ∧ g' = am_upl g2 133 0 r.toInt64) := by
  refine am_cln (by decide) (Nat.le_of_ble_eq_true rfl) (fun Φ hΦ => ?_)
  show AP M_L_tamper _ 0 [.ref 0, .int v1, .int v2, .ref 133, jk] [] _ g Φ
  refine s_L_tamper_0 ?_
  refine s_L_tamper_1 ?_
  refine s_L_tamper_2 ?_
  refine s_L_tamper_3 ?_
  refine s_L_tamper_4 ?_
  refine AP.callVg (As := [.int v1, .int v2]) (q := (RX9, TX9, 7)) hI hc k_L_tamper_47 d_L_tamper_5 rfl rfl (by decide) rfl rfl (by decide) (fun h' g' hI' hP => ?_)
  refine s_L_tamper_8 ?_
  refine s_L_tamper_9 hI' rfl (by decide) (by decide) (j := 0) rfl (by decide) ?_
  refine s_L_tamper_10 ?_
  refine s_L_tamper_21 ?_
  exact s_L_tamper_22 (hΦ _ _ (hI'.upl _ _ _) ⟨g', hP, rfl⟩)
theorem l1_tamper {hi : am_HI} {g : am_G} (hI : am_Inv g) {v1 v2 : Int32} {P : am_HI → Prop} (hc : am_Th M_X9_tamper [.ref 0, .int v1, .int v2] hi g am_x0 P) : am_Cl M_L_tamper [.ref 0, .int v1, .int v2, .ref 133] hi g 1 (fun h g' => P h ∧ g' = g) := by
  refine am_cln (by decide) (Nat.le_of_ble_eq_true rfl) (fun Φ hΦ => ?_)
  show AP M_L_tamper _ 0 [.ref 0, .int v1, .int v2, .ref 133, jk] [] _ g Φ
  refine s_L_tamper_0 ?_
  refine s_L_tamper_1 ?_
  refine s_L_tamper_2 ?_
  refine s_L_tamper_3 ?_
  refine s_L_tamper_4 ?_
  refine AP.callVX (b2 := (0, 0)) (i := 4) (hp := 13) (npc := 15) (As := [.int v1, .int v2]) (q := (RX9, TX9, 7)) hI hc k_L_tamper_47 d_L_tamper_5 rfl rfl (by decide) rfl rfl (by decide) ⟨by decide, by decide⟩ ⟨[], (0, 10, 13, 25), [(0, 10, 17, 13)], _, rfl, (fun z hz => by cases hz), by decide, rfl, by decide, lw_l0, lw_c0⟩ ⟨by decide, Or.inr ⟨d_L_tamper_13, rfl⟩⟩ (fun h' hP => ?_)
  show AP M_L_tamper _ 15 [.ref 0, .int v1, .int v2, .ref 133, jk] [] _ g Φ
  refine s_L_tamper_15 ?_
  exact s_L_tamper_16 (hΦ _ _ hI ⟨hP, rfl⟩)
theorem l2_tamper {hi : am_HI} {g : am_G} (hI : am_Inv g) {v1 v2 : Int32} {P : am_HI → Prop} (hc : am_Th M_X9_tamper [.ref 0, .int v1, .int v2] hi g am_x1 P) : am_Cl M_L_tamper [.ref 0, .int v1, .int v2, .ref 133] hi g 2 (fun h g' => P h ∧ g' = g) := by
  refine am_cln (by decide) (Nat.le_of_ble_eq_true rfl) (fun Φ hΦ => ?_)
  show AP M_L_tamper _ 0 [.ref 0, .int v1, .int v2, .ref 133, jk] [] _ g Φ
  refine s_L_tamper_0 ?_
  refine s_L_tamper_1 ?_
  refine s_L_tamper_2 ?_
  refine s_L_tamper_3 ?_
  refine s_L_tamper_4 ?_
  refine AP.callVX (b2 := (0, 0)) (i := 4) (hp := 17) (npc := 19) (As := [.int v1, .int v2]) (q := (RX9, TX9, 7)) hI hc k_L_tamper_47 d_L_tamper_5 rfl rfl (by decide) rfl rfl (by decide) ⟨by decide, by decide⟩ ⟨[(0, 10, 13, 25)], (0, 10, 17, 13), [], _, rfl, (fun z hz => by cases List.mem_singleton.mp hz; exact ⟨by decide, _, lw_l0, by decide⟩), by decide, rfl, by decide, lw_l1, lw_c1⟩ ⟨by decide, Or.inr ⟨d_L_tamper_17, rfl⟩⟩ (fun h' hP => ?_)
  show AP M_L_tamper _ 19 [.ref 0, .int v1, .int v2, .ref 133, jk] [] _ g Φ
  refine s_L_tamper_19 ?_
  exact s_L_tamper_20 (hΦ _ _ hI ⟨hP, rfl⟩)
theorem l_sampleAt {hi : am_HI} {g : am_G} (hI : am_Inv g) {v1 : Int32} {r : Int32} {P : am_HI → am_G → Prop} (hc : am_Cg M_X9_sampleAt [.ref 0, .int v1] hi g (some (.int r)) P) : am_Cl M_L_sampleAt [.ref 0, .int v1, .ref 133] hi g 0 (fun h g' => ∃ g2, P h g2 ∧ g' = am_upl g2 133 0 r.toInt64) := by
  refine am_cln (by decide) (Nat.le_of_ble_eq_true rfl) (fun Φ hΦ => ?_)
  show AP M_L_sampleAt _ 0 [.ref 0, .int v1, .ref 133, jk] [] _ g Φ
  refine s_L_sampleAt_0 ?_
  refine s_L_sampleAt_1 ?_
  refine s_L_sampleAt_2 ?_
  refine s_L_sampleAt_3 ?_
  refine AP.callVg (As := [.int v1]) (q := (RX9, TX9, 7)) hI hc k_L_sampleAt_50 d_L_sampleAt_4 rfl rfl (by decide) rfl rfl (by decide) (fun h' g' hI' hP => ?_)
  refine s_L_sampleAt_7 ?_
  refine s_L_sampleAt_8 hI' rfl (by decide) (by decide) (j := 0) rfl (by decide) ?_
  refine s_L_sampleAt_9 ?_
  refine s_L_sampleAt_15 ?_
  exact s_L_sampleAt_16 (hΦ _ _ (hI'.upl _ _ _) ⟨g', hP, rfl⟩)
theorem l1_sampleAt {hi : am_HI} {g : am_G} (hI : am_Inv g) {v1 : Int32} {P : am_HI → Prop} (hc : am_Th M_X9_sampleAt [.ref 0, .int v1] hi g am_x0 P) : am_Cl M_L_sampleAt [.ref 0, .int v1, .ref 133] hi g 1 (fun h g' => P h ∧ g' = g) := by
  refine am_cln (by decide) (Nat.le_of_ble_eq_true rfl) (fun Φ hΦ => ?_)
  show AP M_L_sampleAt _ 0 [.ref 0, .int v1, .ref 133, jk] [] _ g Φ
  refine s_L_sampleAt_0 ?_
  refine s_L_sampleAt_1 ?_
  refine s_L_sampleAt_2 ?_
  refine s_L_sampleAt_3 ?_
  refine AP.callVX (b2 := (0, 0)) (i := 3) (hp := 12) (npc := 13) (As := [.int v1]) (q := (RX9, TX9, 7)) hI hc k_L_sampleAt_50 d_L_sampleAt_4 rfl rfl (by decide) rfl rfl (by decide) ⟨by decide, by decide⟩ ⟨[], (0, 9, 12, 25), [], _, rfl, (fun z hz => by cases hz), by decide, rfl, by decide, lw_l0, lw_c0⟩ ⟨by decide, Or.inl ⟨3, d_L_sampleAt_12, rfl, rfl⟩⟩ (fun h' hP => ?_)
  show AP M_L_sampleAt _ 13 [.ref 0, .int v1, .ref 133, jk] [] _ g Φ
  refine s_L_sampleAt_13 ?_
  exact s_L_sampleAt_14 (hΦ _ _ hI ⟨hP, rfl⟩)
theorem l_firstWeight {hi : am_HI} {g : am_G} (hI : am_Inv g) {v1 : Int32} {r : Int32} {P : am_HI → am_G → Prop} (hc : am_Cg M_X9_firstWeight [.ref 0, .int v1] hi g (some (.int r)) P) : am_Cl M_L_firstWeight [.ref 0, .int v1, .ref 133] hi g 0 (fun h g' => ∃ g2, P h g2 ∧ g' = am_upl g2 133 0 r.toInt64) := by
  refine am_cln (by decide) (Nat.le_of_ble_eq_true rfl) (fun Φ hΦ => ?_)
  show AP M_L_firstWeight _ 0 [.ref 0, .int v1, .ref 133, jk] [] _ g Φ
  refine s_L_firstWeight_0 ?_
  refine s_L_firstWeight_1 ?_
  refine s_L_firstWeight_2 ?_
  refine s_L_firstWeight_3 ?_
  refine AP.callVg (As := [.int v1]) (q := (RX9, TX9, 7)) hI hc k_L_firstWeight_53 d_L_firstWeight_4 rfl rfl (by decide) rfl rfl (by decide) (fun h' g' hI' hP => ?_)
  refine s_L_firstWeight_7 ?_
  refine s_L_firstWeight_8 hI' rfl (by decide) (by decide) (j := 0) rfl (by decide) ?_
  refine s_L_firstWeight_9 ?_
  refine s_L_firstWeight_15 ?_
  exact s_L_firstWeight_16 (hΦ _ _ (hI'.upl _ _ _) ⟨g', hP, rfl⟩)
theorem l1_firstWeight {hi : am_HI} {g : am_G} (hI : am_Inv g) {v1 : Int32} {P : am_HI → Prop} (hc : am_Th M_X9_firstWeight [.ref 0, .int v1] hi g am_x1 P) : am_Cl M_L_firstWeight [.ref 0, .int v1, .ref 133] hi g 1 (fun h g' => P h ∧ g' = g) := by
  refine am_cln (by decide) (Nat.le_of_ble_eq_true rfl) (fun Φ hΦ => ?_)
  show AP M_L_firstWeight _ 0 [.ref 0, .int v1, .ref 133, jk] [] _ g Φ
  refine s_L_firstWeight_0 ?_
  refine s_L_firstWeight_1 ?_
  refine s_L_firstWeight_2 ?_
  refine s_L_firstWeight_3 ?_
  refine AP.callVX (b2 := (0, 0)) (i := 3) (hp := 12) (npc := 13) (As := [.int v1]) (q := (RX9, TX9, 7)) hI hc k_L_firstWeight_53 d_L_firstWeight_4 rfl rfl (by decide) rfl rfl (by decide) ⟨by decide, by decide⟩ ⟨[], (0, 9, 12, 13), [], _, rfl, (fun z hz => by cases hz), by decide, rfl, by decide, lw_l1, lw_c1⟩ ⟨by decide, Or.inl ⟨3, d_L_firstWeight_12, rfl, rfl⟩⟩ (fun h' hP => ?_)
  show AP M_L_firstWeight _ 13 [.ref 0, .int v1, .ref 133, jk] [] _ g Φ
  refine s_L_firstWeight_13 ?_
  exact s_L_firstWeight_14 (hΦ _ _ hI ⟨hP, rfl⟩)
theorem l_weightAt {hi : am_HI} {g : am_G} (hI : am_Inv g) {v1 v2 : Int32} {r : Int32} {P : am_HI → am_G → Prop} (hc : am_Cg M_X9_weightAt [.ref 0, .int v1, .int v2] hi g (some (.int r)) P) : am_Cl M_L_weightAt [.ref 0, .int v1, .int v2, .ref 133] hi g 0 (fun h g' => ∃ g2, P h g2 ∧ g' = am_upl g2 133 0 r.toInt64) := by
  refine am_cln (by decide) (Nat.le_of_ble_eq_true rfl) (fun Φ hΦ => ?_)
  show AP M_L_weightAt _ 0 [.ref 0, .int v1, .int v2, .ref 133, jk] [] _ g Φ
  refine s_L_weightAt_0 ?_
  refine s_L_weightAt_1 ?_
  refine s_L_weightAt_2 ?_
  refine s_L_weightAt_3 ?_
  refine s_L_weightAt_4 ?_
  refine AP.callVg (As := [.int v1, .int v2]) (q := (RX9, TX9, 7)) hI hc k_L_weightAt_56 d_L_weightAt_5 rfl rfl (by decide) rfl rfl (by decide) (fun h' g' hI' hP => ?_)
  refine s_L_weightAt_8 ?_
  refine s_L_weightAt_9 hI' rfl (by decide) (by decide) (j := 0) rfl (by decide) ?_
  refine s_L_weightAt_10 ?_
  refine s_L_weightAt_21 ?_
  exact s_L_weightAt_22 (hΦ _ _ (hI'.upl _ _ _) ⟨g', hP, rfl⟩)
theorem l1_weightAt {hi : am_HI} {g : am_G} (hI : am_Inv g) {v1 v2 : Int32} {P : am_HI → Prop} (hc : am_Th M_X9_weightAt [.ref 0, .int v1, .int v2] hi g am_x0 P) : am_Cl M_L_weightAt [.ref 0, .int v1, .int v2, .ref 133] hi g 1 (fun h g' => P h ∧ g' = g) := by
  refine am_cln (by decide) (Nat.le_of_ble_eq_true rfl) (fun Φ hΦ => ?_)
  show AP M_L_weightAt _ 0 [.ref 0, .int v1, .int v2, .ref 133, jk] [] _ g Φ
  refine s_L_weightAt_0 ?_
  refine s_L_weightAt_1 ?_
  refine s_L_weightAt_2 ?_
  refine s_L_weightAt_3 ?_
  refine s_L_weightAt_4 ?_
  refine AP.callVX (b2 := (0, 0)) (i := 4) (hp := 13) (npc := 15) (As := [.int v1, .int v2]) (q := (RX9, TX9, 7)) hI hc k_L_weightAt_56 d_L_weightAt_5 rfl rfl (by decide) rfl rfl (by decide) ⟨by decide, by decide⟩ ⟨[], (0, 10, 13, 25), [(0, 10, 17, 13)], _, rfl, (fun z hz => by cases hz), by decide, rfl, by decide, lw_l0, lw_c0⟩ ⟨by decide, Or.inr ⟨d_L_weightAt_13, rfl⟩⟩ (fun h' hP => ?_)
  show AP M_L_weightAt _ 15 [.ref 0, .int v1, .int v2, .ref 133, jk] [] _ g Φ
  refine s_L_weightAt_15 ?_
  exact s_L_weightAt_16 (hΦ _ _ hI ⟨hP, rfl⟩)
theorem l2_weightAt {hi : am_HI} {g : am_G} (hI : am_Inv g) {v1 v2 : Int32} {P : am_HI → Prop} (hc : am_Th M_X9_weightAt [.ref 0, .int v1, .int v2] hi g am_x1 P) : am_Cl M_L_weightAt [.ref 0, .int v1, .int v2, .ref 133] hi g 2 (fun h g' => P h ∧ g' = g) := by
  refine am_cln (by decide) (Nat.le_of_ble_eq_true rfl) (fun Φ hΦ => ?_)
  show AP M_L_weightAt _ 0 [.ref 0, .int v1, .int v2, .ref 133, jk] [] _ g Φ
  refine s_L_weightAt_0 ?_
  refine s_L_weightAt_1 ?_
  refine s_L_weightAt_2 ?_
  refine s_L_weightAt_3 ?_
  refine s_L_weightAt_4 ?_
  refine AP.callVX (b2 := (0, 0)) (i := 4) (hp := 17) (npc := 19) (As := [.int v1, .int v2]) (q := (RX9, TX9, 7)) hI hc k_L_weightAt_56 d_L_weightAt_5 rfl rfl (by decide) rfl rfl (by decide) ⟨by decide, by decide⟩ ⟨[(0, 10, 13, 25)], (0, 10, 17, 13), [], _, rfl, (fun z hz => by cases List.mem_singleton.mp hz; exact ⟨by decide, _, lw_l0, by decide⟩), by decide, rfl, by decide, lw_l1, lw_c1⟩ ⟨by decide, Or.inr ⟨d_L_weightAt_17, rfl⟩⟩ (fun h' hP => ?_)
  show AP M_L_weightAt _ 19 [.ref 0, .int v1, .int v2, .ref 133, jk] [] _ g Φ
  refine s_L_weightAt_19 ?_
  exact s_L_weightAt_20 (hΦ _ _ hI ⟨hP, rfl⟩)
theorem l_weightByCounting {hi : am_HI} {g : am_G} (hI : am_Inv g) {v1 v2 : Int32} {r : Int32} {P : am_HI → am_G → Prop} (hc : am_Cg M_X9_weightByCounting [.ref 0, .int v1, .int v2] hi g (some (.int r)) P) : am_Cl M_L_weightByCounting [.ref 0, .int v1, .int v2, .ref 133] hi g 0 (fun h g' => ∃ g2, P h g2 ∧ g' = am_upl g2 133 0 r.toInt64) := by
  refine am_cln (by decide) (Nat.le_of_ble_eq_true rfl) (fun Φ hΦ => ?_)
  show AP M_L_weightByCounting _ 0 [.ref 0, .int v1, .int v2, .ref 133, jk] [] _ g Φ
  refine s_L_weightByCounting_0 ?_
  refine s_L_weightByCounting_1 ?_
  refine s_L_weightByCounting_2 ?_
  refine s_L_weightByCounting_3 ?_
  refine s_L_weightByCounting_4 ?_
  refine AP.callVg (As := [.int v1, .int v2]) (q := (RX9, TX9, 7)) hI hc k_L_weightByCounting_59 d_L_weightByCounting_5 rfl rfl (by decide) rfl rfl (by decide) (fun h' g' hI' hP => ?_)
  refine s_L_weightByCounting_8 ?_
  refine s_L_weightByCounting_9 hI' rfl (by decide) (by decide) (j := 0) rfl (by decide) ?_
  refine s_L_weightByCounting_10 ?_
  refine s_L_weightByCounting_21 ?_
  exact s_L_weightByCounting_22 (hΦ _ _ (hI'.upl _ _ _) ⟨g', hP, rfl⟩)
theorem l1_weightByCounting {hi : am_HI} {g : am_G} (hI : am_Inv g) {v1 v2 : Int32} {P : am_HI → Prop} (hc : am_Th M_X9_weightByCounting [.ref 0, .int v1, .int v2] hi g am_x0 P) : am_Cl M_L_weightByCounting [.ref 0, .int v1, .int v2, .ref 133] hi g 1 (fun h g' => P h ∧ g' = g) := by
  refine am_cln (by decide) (Nat.le_of_ble_eq_true rfl) (fun Φ hΦ => ?_)
  show AP M_L_weightByCounting _ 0 [.ref 0, .int v1, .int v2, .ref 133, jk] [] _ g Φ
  refine s_L_weightByCounting_0 ?_
  refine s_L_weightByCounting_1 ?_
  refine s_L_weightByCounting_2 ?_
  refine s_L_weightByCounting_3 ?_
  refine s_L_weightByCounting_4 ?_
  refine AP.callVX (b2 := (0, 0)) (i := 4) (hp := 13) (npc := 15) (As := [.int v1, .int v2]) (q := (RX9, TX9, 7)) hI hc k_L_weightByCounting_59 d_L_weightByCounting_5 rfl rfl (by decide) rfl rfl (by decide) ⟨by decide, by decide⟩ ⟨[], (0, 10, 13, 25), [(0, 10, 17, 13)], _, rfl, (fun z hz => by cases hz), by decide, rfl, by decide, lw_l0, lw_c0⟩ ⟨by decide, Or.inr ⟨d_L_weightByCounting_13, rfl⟩⟩ (fun h' hP => ?_)
  show AP M_L_weightByCounting _ 15 [.ref 0, .int v1, .int v2, .ref 133, jk] [] _ g Φ
  refine s_L_weightByCounting_15 ?_
  exact s_L_weightByCounting_16 (hΦ _ _ hI ⟨hP, rfl⟩)
theorem l2_weightByCounting {hi : am_HI} {g : am_G} (hI : am_Inv g) {v1 v2 : Int32} {P : am_HI → Prop} (hc : am_Th M_X9_weightByCounting [.ref 0, .int v1, .int v2] hi g am_x1 P) : am_Cl M_L_weightByCounting [.ref 0, .int v1, .int v2, .ref 133] hi g 2 (fun h g' => P h ∧ g' = g) := by
  refine am_cln (by decide) (Nat.le_of_ble_eq_true rfl) (fun Φ hΦ => ?_)
  show AP M_L_weightByCounting _ 0 [.ref 0, .int v1, .int v2, .ref 133, jk] [] _ g Φ
  refine s_L_weightByCounting_0 ?_
  refine s_L_weightByCounting_1 ?_
  refine s_L_weightByCounting_2 ?_
  refine s_L_weightByCounting_3 ?_
  refine s_L_weightByCounting_4 ?_
  refine AP.callVX (b2 := (0, 0)) (i := 4) (hp := 17) (npc := 19) (As := [.int v1, .int v2]) (q := (RX9, TX9, 7)) hI hc k_L_weightByCounting_59 d_L_weightByCounting_5 rfl rfl (by decide) rfl rfl (by decide) ⟨by decide, by decide⟩ ⟨[(0, 10, 13, 25)], (0, 10, 17, 13), [], _, rfl, (fun z hz => by cases List.mem_singleton.mp hz; exact ⟨by decide, _, lw_l0, by decide⟩), by decide, rfl, by decide, lw_l1, lw_c1⟩ ⟨by decide, Or.inr ⟨d_L_weightByCounting_17, rfl⟩⟩ (fun h' hP => ?_)
  show AP M_L_weightByCounting _ 19 [.ref 0, .int v1, .int v2, .ref 133, jk] [] _ g Φ
  refine s_L_weightByCounting_19 ?_
  exact s_L_weightByCounting_20 (hΦ _ _ hI ⟨hP, rfl⟩)
theorem l_foretold {hi : am_HI} {g : am_G} (hI : am_Inv g) {v1 v2 : Int32} {r : Int32} {P : am_HI → am_G → Prop} (hc : am_Cg M_X9_foretold [.ref 0, .int v1, .int v2] hi g (some (.int r)) P) : am_Cl M_L_foretold [.ref 0, .int v1, .int v2, .ref 133] hi g 0 (fun h g' => ∃ g2, P h g2 ∧ g' = am_upl g2 133 0 r.toInt64) := by
  refine am_cln (by decide) (Nat.le_of_ble_eq_true rfl) (fun Φ hΦ => ?_)
  show AP M_L_foretold _ 0 [.ref 0, .int v1, .int v2, .ref 133, jk] [] _ g Φ
  refine s_L_foretold_0 ?_
  refine s_L_foretold_1 ?_
  refine s_L_foretold_2 ?_
  refine s_L_foretold_3 ?_
  refine s_L_foretold_4 ?_
  refine AP.callVg (As := [.int v1, .int v2]) (q := (RX9, TX9, 7)) hI hc k_L_foretold_62 d_L_foretold_5 rfl rfl (by decide) rfl rfl (by decide) (fun h' g' hI' hP => ?_)
  refine s_L_foretold_8 ?_
  refine s_L_foretold_9 hI' rfl (by decide) (by decide) (j := 0) rfl (by decide) ?_
  refine s_L_foretold_10 ?_
  refine s_L_foretold_21 ?_
  exact s_L_foretold_22 (hΦ _ _ (hI'.upl _ _ _) ⟨g', hP, rfl⟩)
theorem l1_foretold {hi : am_HI} {g : am_G} (hI : am_Inv g) {v1 v2 : Int32} {P : am_HI → Prop} (hc : am_Th M_X9_foretold [.ref 0, .int v1, .int v2] hi g am_x0 P) : am_Cl M_L_foretold [.ref 0, .int v1, .int v2, .ref 133] hi g 1 (fun h g' => P h ∧ g' = g) := by
  refine am_cln (by decide) (Nat.le_of_ble_eq_true rfl) (fun Φ hΦ => ?_)
  show AP M_L_foretold _ 0 [.ref 0, .int v1, .int v2, .ref 133, jk] [] _ g Φ
  refine s_L_foretold_0 ?_
  refine s_L_foretold_1 ?_
  refine s_L_foretold_2 ?_
  refine s_L_foretold_3 ?_
  refine s_L_foretold_4 ?_
  refine AP.callVX (b2 := (0, 0)) (i := 4) (hp := 13) (npc := 15) (As := [.int v1, .int v2]) (q := (RX9, TX9, 7)) hI hc k_L_foretold_62 d_L_foretold_5 rfl rfl (by decide) rfl rfl (by decide) ⟨by decide, by decide⟩ ⟨[], (0, 10, 13, 25), [(0, 10, 17, 13)], _, rfl, (fun z hz => by cases hz), by decide, rfl, by decide, lw_l0, lw_c0⟩ ⟨by decide, Or.inr ⟨d_L_foretold_13, rfl⟩⟩ (fun h' hP => ?_)
  show AP M_L_foretold _ 15 [.ref 0, .int v1, .int v2, .ref 133, jk] [] _ g Φ
  refine s_L_foretold_15 ?_
  exact s_L_foretold_16 (hΦ _ _ hI ⟨hP, rfl⟩)
theorem l2_foretold {hi : am_HI} {g : am_G} (hI : am_Inv g) {v1 v2 : Int32} {P : am_HI → Prop} (hc : am_Th M_X9_foretold [.ref 0, .int v1, .int v2] hi g am_x1 P) : am_Cl M_L_foretold [.ref 0, .int v1, .int v2, .ref 133] hi g 2 (fun h g' => P h ∧ g' = g) := by
  refine am_cln (by decide) (Nat.le_of_ble_eq_true rfl) (fun Φ hΦ => ?_)
  show AP M_L_foretold _ 0 [.ref 0, .int v1, .int v2, .ref 133, jk] [] _ g Φ
  refine s_L_foretold_0 ?_
  refine s_L_foretold_1 ?_
  refine s_L_foretold_2 ?_
  refine s_L_foretold_3 ?_
  refine s_L_foretold_4 ?_
  refine AP.callVX (b2 := (0, 0)) (i := 4) (hp := 17) (npc := 19) (As := [.int v1, .int v2]) (q := (RX9, TX9, 7)) hI hc k_L_foretold_62 d_L_foretold_5 rfl rfl (by decide) rfl rfl (by decide) ⟨by decide, by decide⟩ ⟨[(0, 10, 13, 25)], (0, 10, 17, 13), [], _, rfl, (fun z hz => by cases List.mem_singleton.mp hz; exact ⟨by decide, _, lw_l0, by decide⟩), by decide, rfl, by decide, lw_l1, lw_c1⟩ ⟨by decide, Or.inr ⟨d_L_foretold_17, rfl⟩⟩ (fun h' hP => ?_)
  show AP M_L_foretold _ 19 [.ref 0, .int v1, .int v2, .ref 133, jk] [] _ g Φ
  refine s_L_foretold_19 ?_
  exact s_L_foretold_20 (hΦ _ _ hI ⟨hP, rfl⟩)
theorem l_leftOver {hi : am_HI} {g : am_G} (hI : am_Inv g) {v1 v2 : Int32} {r : Int32} {P : am_HI → am_G → Prop} (hc : am_Cg M_X9_leftOver [.ref 0, .int v1, .int v2] hi g (some (.int r)) P) : am_Cl M_L_leftOver [.ref 0, .int v1, .int v2, .ref 133] hi g 0 (fun h g' => ∃ g2, P h g2 ∧ g' = am_upl g2 133 0 r.toInt64) := by
  refine am_cln (by decide) (Nat.le_of_ble_eq_true rfl) (fun Φ hΦ => ?_)
  show AP M_L_leftOver _ 0 [.ref 0, .int v1, .int v2, .ref 133, jk] [] _ g Φ
  refine s_L_leftOver_0 ?_
  refine s_L_leftOver_1 ?_
  refine s_L_leftOver_2 ?_
  refine s_L_leftOver_3 ?_
  refine s_L_leftOver_4 ?_
  refine AP.callVg (As := [.int v1, .int v2]) (q := (RX9, TX9, 7)) hI hc k_L_leftOver_65 d_L_leftOver_5 rfl rfl (by decide) rfl rfl (by decide) (fun h' g' hI' hP => ?_)
  refine s_L_leftOver_8 ?_
  refine s_L_leftOver_9 hI' rfl (by decide) (by decide) (j := 0) rfl (by decide) ?_
  refine s_L_leftOver_10 ?_
  refine s_L_leftOver_21 ?_
  exact s_L_leftOver_22 (hΦ _ _ (hI'.upl _ _ _) ⟨g', hP, rfl⟩)
theorem l1_leftOver {hi : am_HI} {g : am_G} (hI : am_Inv g) {v1 v2 : Int32} {P : am_HI → Prop} (hc : am_Th M_X9_leftOver [.ref 0, .int v1, .int v2] hi g am_x0 P) : am_Cl M_L_leftOver [.ref 0, .int v1, .int v2, .ref 133] hi g 1 (fun h g' => P h ∧ g' = g) := by
  refine am_cln (by decide) (Nat.le_of_ble_eq_true rfl) (fun Φ hΦ => ?_)
  show AP M_L_leftOver _ 0 [.ref 0, .int v1, .int v2, .ref 133, jk] [] _ g Φ
  refine s_L_leftOver_0 ?_
  refine s_L_leftOver_1 ?_
  refine s_L_leftOver_2 ?_
  refine s_L_leftOver_3 ?_
  refine s_L_leftOver_4 ?_
  refine AP.callVX (b2 := (0, 0)) (i := 4) (hp := 13) (npc := 15) (As := [.int v1, .int v2]) (q := (RX9, TX9, 7)) hI hc k_L_leftOver_65 d_L_leftOver_5 rfl rfl (by decide) rfl rfl (by decide) ⟨by decide, by decide⟩ ⟨[], (0, 10, 13, 25), [(0, 10, 17, 13)], _, rfl, (fun z hz => by cases hz), by decide, rfl, by decide, lw_l0, lw_c0⟩ ⟨by decide, Or.inr ⟨d_L_leftOver_13, rfl⟩⟩ (fun h' hP => ?_)
  show AP M_L_leftOver _ 15 [.ref 0, .int v1, .int v2, .ref 133, jk] [] _ g Φ
  refine s_L_leftOver_15 ?_
  exact s_L_leftOver_16 (hΦ _ _ hI ⟨hP, rfl⟩)
theorem l2_leftOver {hi : am_HI} {g : am_G} (hI : am_Inv g) {v1 v2 : Int32} {P : am_HI → Prop} (hc : am_Th M_X9_leftOver [.ref 0, .int v1, .int v2] hi g am_x1 P) : am_Cl M_L_leftOver [.ref 0, .int v1, .int v2, .ref 133] hi g 2 (fun h g' => P h ∧ g' = g) := by
  refine am_cln (by decide) (Nat.le_of_ble_eq_true rfl) (fun Φ hΦ => ?_)
  show AP M_L_leftOver _ 0 [.ref 0, .int v1, .int v2, .ref 133, jk] [] _ g Φ
  refine s_L_leftOver_0 ?_
  refine s_L_leftOver_1 ?_
  refine s_L_leftOver_2 ?_
  refine s_L_leftOver_3 ?_
  refine s_L_leftOver_4 ?_
  refine AP.callVX (b2 := (0, 0)) (i := 4) (hp := 17) (npc := 19) (As := [.int v1, .int v2]) (q := (RX9, TX9, 7)) hI hc k_L_leftOver_65 d_L_leftOver_5 rfl rfl (by decide) rfl rfl (by decide) ⟨by decide, by decide⟩ ⟨[(0, 10, 13, 25)], (0, 10, 17, 13), [], _, rfl, (fun z hz => by cases List.mem_singleton.mp hz; exact ⟨by decide, _, lw_l0, by decide⟩), by decide, rfl, by decide, lw_l1, lw_c1⟩ ⟨by decide, Or.inr ⟨d_L_leftOver_17, rfl⟩⟩ (fun h' hP => ?_)
  show AP M_L_leftOver _ 19 [.ref 0, .int v1, .int v2, .ref 133, jk] [] _ g Φ
  refine s_L_leftOver_19 ?_
  exact s_L_leftOver_20 (hΦ _ _ hI ⟨hP, rfl⟩)
theorem l_sumOf {hi : am_HI} {g : am_G} (hI : am_Inv g) {v1 : Int32} {r : Int32} {P : am_HI → am_G → Prop} (hc : am_Cg M_X9_sumOf [.ref 0, .int v1] hi g (some (.int r)) P) : am_Cl M_L_sumOf [.ref 0, .int v1, .ref 133] hi g 0 (fun h g' => ∃ g2, P h g2 ∧ g' = am_upl g2 133 0 r.toInt64) := by
  refine am_cln (by decide) (Nat.le_of_ble_eq_true rfl) (fun Φ hΦ => ?_)
  show AP M_L_sumOf _ 0 [.ref 0, .int v1, .ref 133, jk] [] _ g Φ
  refine s_L_sumOf_0 ?_
  refine s_L_sumOf_1 ?_
  refine s_L_sumOf_2 ?_
  refine s_L_sumOf_3 ?_
  refine AP.callVg (As := [.int v1]) (q := (RX9, TX9, 7)) hI hc k_L_sumOf_68 d_L_sumOf_4 rfl rfl (by decide) rfl rfl (by decide) (fun h' g' hI' hP => ?_)
  refine s_L_sumOf_7 ?_
  refine s_L_sumOf_8 hI' rfl (by decide) (by decide) (j := 0) rfl (by decide) ?_
  refine s_L_sumOf_9 ?_
  refine s_L_sumOf_15 ?_
  exact s_L_sumOf_16 (hΦ _ _ (hI'.upl _ _ _) ⟨g', hP, rfl⟩)
theorem l1_sumOf {hi : am_HI} {g : am_G} (hI : am_Inv g) {v1 : Int32} {P : am_HI → Prop} (hc : am_Th M_X9_sumOf [.ref 0, .int v1] hi g am_x1 P) : am_Cl M_L_sumOf [.ref 0, .int v1, .ref 133] hi g 1 (fun h g' => P h ∧ g' = g) := by
  refine am_cln (by decide) (Nat.le_of_ble_eq_true rfl) (fun Φ hΦ => ?_)
  show AP M_L_sumOf _ 0 [.ref 0, .int v1, .ref 133, jk] [] _ g Φ
  refine s_L_sumOf_0 ?_
  refine s_L_sumOf_1 ?_
  refine s_L_sumOf_2 ?_
  refine s_L_sumOf_3 ?_
  refine AP.callVX (b2 := (0, 0)) (i := 3) (hp := 12) (npc := 13) (As := [.int v1]) (q := (RX9, TX9, 7)) hI hc k_L_sumOf_68 d_L_sumOf_4 rfl rfl (by decide) rfl rfl (by decide) ⟨by decide, by decide⟩ ⟨[], (0, 9, 12, 13), [], _, rfl, (fun z hz => by cases hz), by decide, rfl, by decide, lw_l1, lw_c1⟩ ⟨by decide, Or.inl ⟨3, d_L_sumOf_12, rfl, rfl⟩⟩ (fun h' hP => ?_)
  show AP M_L_sumOf _ 13 [.ref 0, .int v1, .ref 133, jk] [] _ g Φ
  refine s_L_sumOf_13 ?_
  exact s_L_sumOf_14 (hΦ _ _ hI ⟨hP, rfl⟩)
theorem l_sumWithDelay {hi : am_HI} {g : am_G} (hI : am_Inv g) {v1 : Int32} {r : Int32} {P : am_HI → am_G → Prop} (hc : am_Cg M_X9_sumWithDelay [.ref 0, .int v1] hi g (some (.int r)) P) : am_Cl M_L_sumWithDelay [.ref 0, .int v1, .ref 133] hi g 0 (fun h g' => ∃ g2, P h g2 ∧ g' = am_upl g2 133 0 r.toInt64) := by
  refine am_cln (by decide) (Nat.le_of_ble_eq_true rfl) (fun Φ hΦ => ?_)
  show AP M_L_sumWithDelay _ 0 [.ref 0, .int v1, .ref 133, jk] [] _ g Φ
  refine s_L_sumWithDelay_0 ?_
  refine s_L_sumWithDelay_1 ?_
  refine s_L_sumWithDelay_2 ?_
  refine s_L_sumWithDelay_3 ?_
  refine AP.callVg (As := [.int v1]) (q := (RX9, TX9, 7)) hI hc k_L_sumWithDelay_71 d_L_sumWithDelay_4 rfl rfl (by decide) rfl rfl (by decide) (fun h' g' hI' hP => ?_)
  refine s_L_sumWithDelay_7 ?_
  refine s_L_sumWithDelay_8 hI' rfl (by decide) (by decide) (j := 0) rfl (by decide) ?_
  refine s_L_sumWithDelay_9 ?_
  refine s_L_sumWithDelay_15 ?_
  exact s_L_sumWithDelay_16 (hΦ _ _ (hI'.upl _ _ _) ⟨g', hP, rfl⟩)
theorem l1_sumWithDelay {hi : am_HI} {g : am_G} (hI : am_Inv g) {v1 : Int32} {P : am_HI → Prop} (hc : am_Th M_X9_sumWithDelay [.ref 0, .int v1] hi g am_x1 P) : am_Cl M_L_sumWithDelay [.ref 0, .int v1, .ref 133] hi g 1 (fun h g' => P h ∧ g' = g) := by
  refine am_cln (by decide) (Nat.le_of_ble_eq_true rfl) (fun Φ hΦ => ?_)
  show AP M_L_sumWithDelay _ 0 [.ref 0, .int v1, .ref 133, jk] [] _ g Φ
  refine s_L_sumWithDelay_0 ?_
  refine s_L_sumWithDelay_1 ?_
  refine s_L_sumWithDelay_2 ?_
  refine s_L_sumWithDelay_3 ?_
  refine AP.callVX (b2 := (0, 0)) (i := 3) (hp := 12) (npc := 13) (As := [.int v1]) (q := (RX9, TX9, 7)) hI hc k_L_sumWithDelay_71 d_L_sumWithDelay_4 rfl rfl (by decide) rfl rfl (by decide) ⟨by decide, by decide⟩ ⟨[], (0, 9, 12, 13), [], _, rfl, (fun z hz => by cases hz), by decide, rfl, by decide, lw_l1, lw_c1⟩ ⟨by decide, Or.inl ⟨3, d_L_sumWithDelay_12, rfl, rfl⟩⟩ (fun h' hP => ?_)
  show AP M_L_sumWithDelay _ 13 [.ref 0, .int v1, .ref 133, jk] [] _ g Φ
  refine s_L_sumWithDelay_13 ?_
  exact s_L_sumWithDelay_14 (hΦ _ _ hI ⟨hP, rfl⟩)
theorem l_bestFirst {hi : am_HI} {g : am_G} (hI : am_Inv g) {v1 : Int32} {r : Int32} {P : am_HI → am_G → Prop} (hc : am_Cg M_X9_bestFirst [.ref 0, .int v1] hi g (some (.int r)) P) : am_Cl M_L_bestFirst [.ref 0, .int v1, .ref 133] hi g 0 (fun h g' => ∃ g2, P h g2 ∧ g' = am_upl g2 133 0 r.toInt64) := by
  refine am_cln (by decide) (Nat.le_of_ble_eq_true rfl) (fun Φ hΦ => ?_)
  show AP M_L_bestFirst _ 0 [.ref 0, .int v1, .ref 133, jk] [] _ g Φ
  refine s_L_bestFirst_0 ?_
  refine s_L_bestFirst_1 ?_
  refine s_L_bestFirst_2 ?_
  refine s_L_bestFirst_3 ?_
  refine AP.callVg (As := [.int v1]) (q := (RX9, TX9, 7)) hI hc k_L_bestFirst_74 d_L_bestFirst_4 rfl rfl (by decide) rfl rfl (by decide) (fun h' g' hI' hP => ?_)
  refine s_L_bestFirst_7 ?_
  refine s_L_bestFirst_8 hI' rfl (by decide) (by decide) (j := 0) rfl (by decide) ?_
  refine s_L_bestFirst_9 ?_
  refine s_L_bestFirst_15 ?_
  exact s_L_bestFirst_16 (hΦ _ _ (hI'.upl _ _ _) ⟨g', hP, rfl⟩)
theorem l1_bestFirst {hi : am_HI} {g : am_G} (hI : am_Inv g) {v1 : Int32} {P : am_HI → Prop} (hc : am_Th M_X9_bestFirst [.ref 0, .int v1] hi g am_x1 P) : am_Cl M_L_bestFirst [.ref 0, .int v1, .ref 133] hi g 1 (fun h g' => P h ∧ g' = g) := by
  refine am_cln (by decide) (Nat.le_of_ble_eq_true rfl) (fun Φ hΦ => ?_)
  show AP M_L_bestFirst _ 0 [.ref 0, .int v1, .ref 133, jk] [] _ g Φ
  refine s_L_bestFirst_0 ?_
  refine s_L_bestFirst_1 ?_
  refine s_L_bestFirst_2 ?_
  refine s_L_bestFirst_3 ?_
  refine AP.callVX (b2 := (0, 0)) (i := 3) (hp := 12) (npc := 13) (As := [.int v1]) (q := (RX9, TX9, 7)) hI hc k_L_bestFirst_74 d_L_bestFirst_4 rfl rfl (by decide) rfl rfl (by decide) ⟨by decide, by decide⟩ ⟨[], (0, 9, 12, 13), [], _, rfl, (fun z hz => by cases hz), by decide, rfl, by decide, lw_l1, lw_c1⟩ ⟨by decide, Or.inl ⟨3, d_L_bestFirst_12, rfl, rfl⟩⟩ (fun h' hP => ?_)
  show AP M_L_bestFirst _ 13 [.ref 0, .int v1, .ref 133, jk] [] _ g Φ
  refine s_L_bestFirst_13 ?_
  exact s_L_bestFirst_14 (hΦ _ _ hI ⟨hP, rfl⟩)
theorem l_bitsWith {hi : am_HI} {g : am_G} (hI : am_Inv g) {v1 v2 v3 : Int32} {r : Int32} {P : am_HI → am_G → Prop} (hc : am_Cg M_X9_bitsWith [.ref 0, .int v1, .int v2, .int v3] hi g (some (.int r)) P) : am_Cl M_L_bitsWith [.ref 0, .int v1, .int v2, .int v3, .ref 133] hi g 0 (fun h g' => ∃ g2, P h g2 ∧ g' = am_upl g2 133 0 r.toInt64) := by
  refine am_cln (by decide) (Nat.le_of_ble_eq_true rfl) (fun Φ hΦ => ?_)
  show AP M_L_bitsWith _ 0 [.ref 0, .int v1, .int v2, .int v3, .ref 133, jk] [] _ g Φ
  refine s_L_bitsWith_0 ?_
  refine s_L_bitsWith_2 ?_
  refine s_L_bitsWith_3 ?_
  refine s_L_bitsWith_4 ?_
  refine s_L_bitsWith_5 ?_
  refine s_L_bitsWith_6 ?_
  refine AP.callVg (As := [.int v1, .int v2, .int v3]) (q := (RX9, TX9, 7)) hI hc k_L_bitsWith_77 d_L_bitsWith_7 rfl rfl (by decide) rfl rfl (by decide) (fun h' g' hI' hP => ?_)
  refine s_L_bitsWith_10 ?_
  refine s_L_bitsWith_11 hI' rfl (by decide) (by decide) (j := 0) rfl (by decide) ?_
  refine s_L_bitsWith_12 ?_
  refine s_L_bitsWith_23 ?_
  exact s_L_bitsWith_24 (hΦ _ _ (hI'.upl _ _ _) ⟨g', hP, rfl⟩)
theorem l1_bitsWith {hi : am_HI} {g : am_G} (hI : am_Inv g) {v1 v2 v3 : Int32} {P : am_HI → Prop} (hc : am_Th M_X9_bitsWith [.ref 0, .int v1, .int v2, .int v3] hi g am_x0 P) : am_Cl M_L_bitsWith [.ref 0, .int v1, .int v2, .int v3, .ref 133] hi g 1 (fun h g' => P h ∧ g' = g) := by
  refine am_cln (by decide) (Nat.le_of_ble_eq_true rfl) (fun Φ hΦ => ?_)
  show AP M_L_bitsWith _ 0 [.ref 0, .int v1, .int v2, .int v3, .ref 133, jk] [] _ g Φ
  refine s_L_bitsWith_0 ?_
  refine s_L_bitsWith_2 ?_
  refine s_L_bitsWith_3 ?_
  refine s_L_bitsWith_4 ?_
  refine s_L_bitsWith_5 ?_
  refine s_L_bitsWith_6 ?_
  refine AP.callVX (b2 := (0, 0)) (i := 5) (hp := 15) (npc := 17) (As := [.int v1, .int v2, .int v3]) (q := (RX9, TX9, 7)) hI hc k_L_bitsWith_77 d_L_bitsWith_7 rfl rfl (by decide) rfl rfl (by decide) ⟨by decide, by decide⟩ ⟨[], (0, 12, 15, 25), [(0, 12, 19, 13)], _, rfl, (fun z hz => by cases hz), by decide, rfl, by decide, lw_l0, lw_c0⟩ ⟨by decide, Or.inr ⟨d_L_bitsWith_15, rfl⟩⟩ (fun h' hP => ?_)
  show AP M_L_bitsWith _ 17 [.ref 0, .int v1, .int v2, .int v3, .ref 133, jk] [] _ g Φ
  refine s_L_bitsWith_17 ?_
  exact s_L_bitsWith_18 (hΦ _ _ hI ⟨hP, rfl⟩)
theorem l2_bitsWith {hi : am_HI} {g : am_G} (hI : am_Inv g) {v1 v2 v3 : Int32} {P : am_HI → Prop} (hc : am_Th M_X9_bitsWith [.ref 0, .int v1, .int v2, .int v3] hi g am_x1 P) : am_Cl M_L_bitsWith [.ref 0, .int v1, .int v2, .int v3, .ref 133] hi g 2 (fun h g' => P h ∧ g' = g) := by
  refine am_cln (by decide) (Nat.le_of_ble_eq_true rfl) (fun Φ hΦ => ?_)
  show AP M_L_bitsWith _ 0 [.ref 0, .int v1, .int v2, .int v3, .ref 133, jk] [] _ g Φ
  refine s_L_bitsWith_0 ?_
  refine s_L_bitsWith_2 ?_
  refine s_L_bitsWith_3 ?_
  refine s_L_bitsWith_4 ?_
  refine s_L_bitsWith_5 ?_
  refine s_L_bitsWith_6 ?_
  refine AP.callVX (b2 := (0, 0)) (i := 5) (hp := 19) (npc := 21) (As := [.int v1, .int v2, .int v3]) (q := (RX9, TX9, 7)) hI hc k_L_bitsWith_77 d_L_bitsWith_7 rfl rfl (by decide) rfl rfl (by decide) ⟨by decide, by decide⟩ ⟨[(0, 12, 15, 25)], (0, 12, 19, 13), [], _, rfl, (fun z hz => by cases List.mem_singleton.mp hz; exact ⟨by decide, _, lw_l0, by decide⟩), by decide, rfl, by decide, lw_l1, lw_c1⟩ ⟨by decide, Or.inr ⟨d_L_bitsWith_19, rfl⟩⟩ (fun h' hP => ?_)
  show AP M_L_bitsWith _ 21 [.ref 0, .int v1, .int v2, .int v3, .ref 133, jk] [] _ g Φ
  refine s_L_bitsWith_21 ?_
  exact s_L_bitsWith_22 (hΦ _ _ hI ⟨hP, rfl⟩)
theorem l_bestParameter {hi : am_HI} {g : am_G} (hI : am_Inv g) {v1 v2 : Int32} {r : Int32} {P : am_HI → am_G → Prop} (hc : am_Cg M_X9_bestParameter [.ref 0, .int v1, .int v2] hi g (some (.int r)) P) : am_Cl M_L_bestParameter [.ref 0, .int v1, .int v2, .ref 133] hi g 0 (fun h g' => ∃ g2, P h g2 ∧ g' = am_upl g2 133 0 r.toInt64) := by
  refine am_cln (by decide) (Nat.le_of_ble_eq_true rfl) (fun Φ hΦ => ?_)
  show AP M_L_bestParameter _ 0 [.ref 0, .int v1, .int v2, .ref 133, jk] [] _ g Φ
  refine s_L_bestParameter_0 ?_
  refine s_L_bestParameter_1 ?_
  refine s_L_bestParameter_2 ?_
  refine s_L_bestParameter_3 ?_
  refine s_L_bestParameter_4 ?_
  refine AP.callVg (As := [.int v1, .int v2]) (q := (RX9, TX9, 7)) hI hc k_L_bestParameter_80 d_L_bestParameter_5 rfl rfl (by decide) rfl rfl (by decide) (fun h' g' hI' hP => ?_)
  refine s_L_bestParameter_8 ?_
  refine s_L_bestParameter_9 hI' rfl (by decide) (by decide) (j := 0) rfl (by decide) ?_
  refine s_L_bestParameter_10 ?_
  refine s_L_bestParameter_21 ?_
  exact s_L_bestParameter_22 (hΦ _ _ (hI'.upl _ _ _) ⟨g', hP, rfl⟩)
theorem l1_bestParameter {hi : am_HI} {g : am_G} (hI : am_Inv g) {v1 v2 : Int32} {P : am_HI → Prop} (hc : am_Th M_X9_bestParameter [.ref 0, .int v1, .int v2] hi g am_x0 P) : am_Cl M_L_bestParameter [.ref 0, .int v1, .int v2, .ref 133] hi g 1 (fun h g' => P h ∧ g' = g) := by
  refine am_cln (by decide) (Nat.le_of_ble_eq_true rfl) (fun Φ hΦ => ?_)
  show AP M_L_bestParameter _ 0 [.ref 0, .int v1, .int v2, .ref 133, jk] [] _ g Φ
  refine s_L_bestParameter_0 ?_
  refine s_L_bestParameter_1 ?_
  refine s_L_bestParameter_2 ?_
  refine s_L_bestParameter_3 ?_
  refine s_L_bestParameter_4 ?_
  refine AP.callVX (b2 := (0, 0)) (i := 4) (hp := 13) (npc := 15) (As := [.int v1, .int v2]) (q := (RX9, TX9, 7)) hI hc k_L_bestParameter_80 d_L_bestParameter_5 rfl rfl (by decide) rfl rfl (by decide) ⟨by decide, by decide⟩ ⟨[], (0, 10, 13, 25), [(0, 10, 17, 13)], _, rfl, (fun z hz => by cases hz), by decide, rfl, by decide, lw_l0, lw_c0⟩ ⟨by decide, Or.inr ⟨d_L_bestParameter_13, rfl⟩⟩ (fun h' hP => ?_)
  show AP M_L_bestParameter _ 15 [.ref 0, .int v1, .int v2, .ref 133, jk] [] _ g Φ
  refine s_L_bestParameter_15 ?_
  exact s_L_bestParameter_16 (hΦ _ _ hI ⟨hP, rfl⟩)
theorem l2_bestParameter {hi : am_HI} {g : am_G} (hI : am_Inv g) {v1 v2 : Int32} {P : am_HI → Prop} (hc : am_Th M_X9_bestParameter [.ref 0, .int v1, .int v2] hi g am_x1 P) : am_Cl M_L_bestParameter [.ref 0, .int v1, .int v2, .ref 133] hi g 2 (fun h g' => P h ∧ g' = g) := by
  refine am_cln (by decide) (Nat.le_of_ble_eq_true rfl) (fun Φ hΦ => ?_)
  show AP M_L_bestParameter _ 0 [.ref 0, .int v1, .int v2, .ref 133, jk] [] _ g Φ
  refine s_L_bestParameter_0 ?_
  refine s_L_bestParameter_1 ?_
  refine s_L_bestParameter_2 ?_
  refine s_L_bestParameter_3 ?_
  refine s_L_bestParameter_4 ?_
  refine AP.callVX (b2 := (0, 0)) (i := 4) (hp := 17) (npc := 19) (As := [.int v1, .int v2]) (q := (RX9, TX9, 7)) hI hc k_L_bestParameter_80 d_L_bestParameter_5 rfl rfl (by decide) rfl rfl (by decide) ⟨by decide, by decide⟩ ⟨[(0, 10, 13, 25)], (0, 10, 17, 13), [], _, rfl, (fun z hz => by cases List.mem_singleton.mp hz; exact ⟨by decide, _, lw_l0, by decide⟩), by decide, rfl, by decide, lw_l1, lw_c1⟩ ⟨by decide, Or.inr ⟨d_L_bestParameter_17, rfl⟩⟩ (fun h' hP => ?_)
  show AP M_L_bestParameter _ 19 [.ref 0, .int v1, .int v2, .ref 133, jk] [] _ g Φ
  refine s_L_bestParameter_19 ?_
  exact s_L_bestParameter_20 (hΦ _ _ hI ⟨hP, rfl⟩)
theorem l_bestKind {hi : am_HI} {g : am_G} (hI : am_Inv g) {v1 : Int32} {r : Int32} {P : am_HI → am_G → Prop} (hc : am_Cg M_X9_bestKind [.ref 0, .int v1] hi g (some (.int r)) P) : am_Cl M_L_bestKind [.ref 0, .int v1, .ref 133] hi g 0 (fun h g' => ∃ g2, P h g2 ∧ g' = am_upl g2 133 0 r.toInt64) := by
  refine am_cln (by decide) (Nat.le_of_ble_eq_true rfl) (fun Φ hΦ => ?_)
  show AP M_L_bestKind _ 0 [.ref 0, .int v1, .ref 133, jk] [] _ g Φ
  refine s_L_bestKind_0 ?_
  refine s_L_bestKind_1 ?_
  refine s_L_bestKind_2 ?_
  refine s_L_bestKind_3 ?_
  refine AP.callVg (As := [.int v1]) (q := (RX9, TX9, 7)) hI hc k_L_bestKind_83 d_L_bestKind_4 rfl rfl (by decide) rfl rfl (by decide) (fun h' g' hI' hP => ?_)
  refine s_L_bestKind_7 ?_
  refine s_L_bestKind_8 hI' rfl (by decide) (by decide) (j := 0) rfl (by decide) ?_
  refine s_L_bestKind_9 ?_
  refine s_L_bestKind_15 ?_
  exact s_L_bestKind_16 (hΦ _ _ (hI'.upl _ _ _) ⟨g', hP, rfl⟩)
theorem l1_bestKind {hi : am_HI} {g : am_G} (hI : am_Inv g) {v1 : Int32} {P : am_HI → Prop} (hc : am_Th M_X9_bestKind [.ref 0, .int v1] hi g am_x0 P) : am_Cl M_L_bestKind [.ref 0, .int v1, .ref 133] hi g 1 (fun h g' => P h ∧ g' = g) := by
  refine am_cln (by decide) (Nat.le_of_ble_eq_true rfl) (fun Φ hΦ => ?_)
  show AP M_L_bestKind _ 0 [.ref 0, .int v1, .ref 133, jk] [] _ g Φ
  refine s_L_bestKind_0 ?_
  refine s_L_bestKind_1 ?_
  refine s_L_bestKind_2 ?_
  refine s_L_bestKind_3 ?_
  refine AP.callVX (b2 := (0, 0)) (i := 3) (hp := 12) (npc := 13) (As := [.int v1]) (q := (RX9, TX9, 7)) hI hc k_L_bestKind_83 d_L_bestKind_4 rfl rfl (by decide) rfl rfl (by decide) ⟨by decide, by decide⟩ ⟨[], (0, 9, 12, 25), [], _, rfl, (fun z hz => by cases hz), by decide, rfl, by decide, lw_l0, lw_c0⟩ ⟨by decide, Or.inl ⟨3, d_L_bestKind_12, rfl, rfl⟩⟩ (fun h' hP => ?_)
  show AP M_L_bestKind _ 13 [.ref 0, .int v1, .ref 133, jk] [] _ g Φ
  refine s_L_bestKind_13 ?_
  exact s_L_bestKind_14 (hΦ _ _ hI ⟨hP, rfl⟩)
theorem l_whyBest {hi : am_HI} {g : am_G} (hI : am_Inv g) {v1 : Int32} {r : Int32} {P : am_HI → am_G → Prop} (hc : am_Cg M_X9_whyBest [.ref 0, .int v1] hi g (some (.int r)) P) : am_Cl M_L_whyBest [.ref 0, .int v1, .ref 133] hi g 0 (fun h g' => ∃ g2, P h g2 ∧ g' = am_upl g2 133 0 r.toInt64) := by
  refine am_cln (by decide) (Nat.le_of_ble_eq_true rfl) (fun Φ hΦ => ?_)
  show AP M_L_whyBest _ 0 [.ref 0, .int v1, .ref 133, jk] [] _ g Φ
  refine s_L_whyBest_0 ?_
  refine s_L_whyBest_1 ?_
  refine s_L_whyBest_2 ?_
  refine s_L_whyBest_3 ?_
  refine AP.callVg (As := [.int v1]) (q := (RX9, TX9, 7)) hI hc k_L_whyBest_86 d_L_whyBest_4 rfl rfl (by decide) rfl rfl (by decide) (fun h' g' hI' hP => ?_)
  refine s_L_whyBest_7 ?_
  refine s_L_whyBest_8 hI' rfl (by decide) (by decide) (j := 0) rfl (by decide) ?_
  refine s_L_whyBest_9 ?_
  refine s_L_whyBest_15 ?_
  exact s_L_whyBest_16 (hΦ _ _ (hI'.upl _ _ _) ⟨g', hP, rfl⟩)
theorem l1_whyBest {hi : am_HI} {g : am_G} (hI : am_Inv g) {v1 : Int32} {P : am_HI → Prop} (hc : am_Th M_X9_whyBest [.ref 0, .int v1] hi g am_x0 P) : am_Cl M_L_whyBest [.ref 0, .int v1, .ref 133] hi g 1 (fun h g' => P h ∧ g' = g) := by
  refine am_cln (by decide) (Nat.le_of_ble_eq_true rfl) (fun Φ hΦ => ?_)
  show AP M_L_whyBest _ 0 [.ref 0, .int v1, .ref 133, jk] [] _ g Φ
  refine s_L_whyBest_0 ?_
  refine s_L_whyBest_1 ?_
  refine s_L_whyBest_2 ?_
  refine s_L_whyBest_3 ?_
  refine AP.callVX (b2 := (0, 0)) (i := 3) (hp := 12) (npc := 13) (As := [.int v1]) (q := (RX9, TX9, 7)) hI hc k_L_whyBest_86 d_L_whyBest_4 rfl rfl (by decide) rfl rfl (by decide) ⟨by decide, by decide⟩ ⟨[], (0, 9, 12, 25), [], _, rfl, (fun z hz => by cases hz), by decide, rfl, by decide, lw_l0, lw_c0⟩ ⟨by decide, Or.inl ⟨3, d_L_whyBest_12, rfl, rfl⟩⟩ (fun h' hP => ?_)
  show AP M_L_whyBest _ 13 [.ref 0, .int v1, .ref 133, jk] [] _ g Φ
  refine s_L_whyBest_13 ?_
  exact s_L_whyBest_14 (hΦ _ _ hI ⟨hP, rfl⟩)
theorem l_blocksWith {hi : am_HI} {g : am_G} (hI : am_Inv g) {v1 : Int32} {r : Int32} {P : am_HI → am_G → Prop} (hc : am_Cg M_X9_blocksWith [.ref 0, .int v1] hi g (some (.int r)) P) : am_Cl M_L_blocksWith [.ref 0, .int v1, .ref 133] hi g 0 (fun h g' => ∃ g2, P h g2 ∧ g' = am_upl g2 133 0 r.toInt64) := by
  refine am_cln (by decide) (Nat.le_of_ble_eq_true rfl) (fun Φ hΦ => ?_)
  show AP M_L_blocksWith _ 0 [.ref 0, .int v1, .ref 133, jk] [] _ g Φ
  refine s_L_blocksWith_0 ?_
  refine s_L_blocksWith_1 ?_
  refine s_L_blocksWith_2 ?_
  refine s_L_blocksWith_3 ?_
  refine AP.callVg (As := [.int v1]) (q := (RX9, TX9, 7)) hI hc k_L_blocksWith_89 d_L_blocksWith_4 rfl rfl (by decide) rfl rfl (by decide) (fun h' g' hI' hP => ?_)
  refine s_L_blocksWith_7 ?_
  refine s_L_blocksWith_8 hI' rfl (by decide) (by decide) (j := 0) rfl (by decide) ?_
  refine s_L_blocksWith_9 ?_
  refine s_L_blocksWith_15 ?_
  exact s_L_blocksWith_16 (hΦ _ _ (hI'.upl _ _ _) ⟨g', hP, rfl⟩)
theorem l1_blocksWith {hi : am_HI} {g : am_G} (hI : am_Inv g) {v1 : Int32} {P : am_HI → Prop} (hc : am_Th M_X9_blocksWith [.ref 0, .int v1] hi g am_x1 P) : am_Cl M_L_blocksWith [.ref 0, .int v1, .ref 133] hi g 1 (fun h g' => P h ∧ g' = g) := by
  refine am_cln (by decide) (Nat.le_of_ble_eq_true rfl) (fun Φ hΦ => ?_)
  show AP M_L_blocksWith _ 0 [.ref 0, .int v1, .ref 133, jk] [] _ g Φ
  refine s_L_blocksWith_0 ?_
  refine s_L_blocksWith_1 ?_
  refine s_L_blocksWith_2 ?_
  refine s_L_blocksWith_3 ?_
  refine AP.callVX (b2 := (0, 0)) (i := 3) (hp := 12) (npc := 13) (As := [.int v1]) (q := (RX9, TX9, 7)) hI hc k_L_blocksWith_89 d_L_blocksWith_4 rfl rfl (by decide) rfl rfl (by decide) ⟨by decide, by decide⟩ ⟨[], (0, 9, 12, 13), [], _, rfl, (fun z hz => by cases hz), by decide, rfl, by decide, lw_l1, lw_c1⟩ ⟨by decide, Or.inl ⟨3, d_L_blocksWith_12, rfl, rfl⟩⟩ (fun h' hP => ?_)
  show AP M_L_blocksWith _ 13 [.ref 0, .int v1, .ref 133, jk] [] _ g Φ
  refine s_L_blocksWith_13 ?_
  exact s_L_blocksWith_14 (hΦ _ _ hI ⟨hP, rfl⟩)
theorem l_bitsIfOnly {hi : am_HI} {g : am_G} (hI : am_Inv g) {v1 : Int32} {r : Int32} {P : am_HI → am_G → Prop} (hc : am_Cg M_X9_bitsIfOnly [.ref 0, .int v1] hi g (some (.int r)) P) : am_Cl M_L_bitsIfOnly [.ref 0, .int v1, .ref 133] hi g 0 (fun h g' => ∃ g2, P h g2 ∧ g' = am_upl g2 133 0 r.toInt64) := by
  refine am_cln (by decide) (Nat.le_of_ble_eq_true rfl) (fun Φ hΦ => ?_)
  show AP M_L_bitsIfOnly _ 0 [.ref 0, .int v1, .ref 133, jk] [] _ g Φ
  refine s_L_bitsIfOnly_0 ?_
  refine s_L_bitsIfOnly_1 ?_
  refine s_L_bitsIfOnly_2 ?_
  refine s_L_bitsIfOnly_3 ?_
  refine AP.callVg (As := [.int v1]) (q := (RX9, TX9, 7)) hI hc k_L_bitsIfOnly_92 d_L_bitsIfOnly_4 rfl rfl (by decide) rfl rfl (by decide) (fun h' g' hI' hP => ?_)
  refine s_L_bitsIfOnly_7 ?_
  refine s_L_bitsIfOnly_8 hI' rfl (by decide) (by decide) (j := 0) rfl (by decide) ?_
  refine s_L_bitsIfOnly_9 ?_
  refine s_L_bitsIfOnly_15 ?_
  exact s_L_bitsIfOnly_16 (hΦ _ _ (hI'.upl _ _ _) ⟨g', hP, rfl⟩)
theorem l1_bitsIfOnly {hi : am_HI} {g : am_G} (hI : am_Inv g) {v1 : Int32} {P : am_HI → Prop} (hc : am_Th M_X9_bitsIfOnly [.ref 0, .int v1] hi g am_x1 P) : am_Cl M_L_bitsIfOnly [.ref 0, .int v1, .ref 133] hi g 1 (fun h g' => P h ∧ g' = g) := by
  refine am_cln (by decide) (Nat.le_of_ble_eq_true rfl) (fun Φ hΦ => ?_)
  show AP M_L_bitsIfOnly _ 0 [.ref 0, .int v1, .ref 133, jk] [] _ g Φ
  refine s_L_bitsIfOnly_0 ?_
  refine s_L_bitsIfOnly_1 ?_
  refine s_L_bitsIfOnly_2 ?_
  refine s_L_bitsIfOnly_3 ?_
  refine AP.callVX (b2 := (0, 0)) (i := 3) (hp := 12) (npc := 13) (As := [.int v1]) (q := (RX9, TX9, 7)) hI hc k_L_bitsIfOnly_92 d_L_bitsIfOnly_4 rfl rfl (by decide) rfl rfl (by decide) ⟨by decide, by decide⟩ ⟨[], (0, 9, 12, 13), [], _, rfl, (fun z hz => by cases hz), by decide, rfl, by decide, lw_l1, lw_c1⟩ ⟨by decide, Or.inl ⟨3, d_L_bitsIfOnly_12, rfl, rfl⟩⟩ (fun h' hP => ?_)
  show AP M_L_bitsIfOnly _ 13 [.ref 0, .int v1, .ref 133, jk] [] _ g Φ
  refine s_L_bitsIfOnly_13 ?_
  exact s_L_bitsIfOnly_14 (hΦ _ _ hI ⟨hP, rfl⟩)
theorem l_letterKind {hi : am_HI} {g : am_G} (hI : am_Inv g) {v1 : Int32} {r : Int32} {P : am_HI → am_G → Prop} (hc : am_Cg M_X9_letterKind [.ref 0, .int v1] hi g (some (.int r)) P) : am_Cl M_L_letterKind [.ref 0, .int v1, .ref 133] hi g 0 (fun h g' => ∃ g2, P h g2 ∧ g' = am_upl g2 133 0 r.toInt64) := by
  refine am_cln (by decide) (Nat.le_of_ble_eq_true rfl) (fun Φ hΦ => ?_)
  show AP M_L_letterKind _ 0 [.ref 0, .int v1, .ref 133, jk] [] _ g Φ
  refine s_L_letterKind_0 ?_
  refine s_L_letterKind_1 ?_
  refine s_L_letterKind_2 ?_
  refine s_L_letterKind_3 ?_
  refine AP.callVg (As := [.int v1]) (q := (RX9, TX9, 7)) hI hc k_L_letterKind_95 d_L_letterKind_4 rfl rfl (by decide) rfl rfl (by decide) (fun h' g' hI' hP => ?_)
  refine s_L_letterKind_7 ?_
  refine s_L_letterKind_8 hI' rfl (by decide) (by decide) (j := 0) rfl (by decide) ?_
  refine s_L_letterKind_9 ?_
  refine s_L_letterKind_15 ?_
  exact s_L_letterKind_16 (hΦ _ _ (hI'.upl _ _ _) ⟨g', hP, rfl⟩)
theorem l1_letterKind {hi : am_HI} {g : am_G} (hI : am_Inv g) {v1 : Int32} {P : am_HI → Prop} (hc : am_Th M_X9_letterKind [.ref 0, .int v1] hi g am_x0 P) : am_Cl M_L_letterKind [.ref 0, .int v1, .ref 133] hi g 1 (fun h g' => P h ∧ g' = g) := by
  refine am_cln (by decide) (Nat.le_of_ble_eq_true rfl) (fun Φ hΦ => ?_)
  show AP M_L_letterKind _ 0 [.ref 0, .int v1, .ref 133, jk] [] _ g Φ
  refine s_L_letterKind_0 ?_
  refine s_L_letterKind_1 ?_
  refine s_L_letterKind_2 ?_
  refine s_L_letterKind_3 ?_
  refine AP.callVX (b2 := (0, 0)) (i := 3) (hp := 12) (npc := 13) (As := [.int v1]) (q := (RX9, TX9, 7)) hI hc k_L_letterKind_95 d_L_letterKind_4 rfl rfl (by decide) rfl rfl (by decide) ⟨by decide, by decide⟩ ⟨[], (0, 9, 12, 25), [], _, rfl, (fun z hz => by cases hz), by decide, rfl, by decide, lw_l0, lw_c0⟩ ⟨by decide, Or.inl ⟨3, d_L_letterKind_12, rfl, rfl⟩⟩ (fun h' hP => ?_)
  show AP M_L_letterKind _ 13 [.ref 0, .int v1, .ref 133, jk] [] _ g Φ
  refine s_L_letterKind_13 ?_
  exact s_L_letterKind_14 (hΦ _ _ hI ⟨hP, rfl⟩)
theorem l_letterParameter {hi : am_HI} {g : am_G} (hI : am_Inv g) {v1 : Int32} {r : Int32} {P : am_HI → am_G → Prop} (hc : am_Cg M_X9_letterParameter [.ref 0, .int v1] hi g (some (.int r)) P) : am_Cl M_L_letterParameter [.ref 0, .int v1, .ref 133] hi g 0 (fun h g' => ∃ g2, P h g2 ∧ g' = am_upl g2 133 0 r.toInt64) := by
  refine am_cln (by decide) (Nat.le_of_ble_eq_true rfl) (fun Φ hΦ => ?_)
  show AP M_L_letterParameter _ 0 [.ref 0, .int v1, .ref 133, jk] [] _ g Φ
  refine s_L_letterParameter_0 ?_
  refine s_L_letterParameter_1 ?_
  refine s_L_letterParameter_2 ?_
  refine s_L_letterParameter_3 ?_
  refine AP.callVg (As := [.int v1]) (q := (RX9, TX9, 7)) hI hc k_L_letterParameter_98 d_L_letterParameter_4 rfl rfl (by decide) rfl rfl (by decide) (fun h' g' hI' hP => ?_)
  refine s_L_letterParameter_7 ?_
  refine s_L_letterParameter_8 hI' rfl (by decide) (by decide) (j := 0) rfl (by decide) ?_
  refine s_L_letterParameter_9 ?_
  refine s_L_letterParameter_15 ?_
  exact s_L_letterParameter_16 (hΦ _ _ (hI'.upl _ _ _) ⟨g', hP, rfl⟩)
theorem l1_letterParameter {hi : am_HI} {g : am_G} (hI : am_Inv g) {v1 : Int32} {P : am_HI → Prop} (hc : am_Th M_X9_letterParameter [.ref 0, .int v1] hi g am_x0 P) : am_Cl M_L_letterParameter [.ref 0, .int v1, .ref 133] hi g 1 (fun h g' => P h ∧ g' = g) := by
  refine am_cln (by decide) (Nat.le_of_ble_eq_true rfl) (fun Φ hΦ => ?_)
  show AP M_L_letterParameter _ 0 [.ref 0, .int v1, .ref 133, jk] [] _ g Φ
  refine s_L_letterParameter_0 ?_
  refine s_L_letterParameter_1 ?_
  refine s_L_letterParameter_2 ?_
  refine s_L_letterParameter_3 ?_
  refine AP.callVX (b2 := (0, 0)) (i := 3) (hp := 12) (npc := 13) (As := [.int v1]) (q := (RX9, TX9, 7)) hI hc k_L_letterParameter_98 d_L_letterParameter_4 rfl rfl (by decide) rfl rfl (by decide) ⟨by decide, by decide⟩ ⟨[], (0, 9, 12, 25), [], _, rfl, (fun z hz => by cases hz), by decide, rfl, by decide, lw_l0, lw_c0⟩ ⟨by decide, Or.inl ⟨3, d_L_letterParameter_12, rfl, rfl⟩⟩ (fun h' hP => ?_)
  show AP M_L_letterParameter _ 13 [.ref 0, .int v1, .ref 133, jk] [] _ g Φ
  refine s_L_letterParameter_13 ?_
  exact s_L_letterParameter_14 (hΦ _ _ hI ⟨hP, rfl⟩)
theorem l_letterLeft {hi : am_HI} {g : am_G} (hI : am_Inv g) {v1 : Int32} {r : Int32} {P : am_HI → am_G → Prop} (hc : am_Cg M_X9_letterLeft [.ref 0, .int v1] hi g (some (.int r)) P) : am_Cl M_L_letterLeft [.ref 0, .int v1, .ref 133] hi g 0 (fun h g' => ∃ g2, P h g2 ∧ g' = am_upl g2 133 0 r.toInt64) := by
  refine am_cln (by decide) (Nat.le_of_ble_eq_true rfl) (fun Φ hΦ => ?_)
  show AP M_L_letterLeft _ 0 [.ref 0, .int v1, .ref 133, jk] [] _ g Φ
  refine s_L_letterLeft_0 ?_
  refine s_L_letterLeft_1 ?_
  refine s_L_letterLeft_2 ?_
  refine s_L_letterLeft_3 ?_
  refine AP.callVg (As := [.int v1]) (q := (RX9, TX9, 7)) hI hc k_L_letterLeft_101 d_L_letterLeft_4 rfl rfl (by decide) rfl rfl (by decide) (fun h' g' hI' hP => ?_)
  refine s_L_letterLeft_7 ?_
  refine s_L_letterLeft_8 hI' rfl (by decide) (by decide) (j := 0) rfl (by decide) ?_
  refine s_L_letterLeft_9 ?_
  refine s_L_letterLeft_15 ?_
  exact s_L_letterLeft_16 (hΦ _ _ (hI'.upl _ _ _) ⟨g', hP, rfl⟩)
theorem l1_letterLeft {hi : am_HI} {g : am_G} (hI : am_Inv g) {v1 : Int32} {P : am_HI → Prop} (hc : am_Th M_X9_letterLeft [.ref 0, .int v1] hi g am_x0 P) : am_Cl M_L_letterLeft [.ref 0, .int v1, .ref 133] hi g 1 (fun h g' => P h ∧ g' = g) := by
  refine am_cln (by decide) (Nat.le_of_ble_eq_true rfl) (fun Φ hΦ => ?_)
  show AP M_L_letterLeft _ 0 [.ref 0, .int v1, .ref 133, jk] [] _ g Φ
  refine s_L_letterLeft_0 ?_
  refine s_L_letterLeft_1 ?_
  refine s_L_letterLeft_2 ?_
  refine s_L_letterLeft_3 ?_
  refine AP.callVX (b2 := (0, 0)) (i := 3) (hp := 12) (npc := 13) (As := [.int v1]) (q := (RX9, TX9, 7)) hI hc k_L_letterLeft_101 d_L_letterLeft_4 rfl rfl (by decide) rfl rfl (by decide) ⟨by decide, by decide⟩ ⟨[], (0, 9, 12, 25), [], _, rfl, (fun z hz => by cases hz), by decide, rfl, by decide, lw_l0, lw_c0⟩ ⟨by decide, Or.inl ⟨3, d_L_letterLeft_12, rfl, rfl⟩⟩ (fun h' hP => ?_)
  show AP M_L_letterLeft _ 13 [.ref 0, .int v1, .ref 133, jk] [] _ g Φ
  refine s_L_letterLeft_13 ?_
  exact s_L_letterLeft_14 (hΦ _ _ hI ⟨hP, rfl⟩)
theorem l_letterBit {hi : am_HI} {g : am_G} (hI : am_Inv g) {v1 : Int32} {x : Bool} {P : am_HI → am_G → Prop} (hc : am_Cg M_X9_letterBit [.ref 0, .int v1] hi g (some (.int (bI x))) P) : am_Cl M_L_letterBit [.ref 0, .int v1, .ref 133] hi g 0 (fun h g' => ∃ g2, P h g2 ∧ g' = am_upl g2 133 0 (if x = true then 1 else 0)) := by
  refine am_cln (by decide) (Nat.le_of_ble_eq_true rfl) (fun Φ hΦ => ?_)
  show AP M_L_letterBit _ 0 [.ref 0, .int v1, .ref 133, jk] [] _ g Φ
  refine s_L_letterBit_0 ?_
  refine s_L_letterBit_1 ?_
  refine s_L_letterBit_2 ?_
  refine s_L_letterBit_3 ?_
  refine AP.callVg (As := [.int v1]) (q := (RX9, TX9, 7)) hI hc k_L_letterBit_104 d_L_letterBit_4 rfl rfl (by decide) rfl rfl (by decide) (fun h' g' hI' hP => ?_)
  cases x
  · refine s_L_letterBit_7 (fun _ => ?_) (fun e => absurd rfl e)
    refine s_L_letterBit_14 ?_
    refine s_L_letterBit_15 hI' rfl (by decide) (by decide) (j := 0) rfl (by decide) ?_
    refine s_L_letterBit_16 ?_
    refine s_L_letterBit_22 ?_
    exact s_L_letterBit_23 (hΦ _ _ (hI'.upl _ _ _) ⟨g', hP, rfl⟩)
  · refine s_L_letterBit_7 (fun e => absurd e (by decide)) (fun _ => ?_)
    refine s_L_letterBit_10 ?_
    refine s_L_letterBit_11 ?_
    refine s_L_letterBit_15 hI' rfl (by decide) (by decide) (j := 0) rfl (by decide) ?_
    refine s_L_letterBit_16 ?_
    refine s_L_letterBit_22 ?_
    exact s_L_letterBit_23 (hΦ _ _ (hI'.upl _ _ _) ⟨g', hP, rfl⟩)
theorem l1_letterBit {hi : am_HI} {g : am_G} (hI : am_Inv g) {v1 : Int32} {P : am_HI → Prop} (hc : am_Th M_X9_letterBit [.ref 0, .int v1] hi g am_x0 P) : am_Cl M_L_letterBit [.ref 0, .int v1, .ref 133] hi g 1 (fun h g' => P h ∧ g' = g) := by
  refine am_cln (by decide) (Nat.le_of_ble_eq_true rfl) (fun Φ hΦ => ?_)
  show AP M_L_letterBit _ 0 [.ref 0, .int v1, .ref 133, jk] [] _ g Φ
  refine s_L_letterBit_0 ?_
  refine s_L_letterBit_1 ?_
  refine s_L_letterBit_2 ?_
  refine s_L_letterBit_3 ?_
  refine AP.callVX (b2 := (0, 0)) (i := 3) (hp := 19) (npc := 20) (As := [.int v1]) (q := (RX9, TX9, 7)) hI hc k_L_letterBit_104 d_L_letterBit_4 rfl rfl (by decide) rfl rfl (by decide) ⟨by decide, by decide⟩ ⟨[], (0, 16, 19, 25), [], _, rfl, (fun z hz => by cases hz), by decide, rfl, by decide, lw_l0, lw_c0⟩ ⟨by decide, Or.inl ⟨3, d_L_letterBit_19, rfl, rfl⟩⟩ (fun h' hP => ?_)
  show AP M_L_letterBit _ 20 [.ref 0, .int v1, .ref 133, jk] [] _ g Φ
  refine s_L_letterBit_20 ?_
  exact s_L_letterBit_21 (hΦ _ _ hI ⟨hP, rfl⟩)
theorem l_heard {hi : am_HI} {g : am_G} (hI : am_Inv g) {v1 : Int32} {r : Int32} {P : am_HI → am_G → Prop} (hc : am_Cg M_X9_heard [.ref 0, .int v1] hi g (some (.int r)) P) : am_Cl M_L_heard [.ref 0, .int v1, .ref 133] hi g 0 (fun h g' => ∃ g2, P h g2 ∧ g' = am_upl g2 133 0 r.toInt64) := by
  refine am_cln (by decide) (Nat.le_of_ble_eq_true rfl) (fun Φ hΦ => ?_)
  show AP M_L_heard _ 0 [.ref 0, .int v1, .ref 133, jk] [] _ g Φ
  refine s_L_heard_0 ?_
  refine s_L_heard_1 ?_
  refine s_L_heard_2 ?_
  refine s_L_heard_3 ?_
  refine AP.callVg (As := [.int v1]) (q := (RX9, TX9, 7)) hI hc k_L_heard_107 d_L_heard_4 rfl rfl (by decide) rfl rfl (by decide) (fun h' g' hI' hP => ?_)
  refine s_L_heard_7 ?_
  refine s_L_heard_8 hI' rfl (by decide) (by decide) (j := 0) rfl (by decide) ?_
  refine s_L_heard_9 ?_
  refine s_L_heard_15 ?_
  exact s_L_heard_16 (hΦ _ _ (hI'.upl _ _ _) ⟨g', hP, rfl⟩)
theorem l1_heard {hi : am_HI} {g : am_G} (hI : am_Inv g) {v1 : Int32} {P : am_HI → Prop} (hc : am_Th M_X9_heard [.ref 0, .int v1] hi g am_x0 P) : am_Cl M_L_heard [.ref 0, .int v1, .ref 133] hi g 1 (fun h g' => P h ∧ g' = g) := by
  refine am_cln (by decide) (Nat.le_of_ble_eq_true rfl) (fun Φ hΦ => ?_)
  show AP M_L_heard _ 0 [.ref 0, .int v1, .ref 133, jk] [] _ g Φ
  refine s_L_heard_0 ?_
  refine s_L_heard_1 ?_
  refine s_L_heard_2 ?_
  refine s_L_heard_3 ?_
  refine AP.callVX (b2 := (0, 0)) (i := 3) (hp := 12) (npc := 13) (As := [.int v1]) (q := (RX9, TX9, 7)) hI hc k_L_heard_107 d_L_heard_4 rfl rfl (by decide) rfl rfl (by decide) ⟨by decide, by decide⟩ ⟨[], (0, 9, 12, 25), [], _, rfl, (fun z hz => by cases hz), by decide, rfl, by decide, lw_l0, lw_c0⟩ ⟨by decide, Or.inl ⟨3, d_L_heard_12, rfl, rfl⟩⟩ (fun h' hP => ?_)
  show AP M_L_heard _ 13 [.ref 0, .int v1, .ref 133, jk] [] _ g Φ
  refine s_L_heard_13 ?_
  exact s_L_heard_14 (hΦ _ _ hI ⟨hP, rfl⟩)
theorem l_heardByBits {hi : am_HI} {g : am_G} (hI : am_Inv g) {v1 : Int32} {r : Int32} {P : am_HI → am_G → Prop} (hc : am_Cg M_X9_heardByBits [.ref 0, .int v1] hi g (some (.int r)) P) : am_Cl M_L_heardByBits [.ref 0, .int v1, .ref 133] hi g 0 (fun h g' => ∃ g2, P h g2 ∧ g' = am_upl g2 133 0 r.toInt64) := by
  refine am_cln (by decide) (Nat.le_of_ble_eq_true rfl) (fun Φ hΦ => ?_)
  show AP M_L_heardByBits _ 0 [.ref 0, .int v1, .ref 133, jk] [] _ g Φ
  refine s_L_heardByBits_0 ?_
  refine s_L_heardByBits_1 ?_
  refine s_L_heardByBits_2 ?_
  refine s_L_heardByBits_3 ?_
  refine AP.callVg (As := [.int v1]) (q := (RX9, TX9, 7)) hI hc k_L_heardByBits_110 d_L_heardByBits_4 rfl rfl (by decide) rfl rfl (by decide) (fun h' g' hI' hP => ?_)
  refine s_L_heardByBits_7 ?_
  refine s_L_heardByBits_8 hI' rfl (by decide) (by decide) (j := 0) rfl (by decide) ?_
  refine s_L_heardByBits_9 ?_
  refine s_L_heardByBits_15 ?_
  exact s_L_heardByBits_16 (hΦ _ _ (hI'.upl _ _ _) ⟨g', hP, rfl⟩)
theorem l1_heardByBits {hi : am_HI} {g : am_G} (hI : am_Inv g) {v1 : Int32} {P : am_HI → Prop} (hc : am_Th M_X9_heardByBits [.ref 0, .int v1] hi g am_x0 P) : am_Cl M_L_heardByBits [.ref 0, .int v1, .ref 133] hi g 1 (fun h g' => P h ∧ g' = g) := by
  refine am_cln (by decide) (Nat.le_of_ble_eq_true rfl) (fun Φ hΦ => ?_)
  show AP M_L_heardByBits _ 0 [.ref 0, .int v1, .ref 133, jk] [] _ g Φ
  refine s_L_heardByBits_0 ?_
  refine s_L_heardByBits_1 ?_
  refine s_L_heardByBits_2 ?_
  refine s_L_heardByBits_3 ?_
  refine AP.callVX (b2 := (0, 0)) (i := 3) (hp := 12) (npc := 13) (As := [.int v1]) (q := (RX9, TX9, 7)) hI hc k_L_heardByBits_110 d_L_heardByBits_4 rfl rfl (by decide) rfl rfl (by decide) ⟨by decide, by decide⟩ ⟨[], (0, 9, 12, 25), [], _, rfl, (fun z hz => by cases hz), by decide, rfl, by decide, lw_l0, lw_c0⟩ ⟨by decide, Or.inl ⟨3, d_L_heardByBits_12, rfl, rfl⟩⟩ (fun h' hP => ?_)
  show AP M_L_heardByBits _ 13 [.ref 0, .int v1, .ref 133, jk] [] _ g Φ
  refine s_L_heardByBits_13 ?_
  exact s_L_heardByBits_14 (hΦ _ _ hI ⟨hP, rfl⟩)
theorem l_harm {hi : am_HI} {g : am_G} (hI : am_Inv g) {v1 : Int32} {r : Int32} {P : am_HI → am_G → Prop} (hc : am_Cg M_X9_harm [.ref 0, .int v1] hi g (some (.int r)) P) : am_Cl M_L_harm [.ref 0, .int v1, .ref 133] hi g 0 (fun h g' => ∃ g2, P h g2 ∧ g' = am_upl g2 133 0 r.toInt64) := by
  refine am_cln (by decide) (Nat.le_of_ble_eq_true rfl) (fun Φ hΦ => ?_)
  show AP M_L_harm _ 0 [.ref 0, .int v1, .ref 133, jk] [] _ g Φ
  refine s_L_harm_0 ?_
  refine s_L_harm_1 ?_
  refine s_L_harm_2 ?_
  refine s_L_harm_3 ?_
  refine AP.callVg (As := [.int v1]) (q := (RX9, TX9, 7)) hI hc k_L_harm_113 d_L_harm_4 rfl rfl (by decide) rfl rfl (by decide) (fun h' g' hI' hP => ?_)
  refine s_L_harm_7 ?_
  refine s_L_harm_8 hI' rfl (by decide) (by decide) (j := 0) rfl (by decide) ?_
  refine s_L_harm_9 ?_
  refine s_L_harm_15 ?_
  exact s_L_harm_16 (hΦ _ _ (hI'.upl _ _ _) ⟨g', hP, rfl⟩)
theorem l1_harm {hi : am_HI} {g : am_G} (hI : am_Inv g) {v1 : Int32} {P : am_HI → Prop} (hc : am_Th M_X9_harm [.ref 0, .int v1] hi g am_x0 P) : am_Cl M_L_harm [.ref 0, .int v1, .ref 133] hi g 1 (fun h g' => P h ∧ g' = g) := by
  refine am_cln (by decide) (Nat.le_of_ble_eq_true rfl) (fun Φ hΦ => ?_)
  show AP M_L_harm _ 0 [.ref 0, .int v1, .ref 133, jk] [] _ g Φ
  refine s_L_harm_0 ?_
  refine s_L_harm_1 ?_
  refine s_L_harm_2 ?_
  refine s_L_harm_3 ?_
  refine AP.callVX (b2 := (0, 0)) (i := 3) (hp := 12) (npc := 13) (As := [.int v1]) (q := (RX9, TX9, 7)) hI hc k_L_harm_113 d_L_harm_4 rfl rfl (by decide) rfl rfl (by decide) ⟨by decide, by decide⟩ ⟨[], (0, 9, 12, 25), [], _, rfl, (fun z hz => by cases hz), by decide, rfl, by decide, lw_l0, lw_c0⟩ ⟨by decide, Or.inl ⟨3, d_L_harm_12, rfl, rfl⟩⟩ (fun h' hP => ?_)
  show AP M_L_harm _ 13 [.ref 0, .int v1, .ref 133, jk] [] _ g Φ
  refine s_L_harm_13 ?_
  exact s_L_harm_14 (hΦ _ _ hI ⟨hP, rfl⟩)
theorem l_keep {hi : am_HI} {g : am_G} (hI : am_Inv g) {v1 : Int32} {r : Int32} {P : am_HI → am_G → Prop} (hc : am_Cg M_X9_keep [.ref 0, .int v1] hi g (some (.int r)) P) : am_Cl M_L_keep [.ref 0, .int v1, .ref 133] hi g 0 (fun h g' => ∃ g2, P h g2 ∧ g' = am_upl g2 133 0 r.toInt64) := by
  refine am_cln (by decide) (Nat.le_of_ble_eq_true rfl) (fun Φ hΦ => ?_)
  show AP M_L_keep _ 0 [.ref 0, .int v1, .ref 133, jk] [] _ g Φ
  refine s_L_keep_0 ?_
  refine s_L_keep_1 ?_
  refine s_L_keep_2 ?_
  refine s_L_keep_3 ?_
  refine AP.callVg (As := [.int v1]) (q := (RX9, TX9, 7)) hI hc k_L_keep_116 d_L_keep_4 rfl rfl (by decide) rfl rfl (by decide) (fun h' g' hI' hP => ?_)
  refine s_L_keep_7 ?_
  refine s_L_keep_8 hI' rfl (by decide) (by decide) (j := 0) rfl (by decide) ?_
  refine s_L_keep_9 ?_
  refine s_L_keep_15 ?_
  exact s_L_keep_16 (hΦ _ _ (hI'.upl _ _ _) ⟨g', hP, rfl⟩)
theorem l1_keep {hi : am_HI} {g : am_G} (hI : am_Inv g) {v1 : Int32} {P : am_HI → Prop} (hc : am_Th M_X9_keep [.ref 0, .int v1] hi g am_x0 P) : am_Cl M_L_keep [.ref 0, .int v1, .ref 133] hi g 1 (fun h g' => P h ∧ g' = g) := by
  refine am_cln (by decide) (Nat.le_of_ble_eq_true rfl) (fun Φ hΦ => ?_)
  show AP M_L_keep _ 0 [.ref 0, .int v1, .ref 133, jk] [] _ g Φ
  refine s_L_keep_0 ?_
  refine s_L_keep_1 ?_
  refine s_L_keep_2 ?_
  refine s_L_keep_3 ?_
  refine AP.callVX (b2 := (0, 0)) (i := 3) (hp := 12) (npc := 13) (As := [.int v1]) (q := (RX9, TX9, 7)) hI hc k_L_keep_116 d_L_keep_4 rfl rfl (by decide) rfl rfl (by decide) ⟨by decide, by decide⟩ ⟨[], (0, 9, 12, 25), [], _, rfl, (fun z hz => by cases hz), by decide, rfl, by decide, lw_l0, lw_c0⟩ ⟨by decide, Or.inl ⟨3, d_L_keep_12, rfl, rfl⟩⟩ (fun h' hP => ?_)
  show AP M_L_keep _ 13 [.ref 0, .int v1, .ref 133, jk] [] _ g Φ
  refine s_L_keep_13 ?_
  exact s_L_keep_14 (hΦ _ _ hI ⟨hP, rfl⟩)
theorem l_goBack {hi : am_HI} {g : am_G} (hI : am_Inv g) {v1 : Int32} {r : Int32} {P : am_HI → am_G → Prop} (hc : am_Cg M_X9_goBack [.ref 0, .int v1] hi g (some (.int r)) P) : am_Cl M_L_goBack [.ref 0, .int v1, .ref 133] hi g 0 (fun h g' => ∃ g2, P h g2 ∧ g' = am_upl g2 133 0 r.toInt64) := by
  refine am_cln (by decide) (Nat.le_of_ble_eq_true rfl) (fun Φ hΦ => ?_)
  show AP M_L_goBack _ 0 [.ref 0, .int v1, .ref 133, jk] [] _ g Φ
  refine s_L_goBack_0 ?_
  refine s_L_goBack_1 ?_
  refine s_L_goBack_2 ?_
  refine s_L_goBack_3 ?_
  refine AP.callVg (As := [.int v1]) (q := (RX9, TX9, 7)) hI hc k_L_goBack_119 d_L_goBack_4 rfl rfl (by decide) rfl rfl (by decide) (fun h' g' hI' hP => ?_)
  refine s_L_goBack_7 ?_
  refine s_L_goBack_8 hI' rfl (by decide) (by decide) (j := 0) rfl (by decide) ?_
  refine s_L_goBack_9 ?_
  refine s_L_goBack_18 ?_
  exact s_L_goBack_19 (hΦ _ _ (hI'.upl _ _ _) ⟨g', hP, rfl⟩)
theorem l1_goBack {hi : am_HI} {g : am_G} (hI : am_Inv g) {v1 : Int32} {P : am_HI → Prop} (hc : am_Th M_X9_goBack [.ref 0, .int v1] hi g am_x0 P) : am_Cl M_L_goBack [.ref 0, .int v1, .ref 133] hi g 1 (fun h g' => P h ∧ g' = g) := by
  refine am_cln (by decide) (Nat.le_of_ble_eq_true rfl) (fun Φ hΦ => ?_)
  show AP M_L_goBack _ 0 [.ref 0, .int v1, .ref 133, jk] [] _ g Φ
  refine s_L_goBack_0 ?_
  refine s_L_goBack_1 ?_
  refine s_L_goBack_2 ?_
  refine s_L_goBack_3 ?_
  refine AP.callVX (b2 := (0, 0)) (i := 3) (hp := 12) (npc := 13) (As := [.int v1]) (q := (RX9, TX9, 7)) hI hc k_L_goBack_119 d_L_goBack_4 rfl rfl (by decide) rfl rfl (by decide) ⟨by decide, by decide⟩ ⟨[], (0, 9, 12, 25), [(0, 9, 15, 15)], _, rfl, (fun z hz => by cases hz), by decide, rfl, by decide, lw_l0, lw_c0⟩ ⟨by decide, Or.inl ⟨3, d_L_goBack_12, rfl, rfl⟩⟩ (fun h' hP => ?_)
  show AP M_L_goBack _ 13 [.ref 0, .int v1, .ref 133, jk] [] _ g Φ
  refine s_L_goBack_13 ?_
  exact s_L_goBack_14 (hΦ _ _ hI ⟨hP, rfl⟩)
theorem l2_goBack {hi : am_HI} {g : am_G} (hI : am_Inv g) {v1 : Int32} {P : am_HI → Prop} (hc : am_Th M_X9_goBack [.ref 0, .int v1] hi g am_x2 P) : am_Cl M_L_goBack [.ref 0, .int v1, .ref 133] hi g 2 (fun h g' => P h ∧ g' = g) := by
  refine am_cln (by decide) (Nat.le_of_ble_eq_true rfl) (fun Φ hΦ => ?_)
  show AP M_L_goBack _ 0 [.ref 0, .int v1, .ref 133, jk] [] _ g Φ
  refine s_L_goBack_0 ?_
  refine s_L_goBack_1 ?_
  refine s_L_goBack_2 ?_
  refine s_L_goBack_3 ?_
  refine AP.callVX (b2 := (0, 0)) (i := 3) (hp := 15) (npc := 16) (As := [.int v1]) (q := (RX9, TX9, 7)) hI hc k_L_goBack_119 d_L_goBack_4 rfl rfl (by decide) rfl rfl (by decide) ⟨by decide, by decide⟩ ⟨[(0, 9, 12, 25)], (0, 9, 15, 15), [], _, rfl, (fun z hz => by cases List.mem_singleton.mp hz; exact ⟨by decide, _, lw_l0, by decide⟩), by decide, rfl, by decide, lw_l2, lw_c2⟩ ⟨by decide, Or.inl ⟨3, d_L_goBack_15, rfl, rfl⟩⟩ (fun h' hP => ?_)
  show AP M_L_goBack _ 16 [.ref 0, .int v1, .ref 133, jk] [] _ g Φ
  refine s_L_goBack_16 ?_
  exact s_L_goBack_17 (hΦ _ _ hI ⟨hP, rfl⟩)
theorem l_append {hi : am_HI} {g : am_G} (hI : am_Inv g) {v1 : Int32} {r : Int32} {P : am_HI → am_G → Prop} (hc : am_Cg M_X9_append [.ref 0, .int v1] hi g (some (.int r)) P) : am_Cl M_L_append [.ref 0, .int v1, .ref 133] hi g 0 (fun h g' => ∃ g2, P h g2 ∧ g' = am_upl g2 133 0 r.toInt64) := by
  refine am_cln (by decide) (Nat.le_of_ble_eq_true rfl) (fun Φ hΦ => ?_)
  show AP M_L_append _ 0 [.ref 0, .int v1, .ref 133, jk] [] _ g Φ
  refine s_L_append_0 ?_
  refine s_L_append_1 ?_
  refine s_L_append_2 ?_
  refine s_L_append_3 ?_
  refine AP.callVg (As := [.int v1]) (q := (RX9, TX9, 7)) hI hc k_L_append_122 d_L_append_4 rfl rfl (by decide) rfl rfl (by decide) (fun h' g' hI' hP => ?_)
  refine s_L_append_7 ?_
  refine s_L_append_8 hI' rfl (by decide) (by decide) (j := 0) rfl (by decide) ?_
  refine s_L_append_9 ?_
  refine s_L_append_18 ?_
  exact s_L_append_19 (hΦ _ _ (hI'.upl _ _ _) ⟨g', hP, rfl⟩)
theorem l1_append {hi : am_HI} {g : am_G} (hI : am_Inv g) {v1 : Int32} {P : am_HI → Prop} (hc : am_Th M_X9_append [.ref 0, .int v1] hi g am_x1 P) : am_Cl M_L_append [.ref 0, .int v1, .ref 133] hi g 1 (fun h g' => P h ∧ g' = g) := by
  refine am_cln (by decide) (Nat.le_of_ble_eq_true rfl) (fun Φ hΦ => ?_)
  show AP M_L_append _ 0 [.ref 0, .int v1, .ref 133, jk] [] _ g Φ
  refine s_L_append_0 ?_
  refine s_L_append_1 ?_
  refine s_L_append_2 ?_
  refine s_L_append_3 ?_
  refine AP.callVX (b2 := (0, 0)) (i := 3) (hp := 12) (npc := 13) (As := [.int v1]) (q := (RX9, TX9, 7)) hI hc k_L_append_122 d_L_append_4 rfl rfl (by decide) rfl rfl (by decide) ⟨by decide, by decide⟩ ⟨[], (0, 9, 12, 13), [(0, 9, 15, 15)], _, rfl, (fun z hz => by cases hz), by decide, rfl, by decide, lw_l1, lw_c1⟩ ⟨by decide, Or.inl ⟨3, d_L_append_12, rfl, rfl⟩⟩ (fun h' hP => ?_)
  show AP M_L_append _ 13 [.ref 0, .int v1, .ref 133, jk] [] _ g Φ
  refine s_L_append_13 ?_
  exact s_L_append_14 (hΦ _ _ hI ⟨hP, rfl⟩)
theorem l2_append {hi : am_HI} {g : am_G} (hI : am_Inv g) {v1 : Int32} {P : am_HI → Prop} (hc : am_Th M_X9_append [.ref 0, .int v1] hi g am_x2 P) : am_Cl M_L_append [.ref 0, .int v1, .ref 133] hi g 2 (fun h g' => P h ∧ g' = g) := by
  refine am_cln (by decide) (Nat.le_of_ble_eq_true rfl) (fun Φ hΦ => ?_)
  show AP M_L_append _ 0 [.ref 0, .int v1, .ref 133, jk] [] _ g Φ
  refine s_L_append_0 ?_
  refine s_L_append_1 ?_
  refine s_L_append_2 ?_
  refine s_L_append_3 ?_
  refine AP.callVX (b2 := (0, 0)) (i := 3) (hp := 15) (npc := 16) (As := [.int v1]) (q := (RX9, TX9, 7)) hI hc k_L_append_122 d_L_append_4 rfl rfl (by decide) rfl rfl (by decide) ⟨by decide, by decide⟩ ⟨[(0, 9, 12, 13)], (0, 9, 15, 15), [], _, rfl, (fun z hz => by cases List.mem_singleton.mp hz; exact ⟨by decide, _, lw_l1, by decide⟩), by decide, rfl, by decide, lw_l2, lw_c2⟩ ⟨by decide, Or.inl ⟨3, d_L_append_15, rfl, rfl⟩⟩ (fun h' hP => ?_)
  show AP M_L_append _ 16 [.ref 0, .int v1, .ref 133, jk] [] _ g Φ
  refine s_L_append_16 ?_
  exact s_L_append_17 (hΦ _ _ hI ⟨hP, rfl⟩)
theorem l_doWorks {hi : am_HI} {g : am_G} (hI : am_Inv g) {r : Int32} {P : am_HI → am_G → Prop} (hc : am_Cg M_X9_doWorks [.ref 0] hi g (some (.int r)) P) : am_Cl M_L_doWorks [.ref 0, .ref 133] hi g 0 (fun h g' => ∃ g2, P h g2 ∧ g' = am_upl g2 133 0 r.toInt64) := by
  refine am_cln (by decide) (Nat.le_of_ble_eq_true rfl) (fun Φ hΦ => ?_)
  show AP M_L_doWorks _ 0 [.ref 0, .ref 133, jk] [] _ g Φ
  refine s_L_doWorks_0 ?_
  refine s_L_doWorks_1 ?_
  refine s_L_doWorks_2 ?_
  refine AP.callVg (As := []) (q := (RX9, TX9, 7)) hI hc k_L_doWorks_125 d_L_doWorks_3 rfl rfl (by decide) rfl rfl (by decide) (fun h' g' hI' hP => ?_)
  refine s_L_doWorks_6 ?_
  refine s_L_doWorks_7 hI' rfl (by decide) (by decide) (j := 0) rfl (by decide) ?_
  refine s_L_doWorks_8 ?_
  refine s_L_doWorks_14 ?_
  exact s_L_doWorks_15 (hΦ _ _ (hI'.upl _ _ _) ⟨g', hP, rfl⟩)
theorem l1_doWorks {hi : am_HI} {g : am_G} (hI : am_Inv g) {P : am_HI → Prop} (hc : am_Th M_X9_doWorks [.ref 0] hi g am_x2 P) : am_Cl M_L_doWorks [.ref 0, .ref 133] hi g 1 (fun h g' => P h ∧ g' = g) := by
  refine am_cln (by decide) (Nat.le_of_ble_eq_true rfl) (fun Φ hΦ => ?_)
  show AP M_L_doWorks _ 0 [.ref 0, .ref 133, jk] [] _ g Φ
  refine s_L_doWorks_0 ?_
  refine s_L_doWorks_1 ?_
  refine s_L_doWorks_2 ?_
  refine AP.callVX (b2 := (0, 0)) (i := 2) (hp := 11) (npc := 12) (As := []) (q := (RX9, TX9, 7)) hI hc k_L_doWorks_125 d_L_doWorks_3 rfl rfl (by decide) rfl rfl (by decide) ⟨by decide, by decide⟩ ⟨[], (0, 8, 11, 15), [], _, rfl, (fun z hz => by cases hz), by decide, rfl, by decide, lw_l2, lw_c2⟩ ⟨by decide, Or.inl ⟨2, d_L_doWorks_11, rfl, rfl⟩⟩ (fun h' hP => ?_)
  show AP M_L_doWorks _ 12 [.ref 0, .ref 133, jk] [] _ g Φ
  refine s_L_doWorks_12 ?_
  exact s_L_doWorks_13 (hΦ _ _ hI ⟨hP, rfl⟩)
theorem l_undo {hi : am_HI} {g : am_G} (hI : am_Inv g) {r : Int32} {P : am_HI → am_G → Prop} (hc : am_Cg M_X9_undo [.ref 0] hi g (some (.int r)) P) : am_Cl M_L_undo [.ref 0, .ref 133] hi g 0 (fun h g' => ∃ g2, P h g2 ∧ g' = am_upl g2 133 0 r.toInt64) := by
  refine am_cln (by decide) (Nat.le_of_ble_eq_true rfl) (fun Φ hΦ => ?_)
  show AP M_L_undo _ 0 [.ref 0, .ref 133, jk] [] _ g Φ
  refine s_L_undo_0 ?_
  refine s_L_undo_1 ?_
  refine s_L_undo_2 ?_
  refine AP.callVg (As := []) (q := (RX9, TX9, 7)) hI hc k_L_undo_128 d_L_undo_3 rfl rfl (by decide) rfl rfl (by decide) (fun h' g' hI' hP => ?_)
  refine s_L_undo_6 ?_
  refine s_L_undo_7 hI' rfl (by decide) (by decide) (j := 0) rfl (by decide) ?_
  refine s_L_undo_8 ?_
  refine s_L_undo_14 ?_
  exact s_L_undo_15 (hΦ _ _ (hI'.upl _ _ _) ⟨g', hP, rfl⟩)
theorem l1_undo {hi : am_HI} {g : am_G} (hI : am_Inv g) {P : am_HI → Prop} (hc : am_Th M_X9_undo [.ref 0] hi g am_x2 P) : am_Cl M_L_undo [.ref 0, .ref 133] hi g 1 (fun h g' => P h ∧ g' = g) := by
  refine am_cln (by decide) (Nat.le_of_ble_eq_true rfl) (fun Φ hΦ => ?_)
  show AP M_L_undo _ 0 [.ref 0, .ref 133, jk] [] _ g Φ
  refine s_L_undo_0 ?_
  refine s_L_undo_1 ?_
  refine s_L_undo_2 ?_
  refine AP.callVX (b2 := (0, 0)) (i := 2) (hp := 11) (npc := 12) (As := []) (q := (RX9, TX9, 7)) hI hc k_L_undo_128 d_L_undo_3 rfl rfl (by decide) rfl rfl (by decide) ⟨by decide, by decide⟩ ⟨[], (0, 8, 11, 15), [], _, rfl, (fun z hz => by cases hz), by decide, rfl, by decide, lw_l2, lw_c2⟩ ⟨by decide, Or.inl ⟨2, d_L_undo_11, rfl, rfl⟩⟩ (fun h' hP => ?_)
  show AP M_L_undo _ 12 [.ref 0, .ref 133, jk] [] _ g Φ
  refine s_L_undo_12 ?_
  exact s_L_undo_13 (hΦ _ _ hI ⟨hP, rfl⟩)
