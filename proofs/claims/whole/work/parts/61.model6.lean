/-! ===== the model: what changes its state ===== -/
theorem q1_add {hi : am_HI} {g : am_G} (hI : am_Inv g) {z : Nat → Int32} (hz : hi 124 = z) (ok : OKz z) {v : Int32} (h0 : wi v (-99) 99 = false) : am_Cr M_X10_add [.ref 123, .int v] hi g (some (.int 0)) (fun h => MS hi h ∧ h 123 10 = 1) := by
  refine am_crn (by decide) (Nat.le_of_ble_eq_true rfl) (fun Φ hΦ => ?_)
  show AP M_X10_add _ 0 [.ref 123, .int v] [] _ g Φ
  refine s_X10_add_0 ?_
  refine s_X10_add_1 ?_
  refine s_X10_add_2 ?_
  refine s_X10_add_4 ?_
  refine s_X10_add_6 hI (Nat.le_of_ble_eq_true rfl) (m_in v _ _) ?_
  intro h9 e9; rw [e9]; clear e9 h9
  rw [h0]
  refine s_X10_add_9 hI rfl (by decide) (Nat.le_of_ble_eq_true rfl) (m_asksF hI) ?_
  intro h9 e9; rw [e9]; clear e9 h9
  refine s_X10_add_12 rfl ?_
  refine s_X10_add_13 ?_
  refine s_X10_add_14 ?_
  refine s_X10_add_15 hI rfl (by decide) rfl (by decide) ?_
  refine s_X10_add_18 ?_
  refine s_X10_add_20 hI rfl (by decide) (by decide) (by decide : (_ : Int32) = nI 48) (by decide) ?_
  refine s_X10_add_21 ?_
  refine s_X10_add_23 (fun h => ?_) (fun h => ?_)
  · refine s_X10_add_30 ?_
    refine s_X10_add_31 ?_
    refine s_X10_add_32 hI rfl (by decide) (Nat.le_of_ble_eq_true rfl) (m_thenX hI u10 false) ?_
    intro h9 e9; rw [e9]; clear e9 h9
    refine s_X10_add_35 (fun h => absurd (Eq.refl (0 : Int32)) h) (fun _ => ?_)
    refine s_X10_add_38 ?_
    exact s_X10_add_39 (hΦ _ (MSu))
  · refine s_X10_add_26 ?_
    refine s_X10_add_27 ?_
    refine s_X10_add_31 ?_
    refine s_X10_add_32 hI rfl (by decide) (Nat.le_of_ble_eq_true rfl) (m_thenX hI u10 true) ?_
    intro h9 e9; rw [e9]; clear e9 h9
    refine s_X10_add_35 (fun h => absurd (Eq.refl (0 : Int32)) h) (fun _ => ?_)
    refine s_X10_add_38 ?_
    exact s_X10_add_39 (hΦ _ (MSu))
theorem q2_add {hi : am_HI} {g : am_G} (hI : am_Inv g) {z : Nat → Int32} (hz : hi 124 = z) (ok : OKz z) {v : Int32} (h0 : wi v (-99) 99 = true) (h1 : ¬ zc z < 48) : am_Cr M_X10_add [.ref 123, .int v] hi g (some (.int 0)) (fun h => MS hi h ∧ h 123 10 = 2) := by
  refine am_crn (by decide) (Nat.le_of_ble_eq_true rfl) (fun Φ hΦ => ?_)
  show AP M_X10_add _ 0 [.ref 123, .int v] [] _ g Φ
  refine s_X10_add_0 ?_
  refine s_X10_add_1 ?_
  refine s_X10_add_2 ?_
  refine s_X10_add_4 ?_
  refine s_X10_add_6 hI (Nat.le_of_ble_eq_true rfl) (m_in v _ _) ?_
  intro h9 e9; rw [e9]; clear e9 h9
  rw [h0]
  refine s_X10_add_9 hI rfl (by decide) (Nat.le_of_ble_eq_true rfl) (m_asksT hI) ?_
  intro h9 e9; rw [e9]; clear e9 h9
  refine s_X10_add_12 rfl ?_
  refine s_X10_add_13 ?_
  refine s_X10_add_14 ?_
  refine s_X10_add_15 hI rfl (by decide) rfl (by decide) ?_
  refine s_X10_add_18 ?_
  refine s_X10_add_20 hI rfl (by decide) (by decide) (by decide : (_ : Int32) = nI 48) (by decide) ?_
  refine s_X10_add_21 ?_
  rw [uz hz 0, ok.1.1]
  refine s_X10_add_23 (fun _ => ?_) (fun h => absurd (nI_le (a := 48) (b := zc z) (by omega) (by have := ok.1.2.1; omega)) h)
  refine s_X10_add_30 ?_
  refine s_X10_add_31 ?_
  refine s_X10_add_32 hI rfl (by decide) (Nat.le_of_ble_eq_true rfl) (m_thenF hI u10) ?_
  intro h9 e9; rw [e9]; clear e9 h9
  refine s_X10_add_35 (fun h => absurd (Eq.refl (0 : Int32)) h) (fun _ => ?_)
  refine s_X10_add_38 ?_
  exact s_X10_add_39 (hΦ _ (MSs (MS.up (by decide) (by decide))))
theorem q_add {hi : am_HI} {g : am_G} (hI : am_Inv g) {z : Nat → Int32} {Z : Nat → Nat → Int32} {p : Nat} {Y : Nat → Nat → Int32} {c : Nat → Bool} {cd : Nat → Nat} {n : Nat} (a : MM hi z Z p Y c cd n) (ok : OKz z) {v : Int32} (h0 : wi v (-99) 99 = true) (h1 : zc z < 48) : am_Cr M_X10_add [.ref 123, .int v] hi g (some (.int (nI (zc z)))) (fun h => frM hi h ∧ h 123 10 = 0 ∧ MM h (zput z v) (svZ Z p z) (svp p) Y c cd n) := by
  have hz := a.1
  refine am_crn (by decide) (Nat.le_of_ble_eq_true rfl) (fun Φ hΦ => ?_)
  show AP M_X10_add _ 0 [.ref 123, .int v] [] _ g Φ
  refine s_X10_add_0 ?_
  refine s_X10_add_1 ?_
  refine s_X10_add_2 ?_
  refine s_X10_add_4 ?_
  refine s_X10_add_6 hI (Nat.le_of_ble_eq_true rfl) (m_in v _ _) ?_
  intro h9 e9; rw [e9]; clear e9 h9
  rw [h0]
  refine s_X10_add_9 hI rfl (by decide) (Nat.le_of_ble_eq_true rfl) (m_asksT hI) ?_
  intro h9 e9; rw [e9]; clear e9 h9
  refine s_X10_add_12 rfl ?_
  refine s_X10_add_13 ?_
  refine s_X10_add_14 ?_
  refine s_X10_add_15 hI rfl (by decide) rfl (by decide) ?_
  refine s_X10_add_18 ?_
  refine s_X10_add_20 hI rfl (by decide) (by decide) (by decide : (_ : Int32) = nI 48) (by decide) ?_
  refine s_X10_add_21 ?_
  rw [uz hz 0, ok.1.1]
  refine s_X10_add_23 (fun h => absurd h (nI_ge (a := zc z) (b := 48) h1 (by decide))) (fun _ => ?_)
  refine s_X10_add_26 ?_
  refine s_X10_add_27 ?_
  refine s_X10_add_31 ?_
  refine s_X10_add_32 hI rfl (by decide) (Nat.le_of_ble_eq_true rfl) (m_thenT hI u10) ?_
  intro h9 e9; rw [e9]; clear e9 h9
  refine s_X10_add_35 (fun _ => ?_) (fun h => absurd h (by decide))
  refine s_X10_add_40 ?_
  have a1 : MM (am_up hi 123 10 0) z Z p Y c cd n := a.ms (MS.up (by decide) (by decide))
  have r1 : frM hi (am_up hi 123 10 0) := (MS.up (by decide) (by decide)).M
  refine s_X10_add_41 hI rfl (by decide) (Nat.le_of_ble_eq_true rfl) (m_record hI a1.1 a1.2.1) ?_
  intro h5 ⟨f5, g5, mp5⟩
  refine s_X10_add_44 ?_
  refine s_X10_add_45 ?_
  have m5 := a1.rec f5 g5 mp5
  have t5 : h5 123 10 = 0 := (g5 10 (by decide)).trans u10
  have r5 : frM hi h5 := r1.tr (frM.of f5 (by decide))
  refine s_X10_add_46 hI rfl (by decide) (Nat.le_of_ble_eq_true rfl) (m_adds hI m5.1 ok h1 v) ?_
  intro h6 ⟨f6, e6⟩
  exact s_X10_add_49 (hΦ _ (⟨r5.tr (frM.of f6 (by decide)), by rw [f6 123 (by decide)]; exact t5, m5.z (f6.mono (by decide)) e6⟩))
theorem q1_change {hi : am_HI} {g : am_G} (hI : am_Inv g) {z : Nat → Int32} (hz : hi 124 = z) (ok : OKz z) {x v : Int32} (h0 : wi x 0 (z 48 - 1) = false) : am_Cr M_X10_change [.ref 123, .int x, .int v] hi g (some (.int 0)) (fun h => MS hi h ∧ h 123 10 = 1) := by
  refine am_crn (by decide) (Nat.le_of_ble_eq_true rfl) (fun Φ hΦ => ?_)
  show AP M_X10_change _ 0 [.ref 123, .int x, .int v, jk] [] _ g Φ
  refine s_X10_change_0 ?_
  refine s_X10_change_1 ?_
  refine s_X10_change_2 ?_
  refine s_X10_change_3 hI rfl (by decide) (Nat.le_of_ble_eq_true rfl) (m_isSample hI x) ?_
  intro h9 e9; rw [e9]; clear e9 h9
  rw [hz]
  rw [h0]
  refine s_X10_change_6 hI rfl (by decide) (Nat.le_of_ble_eq_true rfl) (m_asksF hI) ?_
  intro h9 e9; rw [e9]; clear e9 h9
  refine s_X10_change_9 rfl ?_
  refine s_X10_change_10 ?_
  refine s_X10_change_11 ?_
  refine s_X10_change_12 ?_
  refine s_X10_change_14 ?_
  refine s_X10_change_16 hI (Nat.le_of_ble_eq_true rfl) (m_in v _ _) ?_
  intro h9 e9; rw [e9]; clear e9 h9
  refine s_X10_change_19 ?_
  refine s_X10_change_20 hI rfl (by decide) (Nat.le_of_ble_eq_true rfl) (m_thenX hI u10 _) ?_
  intro h9 e9; rw [e9]; clear e9 h9
  refine s_X10_change_23 (fun h => absurd (Eq.refl (0 : Int32)) h) (fun _ => ?_)
  refine s_X10_change_26 ?_
  exact s_X10_change_27 (hΦ _ (MSu))
theorem q2_change {hi : am_HI} {g : am_G} (hI : am_Inv g) {z : Nat → Int32} (hz : hi 124 = z) (ok : OKz z) {x v : Int32} (h0 : wi x 0 (z 48 - 1) = true) (h1 : wi v (-99) 99 = false) : am_Cr M_X10_change [.ref 123, .int x, .int v] hi g (some (.int 0)) (fun h => MS hi h ∧ h 123 10 = 2) := by
  refine am_crn (by decide) (Nat.le_of_ble_eq_true rfl) (fun Φ hΦ => ?_)
  show AP M_X10_change _ 0 [.ref 123, .int x, .int v, jk] [] _ g Φ
  refine s_X10_change_0 ?_
  refine s_X10_change_1 ?_
  refine s_X10_change_2 ?_
  refine s_X10_change_3 hI rfl (by decide) (Nat.le_of_ble_eq_true rfl) (m_isSample hI x) ?_
  intro h9 e9; rw [e9]; clear e9 h9
  rw [hz]
  rw [h0]
  refine s_X10_change_6 hI rfl (by decide) (Nat.le_of_ble_eq_true rfl) (m_asksT hI) ?_
  intro h9 e9; rw [e9]; clear e9 h9
  refine s_X10_change_9 rfl ?_
  refine s_X10_change_10 ?_
  refine s_X10_change_11 ?_
  refine s_X10_change_12 ?_
  refine s_X10_change_14 ?_
  refine s_X10_change_16 hI (Nat.le_of_ble_eq_true rfl) (m_in v _ _) ?_
  intro h9 e9; rw [e9]; clear e9 h9
  refine s_X10_change_19 ?_
  rw [h1]
  refine s_X10_change_20 hI rfl (by decide) (Nat.le_of_ble_eq_true rfl) (m_thenF hI u10) ?_
  intro h9 e9; rw [e9]; clear e9 h9
  refine s_X10_change_23 (fun h => absurd (Eq.refl (0 : Int32)) h) (fun _ => ?_)
  refine s_X10_change_26 ?_
  exact s_X10_change_27 (hΦ _ (MSs (MS.up (by decide) (by decide))))
theorem q_change {hi : am_HI} {g : am_G} (hI : am_Inv g) {z : Nat → Int32} {Z : Nat → Nat → Int32} {p : Nat} {Y : Nat → Nat → Int32} {c : Nat → Bool} {cd : Nat → Nat} {n : Nat} (a : MM hi z Z p Y c cd n) (ok : OKz z) {t : Nat} {v : Int32} (ht : t < zc z) (h0 : wi (nI t) 0 (z 48 - 1) = true) (h1 : wi v (-99) 99 = true) : am_Cr M_X10_change [.ref 123, .int (nI t), .int v] hi g (some (.int (z t))) (fun h => frM hi h ∧ h 123 10 = 0 ∧ MM h (upd z t v) (svZ Z p z) (svp p) Y c cd n) := by
  have hz := a.1
  refine am_crn (by decide) (Nat.le_of_ble_eq_true rfl) (fun Φ hΦ => ?_)
  show AP M_X10_change _ 0 [.ref 123, .int (nI t), .int v, jk] [] _ g Φ
  refine s_X10_change_0 ?_
  refine s_X10_change_1 ?_
  refine s_X10_change_2 ?_
  refine s_X10_change_3 hI rfl (by decide) (Nat.le_of_ble_eq_true rfl) (m_isSample hI (nI t)) ?_
  intro h9 e9; rw [e9]; clear e9 h9
  rw [hz]
  rw [h0]
  refine s_X10_change_6 hI rfl (by decide) (Nat.le_of_ble_eq_true rfl) (m_asksT hI) ?_
  intro h9 e9; rw [e9]; clear e9 h9
  refine s_X10_change_9 rfl ?_
  refine s_X10_change_10 ?_
  refine s_X10_change_11 ?_
  refine s_X10_change_12 ?_
  refine s_X10_change_14 ?_
  refine s_X10_change_16 hI (Nat.le_of_ble_eq_true rfl) (m_in v _ _) ?_
  intro h9 e9; rw [e9]; clear e9 h9
  refine s_X10_change_19 ?_
  rw [h1]
  refine s_X10_change_20 hI rfl (by decide) (Nat.le_of_ble_eq_true rfl) (m_thenT hI u10) ?_
  intro h9 e9; rw [e9]; clear e9 h9
  refine s_X10_change_23 (fun _ => ?_) (fun h => absurd h (by decide))
  refine s_X10_change_28 ?_
  have a1 : MM (am_up hi 123 10 0) z Z p Y c cd n := a.ms (MS.up (by decide) (by decide))
  have r1 : frM hi (am_up hi 123 10 0) := (MS.up (by decide) (by decide)).M
  refine s_X10_change_29 hI rfl (by decide) (Nat.le_of_ble_eq_true rfl) (m_record hI a1.1 a1.2.1) ?_
  intro h5 ⟨f5, g5, mp5⟩
  refine s_X10_change_32 ?_
  refine s_X10_change_33 hI rfl (by decide) rfl (by decide) ?_
  refine s_X10_change_36 ?_
  have m5 := a1.rec f5 g5 mp5
  have t5 : h5 123 10 = 0 := (g5 10 (by decide)).trans u10
  have r5 : frM hi h5 := r1.tr (frM.of f5 (by decide))
  have h48 := ok.1.2.1
  refine s_X10_change_37 hI rfl (by decide) (by decide) (rfl) (by omega) ?_
  refine s_X10_change_38 rfl ?_
  refine s_X10_change_39 ?_
  refine s_X10_change_40 hI rfl (by decide) rfl (by decide) ?_
  refine s_X10_change_43 ?_
  refine s_X10_change_44 ?_
  refine s_X10_change_45 hI rfl (by decide) (by decide) (rfl) (by omega) ?_
  refine s_X10_change_46 ?_
  rw [m5.1]
  exact s_X10_change_47 (hΦ _ (⟨r5.tr (frM.up (by decide)), by rw [up_k (by decide)]; exact t5, m5.z (fun k hk => up_k (fun e => hk (by rw [e]; exact List.mem_cons_self))) (by rw [up_c, m5.1])⟩))
theorem q1_drop {hi : am_HI} {g : am_G} (hI : am_Inv g) {z : Nat → Int32} (hz : hi 124 = z) (ok : OKz z) (h0 : ¬ 0 < zc z) : am_Cr M_X10_drop [.ref 123] hi g (some (.int 0)) (fun h => MS hi h ∧ h 123 10 = 1) := by
  refine am_crn (by decide) (Nat.le_of_ble_eq_true rfl) (fun Φ hΦ => ?_)
  show AP M_X10_drop _ 0 [.ref 123] [] _ g Φ
  refine s_X10_drop_0 ?_
  refine s_X10_drop_1 ?_
  refine s_X10_drop_2 hI rfl (by decide) rfl (by decide) ?_
  refine s_X10_drop_5 ?_
  refine s_X10_drop_7 hI rfl (by decide) (by decide) (by decide : (_ : Int32) = nI 48) (by decide) ?_
  rw [hz, ok.1.1, show zc z = 0 by omega]
  refine s_X10_drop_8 (fun _ => ?_) (fun h => absurd (by decide) h)
  refine s_X10_drop_15 ?_
  refine s_X10_drop_16 hI rfl (by decide) (Nat.le_of_ble_eq_true rfl) (m_asksF hI) ?_
  intro h9 e9; rw [e9]; clear e9 h9
  refine s_X10_drop_19 (fun h => absurd (Eq.refl (0 : Int32)) h) (fun _ => ?_)
  refine s_X10_drop_22 ?_
  exact s_X10_drop_23 (hΦ _ (MSu))
theorem q_drop {hi : am_HI} {g : am_G} (hI : am_Inv g) {z : Nat → Int32} {Z : Nat → Nat → Int32} {p : Nat} {Y : Nat → Nat → Int32} {c : Nat → Bool} {cd : Nat → Nat} {n : Nat} (a : MM hi z Z p Y c cd n) (ok : OKz z) (h0 : 0 < zc z) : am_Cr M_X10_drop [.ref 123] hi g (some (.int (z (zc z - 1)))) (fun h => frM hi h ∧ h 123 10 = 0 ∧ MM h (upd z 48 (nI (zc z - 1))) (svZ Z p z) (svp p) Y c cd n) := by
  have hz := a.1
  refine am_crn (by decide) (Nat.le_of_ble_eq_true rfl) (fun Φ hΦ => ?_)
  show AP M_X10_drop _ 0 [.ref 123] [] _ g Φ
  refine s_X10_drop_0 ?_
  refine s_X10_drop_1 ?_
  refine s_X10_drop_2 hI rfl (by decide) rfl (by decide) ?_
  refine s_X10_drop_5 ?_
  refine s_X10_drop_7 hI rfl (by decide) (by decide) (by decide : (_ : Int32) = nI 48) (by decide) ?_
  rw [hz, ok.1.1]
  refine s_X10_drop_8 (fun h => absurd h (nI_nle (n := zc z) h0 (by have := ok.1.2.1; omega))) (fun _ => ?_)
  refine s_X10_drop_11 ?_
  refine s_X10_drop_12 ?_
  refine s_X10_drop_16 hI rfl (by decide) (Nat.le_of_ble_eq_true rfl) (m_asksT hI) ?_
  intro h9 e9; rw [e9]; clear e9 h9
  refine s_X10_drop_19 (fun _ => ?_) (fun h => absurd h (by decide))
  refine s_X10_drop_24 ?_
  have a1 : MM (am_up hi 123 10 0) z Z p Y c cd n := a.ms (MS.up (by decide) (by decide))
  have r1 : frM hi (am_up hi 123 10 0) := (MS.up (by decide) (by decide)).M
  refine s_X10_drop_25 hI rfl (by decide) (Nat.le_of_ble_eq_true rfl) (m_record hI a1.1 a1.2.1) ?_
  intro h5 ⟨f5, g5, mp5⟩
  refine s_X10_drop_28 ?_
  refine s_X10_drop_29 hI rfl (by decide) rfl (by decide) ?_
  refine s_X10_drop_32 ?_
  refine s_X10_drop_34 rfl rfl ?_
  have m5 := a1.rec f5 g5 mp5
  have t5 : h5 123 10 = 0 := (g5 10 (by decide)).trans u10
  have r5 : frM hi h5 := r1.tr (frM.of f5 (by decide))
  have h48 := ok.1.2.1
  refine s_X10_drop_35 hI rfl (by decide) (by decide) (by decide : (_ : Int32) = nI 48) (by decide) ?_
  refine s_X10_drop_36 ?_
  refine s_X10_drop_37 ?_
  rw [m5.1, ok.1.1, show nI (zc z) - 1 = nI (zc z - 1) by rw [show zc z = (zc z - 1) + 1 by omega, nI_i1]; rfl]
  refine s_X10_drop_38 hI rfl (by decide) (by decide) (by decide : (_ : Int32) = nI 48) (by decide) ?_
  refine s_X10_drop_39 ?_
  refine s_X10_drop_40 hI rfl (by decide) rfl (by decide) ?_
  refine s_X10_drop_43 ?_
  refine s_X10_drop_44 hI rfl (by decide) rfl (by decide) ?_
  refine s_X10_drop_47 ?_
  refine s_X10_drop_49 hI rfl (by decide) (by decide) (by decide : (_ : Int32) = nI 48) (by decide) ?_
  rw [up_c, up_f]
  refine s_X10_drop_50 hI rfl (by decide) (by decide) (rfl) (by omega) ?_
  rw [up_r, if_neg (by omega), m5.1]
  exact s_X10_drop_51 (hΦ _ (⟨r5.tr (frM.up (by decide)), by rw [up_k (by decide)]; exact t5, m5.z (fun k hk => up_k (fun e => hk (by rw [e]; exact List.mem_cons_self))) (by rw [up_c, m5.1])⟩))
theorem q_empty {hi : am_HI} {g : am_G} (hI : am_Inv g) {z : Nat → Int32} {Z : Nat → Nat → Int32} {p : Nat} {Y : Nat → Nat → Int32} {c : Nat → Bool} {cd : Nat → Nat} {n : Nat} (a : MM hi z Z p Y c cd n) (ok : OKz z) : am_Cr M_X10_empty [.ref 123] hi g (some (.int (nI (zc z)))) (fun h => frM hi h ∧ h 123 10 = 0 ∧ MM h (upd z 48 (nI 0)) (svZ Z p z) (svp p) Y c cd n) := by
  refine am_crn (by decide) (Nat.le_of_ble_eq_true rfl) (fun Φ hΦ => ?_)
  show AP M_X10_empty _ 0 [.ref 123, jk] [] _ g Φ
  refine s_X10_empty_0 ?_
  refine s_X10_empty_1 hI rfl (by decide) (Nat.le_of_ble_eq_true rfl) (m_record hI a.1 a.2.1) ?_
  intro h5 ⟨f5, g5, mp5⟩
  refine s_X10_empty_4 ?_
  refine s_X10_empty_5 hI rfl (by decide) rfl (by decide) ?_
  refine s_X10_empty_8 ?_
  have m5 := a.rec f5 g5 mp5
  refine s_X10_empty_10 hI rfl (by decide) (by decide) (by decide : (_ : Int32) = nI 48) (by decide) ?_
  refine s_X10_empty_11 rfl ?_
  refine s_X10_empty_12 ?_
  refine s_X10_empty_13 hI rfl (by decide) rfl (by decide) ?_
  refine s_X10_empty_16 ?_
  refine s_X10_empty_18 ?_
  refine s_X10_empty_19 hI rfl (by decide) (by decide) (by decide : (_ : Int32) = nI 48) (by decide) ?_
  refine s_X10_empty_20 ?_
  refine s_X10_empty_21 ?_
  rw [m5.1, ok.1.1]
  refine s_X10_empty_22 hI rfl (by decide) (Nat.le_of_ble_eq_true rfl) (m_says hI _) ?_
  intro h9 e9; rw [e9]; clear e9 h9
  exact s_X10_empty_25 (hΦ _ (⟨((frM.of f5 (by decide)).tr (frM.up (by decide))).tr (frM.up (by decide)), u10, MM.ms (m5.z (fun k hk => up_k (fun e => hk (by rw [e]; exact List.mem_cons_self))) (by rw [up_c, m5.1]; rfl)) (MS.up (by decide) (by decide))⟩))
theorem q1_setDelay {hi : am_HI} {g : am_G} (hI : am_Inv g) {z : Nat → Int32} (hz : hi 124 = z) (ok : OKz z) {v : Int32} (h0 : wi v 1 12 = false) : am_Cr M_X10_setDelay [.ref 123, .int v] hi g (some (.int 0)) (fun h => MS hi h ∧ h 123 10 = 1) := by
  refine am_crn (by decide) (Nat.le_of_ble_eq_true rfl) (fun Φ hΦ => ?_)
  show AP M_X10_setDelay _ 0 [.ref 123, .int v] [] _ g Φ
  refine s_X10_setDelay_0 ?_
  refine s_X10_setDelay_1 ?_
  refine s_X10_setDelay_2 ?_
  refine s_X10_setDelay_3 ?_
  refine s_X10_setDelay_5 hI (Nat.le_of_ble_eq_true rfl) (m_in v _ _) ?_
  intro h9 e9; rw [e9]; clear e9 h9
  rw [h0]
  refine s_X10_setDelay_8 hI rfl (by decide) (Nat.le_of_ble_eq_true rfl) (m_asksF hI) ?_
  intro h9 e9; rw [e9]; clear e9 h9
  refine s_X10_setDelay_11 (fun _ => ?_) (fun h => absurd (rfl) h)
  refine s_X10_setDelay_24 ?_
  exact s_X10_setDelay_25 (hΦ _ (MSu))
theorem q_setDelay {hi : am_HI} {g : am_G} (hI : am_Inv g) {z : Nat → Int32} {Z : Nat → Nat → Int32} {p : Nat} {Y : Nat → Nat → Int32} {c : Nat → Bool} {cd : Nat → Nat} {n : Nat} (a : MM hi z Z p Y c cd n) (ok : OKz z) {v : Int32} (h0 : wi v 1 12 = true) : am_Cr M_X10_setDelay [.ref 123, .int v] hi g (some (.int (z 49))) (fun h => frM hi h ∧ h 123 10 = 0 ∧ MM h (upd z 49 v) (svZ Z p z) (svp p) Y c cd n) := by
  have hz := a.1
  refine am_crn (by decide) (Nat.le_of_ble_eq_true rfl) (fun Φ hΦ => ?_)
  show AP M_X10_setDelay _ 0 [.ref 123, .int v] [] _ g Φ
  refine s_X10_setDelay_0 ?_
  refine s_X10_setDelay_1 ?_
  refine s_X10_setDelay_2 ?_
  refine s_X10_setDelay_3 ?_
  refine s_X10_setDelay_5 hI (Nat.le_of_ble_eq_true rfl) (m_in v _ _) ?_
  intro h9 e9; rw [e9]; clear e9 h9
  rw [h0]
  refine s_X10_setDelay_8 hI rfl (by decide) (Nat.le_of_ble_eq_true rfl) (m_asksT hI) ?_
  intro h9 e9; rw [e9]; clear e9 h9
  refine s_X10_setDelay_11 (fun h => absurd h (by decide)) (fun _ => ?_)
  refine s_X10_setDelay_14 ?_
  refine s_X10_setDelay_15 ?_
  refine s_X10_setDelay_17 ?_
  have a1 : MM (am_up hi 123 10 0) z Z p Y c cd n := a.ms (MS.up (by decide) (by decide))
  have r1 : frM hi (am_up hi 123 10 0) := (MS.up (by decide) (by decide)).M
  refine s_X10_setDelay_18 hI rfl (by decide) (Nat.le_of_ble_eq_true rfl) (m_sets hI a1 (j := 49) (by decide) v) ?_
  intro h6 ⟨f6, e6, m6⟩
  refine s_X10_setDelay_21 ?_
  exact s_X10_setDelay_25 (hΦ _ (⟨r1.tr f6, e6.trans u10, m6⟩))
theorem q1_setSpeed {hi : am_HI} {g : am_G} (hI : am_Inv g) {z : Nat → Int32} (hz : hi 124 = z) (ok : OKz z) {v : Int32} (h0 : wi v 0 3 = false) : am_Cr M_X10_setSpeed [.ref 123, .int v] hi g (some (.int 0)) (fun h => MS hi h ∧ h 123 10 = 1) := by
  refine am_crn (by decide) (Nat.le_of_ble_eq_true rfl) (fun Φ hΦ => ?_)
  show AP M_X10_setSpeed _ 0 [.ref 123, .int v] [] _ g Φ
  refine s_X10_setSpeed_0 ?_
  refine s_X10_setSpeed_1 ?_
  refine s_X10_setSpeed_2 ?_
  refine s_X10_setSpeed_3 ?_
  refine s_X10_setSpeed_4 hI (Nat.le_of_ble_eq_true rfl) (m_in v _ _) ?_
  intro h9 e9; rw [e9]; clear e9 h9
  rw [h0]
  refine s_X10_setSpeed_7 hI rfl (by decide) (Nat.le_of_ble_eq_true rfl) (m_asksF hI) ?_
  intro h9 e9; rw [e9]; clear e9 h9
  refine s_X10_setSpeed_10 (fun _ => ?_) (fun h => absurd (rfl) h)
  refine s_X10_setSpeed_23 ?_
  exact s_X10_setSpeed_24 (hΦ _ (MSu))
theorem q_setSpeed {hi : am_HI} {g : am_G} (hI : am_Inv g) {z : Nat → Int32} {Z : Nat → Nat → Int32} {p : Nat} {Y : Nat → Nat → Int32} {c : Nat → Bool} {cd : Nat → Nat} {n : Nat} (a : MM hi z Z p Y c cd n) (ok : OKz z) {v : Int32} (h0 : wi v 0 3 = true) : am_Cr M_X10_setSpeed [.ref 123, .int v] hi g (some (.int (z 50))) (fun h => frM hi h ∧ h 123 10 = 0 ∧ MM h (upd z 50 v) (svZ Z p z) (svp p) Y c cd n) := by
  have hz := a.1
  refine am_crn (by decide) (Nat.le_of_ble_eq_true rfl) (fun Φ hΦ => ?_)
  show AP M_X10_setSpeed _ 0 [.ref 123, .int v] [] _ g Φ
  refine s_X10_setSpeed_0 ?_
  refine s_X10_setSpeed_1 ?_
  refine s_X10_setSpeed_2 ?_
  refine s_X10_setSpeed_3 ?_
  refine s_X10_setSpeed_4 hI (Nat.le_of_ble_eq_true rfl) (m_in v _ _) ?_
  intro h9 e9; rw [e9]; clear e9 h9
  rw [h0]
  refine s_X10_setSpeed_7 hI rfl (by decide) (Nat.le_of_ble_eq_true rfl) (m_asksT hI) ?_
  intro h9 e9; rw [e9]; clear e9 h9
  refine s_X10_setSpeed_10 (fun h => absurd h (by decide)) (fun _ => ?_)
  refine s_X10_setSpeed_13 ?_
  refine s_X10_setSpeed_14 ?_
  refine s_X10_setSpeed_16 ?_
  have a1 : MM (am_up hi 123 10 0) z Z p Y c cd n := a.ms (MS.up (by decide) (by decide))
  have r1 : frM hi (am_up hi 123 10 0) := (MS.up (by decide) (by decide)).M
  refine s_X10_setSpeed_17 hI rfl (by decide) (Nat.le_of_ble_eq_true rfl) (m_sets hI a1 (j := 50) (by decide) v) ?_
  intro h6 ⟨f6, e6, m6⟩
  refine s_X10_setSpeed_20 ?_
  exact s_X10_setSpeed_24 (hΦ _ (⟨r1.tr f6, e6.trans u10, m6⟩))
theorem q1_setWeight {hi : am_HI} {g : am_G} (hI : am_Inv g) {z : Nat → Int32} (hz : hi 124 = z) (ok : OKz z) {w v : Int32} (h0 : (wi w 1 4 && wi v (-64) 64) = false) : am_Cr M_X10_setWeight [.ref 123, .int w, .int v] hi g (some (.int 0)) (fun h => MS hi h ∧ h 123 10 = 1) := by
  have fin : ∀ (Φ : am_P), (∀ h, MS hi h ∧ h 123 10 = 1 → Φ (.ok (some (.int 0))) h g) → AP M_X10_setWeight (0, 0) 24 [.ref 123, .int w, .int v] [.int (bI false), .ref 123] hi g Φ := by
    intro Φ hΦ
    refine s_X10_setWeight_24 hI rfl (by decide) (Nat.le_of_ble_eq_true rfl) (m_asksF hI) ?_
    intro h9 e9; rw [e9]; clear e9 h9
    refine s_X10_setWeight_27 (fun _ => ?_) (fun h => absurd (rfl) h)
    refine s_X10_setWeight_44 ?_
    exact s_X10_setWeight_45 (hΦ _ (MSu))
  refine am_crn (by decide) (Nat.le_of_ble_eq_true rfl) (fun Φ hΦ => ?_)
  show AP M_X10_setWeight _ 0 [.ref 123, .int w, .int v] [] _ g Φ
  refine s_X10_setWeight_0 ?_
  refine s_X10_setWeight_1 ?_
  refine s_X10_setWeight_2 hI (Nat.le_of_ble_eq_true rfl) (m_isWeight hI w) ?_
  intro h9 e9; rw [e9]; clear e9 h9
  refine s_X10_setWeight_5 (fun h1 => ?_) (fun h1 => ?_)
  · refine s_X10_setWeight_23 ?_
    exact fin Φ hΦ
  · refine s_X10_setWeight_8 ?_
    refine s_X10_setWeight_9 ?_
    refine s_X10_setWeight_11 ?_
    refine s_X10_setWeight_13 hI (Nat.le_of_ble_eq_true rfl) (m_in v _ _) ?_
    intro h9 e9; rw [e9]; clear e9 h9
    refine s_X10_setWeight_16 (fun h2 => ?_) (fun h2 => ?_)
    · refine s_X10_setWeight_23 ?_
      exact fin Φ hΦ
    · refine s_X10_setWeight_19 ?_
      refine s_X10_setWeight_20 ?_
      rw [bI_n0] at h1 h2
      rw [h1, h2] at h0
      cases h0
theorem q_setWeight {hi : am_HI} {g : am_G} (hI : am_Inv g) {z : Nat → Int32} {Z : Nat → Nat → Int32} {p : Nat} {Y : Nat → Nat → Int32} {c : Nat → Bool} {cd : Nat → Nat} {n : Nat} (a : MM hi z Z p Y c cd n) (ok : OKz z) {k : Nat} {v : Int32} (hk : k < 4) (h0 : wi (nI (k + 1)) 1 4 = true) (h1 : wi v (-64) 64 = true) : am_Cr M_X10_setWeight [.ref 123, .int (nI (k + 1)), .int v] hi g (some (.int (z (51 + k)))) (fun h => frM hi h ∧ h 123 10 = 0 ∧ MM h (upd z (51 + k) v) (svZ Z p z) (svp p) Y c cd n) := by
  have hz := a.1
  refine am_crn (by decide) (Nat.le_of_ble_eq_true rfl) (fun Φ hΦ => ?_)
  show AP M_X10_setWeight _ 0 [.ref 123, .int (nI (k + 1)), .int v] [] _ g Φ
  refine s_X10_setWeight_0 ?_
  refine s_X10_setWeight_1 ?_
  refine s_X10_setWeight_2 hI (Nat.le_of_ble_eq_true rfl) (m_isWeight hI (nI (k + 1))) ?_
  intro h9 e9; rw [e9]; clear e9 h9
  rw [h0]
  refine s_X10_setWeight_5 (fun h => absurd h (by decide)) (fun _ => ?_)
  refine s_X10_setWeight_8 ?_
  refine s_X10_setWeight_9 ?_
  refine s_X10_setWeight_11 ?_
  refine s_X10_setWeight_13 hI (Nat.le_of_ble_eq_true rfl) (m_in v _ _) ?_
  intro h9 e9; rw [e9]; clear e9 h9
  rw [h1]
  refine s_X10_setWeight_16 (fun h => absurd h (by decide)) (fun _ => ?_)
  refine s_X10_setWeight_19 ?_
  refine s_X10_setWeight_20 ?_
  refine s_X10_setWeight_24 hI rfl (by decide) (Nat.le_of_ble_eq_true rfl) (m_asksT hI) ?_
  intro h9 e9; rw [e9]; clear e9 h9
  refine s_X10_setWeight_27 (fun h => absurd h (by decide)) (fun _ => ?_)
  refine s_X10_setWeight_30 ?_
  refine s_X10_setWeight_31 ?_
  refine s_X10_setWeight_33 ?_
  refine s_X10_setWeight_34 ?_
  refine s_X10_setWeight_35 ?_
  refine s_X10_setWeight_36 ?_
  refine s_X10_setWeight_37 ?_
  have a1 : MM (am_up hi 123 10 0) z Z p Y c cd n := a.ms (MS.up (by decide) (by decide))
  have r1 : frM hi (am_up hi 123 10 0) := (MS.up (by decide) (by decide)).M
  rw [show 51 + nI (k + 1) = nI (51 + k + 1) from nI_add 51 _, nI_i1]
  refine s_X10_setWeight_38 hI rfl (by decide) (Nat.le_of_ble_eq_true rfl) (m_sets hI a1 (j := 51 + k) (by omega) v) ?_
  intro h6 ⟨f6, e6, m6⟩
  refine s_X10_setWeight_41 ?_
  exact s_X10_setWeight_45 (hΦ _ (⟨r1.tr f6, e6.trans u10, m6⟩))
theorem q1_tamper {hi : am_HI} {g : am_G} (hI : am_Inv g) {z : Nat → Int32} (hz : hi 124 = z) (ok : OKz z) {x v : Int32} (h0 : wi x 0 (nI (zt z) - 1) = false) : am_Cr M_X10_tamper [.ref 123, .int x, .int v] hi g (some (.int 0)) (fun h => MS hi h ∧ h 123 10 = 1) := by
  refine am_crn (by decide) (Nat.le_of_ble_eq_true rfl) (fun Φ hΦ => ?_)
  show AP M_X10_tamper _ 0 [.ref 123, .int x, .int v] [] _ g Φ
  refine s_X10_tamper_0 ?_
  refine s_X10_tamper_1 ?_
  refine s_X10_tamper_2 ?_
  refine s_X10_tamper_3 hI rfl (by decide) (Nat.le_of_ble_eq_true rfl) (m_isTold hI x) ?_
  intro h9 e9; rw [e9]; clear e9 h9
  rw [hz, ok.2.1]
  rw [h0]
  refine s_X10_tamper_6 hI rfl (by decide) (Nat.le_of_ble_eq_true rfl) (m_asksF hI) ?_
  intro h9 e9; rw [e9]; clear e9 h9
  refine s_X10_tamper_9 rfl ?_
  refine s_X10_tamper_10 ?_
  refine s_X10_tamper_11 ?_
  refine s_X10_tamper_12 ?_
  refine s_X10_tamper_15 ?_
  refine s_X10_tamper_18 hI (Nat.le_of_ble_eq_true rfl) (m_in v _ _) ?_
  intro h9 e9; rw [e9]; clear e9 h9
  refine s_X10_tamper_21 ?_
  refine s_X10_tamper_22 hI rfl (by decide) (Nat.le_of_ble_eq_true rfl) (m_thenX hI u10 _) ?_
  intro h9 e9; rw [e9]; clear e9 h9
  refine s_X10_tamper_25 (fun _ => ?_) (fun h => absurd (rfl) h)
  refine s_X10_tamper_40 ?_
  exact s_X10_tamper_41 (hΦ _ (MSu))
theorem q2_tamper {hi : am_HI} {g : am_G} (hI : am_Inv g) {z : Nat → Int32} (hz : hi 124 = z) (ok : OKz z) {x v : Int32} (h0 : wi x 0 (nI (zt z) - 1) = true) (h1 : wi v (-198) 198 = false) : am_Cr M_X10_tamper [.ref 123, .int x, .int v] hi g (some (.int 0)) (fun h => MS hi h ∧ h 123 10 = 2) := by
  refine am_crn (by decide) (Nat.le_of_ble_eq_true rfl) (fun Φ hΦ => ?_)
  show AP M_X10_tamper _ 0 [.ref 123, .int x, .int v] [] _ g Φ
  refine s_X10_tamper_0 ?_
  refine s_X10_tamper_1 ?_
  refine s_X10_tamper_2 ?_
  refine s_X10_tamper_3 hI rfl (by decide) (Nat.le_of_ble_eq_true rfl) (m_isTold hI x) ?_
  intro h9 e9; rw [e9]; clear e9 h9
  rw [hz, ok.2.1]
  rw [h0]
  refine s_X10_tamper_6 hI rfl (by decide) (Nat.le_of_ble_eq_true rfl) (m_asksT hI) ?_
  intro h9 e9; rw [e9]; clear e9 h9
  refine s_X10_tamper_9 rfl ?_
  refine s_X10_tamper_10 ?_
  refine s_X10_tamper_11 ?_
  refine s_X10_tamper_12 ?_
  refine s_X10_tamper_15 ?_
  refine s_X10_tamper_18 hI (Nat.le_of_ble_eq_true rfl) (m_in v _ _) ?_
  intro h9 e9; rw [e9]; clear e9 h9
  refine s_X10_tamper_21 ?_
  rw [h1]
  refine s_X10_tamper_22 hI rfl (by decide) (Nat.le_of_ble_eq_true rfl) (m_thenF hI u10) ?_
  intro h9 e9; rw [e9]; clear e9 h9
  refine s_X10_tamper_25 (fun _ => ?_) (fun h => absurd (rfl) h)
  refine s_X10_tamper_40 ?_
  exact s_X10_tamper_41 (hΦ _ (MSs (MS.up (by decide) (by decide))))
theorem q_tamper {hi : am_HI} {g : am_G} (hI : am_Inv g) {z : Nat → Int32} {Z : Nat → Nat → Int32} {p : Nat} {Y : Nat → Nat → Int32} {c : Nat → Bool} {cd : Nat → Nat} {n : Nat} (a : MM hi z Z p Y c cd n) (ok : OKz z) {t : Nat} {v : Int32} (ht : t < zt z) (h0 : wi (nI t) 0 (nI (zt z) - 1) = true) (h1 : wi v (-198) 198 = true) : am_Cr M_X10_tamper [.ref 123, .int (nI t), .int v] hi g (some (.int (z (75 + t)))) (fun h => frM hi h ∧ h 123 10 = 0 ∧ MM h (upd z (75 + t) v) (svZ Z p z) (svp p) Y c cd n) := by
  have hz := a.1
  refine am_crn (by decide) (Nat.le_of_ble_eq_true rfl) (fun Φ hΦ => ?_)
  show AP M_X10_tamper _ 0 [.ref 123, .int (nI t), .int v] [] _ g Φ
  refine s_X10_tamper_0 ?_
  refine s_X10_tamper_1 ?_
  refine s_X10_tamper_2 ?_
  refine s_X10_tamper_3 hI rfl (by decide) (Nat.le_of_ble_eq_true rfl) (m_isTold hI (nI t)) ?_
  intro h9 e9; rw [e9]; clear e9 h9
  rw [hz, ok.2.1]
  rw [h0]
  refine s_X10_tamper_6 hI rfl (by decide) (Nat.le_of_ble_eq_true rfl) (m_asksT hI) ?_
  intro h9 e9; rw [e9]; clear e9 h9
  refine s_X10_tamper_9 rfl ?_
  refine s_X10_tamper_10 ?_
  refine s_X10_tamper_11 ?_
  refine s_X10_tamper_12 ?_
  refine s_X10_tamper_15 ?_
  refine s_X10_tamper_18 hI (Nat.le_of_ble_eq_true rfl) (m_in v _ _) ?_
  intro h9 e9; rw [e9]; clear e9 h9
  refine s_X10_tamper_21 ?_
  rw [h1]
  refine s_X10_tamper_22 hI rfl (by decide) (Nat.le_of_ble_eq_true rfl) (m_thenT hI u10) ?_
  intro h9 e9; rw [e9]; clear e9 h9
  refine s_X10_tamper_25 (fun h => absurd h (by decide)) (fun _ => ?_)
  refine s_X10_tamper_28 ?_
  refine s_X10_tamper_29 ?_
  refine s_X10_tamper_31 ?_
  refine s_X10_tamper_32 ?_
  refine s_X10_tamper_33 ?_
  have a1 : MM (am_up hi 123 10 0) z Z p Y c cd n := a.ms (MS.up (by decide) (by decide))
  have r1 : frM hi (am_up hi 123 10 0) := (MS.up (by decide) (by decide)).M
  rw [show 75 + nI t = nI (75 + t) from nI_add 75 _]
  refine s_X10_tamper_34 hI rfl (by decide) (Nat.le_of_ble_eq_true rfl) (m_sets hI a1 (j := 75 + t) (by have := ok.2.2.1; omega) v) ?_
  intro h6 ⟨f6, e6, m6⟩
  refine s_X10_tamper_37 ?_
  exact s_X10_tamper_41 (hΦ _ (⟨r1.tr f6, e6.trans u10, m6⟩))
theorem q1_turnKind {hi : am_HI} {g : am_G} (hI : am_Inv g) {z : Nat → Int32} (hz : hi 124 = z) (ok : OKz z) {w : Int32} (h0 : wi w 0 4 = false) : am_Cr M_X10_turnKind [.ref 123, .int w] hi g (some (.int 0)) (fun h => MS hi h ∧ h 123 10 = 1) := by
  refine am_crn (by decide) (Nat.le_of_ble_eq_true rfl) (fun Φ hΦ => ?_)
  show AP M_X10_turnKind _ 0 [.ref 123, .int w] [] _ g Φ
  refine s_X10_turnKind_0 ?_
  refine s_X10_turnKind_1 ?_
  refine s_X10_turnKind_2 hI (Nat.le_of_ble_eq_true rfl) (m_isKind hI w) ?_
  intro h9 e9; rw [e9]; clear e9 h9
  rw [h0]
  refine s_X10_turnKind_5 hI rfl (by decide) (Nat.le_of_ble_eq_true rfl) (m_asksF hI) ?_
  intro h9 e9; rw [e9]; clear e9 h9
  refine s_X10_turnKind_8 rfl ?_
  refine s_X10_turnKind_9 ?_
  refine s_X10_turnKind_10 ?_
  refine s_X10_turnKind_11 hI rfl (by decide) ?_
  rw [u10]
  refine s_X10_turnKind_14 (fun _ => ?_) (fun h => absurd (by decide) h)
  refine s_X10_turnKind_25 ?_
  refine s_X10_turnKind_26 ?_
  refine s_X10_turnKind_30 ?_
  refine s_X10_turnKind_31 hI rfl (by decide) (Nat.le_of_ble_eq_true rfl) (m_thenX hI u10 true) ?_
  intro h9 e9; rw [e9]; clear e9 h9
  refine s_X10_turnKind_34 (fun h => absurd (Eq.refl (0 : Int32)) h) (fun _ => ?_)
  refine s_X10_turnKind_37 ?_
  exact s_X10_turnKind_38 (by first | exact Or.inl rfl | exact Or.inr rfl | exact bI_01 _) (hΦ _ (MSu))
theorem q2_turnKind {hi : am_HI} {g : am_G} (hI : am_Inv g) {z : Nat → Int32} (hz : hi 124 = z) (ok : OKz z) {w : Int32} (h0 : wi w 0 4 = true) (h1 : ¬ ¬ z 55 = 1 <<< (w &&& 31)) : am_Cr M_X10_turnKind [.ref 123, .int w] hi g (some (.int 0)) (fun h => MS hi h ∧ h 123 10 = 2) := by
  refine am_crn (by decide) (Nat.le_of_ble_eq_true rfl) (fun Φ hΦ => ?_)
  show AP M_X10_turnKind _ 0 [.ref 123, .int w] [] _ g Φ
  refine s_X10_turnKind_0 ?_
  refine s_X10_turnKind_1 ?_
  refine s_X10_turnKind_2 hI (Nat.le_of_ble_eq_true rfl) (m_isKind hI w) ?_
  intro h9 e9; rw [e9]; clear e9 h9
  rw [h0]
  refine s_X10_turnKind_5 hI rfl (by decide) (Nat.le_of_ble_eq_true rfl) (m_asksT hI) ?_
  intro h9 e9; rw [e9]; clear e9 h9
  refine s_X10_turnKind_8 rfl ?_
  refine s_X10_turnKind_9 ?_
  refine s_X10_turnKind_10 ?_
  refine s_X10_turnKind_11 hI rfl (by decide) ?_
  rw [u10]
  refine s_X10_turnKind_14 (fun h => absurd h (by decide)) (fun _ => ?_)
  refine s_X10_turnKind_17 ?_
  refine s_X10_turnKind_18 ?_
  refine s_X10_turnKind_19 hI rfl (by decide) (Nat.le_of_ble_eq_true rfl) (m_canTurn hI (uz hz 0) w) ?_
  intro h9 e9; rw [e9]; clear e9 h9
  rw [decide_eq_false h1]
  refine s_X10_turnKind_22 (fun _ => ?_) (fun h => absurd (rfl) h)
  refine s_X10_turnKind_29 ?_
  refine s_X10_turnKind_30 ?_
  refine s_X10_turnKind_31 hI rfl (by decide) (Nat.le_of_ble_eq_true rfl) (m_thenF hI u10) ?_
  intro h9 e9; rw [e9]; clear e9 h9
  refine s_X10_turnKind_34 (fun h => absurd (Eq.refl (0 : Int32)) h) (fun _ => ?_)
  refine s_X10_turnKind_37 ?_
  exact s_X10_turnKind_38 (by first | exact Or.inl rfl | exact Or.inr rfl | exact bI_01 _) (hΦ _ (MSs (MS.up (by decide) (by decide))))
theorem q_turnKind {hi : am_HI} {g : am_G} (hI : am_Inv g) {z : Nat → Int32} {Z : Nat → Nat → Int32} {p : Nat} {Y : Nat → Nat → Int32} {c : Nat → Bool} {cd : Nat → Nat} {n : Nat} (a : MM hi z Z p Y c cd n) (ok : OKz z) {k : Nat} (h0 : wi (nI k) 0 4 = true) (h1 : ¬ z 55 = 1 <<< (nI k &&& 31)) : am_Cr M_X10_turnKind [.ref 123, .int (nI k)] hi g (some (.int (bI (zal (upd z 55 (z 55 ^^^ 1 <<< (nI k &&& 31))) k)))) (fun h => frM hi h ∧ h 123 10 = 0 ∧ MM h (upd z 55 (z 55 ^^^ 1 <<< (nI k &&& 31))) (svZ Z p z) (svp p) Y c cd n) := by
  have hz := a.1
  refine am_crn (by decide) (Nat.le_of_ble_eq_true rfl) (fun Φ hΦ => ?_)
  show AP M_X10_turnKind _ 0 [.ref 123, .int (nI k)] [] _ g Φ
  refine s_X10_turnKind_0 ?_
  refine s_X10_turnKind_1 ?_
  refine s_X10_turnKind_2 hI (Nat.le_of_ble_eq_true rfl) (m_isKind hI (nI k)) ?_
  intro h9 e9; rw [e9]; clear e9 h9
  rw [h0]
  refine s_X10_turnKind_5 hI rfl (by decide) (Nat.le_of_ble_eq_true rfl) (m_asksT hI) ?_
  intro h9 e9; rw [e9]; clear e9 h9
  refine s_X10_turnKind_8 rfl ?_
  refine s_X10_turnKind_9 ?_
  refine s_X10_turnKind_10 ?_
  refine s_X10_turnKind_11 hI rfl (by decide) ?_
  rw [u10]
  refine s_X10_turnKind_14 (fun h => absurd h (by decide)) (fun _ => ?_)
  refine s_X10_turnKind_17 ?_
  refine s_X10_turnKind_18 ?_
  refine s_X10_turnKind_19 hI rfl (by decide) (Nat.le_of_ble_eq_true rfl) (m_canTurn hI (uz hz 0) (nI k)) ?_
  intro h9 e9; rw [e9]; clear e9 h9
  rw [decide_eq_true h1]
  refine s_X10_turnKind_22 (fun h => absurd h (by decide)) (fun _ => ?_)
  refine s_X10_turnKind_25 ?_
  refine s_X10_turnKind_26 ?_
  refine s_X10_turnKind_30 ?_
  refine s_X10_turnKind_31 hI rfl (by decide) (Nat.le_of_ble_eq_true rfl) (m_thenT hI u10) ?_
  intro h9 e9; rw [e9]; clear e9 h9
  refine s_X10_turnKind_34 (fun _ => ?_) (fun h => absurd h (by decide))
  refine s_X10_turnKind_39 ?_
  have a1 : MM (am_up hi 123 10 0) z Z p Y c cd n := a.ms (MS.up (by decide) (by decide))
  have r1 : frM hi (am_up hi 123 10 0) := (MS.up (by decide) (by decide)).M
  refine s_X10_turnKind_40 hI rfl (by decide) (Nat.le_of_ble_eq_true rfl) (m_record hI a1.1 a1.2.1) ?_
  intro h5 ⟨f5, g5, mp5⟩
  refine s_X10_turnKind_43 ?_
  refine s_X10_turnKind_44 hI rfl (by decide) rfl (by decide) ?_
  refine s_X10_turnKind_47 ?_
  refine s_X10_turnKind_49 rfl rfl ?_
  have m5 := a1.rec f5 g5 mp5
  have t5 : h5 123 10 = 0 := (g5 10 (by decide)).trans u10
  have r5 : frM hi h5 := r1.tr (frM.of f5 (by decide))
  refine s_X10_turnKind_50 hI rfl (by decide) (by decide) (by decide : (_ : Int32) = nI 55) (by decide) ?_
  refine s_X10_turnKind_51 ?_
  refine s_X10_turnKind_52 ?_
  refine s_X10_turnKind_53 ?_
  refine s_X10_turnKind_54 ?_
  refine s_X10_turnKind_55 hI rfl (by decide) (by decide) (by decide : (_ : Int32) = nI 55) (by decide) ?_
  refine s_X10_turnKind_56 ?_
  refine s_X10_turnKind_57 ?_
  rw [m5.1]
  have e6 : am_up h5 124 55 (z 55 ^^^ 1 <<< (nI k &&& 31)) 124 = upd z 55 (z 55 ^^^ 1 <<< (nI k &&& 31)) := by rw [up_c, m5.1]
  refine s_X10_turnKind_58 hI rfl (by decide) (Nat.le_of_ble_eq_true rfl) (m_isAllowed hI e6 k) ?_
  intro h9 e9; rw [e9]; clear e9 h9
  exact s_X10_turnKind_61 (by first | exact Or.inl rfl | exact Or.inr rfl | exact bI_01 _) (hΦ _ (⟨r5.tr (frM.up (by decide)), by rw [up_k (by decide)]; exact t5, m5.z (fun k hk => up_k (fun e => hk (by rw [e]; exact List.mem_cons_self))) e6⟩))
theorem q1_keep {hi : am_HI} {g : am_G} (hI : am_Inv g) {z : Nat → Int32} (hz : hi 124 = z) (ok : OKz z) {x : Int32} (h0 : wi x 0 1 = false) : am_Cr M_X10_keep [.ref 123, .int x] hi g (some (.int 0)) (fun h => MS hi h ∧ h 123 10 = 1) := by
  refine am_crn (by decide) (Nat.le_of_ble_eq_true rfl) (fun Φ hΦ => ?_)
  show AP M_X10_keep _ 0 [.ref 123, .int x, jk] [] _ g Φ
  refine s_X10_keep_0 ?_
  refine s_X10_keep_1 ?_
  refine s_X10_keep_2 ?_
  refine s_X10_keep_3 ?_
  refine s_X10_keep_4 hI (Nat.le_of_ble_eq_true rfl) (m_in x _ _) ?_
  intro h9 e9; rw [e9]; clear e9 h9
  rw [h0]
  refine s_X10_keep_7 hI rfl (by decide) (Nat.le_of_ble_eq_true rfl) (m_asksF hI) ?_
  intro h9 e9; rw [e9]; clear e9 h9
  refine s_X10_keep_10 (fun h => absurd (Eq.refl (0 : Int32)) h) (fun _ => ?_)
  refine s_X10_keep_13 ?_
  exact s_X10_keep_14 (hΦ _ (MSu))
theorem q_keep {hi : am_HI} {g : am_G} (hI : am_Inv g) {z : Nat → Int32} {Z : Nat → Nat → Int32} {p : Nat} {Y : Nat → Nat → Int32} {c : Nat → Bool} {cd : Nat → Nat} {n : Nat} (a : MM hi z Z p Y c cd n) (ok : OKz z) {k : Nat} (hk : k < 2) (h0 : wi (nI k) 0 1 = true) : am_Cr M_X10_keep [.ref 123, .int (nI k)] hi g (some (.int (nI (zc z)))) (fun h => frM hi h ∧ h 123 10 = 0 ∧ MM h z Z p (updN Y k z) (updN c k true) cd n) := by
  have hz := a.1
  refine am_crn (by decide) (Nat.le_of_ble_eq_true rfl) (fun Φ hΦ => ?_)
  show AP M_X10_keep _ 0 [.ref 123, .int (nI k), jk] [] _ g Φ
  refine s_X10_keep_0 ?_
  refine s_X10_keep_1 ?_
  refine s_X10_keep_2 ?_
  refine s_X10_keep_3 ?_
  refine s_X10_keep_4 hI (Nat.le_of_ble_eq_true rfl) (m_in (nI k) _ _) ?_
  intro h9 e9; rw [e9]; clear e9 h9
  rw [h0]
  refine s_X10_keep_7 hI rfl (by decide) (Nat.le_of_ble_eq_true rfl) (m_asksT hI) ?_
  intro h9 e9; rw [e9]; clear e9 h9
  refine s_X10_keep_10 (fun _ => ?_) (fun h => absurd h (by decide))
  refine s_X10_keep_15 ?_
  refine s_X10_keep_16 hI rfl (by decide) rfl (by decide) ?_
  refine s_X10_keep_19 ?_
  refine s_X10_keep_20 ?_
  have a1 : MM (am_up hi 123 10 0) z Z p Y c cd n := a.ms (MS.up (by decide) (by decide))
  have r1 : frM hi (am_up hi 123 10 0) := (MS.up (by decide) (by decide)).M
  refine s_X10_keep_21 hI rfl (by decide) (by decide) (rfl) (hk) ?_
  refine s_X10_keep_22 ?_
  refine s_X10_keep_23 rfl ?_
  have key := am_for0 (n := 172) (hi := am_up (am_up hi 123 10 0) 127 k 1) (fun i h => fr [126] (am_up (am_up hi 123 10 0) 127 k 1) h ∧ ∀ j, h 126 j = if 172 * k ≤ j ∧ j < 172 * k + i then z (j - 172 * k) else hi 126 j) (fun i h => AP M_X10_keep (0, 0) 24 [.ref 123, .int (nI k), .int (nI i)] [] h g Φ) ⟨fr.rfl, fun j => by rw [if_neg (by omega)]; rfl⟩ ?_ ?_
  · exact key
  · intro h ⟨h1, h2⟩
    have e24 : h 124 = z := (h1 124 (by decide)).trans ((up_k (by decide)).trans a1.1)
    refine s_X10_keep_24 ?_
    refine s_X10_keep_25 ?_
    refine s_X10_keep_28 (fun _ => ?_) (fun h => absurd (nI_le (a := 172) (b := 172) (by decide) (by decide)) h)
    refine s_X10_keep_55 ?_
    refine s_X10_keep_56 hI rfl (by decide) rfl (by decide) ?_
    refine s_X10_keep_59 ?_
    refine s_X10_keep_61 hI rfl (by decide) (by decide) (by decide : (_ : Int32) = nI 48) (by decide) ?_
    refine s_X10_keep_62 ?_
    rw [e24, ok.1.1]
    refine hΦ _ ⟨fun i hi' => by rw [h1 i (by simp; omega), up_k (by omega), up_k (by omega)], by rw [h1 123 (by decide), up_k (by decide)]; exact u10, e24, ?_, ?_, ?_⟩
    · have := a1.2.1; unfold MP at *; rw [h1 123 (by decide), h1 125 (by decide), up_k (k := 127) (k' := 123) (by decide), up_k (k := 127) (k' := 125) (by decide)]; exact this
    · intro i hi'
      rw [h1 127 (by decide), up_c]
      unfold updN
      by_cases he : i = k
      · rw [if_pos he, if_pos he, he, up_f]
        exact ⟨rfl, fun _ j hj => by rw [h2, if_pos (by omega)]; congr 1; omega⟩
      · rw [if_neg he, if_neg he, up_n he]
        exact ⟨(a1.2.2.1 i hi').1, fun hc j hj => by rw [h2, if_neg (by omega)]; exact (a1.2.2.1 i hi').2 hc j hj⟩
    · have := a1.2.2.2; unfold MT at *; rw [h1 123 (by decide), h1 131 (by decide), up_k (k := 127) (k' := 123) (by decide), up_k (k := 127) (k' := 131) (by decide)]; exact this
  · intro i h hi' ⟨h1, h2⟩ ih
    have e24 : h 124 = z := (h1 124 (by decide)).trans ((up_k (by decide)).trans a1.1)
    refine s_X10_keep_24 ?_
    refine s_X10_keep_25 ?_
    refine s_X10_keep_28 (fun h => absurd h (nI_ge (a := i) (b := 172) hi' (by decide))) (fun _ => ?_)
    refine s_X10_keep_31 ?_
    refine s_X10_keep_32 hI rfl (by decide) rfl (by decide) ?_
    refine s_X10_keep_35 ?_
    refine s_X10_keep_36 ?_
    refine s_X10_keep_39 ?_
    refine s_X10_keep_40 ?_
    refine s_X10_keep_41 ?_
    refine s_X10_keep_42 ?_
    refine s_X10_keep_43 hI rfl (by decide) rfl (by decide) ?_
    refine s_X10_keep_46 ?_
    rw [show nI k * 172 = nI (k * 172) from pk_mul k 172, nI_add]
    refine s_X10_keep_47 hI rfl (by decide) (by decide) (rfl) (by omega) ?_
    refine s_X10_keep_48 hI rfl (by decide) (by decide) (rfl) (by omega) ?_
    refine s_X10_keep_49 rfl ?_
    refine s_X10_keep_52 ?_
    rw [nI_1, e24]
    refine ih _ ⟨h1.up (by decide), fun j => ?_⟩
    rw [up_r]
    by_cases he : j = k * 172 + i
    · rw [if_pos ⟨rfl, he⟩, if_pos (by omega)]; congr 1; omega
    · rw [if_neg (by omega), h2 j]
      by_cases hu : 172 * k ≤ j ∧ j < 172 * k + i
      · rw [if_pos hu, if_pos (by omega)]
      · rw [if_neg hu, if_neg (by omega)]
theorem q1_goBack {hi : am_HI} {g : am_G} (hI : am_Inv g) {z : Nat → Int32} (hz : hi 124 = z) (ok : OKz z) {x : Int32} (h0 : wi x 0 1 = false) : am_Cr M_X10_goBack [.ref 123, .int x] hi g (some (.int 0)) (fun h => MS hi h ∧ h 123 10 = 1) := by
  refine am_crn (by decide) (Nat.le_of_ble_eq_true rfl) (fun Φ hΦ => ?_)
  show AP M_X10_goBack _ 0 [.ref 123, .int x, jk] [] _ g Φ
  refine s_X10_goBack_0 ?_
  refine s_X10_goBack_1 ?_
  refine s_X10_goBack_2 ?_
  refine s_X10_goBack_3 ?_
  refine s_X10_goBack_4 hI (Nat.le_of_ble_eq_true rfl) (m_in x _ _) ?_
  intro h9 e9; rw [e9]; clear e9 h9
  rw [h0]
  refine s_X10_goBack_7 hI rfl (by decide) (Nat.le_of_ble_eq_true rfl) (m_asksF hI) ?_
  intro h9 e9; rw [e9]; clear e9 h9
  refine s_X10_goBack_10 rfl ?_
  refine s_X10_goBack_11 ?_
  refine s_X10_goBack_12 ?_
  refine s_X10_goBack_13 hI rfl (by decide) ?_
  rw [u10]
  refine s_X10_goBack_16 (fun _ => ?_) (fun h => absurd (by decide) h)
  refine s_X10_goBack_29 ?_
  refine s_X10_goBack_30 ?_
  refine s_X10_goBack_34 ?_
  refine s_X10_goBack_35 hI rfl (by decide) (Nat.le_of_ble_eq_true rfl) (m_thenX hI u10 true) ?_
  intro h9 e9; rw [e9]; clear e9 h9
  refine s_X10_goBack_38 (fun h => absurd (Eq.refl (0 : Int32)) h) (fun _ => ?_)
  refine s_X10_goBack_41 ?_
  exact s_X10_goBack_42 (hΦ _ (MSu))
theorem q2_goBack {hi : am_HI} {g : am_G} (hI : am_Inv g) {z : Nat → Int32} {Z : Nat → Nat → Int32} {p : Nat} {Y : Nat → Nat → Int32} {c : Nat → Bool} {cd : Nat → Nat} {n : Nat} (a : MM hi z Z p Y c cd n) (ok : OKz z) {k : Nat} (hk : k < 2) (h0 : wi (nI k) 0 1 = true) (h1 : c k = false) : am_Cr M_X10_goBack [.ref 123, .int (nI k)] hi g (some (.int 0)) (fun h => MS hi h ∧ h 123 10 = 2) := by
  refine am_crn (by decide) (Nat.le_of_ble_eq_true rfl) (fun Φ hΦ => ?_)
  show AP M_X10_goBack _ 0 [.ref 123, .int (nI k), jk] [] _ g Φ
  refine s_X10_goBack_0 ?_
  refine s_X10_goBack_1 ?_
  refine s_X10_goBack_2 ?_
  refine s_X10_goBack_3 ?_
  refine s_X10_goBack_4 hI (Nat.le_of_ble_eq_true rfl) (m_in (nI k) _ _) ?_
  intro h9 e9; rw [e9]; clear e9 h9
  rw [h0]
  refine s_X10_goBack_7 hI rfl (by decide) (Nat.le_of_ble_eq_true rfl) (m_asksT hI) ?_
  intro h9 e9; rw [e9]; clear e9 h9
  refine s_X10_goBack_10 rfl ?_
  refine s_X10_goBack_11 ?_
  refine s_X10_goBack_12 ?_
  refine s_X10_goBack_13 hI rfl (by decide) ?_
  rw [u10]
  refine s_X10_goBack_16 (fun h => absurd h (by decide)) (fun _ => ?_)
  refine s_X10_goBack_19 ?_
  refine s_X10_goBack_20 hI rfl (by decide) rfl (by decide) ?_
  refine s_X10_goBack_23 ?_
  refine s_X10_goBack_24 hI rfl (by decide) (by decide) (rfl) (hk) ?_
  refine s_X10_goBack_25 ?_
  rw [up_k (by decide), (a.2.2.1 k hk).1, h1]
  refine s_X10_goBack_26 (fun _ => ?_) (fun h => absurd h (by decide))
  refine s_X10_goBack_33 ?_
  refine s_X10_goBack_34 ?_
  refine s_X10_goBack_35 hI rfl (by decide) (Nat.le_of_ble_eq_true rfl) (m_thenF hI u10) ?_
  intro h9 e9; rw [e9]; clear e9 h9
  refine s_X10_goBack_38 (fun h => absurd (Eq.refl (0 : Int32)) h) (fun _ => ?_)
  refine s_X10_goBack_41 ?_
  exact s_X10_goBack_42 (hΦ _ (MSs (MS.up (by decide) (by decide))))
theorem q_goBack {hi : am_HI} {g : am_G} (hI : am_Inv g) {z : Nat → Int32} {Z : Nat → Nat → Int32} {p : Nat} {Y : Nat → Nat → Int32} {c : Nat → Bool} {cd : Nat → Nat} {n : Nat} (a : MM hi z Z p Y c cd n) (ok : OKz z) {k : Nat} (hk : k < 2) (h0 : wi (nI k) 0 1 = true) (h1 : c k = true) : am_Cr M_X10_goBack [.ref 123, .int (nI k)] hi g (some (.int (Y k 48))) (fun h => frM hi h ∧ h 123 10 = 0 ∧ (∀ j, j < 172 → h 124 j = Y k j) ∧ MM h (h 124) (svZ Z p z) (svp p) Y c cd n) := by
  have hz := a.1
  refine am_crn (by decide) (Nat.le_of_ble_eq_true rfl) (fun Φ hΦ => ?_)
  show AP M_X10_goBack _ 0 [.ref 123, .int (nI k), jk] [] _ g Φ
  refine s_X10_goBack_0 ?_
  refine s_X10_goBack_1 ?_
  refine s_X10_goBack_2 ?_
  refine s_X10_goBack_3 ?_
  refine s_X10_goBack_4 hI (Nat.le_of_ble_eq_true rfl) (m_in (nI k) _ _) ?_
  intro h9 e9; rw [e9]; clear e9 h9
  rw [h0]
  refine s_X10_goBack_7 hI rfl (by decide) (Nat.le_of_ble_eq_true rfl) (m_asksT hI) ?_
  intro h9 e9; rw [e9]; clear e9 h9
  refine s_X10_goBack_10 rfl ?_
  refine s_X10_goBack_11 ?_
  refine s_X10_goBack_12 ?_
  refine s_X10_goBack_13 hI rfl (by decide) ?_
  rw [u10]
  refine s_X10_goBack_16 (fun h => absurd h (by decide)) (fun _ => ?_)
  refine s_X10_goBack_19 ?_
  refine s_X10_goBack_20 hI rfl (by decide) rfl (by decide) ?_
  refine s_X10_goBack_23 ?_
  refine s_X10_goBack_24 hI rfl (by decide) (by decide) (rfl) (hk) ?_
  refine s_X10_goBack_25 ?_
  rw [up_k (by decide), (a.2.2.1 k hk).1, h1]
  refine s_X10_goBack_26 (fun h => absurd (Eq.refl (1 : Int32)) h) (fun _ => ?_)
  refine s_X10_goBack_29 ?_
  refine s_X10_goBack_30 ?_
  refine s_X10_goBack_34 ?_
  refine s_X10_goBack_35 hI rfl (by decide) (Nat.le_of_ble_eq_true rfl) (m_thenT hI u10) ?_
  intro h9 e9; rw [e9]; clear e9 h9
  refine s_X10_goBack_38 (fun _ => ?_) (fun h => absurd h (by decide))
  refine s_X10_goBack_43 ?_
  have a1 : MM (am_up hi 123 10 0) z Z p Y c cd n := a.ms (MS.up (by decide) (by decide))
  have r1 : frM hi (am_up hi 123 10 0) := (MS.up (by decide) (by decide)).M
  refine s_X10_goBack_44 hI rfl (by decide) (Nat.le_of_ble_eq_true rfl) (m_record hI a1.1 a1.2.1) ?_
  intro h5 ⟨f5, g5, mp5⟩
  refine s_X10_goBack_47 ?_
  refine s_X10_goBack_48 rfl ?_
  have m5 := a1.rec f5 g5 mp5
  have t5 : h5 123 10 = 0 := (g5 10 (by decide)).trans u10
  have r5 : frM hi h5 := r1.tr (frM.of f5 (by decide))
  have key := am_for0 (n := 172) (hi := h5) (fun i h => fr [124] h5 h ∧ ∀ j, j < i → h 124 j = Y k j) (fun i h => AP M_X10_goBack (0, 0) 49 [.ref 123, .int (nI k), .int (nI i)] [] h g Φ) ⟨fr.rfl, fun j hj => absurd hj (Nat.not_lt_zero _)⟩ ?_ ?_
  · exact key
  · intro h ⟨h2, h3⟩
    refine s_X10_goBack_49 ?_
    refine s_X10_goBack_50 ?_
    refine s_X10_goBack_53 (fun _ => ?_) (fun h => absurd (nI_le (a := 172) (b := 172) (by decide) (by decide)) h)
    refine s_X10_goBack_80 ?_
    refine s_X10_goBack_81 hI rfl (by decide) rfl (by decide) ?_
    refine s_X10_goBack_84 ?_
    refine s_X10_goBack_86 hI rfl (by decide) (by decide) (by decide : (_ : Int32) = nI 48) (by decide) ?_
    rw [h3 48 (by decide)]
    exact s_X10_goBack_87 (hΦ _ (⟨r5.tr (frM.of h2 (by decide)), by rw [h2 123 (by decide)]; exact t5, h3, m5.z (h2.mono (by decide)) rfl⟩))
  · intro i h hi' ⟨h2, h3⟩ ih
    refine s_X10_goBack_49 ?_
    refine s_X10_goBack_50 ?_
    refine s_X10_goBack_53 (fun h => absurd h (nI_ge (a := i) (b := 172) hi' (by decide))) (fun _ => ?_)
    refine s_X10_goBack_56 ?_
    refine s_X10_goBack_57 hI rfl (by decide) rfl (by decide) ?_
    refine s_X10_goBack_60 ?_
    refine s_X10_goBack_61 ?_
    refine s_X10_goBack_62 hI rfl (by decide) rfl (by decide) ?_
    refine s_X10_goBack_65 ?_
    refine s_X10_goBack_66 ?_
    refine s_X10_goBack_69 ?_
    refine s_X10_goBack_70 ?_
    refine s_X10_goBack_71 ?_
    rw [show nI k * 172 = nI (k * 172) from pk_mul k 172, nI_add]
    refine s_X10_goBack_72 hI rfl (by decide) (by decide) (rfl) (by omega) ?_
    refine s_X10_goBack_73 hI rfl (by decide) (by decide) (rfl) (by omega) ?_
    refine s_X10_goBack_74 rfl ?_
    refine s_X10_goBack_77 ?_
    rw [nI_1, h2 126 (by decide), show k * 172 + i = 172 * k + i by omega, (m5.2.2.1 k hk).2 h1 i hi']
    refine ih _ ⟨h2.up (by decide), fun j hj => ?_⟩
    rw [up_r]
    by_cases he : j = i
    · rw [if_pos ⟨rfl, he⟩, he]
    · rw [if_neg (by omega)]; exact h3 j (by omega)
theorem q1_undo {hi : am_HI} {g : am_G} (hI : am_Inv g) {z : Nat → Int32} {Z : Nat → Nat → Int32} {p : Nat} {Y : Nat → Nat → Int32} {c : Nat → Bool} {cd : Nat → Nat} {n : Nat} (a : MM hi z Z p Y c cd n) (ok : OKz z) (h0 : p = 0) : am_Cr M_X10_undo [.ref 123] hi g (some (.int 0)) (fun h => MS hi h ∧ h 123 10 = 1) := by
  refine am_crn (by decide) (Nat.le_of_ble_eq_true rfl) (fun Φ hΦ => ?_)
  show AP M_X10_undo _ 0 [.ref 123, jk] [] _ g Φ
  refine s_X10_undo_0 ?_
  refine s_X10_undo_1 ?_
  refine s_X10_undo_2 hI rfl (by decide) ?_
  rw [a.2.1.1, h0]
  refine s_X10_undo_5 (fun _ => ?_) (fun h => absurd (by decide) h)
  refine s_X10_undo_12 ?_
  refine s_X10_undo_13 hI rfl (by decide) (Nat.le_of_ble_eq_true rfl) (m_asksF hI) ?_
  intro h9 e9; rw [e9]; clear e9 h9
  refine s_X10_undo_16 (fun h => absurd (Eq.refl (0 : Int32)) h) (fun _ => ?_)
  refine s_X10_undo_19 ?_
  exact s_X10_undo_20 (hΦ _ (MSu))
theorem q_undo {hi : am_HI} {g : am_G} (hI : am_Inv g) {z : Nat → Int32} {Z : Nat → Nat → Int32} {p : Nat} {Y : Nat → Nat → Int32} {c : Nat → Bool} {cd : Nat → Nat} {n : Nat} (a : MM hi z Z (p + 1) Y c cd n) (ok : OKz z) : am_Cr M_X10_undo [.ref 123] hi g (some (.int (nI p))) (fun h => frM hi h ∧ h 123 10 = 0 ∧ (∀ j, j < 172 → h 124 j = Z p j) ∧ MM h (h 124) Z p Y c cd n) := by
  have hz := a.1
  have hp6 := a.2.1.2.1
  refine am_crn (by decide) (Nat.le_of_ble_eq_true rfl) (fun Φ hΦ => ?_)
  show AP M_X10_undo _ 0 [.ref 123, jk] [] _ g Φ
  refine s_X10_undo_0 ?_
  refine s_X10_undo_1 ?_
  refine s_X10_undo_2 hI rfl (by decide) ?_
  rw [a.2.1.1]
  refine s_X10_undo_5 (fun h => absurd h (nI_nle (n := p + 1) (by omega) (by omega))) (fun _ => ?_)
  refine s_X10_undo_8 ?_
  refine s_X10_undo_9 ?_
  refine s_X10_undo_13 hI rfl (by decide) (Nat.le_of_ble_eq_true rfl) (m_asksT hI) ?_
  intro h9 e9; rw [e9]; clear e9 h9
  refine s_X10_undo_16 (fun _ => ?_) (fun h => absurd h (by decide))
  refine s_X10_undo_21 ?_
  refine s_X10_undo_22 rfl ?_
  refine s_X10_undo_23 hI rfl (by decide) ?_
  refine s_X10_undo_26 ?_
  refine s_X10_undo_27 ?_
  refine s_X10_undo_28 hI rfl (by decide) ?_
  refine s_X10_undo_31 ?_
  refine s_X10_undo_32 rfl ?_
  have a1 : MM (am_up hi 123 10 0) z Z (p + 1) Y c cd n := a.ms (MS.up (by decide) (by decide))
  have r1 : frM hi (am_up hi 123 10 0) := (MS.up (by decide) (by decide)).M
  rw [a1.2.1.1, nI_i1]
  have key := am_for0 (n := 172) (hi := am_up (am_up hi 123 10 0) 123 2 (nI p)) (fun i h => fr [124] (am_up (am_up hi 123 10 0) 123 2 (nI p)) h ∧ ∀ j, j < i → h 124 j = Z p j) (fun i h => AP M_X10_undo (0, 0) 33 [.ref 123, .int (nI i)] [] h g Φ) ⟨fr.rfl, fun j hj => absurd hj (Nat.not_lt_zero _)⟩ ?_ ?_
  · exact key
  · intro h ⟨h2, h3⟩
    have e2 : h 123 2 = nI p := by rw [h2 123 (by decide), up_c, up_f]
    refine s_X10_undo_33 ?_
    refine s_X10_undo_34 ?_
    refine s_X10_undo_37 (fun _ => ?_) (fun h => absurd (nI_le (a := 172) (b := 172) (by decide) (by decide)) h)
    refine s_X10_undo_67 ?_
    refine s_X10_undo_68 hI rfl (by decide) ?_
    refine s_X10_undo_71 ?_
    rw [e2]
    refine hΦ _ ⟨r1.tr ((frM.up (by decide)).tr (frM.of h2 (by decide))), ?_, h3, rfl, ⟨e2, by omega, ?_⟩, ?_, ?_⟩
    · rw [h2 123 (by decide), up_c, up_n (by decide)]; exact u10
    · intro i hi' j hj; rw [h2 125 (by decide), up_k (by decide)]; exact a1.2.1.2.2 i (by omega) j hj
    · have := a1.2.2.1; unfold MY at *; rw [h2 126 (by decide), h2 127 (by decide), up_k (by decide), up_k (by decide)]; exact this
    · have := a1.2.2.2; unfold MT at *; rw [h2 123 (by decide), h2 131 (by decide), up_k (k := 123) (k' := 131) (by decide), up_c, up_n (by decide)]; exact this
  · intro i h hi' ⟨h2, h3⟩ ih
    have e2 : h 123 2 = nI p := by rw [h2 123 (by decide), up_c, up_f]
    refine s_X10_undo_33 ?_
    refine s_X10_undo_34 ?_
    refine s_X10_undo_37 (fun h => absurd h (nI_ge (a := i) (b := 172) hi' (by decide))) (fun _ => ?_)
    refine s_X10_undo_40 ?_
    refine s_X10_undo_41 hI rfl (by decide) rfl (by decide) ?_
    refine s_X10_undo_44 ?_
    refine s_X10_undo_45 ?_
    refine s_X10_undo_46 hI rfl (by decide) rfl (by decide) ?_
    refine s_X10_undo_49 ?_
    refine s_X10_undo_50 hI rfl (by decide) ?_
    refine s_X10_undo_53 ?_
    refine s_X10_undo_56 ?_
    refine s_X10_undo_57 ?_
    refine s_X10_undo_58 ?_
    rw [e2, show nI p * 172 = nI (p * 172) from pk_mul p 172, nI_add]
    refine s_X10_undo_59 hI rfl (by decide) (by decide) (rfl) (by omega) ?_
    refine s_X10_undo_60 hI rfl (by decide) (by decide) (rfl) (by omega) ?_
    refine s_X10_undo_61 rfl ?_
    refine s_X10_undo_64 ?_
    rw [nI_1, h2 125 (by decide), up_k (by decide), show p * 172 + i = 172 * p + i by omega, a1.2.1.2.2 p (by omega) i hi']
    refine ih _ ⟨h2.up (by decide), fun j hj => ?_⟩
    rw [up_r]
    by_cases he : j = i
    · rw [if_pos ⟨rfl, he⟩, he]
    · rw [if_neg (by omega)]; exact h3 j (by omega)
theorem q1_append {hi : am_HI} {g : am_G} (hI : am_Inv g) {z : Nat → Int32} (hz : hi 124 = z) (ok : OKz z) {v : Int32} (h0 : wi v 33 126 = false) : am_Cr M_X10_append [.ref 123, .int v] hi g (some (.int 0)) (fun h => MS hi h ∧ h 123 10 = 1) := by
  refine am_crn (by decide) (Nat.le_of_ble_eq_true rfl) (fun Φ hΦ => ?_)
  show AP M_X10_append _ 0 [.ref 123, .int v] [] _ g Φ
  refine s_X10_append_0 ?_
  refine s_X10_append_1 ?_
  refine s_X10_append_2 ?_
  refine s_X10_append_4 ?_
  refine s_X10_append_6 hI (Nat.le_of_ble_eq_true rfl) (m_in v _ _) ?_
  intro h9 e9; rw [e9]; clear e9 h9
  rw [h0]
  refine s_X10_append_9 hI rfl (by decide) (Nat.le_of_ble_eq_true rfl) (m_asksF hI) ?_
  intro h9 e9; rw [e9]; clear e9 h9
  refine s_X10_append_12 rfl ?_
  refine s_X10_append_13 ?_
  refine s_X10_append_14 ?_
  refine s_X10_append_15 hI rfl (by decide) ?_
  refine s_X10_append_18 ?_
  refine s_X10_append_20 (fun h => ?_) (fun h => ?_)
  · refine s_X10_append_27 ?_
    refine s_X10_append_28 ?_
    refine s_X10_append_29 hI rfl (by decide) (Nat.le_of_ble_eq_true rfl) (m_thenX hI u10 false) ?_
    intro h9 e9; rw [e9]; clear e9 h9
    refine s_X10_append_32 (fun h => absurd (Eq.refl (0 : Int32)) h) (fun _ => ?_)
    refine s_X10_append_35 ?_
    exact s_X10_append_36 (hΦ _ (MSu))
  · refine s_X10_append_23 ?_
    refine s_X10_append_24 ?_
    refine s_X10_append_28 ?_
    refine s_X10_append_29 hI rfl (by decide) (Nat.le_of_ble_eq_true rfl) (m_thenX hI u10 true) ?_
    intro h9 e9; rw [e9]; clear e9 h9
    refine s_X10_append_32 (fun h => absurd (Eq.refl (0 : Int32)) h) (fun _ => ?_)
    refine s_X10_append_35 ?_
    exact s_X10_append_36 (hΦ _ (MSu))
theorem q2_append {hi : am_HI} {g : am_G} (hI : am_Inv g) {z : Nat → Int32} {Z : Nat → Nat → Int32} {p : Nat} {Y : Nat → Nat → Int32} {c : Nat → Bool} {cd : Nat → Nat} {n : Nat} (a : MM hi z Z p Y c cd n) (ok : OKz z) {v : Int32} (h0 : wi v 33 126 = true) (h1 : ¬ n < 80) : am_Cr M_X10_append [.ref 123, .int v] hi g (some (.int 0)) (fun h => MS hi h ∧ h 123 10 = 2) := by
  refine am_crn (by decide) (Nat.le_of_ble_eq_true rfl) (fun Φ hΦ => ?_)
  show AP M_X10_append _ 0 [.ref 123, .int v] [] _ g Φ
  refine s_X10_append_0 ?_
  refine s_X10_append_1 ?_
  refine s_X10_append_2 ?_
  refine s_X10_append_4 ?_
  refine s_X10_append_6 hI (Nat.le_of_ble_eq_true rfl) (m_in v _ _) ?_
  intro h9 e9; rw [e9]; clear e9 h9
  rw [h0]
  refine s_X10_append_9 hI rfl (by decide) (Nat.le_of_ble_eq_true rfl) (m_asksT hI) ?_
  intro h9 e9; rw [e9]; clear e9 h9
  refine s_X10_append_12 rfl ?_
  refine s_X10_append_13 ?_
  refine s_X10_append_14 ?_
  refine s_X10_append_15 hI rfl (by decide) ?_
  refine s_X10_append_18 ?_
  rw [up_c, up_n (by decide), a.2.2.2.1]
  refine s_X10_append_20 (fun _ => ?_) (fun h => absurd (nI_le (a := 80) (b := n) (by omega) (by have := a.2.2.2.2.1; omega)) h)
  refine s_X10_append_27 ?_
  refine s_X10_append_28 ?_
  refine s_X10_append_29 hI rfl (by decide) (Nat.le_of_ble_eq_true rfl) (m_thenF hI u10) ?_
  intro h9 e9; rw [e9]; clear e9 h9
  refine s_X10_append_32 (fun h => absurd (Eq.refl (0 : Int32)) h) (fun _ => ?_)
  refine s_X10_append_35 ?_
  exact s_X10_append_36 (hΦ _ (MSs (MS.up (by decide) (by decide))))
theorem i2c_all : ∀ k : Fin 127, ((nI k.val).toUInt32 % 65536).toInt32 = nI k.val ∧ vp_nar .char (nI k.val) = nI k.val := by decide +kernel
theorem q_append {hi : am_HI} {g : am_G} (hI : am_Inv g) {z : Nat → Int32} {Z : Nat → Nat → Int32} {p : Nat} {Y : Nat → Nat → Int32} {c : Nat → Bool} {cd : Nat → Nat} {n : Nat} (a : MM hi z Z p Y c cd n) (ok : OKz z) {k : Nat} (hk : 33 ≤ k ∧ k ≤ 126) (h0 : wi (nI k) 33 126 = true) (h1 : n < 80) : am_Cr M_X10_append [.ref 123, .int (nI k)] hi g (some (.int (nI (n + 1)))) (fun h => frM hi h ∧ h 123 10 = 0 ∧ MM h z Z p Y c (updN cd n k) (n + 1)) := by
  have hz := a.1
  refine am_crn (by decide) (Nat.le_of_ble_eq_true rfl) (fun Φ hΦ => ?_)
  show AP M_X10_append _ 0 [.ref 123, .int (nI k)] [] _ g Φ
  refine s_X10_append_0 ?_
  refine s_X10_append_1 ?_
  refine s_X10_append_2 ?_
  refine s_X10_append_4 ?_
  refine s_X10_append_6 hI (Nat.le_of_ble_eq_true rfl) (m_in (nI k) _ _) ?_
  intro h9 e9; rw [e9]; clear e9 h9
  rw [h0]
  refine s_X10_append_9 hI rfl (by decide) (Nat.le_of_ble_eq_true rfl) (m_asksT hI) ?_
  intro h9 e9; rw [e9]; clear e9 h9
  refine s_X10_append_12 rfl ?_
  refine s_X10_append_13 ?_
  refine s_X10_append_14 ?_
  refine s_X10_append_15 hI rfl (by decide) ?_
  refine s_X10_append_18 ?_
  rw [up_c, up_n (by decide), a.2.2.2.1]
  refine s_X10_append_20 (fun h => absurd h (nI_ge (a := n) (b := 80) h1 (by decide))) (fun _ => ?_)
  refine s_X10_append_23 ?_
  refine s_X10_append_24 ?_
  refine s_X10_append_28 ?_
  refine s_X10_append_29 hI rfl (by decide) (Nat.le_of_ble_eq_true rfl) (m_thenT hI u10) ?_
  intro h9 e9; rw [e9]; clear e9 h9
  refine s_X10_append_32 (fun _ => ?_) (fun h => absurd h (by decide))
  refine s_X10_append_37 ?_
  refine s_X10_append_38 hI rfl (by decide) rfl (by decide) ?_
  refine s_X10_append_41 ?_
  refine s_X10_append_42 hI rfl (by decide) ?_
  refine s_X10_append_45 ?_
  refine s_X10_append_46 ?_
  have a1 : MM (am_up hi 123 10 0) z Z p Y c cd n := a.ms (MS.up (by decide) (by decide))
  have r1 : frM hi (am_up hi 123 10 0) := (MS.up (by decide) (by decide)).M
  have i2c := i2c_all ⟨k, by omega⟩
  dsimp only at i2c
  rw [a1.2.2.2.1, i2c.1]
  refine s_X10_append_47 hI rfl (by decide) (by decide) (rfl) (h1) (i2c.2) ?_
  refine s_X10_append_48 ?_
  refine s_X10_append_49 rfl ?_
  refine s_X10_append_50 hI rfl (by decide) ?_
  refine s_X10_append_53 ?_
  refine s_X10_append_54 ?_
  refine s_X10_append_55 hI rfl (by decide) ?_
  refine s_X10_append_58 ?_
  refine s_X10_append_59 hI rfl (by decide) ?_
  refine s_X10_append_62 ?_
  have eS : am_up (am_up hi 123 10 0) 131 n (nI k) 123 9 = nI n := by rw [up_k (by decide)]; exact a1.2.2.2.1
  rw [up_c, up_f, eS, nI_1]
  refine hΦ _ ⟨(r1.tr (frM.up (by decide))).tr (frM.up (by decide)), ?_, ?_, ?_, ?_, ?_⟩
  · rw [up_c, up_n (by decide), up_k (by decide)]; exact u10
  · rw [up_k (by decide), up_k (by decide)]; exact a1.1
  · have := a1.2.1; unfold MP at *; rw [up_k (k' := 125) (by decide), up_k (k' := 125) (by decide), up_c, up_n (by decide), up_k (by decide)]; exact this
  · have := a1.2.2.1; unfold MY at *; rw [up_k (k' := 126) (by decide), up_k (k' := 126) (by decide), up_k (k' := 127) (by decide), up_k (k' := 127) (by decide)]; exact this
  · refine ⟨by rw [up_c, up_f], by omega, fun i hi' => ?_⟩
    rw [up_k (by decide), up_c]; unfold updN
    by_cases he : i = n
    · rw [if_pos he, he, up_f]; exact ⟨rfl, hk.1, hk.2⟩
    · rw [if_neg he, up_n he]; exact a1.2.2.2.2.2 i (by omega)
theorem q_clearText {hi : am_HI} {g : am_G} (hI : am_Inv g) {z : Nat → Int32} {Z : Nat → Nat → Int32} {p : Nat} {Y : Nat → Nat → Int32} {c : Nat → Bool} {cd : Nat → Nat} {n : Nat} (a : MM hi z Z p Y c cd n) (ok : OKz z) : am_Cr M_X10_clearText [.ref 123] hi g (some (.int (nI n))) (fun h => frM hi h ∧ h 123 10 = 0 ∧ MM h z Z p Y c cd 0) := by
  refine am_crn (by decide) (Nat.le_of_ble_eq_true rfl) (fun Φ hΦ => ?_)
  show AP M_X10_clearText _ 0 [.ref 123, jk] [] _ g Φ
  refine s_X10_clearText_0 ?_
  refine s_X10_clearText_1 hI rfl (by decide) ?_
  refine s_X10_clearText_4 rfl ?_
  refine s_X10_clearText_5 ?_
  refine s_X10_clearText_6 ?_
  refine s_X10_clearText_7 hI rfl (by decide) ?_
  refine s_X10_clearText_10 ?_
  refine s_X10_clearText_11 ?_
  rw [a.2.2.2.1]
  refine s_X10_clearText_12 hI rfl (by decide) (Nat.le_of_ble_eq_true rfl) (m_says hI _) ?_
  intro h9 e9; rw [e9]; clear e9 h9
  refine s_X10_clearText_15 ?_
  refine hΦ _ ⟨(frM.up (by decide)).tr (frM.up (by decide)), u10, MM.ms (hi := am_up hi 123 9 0) ⟨?_, ?_, ?_, ?_⟩ (MS.up (by decide) (by decide))⟩
  · rw [up_k (by decide)]; exact a.1
  · have := a.2.1; unfold MP at *; rw [up_k (k' := 125) (by decide), up_c, up_n (by decide)]; exact this
  · have := a.2.2.1; unfold MY at *; rw [up_k (k' := 126) (by decide), up_k (k' := 127) (by decide)]; exact this
  · exact ⟨by rw [up_c, up_f]; rfl, by omega, fun i hi' => by omega⟩
theorem q1_echo {hi : am_HI} {g : am_G} (hI : am_Inv g) {z : Nat → Int32} (hz : hi 124 = z) (ok : OKz z) {m b t : Int32} (h0 : (wi m 1 16 && wi b 1 12 && wi t 1 9) = false) : am_Cr M_X10_echo [.ref 123, .int m, .int b, .int t] hi g (some (.int 0)) (fun h => MS hi h ∧ h 123 10 = 1) := by
  have fin : ∀ (e4 e5 : Value) (Φ : am_P), (∀ h, MS hi h ∧ h 123 10 = 1 → Φ (.ok (some (.int 0))) h g) → AP M_X10_echo (0, 0) 36 [.ref 123, .int m, .int b, .int t, e4, e5] [.int (bI false), .ref 123] hi g Φ := by
    intro e4 e5 Φ hΦ
    refine s_X10_echo_36 hI rfl (by decide) (Nat.le_of_ble_eq_true rfl) (m_asksF hI) ?_
    intro h9 e9; rw [e9]; clear e9 h9
    refine s_X10_echo_39 rfl ?_
    refine s_X10_echo_40 ?_
    refine s_X10_echo_41 ?_
    refine s_X10_echo_42 hI rfl (by decide) ?_
    rw [u10]
    refine s_X10_echo_45 (fun _ => ?_) (fun h => absurd (by decide) h)
    refine s_X10_echo_62 ?_
    refine s_X10_echo_63 ?_
    refine s_X10_echo_67 ?_
    refine s_X10_echo_68 hI rfl (by decide) (Nat.le_of_ble_eq_true rfl) (m_thenX hI u10 true) ?_
    intro h9 e9; rw [e9]; clear e9 h9
    refine s_X10_echo_71 (fun h => absurd (Eq.refl (0 : Int32)) h) (fun _ => ?_)
    refine s_X10_echo_74 ?_
    exact s_X10_echo_75 (hΦ _ (MSu))
  refine am_crn (by decide) (Nat.le_of_ble_eq_true rfl) (fun Φ hΦ => ?_)
  show AP M_X10_echo _ 0 [.ref 123, .int m, .int b, .int t, jk, jk] [] _ g Φ
  refine s_X10_echo_0 ?_
  refine s_X10_echo_1 ?_
  refine s_X10_echo_2 ?_
  refine s_X10_echo_3 ?_
  refine s_X10_echo_5 hI (Nat.le_of_ble_eq_true rfl) (m_in m _ _) ?_
  intro h9 e9; rw [e9]; clear e9 h9
  refine s_X10_echo_8 (fun h1 => ?_) (fun h1 => ?_)
  · refine s_X10_echo_35 ?_
    exact fin _ _ Φ hΦ
  · refine s_X10_echo_11 ?_
    refine s_X10_echo_12 ?_
    refine s_X10_echo_13 ?_
    refine s_X10_echo_15 hI (Nat.le_of_ble_eq_true rfl) (m_in b _ _) ?_
    intro h9 e9; rw [e9]; clear e9 h9
    refine s_X10_echo_18 (fun h2 => ?_) (fun h2 => ?_)
    · refine s_X10_echo_35 ?_
      exact fin _ _ Φ hΦ
    · refine s_X10_echo_21 ?_
      refine s_X10_echo_22 ?_
      refine s_X10_echo_23 ?_
      refine s_X10_echo_25 hI (Nat.le_of_ble_eq_true rfl) (m_in t _ _) ?_
      intro h9 e9; rw [e9]; clear e9 h9
      refine s_X10_echo_28 (fun h3 => ?_) (fun h3 => ?_)
      · refine s_X10_echo_35 ?_
        exact fin _ _ Φ hΦ
      · refine s_X10_echo_31 ?_
        refine s_X10_echo_32 ?_
        rw [bI_n0] at h1 h2 h3
        rw [h1, h2, h3] at h0
        cases h0
theorem q2_echo {hi : am_HI} {g : am_G} (hI : am_Inv g) {z : Nat → Int32} (hz : hi 124 = z) (ok : OKz z) {m b t : Nat} (hm : m ≤ 16) (h0 : wi (nI m) 1 16 = true) (h1 : wi (nI b) 1 12 = true) (h2 : wi (nI t) 1 9 = true) (h3 : ¬ zc z + m ≤ 48) : am_Cr M_X10_echo [.ref 123, .int (nI m), .int (nI b), .int (nI t)] hi g (some (.int 0)) (fun h => MS hi h ∧ h 123 10 = 2) := by
  refine am_crn (by decide) (Nat.le_of_ble_eq_true rfl) (fun Φ hΦ => ?_)
  show AP M_X10_echo _ 0 [.ref 123, .int (nI m), .int (nI b), .int (nI t), jk, jk] [] _ g Φ
  refine s_X10_echo_0 ?_
  refine s_X10_echo_1 ?_
  refine s_X10_echo_2 ?_
  refine s_X10_echo_3 ?_
  refine s_X10_echo_5 hI (Nat.le_of_ble_eq_true rfl) (m_in _ _ _) ?_
  intro h9 e9; rw [e9]; clear e9 h9
  rw [h0]
  refine s_X10_echo_8 (fun h => absurd h (by decide)) (fun _ => ?_)
  refine s_X10_echo_11 ?_
  refine s_X10_echo_12 ?_
  refine s_X10_echo_13 ?_
  refine s_X10_echo_15 hI (Nat.le_of_ble_eq_true rfl) (m_in _ _ _) ?_
  intro h9 e9; rw [e9]; clear e9 h9
  rw [h1]
  refine s_X10_echo_18 (fun h => absurd h (by decide)) (fun _ => ?_)
  refine s_X10_echo_21 ?_
  refine s_X10_echo_22 ?_
  refine s_X10_echo_23 ?_
  refine s_X10_echo_25 hI (Nat.le_of_ble_eq_true rfl) (m_in _ _ _) ?_
  intro h9 e9; rw [e9]; clear e9 h9
  rw [h2]
  refine s_X10_echo_28 (fun h => absurd h (by decide)) (fun _ => ?_)
  refine s_X10_echo_31 ?_
  refine s_X10_echo_32 ?_
  refine s_X10_echo_36 hI rfl (by decide) (Nat.le_of_ble_eq_true rfl) (m_asksT hI) ?_
  intro h9 e9; rw [e9]; clear e9 h9
  refine s_X10_echo_39 rfl ?_
  refine s_X10_echo_40 ?_
  refine s_X10_echo_41 ?_
  refine s_X10_echo_42 hI rfl (by decide) ?_
  rw [u10]
  refine s_X10_echo_45 (fun h => absurd h (by decide)) (fun _ => ?_)
  refine s_X10_echo_48 ?_
  refine s_X10_echo_49 hI rfl (by decide) rfl (by decide) ?_
  refine s_X10_echo_52 ?_
  refine s_X10_echo_54 hI rfl (by decide) (by decide) (by decide : (_ : Int32) = nI 48) (by decide) ?_
  refine s_X10_echo_55 ?_
  refine s_X10_echo_56 ?_
  refine s_X10_echo_57 ?_
  rw [uz hz 0, ok.1.1, nI_add]
  refine s_X10_echo_59 (fun _ => ?_) (fun h => absurd (nI_lt (a := 48) (b := zc z + m) (by omega) (by have := ok.1.2.1; omega)) h)
  refine s_X10_echo_66 ?_
  refine s_X10_echo_67 ?_
  refine s_X10_echo_68 hI rfl (by decide) (Nat.le_of_ble_eq_true rfl) (m_thenF hI u10) ?_
  intro h9 e9; rw [e9]; clear e9 h9
  refine s_X10_echo_71 (fun h => absurd (Eq.refl (0 : Int32)) h) (fun _ => ?_)
  refine s_X10_echo_74 ?_
  exact s_X10_echo_75 (hΦ _ (MSs (MS.up (by decide) (by decide))))
theorem q_echo {hi : am_HI} {g : am_G} (hI : am_Inv g) {z : Nat → Int32} {Z : Nat → Nat → Int32} {p : Nat} {Y : Nat → Nat → Int32} {c : Nat → Bool} {cd : Nat → Nat} {n : Nat} (a : MM hi z Z p Y c cd n) (ok : OKz z) {m b t : Nat} (hm : 1 ≤ m ∧ m ≤ 16) (hb : 1 ≤ b ∧ b ≤ 12) (ht : 1 ≤ t ∧ t ≤ 9) (h0 : wi (nI m) 1 16 = true) (h1 : wi (nI b) 1 12 = true) (h2 : wi (nI t) 1 9 = true) (h3 : zc z + m ≤ 48) : am_Cr M_X10_echo [.ref 123, .int (nI m), .int (nI b), .int (nI t)] hi g (some (.int (nI (zc z + m)))) (fun h => frM hi h ∧ h 123 10 = 0 ∧ MM h (zecho z b t m) (svZ Z p z) (svp p) Y c cd n) := by
  have hz := a.1
  refine am_crn (by decide) (Nat.le_of_ble_eq_true rfl) (fun Φ hΦ => ?_)
  show AP M_X10_echo _ 0 [.ref 123, .int (nI m), .int (nI b), .int (nI t), jk, jk] [] _ g Φ
  refine s_X10_echo_0 ?_
  refine s_X10_echo_1 ?_
  refine s_X10_echo_2 ?_
  refine s_X10_echo_3 ?_
  refine s_X10_echo_5 hI (Nat.le_of_ble_eq_true rfl) (m_in _ _ _) ?_
  intro h9 e9; rw [e9]; clear e9 h9
  rw [h0]
  refine s_X10_echo_8 (fun h => absurd h (by decide)) (fun _ => ?_)
  refine s_X10_echo_11 ?_
  refine s_X10_echo_12 ?_
  refine s_X10_echo_13 ?_
  refine s_X10_echo_15 hI (Nat.le_of_ble_eq_true rfl) (m_in _ _ _) ?_
  intro h9 e9; rw [e9]; clear e9 h9
  rw [h1]
  refine s_X10_echo_18 (fun h => absurd h (by decide)) (fun _ => ?_)
  refine s_X10_echo_21 ?_
  refine s_X10_echo_22 ?_
  refine s_X10_echo_23 ?_
  refine s_X10_echo_25 hI (Nat.le_of_ble_eq_true rfl) (m_in _ _ _) ?_
  intro h9 e9; rw [e9]; clear e9 h9
  rw [h2]
  refine s_X10_echo_28 (fun h => absurd h (by decide)) (fun _ => ?_)
  refine s_X10_echo_31 ?_
  refine s_X10_echo_32 ?_
  refine s_X10_echo_36 hI rfl (by decide) (Nat.le_of_ble_eq_true rfl) (m_asksT hI) ?_
  intro h9 e9; rw [e9]; clear e9 h9
  refine s_X10_echo_39 rfl ?_
  refine s_X10_echo_40 ?_
  refine s_X10_echo_41 ?_
  refine s_X10_echo_42 hI rfl (by decide) ?_
  rw [u10]
  refine s_X10_echo_45 (fun h => absurd h (by decide)) (fun _ => ?_)
  refine s_X10_echo_48 ?_
  refine s_X10_echo_49 hI rfl (by decide) rfl (by decide) ?_
  refine s_X10_echo_52 ?_
  refine s_X10_echo_54 hI rfl (by decide) (by decide) (by decide : (_ : Int32) = nI 48) (by decide) ?_
  refine s_X10_echo_55 ?_
  refine s_X10_echo_56 ?_
  refine s_X10_echo_57 ?_
  rw [uz hz 0, ok.1.1, nI_add]
  refine s_X10_echo_59 (fun h => absurd h (nI_nlt (a := 48) (b := zc z + m) h3 (by decide))) (fun _ => ?_)
  refine s_X10_echo_62 ?_
  refine s_X10_echo_63 ?_
  refine s_X10_echo_67 ?_
  refine s_X10_echo_68 hI rfl (by decide) (Nat.le_of_ble_eq_true rfl) (m_thenT hI u10) ?_
  intro h9 e9; rw [e9]; clear e9 h9
  refine s_X10_echo_71 (fun _ => ?_) (fun h => absurd h (by decide))
  refine s_X10_echo_76 ?_
  have a1 : MM (am_up hi 123 10 0) z Z p Y c cd n := a.ms (MS.up (by decide) (by decide))
  have r1 : frM hi (am_up hi 123 10 0) := (MS.up (by decide) (by decide)).M
  refine s_X10_echo_77 hI rfl (by decide) (Nat.le_of_ble_eq_true rfl) (m_record hI a1.1 a1.2.1) ?_
  intro h5 ⟨f5, g5, mp5⟩
  refine s_X10_echo_80 ?_
  refine s_X10_echo_81 rfl ?_
  have m5 := a1.rec f5 g5 mp5
  have t5 : h5 123 10 = 0 := (g5 10 (by decide)).trans u10
  have r5 : frM hi h5 := r1.tr (frM.of f5 (by decide))
  have key := am_for0 (n := m) (hi := h5) (fun i h => fr [124] h5 h ∧ h 124 = zecho z b t i) (fun i h => ∀ e : Value, AP M_X10_echo (0, 0) 83 [.ref 123, .int (nI m), .int (nI b), .int (nI t), .int (nI i), e] [] h g Φ) ⟨fr.rfl, m5.1⟩ ?_ ?_
  · exact key _
  · intro h ⟨k1, k2⟩ e
    have okm := zecho_ok ok hb.1 ht.2 m h3
    refine s_X10_echo_83 ?_
    refine s_X10_echo_85 ?_
    refine s_X10_echo_86 (fun _ => ?_) (fun h => absurd (nI_le (Nat.le_refl _) (by omega)) h)
    refine s_X10_echo_143 ?_
    refine s_X10_echo_144 hI rfl (by decide) rfl (by decide) ?_
    refine s_X10_echo_147 ?_
    refine s_X10_echo_149 hI rfl (by decide) (by decide) (by decide : (_ : Int32) = nI 48) (by decide) ?_
    rw [k2, okm.1.1.1, okm.2]
    exact s_X10_echo_150 (hΦ _ (⟨r5.tr (frM.of k1 (by decide)), by rw [k1 123 (by decide)]; exact t5, m5.z (k1.mono (by decide)) k2⟩))
  · intro i h him ⟨k1, k2⟩ ih e
    obtain ⟨ok1, okc⟩ := zecho_ok ok hb.1 ht.2 i (by omega)
    have fin : ∀ v : Int32, v = zev (zecho z b t i) b t → AP M_X10_echo (0, 0) 133 [.ref 123, .int (nI m), .int (nI b), .int (nI t), .int (nI i), .int (nI t * sm (zecho z b t i) (zc (zecho z b t i)) b)] [.int v, .ref 123] h g Φ := by
      intro v hv
      refine s_X10_echo_133 hI rfl (by decide) (Nat.le_of_ble_eq_true rfl) (m_adds hI k2 ok1 (by omega) v) ?_
      intro h6 ⟨f6, e6⟩
      refine s_X10_echo_136 rfl ?_
      refine s_X10_echo_137 rfl ?_
      refine s_X10_echo_140 ?_
      rw [nI_1]
      exact ih _ ⟨k1.tr f6, by rw [e6, hv]; rfl⟩ _
    refine s_X10_echo_83 ?_
    refine s_X10_echo_85 ?_
    refine s_X10_echo_86 (fun h => absurd h (nI_ge him (by omega))) (fun _ => ?_)
    refine s_X10_echo_89 ?_
    refine s_X10_echo_90 ?_
    refine s_X10_echo_91 hI rfl (by decide) rfl (by decide) ?_
    refine s_X10_echo_94 ?_
    refine s_X10_echo_95 hI rfl (by decide) rfl (by decide) ?_
    refine s_X10_echo_98 ?_
    refine s_X10_echo_100 hI rfl (by decide) (by decide) (by decide : (_ : Int32) = nI 48) (by decide) ?_
    refine s_X10_echo_101 ?_
    refine s_X10_echo_102 ?_
    rw [k2, ok1.1.1]
    refine s_X10_echo_103 hI (Nat.le_of_ble_eq_true rfl) (m_samp hI (q := 124) (t := zc (zecho z b t i)) (k := b) (Or.inl rfl) (by omega) hb.1 (by omega)) ?_
    intro h9 e9; rw [e9]; clear e9 h9
    refine s_X10_echo_106 ?_
    refine s_X10_echo_107 rfl ?_
    refine s_X10_echo_109 ?_
    refine s_X10_echo_110 ?_
    rw [k2]
    refine s_X10_echo_112 (fun hv => ?_) (fun hv => ?_)
    · refine s_X10_echo_128 ?_
      refine s_X10_echo_130 ?_
      refine s_X10_echo_132 (by decide) ?_
      exact fin _ (by unfold zev e10; rw [if_neg (Int32.not_lt.mpr hv)])
    · refine s_X10_echo_115 ?_
      refine s_X10_echo_117 ?_
      refine s_X10_echo_118 ?_
      refine s_X10_echo_120 ?_
      refine s_X10_echo_121 ?_
      refine s_X10_echo_123 (by decide) ?_
      refine s_X10_echo_124 ?_
      refine s_X10_echo_125 ?_
      exact fin _ (by unfold zev e10; rw [if_pos (Int32.not_le.mp hv)])
