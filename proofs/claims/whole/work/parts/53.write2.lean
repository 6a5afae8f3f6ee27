/-! ===== the class: what changes the state, and what it refuses ===== -/
theorem CS.so {hi : am_HI} {g : am_G} {z : Nat → Int32} {Z : Nat → Nat → Int32} {p : Nat} {Y : Nat → Nat → Int32} {c : Nat → Bool} {cd : Nat → Nat} {n : Nat} (hs : CS hi g z Z p Y c cd n) (ok : OKz z) : hi 2 3 = nI (zc z) := (hs.1.1.so ok).1
theorem frU {h : am_HI} {k j : Nat} {x : Int32} (hk : k ∈ nwS) : fr nwS h (am_up h k j x) := fr.rfl.up hk
theorem nwC {h h' : am_HI} (a : fr nwS h h') : frC h h' := frC.of a (fun k hk => (nwS_out k hk).2.2)

theorem x1_add {hi : am_HI} {g : am_G} (hI : am_Inv g) {z : Nat → Int32} {Z : Nat → Nat → Int32} {p : Nat} {Y : Nat → Nat → Int32} {c : Nat → Bool} {cd : Nat → Nat} {n : Nat} (hs : CS hi g z Z p Y c cd n) (ok : OKz z) {v : Int32} (h0 : wi v (-99) (99) = false) : am_Th M_X9_add [.ref 0, .int v] hi g am_x1 (fun h => h = hi) := by
  refine am_thn (by decide) (Nat.le_of_ble_eq_true rfl) (fun Φ hΦ => ?_)
  show AP M_X9_add _ 0 [.ref 0, .int v] [] _ g Φ
  refine s_X9_add_0 ?_
  refine s_X9_add_1 ?_
  refine s_X9_add_3 ?_
  refine s_X9_add_5 hI (Nat.le_of_ble_eq_true rfl) (c_isWithin v _ _) ?_
  intro h9 e9; rw [e9]; clear e9 h9
  rw [h0]
  exact tx_X9_add_8 hI (by decide) (by decide) (hΦ _ rfl)
theorem x2_add {hi : am_HI} {g : am_G} (hI : am_Inv g) {z : Nat → Int32} {Z : Nat → Nat → Int32} {p : Nat} {Y : Nat → Nat → Int32} {c : Nat → Bool} {cd : Nat → Nat} {n : Nat} (hs : CS hi g z Z p Y c cd n) (ok : OKz z) {v : Int32} (h0 : wi (v) (-99) (99) = true) (h1 : ¬ zc z < 48) : am_Th M_X9_add [.ref 0, .int (v)] hi g am_x2 (fun h => h = hi) := by
  refine am_thn (by decide) (Nat.le_of_ble_eq_true rfl) (fun Φ hΦ => ?_)
  show AP M_X9_add _ 0 [.ref 0, .int (v)] [] _ g Φ
  refine s_X9_add_0 ?_
  refine s_X9_add_1 ?_
  refine s_X9_add_3 ?_
  refine s_X9_add_5 hI (Nat.le_of_ble_eq_true rfl) (c_isWithin (v) _ _) ?_
  intro h9 e9; rw [e9]; clear e9 h9
  rw [h0]
  refine s_X9_add_8 hI (Nat.le_of_ble_eq_true rfl) (c_needA1) ?_
  intro h9 e9; rw [e9]; clear e9 h9
  refine s_X9_add_11 ?_
  refine s_X9_add_12 hI rfl (by decide) rfl (by decide) ?_
  refine s_X9_add_15 ?_
  refine s_X9_add_16 hI rfl (by decide) (Nat.le_of_ble_eq_true rfl) (c_hasRoom hI (m := 1) (hs.so ok) ok.1.2.1 (by decide)) ?_
  intro h9 e9; rw [e9]; clear e9 h9
  rw [decide_eq_false (by omega)]
  exact tx_X9_add_19 hI (by decide) (by decide) (hΦ _ rfl)
theorem w_add {hi : am_HI} {g : am_G} (hI : am_Inv g) {z : Nat → Int32} {Z : Nat → Nat → Int32} {p : Nat} {Y : Nat → Nat → Int32} {c : Nat → Bool} {cd : Nat → Nat} {n : Nat} (hs : CS hi g z Z p Y c cd n) (ok : OKz z) {v : Int32} (h0 : wi (v) (-99) (99) = true) (h1 : zc z < 48) : am_Cg M_X9_add [.ref 0, .int (v)] hi g (some (.int (nI (zc z)))) (fun h g' => frC hi h ∧ CS h g' (zput z v) (svZ Z p z) (svp p) Y c cd n) := by
  refine am_cgn (by decide) (Nat.le_of_ble_eq_true rfl) (fun Φ hΦ => ?_)
  show AP M_X9_add _ 0 [.ref 0, .int (v)] [] _ g Φ
  refine s_X9_add_0 ?_
  refine s_X9_add_1 ?_
  refine s_X9_add_3 ?_
  refine s_X9_add_5 hI (Nat.le_of_ble_eq_true rfl) (c_isWithin (v) _ _) ?_
  intro h9 e9; rw [e9]; clear e9 h9
  rw [h0]
  refine s_X9_add_8 hI (Nat.le_of_ble_eq_true rfl) (c_needA1) ?_
  intro h9 e9; rw [e9]; clear e9 h9
  refine s_X9_add_11 ?_
  refine s_X9_add_12 hI rfl (by decide) rfl (by decide) ?_
  refine s_X9_add_15 ?_
  refine s_X9_add_16 hI rfl (by decide) (Nat.le_of_ble_eq_true rfl) (c_hasRoom hI (m := 1) (hs.so ok) ok.1.2.1 (by decide)) ?_
  intro h9 e9; rw [e9]; clear e9 h9
  rw [decide_eq_true (by omega)]
  refine s_X9_add_19 hI (Nat.le_of_ble_eq_true rfl) (c_needP1) ?_
  intro h9 e9; rw [e9]; clear e9 h9
  refine s_X9_add_22 ?_
  refine s_X9_add_23 hI rfl (by decide) rfl (by decide) ?_
  refine s_X9_add_26 ?_
  refine s_X9_add_27 hI rfl (by decide) rfl (by decide) ?_
  refine sg_X9_add_30 hI rfl (by decide) (Nat.le_of_ble_eq_true rfl) (c_save hI hs.2.1 hs.1) ?_
  intro h5 g5 hI5 ⟨f5, s5⟩
  refine s_X9_add_33 ?_
  refine s_X9_add_34 hI5 rfl (by decide) rfl (by decide) ?_
  refine s_X9_add_37 ?_
  have cs5 : CS h5 g5 z _ _ Y c cd n := hs.sv f5 s5
  refine s_X9_add_38 hI5 rfl (by decide) (Nat.le_of_ble_eq_true rfl) (c_put hI5 (c := zc z) (v := v) (cs5.so ok) h1) ?_
  intro h9 e9; rw [e9]; clear e9 h9
  refine s_X9_add_41 ?_
  refine s_X9_add_42 hI5 rfl (by decide) rfl (by decide) ?_
  refine s_X9_add_45 hI5 rfl (by decide) ?_
  refine s_X9_add_48 ?_
  refine s_X9_add_49 ?_
  rw [up_c, up_f, nI_i1]
  exact s_X9_add_50 (hΦ _ _ hI5 (⟨f5.C.tr (nwC ((frU (by decide)).N (by decide))), cs5.mvN ((frU (by decide)).N (by decide)) (cs5.1.put h1)⟩))
theorem x1_change {hi : am_HI} {g : am_G} (hI : am_Inv g) {z : Nat → Int32} {Z : Nat → Nat → Int32} {p : Nat} {Y : Nat → Nat → Int32} {c : Nat → Bool} {cd : Nat → Nat} {n : Nat} (hs : CS hi g z Z p Y c cd n) (ok : OKz z) {x v : Int32} (h0 : wi x (0) (z 48 - 1) = false) : am_Th M_X9_change [.ref 0, .int x, .int v] hi g am_x0 (fun h => h = hi) := by
  refine am_thn (by decide) (Nat.le_of_ble_eq_true rfl) (fun Φ hΦ => ?_)
  show AP M_X9_change _ 0 [.ref 0, .int x, .int v, jk] [] _ g Φ
  refine s_X9_change_0 ?_
  refine s_X9_change_1 ?_
  refine s_X9_change_2 ?_
  refine s_X9_change_3 hI rfl (by decide) rfl (by decide) ?_
  refine s_X9_change_6 hI rfl (by decide) ?_
  refine s_X9_change_9 ?_
  refine s_X9_change_10 ?_
  rw [hs.1.1.2.1]
  refine s_X9_change_11 hI (Nat.le_of_ble_eq_true rfl) (c_isWithin x _ _) ?_
  intro h9 e9; rw [e9]; clear e9 h9
  rw [h0]
  exact tx_X9_change_14 hI (by decide) (by decide) (hΦ _ rfl)
theorem x2_change {hi : am_HI} {g : am_G} (hI : am_Inv g) {z : Nat → Int32} {Z : Nat → Nat → Int32} {p : Nat} {Y : Nat → Nat → Int32} {c : Nat → Bool} {cd : Nat → Nat} {n : Nat} (hs : CS hi g z Z p Y c cd n) (ok : OKz z) {x v : Int32} (h0 : wi x (0) (z 48 - 1) = true) (h1 : wi v (-99) (99) = false) : am_Th M_X9_change [.ref 0, .int x, .int v] hi g am_x1 (fun h => h = hi) := by
  refine am_thn (by decide) (Nat.le_of_ble_eq_true rfl) (fun Φ hΦ => ?_)
  show AP M_X9_change _ 0 [.ref 0, .int x, .int v, jk] [] _ g Φ
  refine s_X9_change_0 ?_
  refine s_X9_change_1 ?_
  refine s_X9_change_2 ?_
  refine s_X9_change_3 hI rfl (by decide) rfl (by decide) ?_
  refine s_X9_change_6 hI rfl (by decide) ?_
  refine s_X9_change_9 ?_
  refine s_X9_change_10 ?_
  rw [hs.1.1.2.1]
  refine s_X9_change_11 hI (Nat.le_of_ble_eq_true rfl) (c_isWithin x _ _) ?_
  intro h9 e9; rw [e9]; clear e9 h9
  rw [h0]
  refine s_X9_change_14 hI (Nat.le_of_ble_eq_true rfl) (c_needI1) ?_
  intro h9 e9; rw [e9]; clear e9 h9
  refine s_X9_change_17 ?_
  refine s_X9_change_18 ?_
  refine s_X9_change_20 ?_
  refine s_X9_change_22 hI (Nat.le_of_ble_eq_true rfl) (c_isWithin v _ _) ?_
  intro h9 e9; rw [e9]; clear e9 h9
  rw [h1]
  exact tx_X9_change_25 hI (by decide) (by decide) (hΦ _ rfl)
theorem w_change {hi : am_HI} {g : am_G} (hI : am_Inv g) {z : Nat → Int32} {Z : Nat → Nat → Int32} {p : Nat} {Y : Nat → Nat → Int32} {c : Nat → Bool} {cd : Nat → Nat} {n : Nat} (hs : CS hi g z Z p Y c cd n) (ok : OKz z) {t : Nat} {v : Int32} (ht : t < zc z) (h0 : wi (nI t) (0) (z 48 - 1) = true) (h1 : wi (v) (-99) (99) = true) : am_Cg M_X9_change [.ref 0, .int (nI t), .int (v)] hi g (some (.int (z t))) (fun h g' => frC hi h ∧ CS h g' (upd z t v) (svZ Z p z) (svp p) Y c cd n) := by
  refine am_cgn (by decide) (Nat.le_of_ble_eq_true rfl) (fun Φ hΦ => ?_)
  show AP M_X9_change _ 0 [.ref 0, .int (nI t), .int (v), jk] [] _ g Φ
  refine s_X9_change_0 ?_
  refine s_X9_change_1 ?_
  refine s_X9_change_2 ?_
  refine s_X9_change_3 hI rfl (by decide) rfl (by decide) ?_
  refine s_X9_change_6 hI rfl (by decide) ?_
  refine s_X9_change_9 ?_
  refine s_X9_change_10 ?_
  rw [hs.1.1.2.1]
  refine s_X9_change_11 hI (Nat.le_of_ble_eq_true rfl) (c_isWithin (nI t) _ _) ?_
  intro h9 e9; rw [e9]; clear e9 h9
  rw [h0]
  refine s_X9_change_14 hI (Nat.le_of_ble_eq_true rfl) (c_needI1) ?_
  intro h9 e9; rw [e9]; clear e9 h9
  refine s_X9_change_17 ?_
  refine s_X9_change_18 ?_
  refine s_X9_change_20 ?_
  refine s_X9_change_22 hI (Nat.le_of_ble_eq_true rfl) (c_isWithin (v) _ _) ?_
  intro h9 e9; rw [e9]; clear e9 h9
  rw [h1]
  refine s_X9_change_25 hI (Nat.le_of_ble_eq_true rfl) (c_needA1) ?_
  intro h9 e9; rw [e9]; clear e9 h9
  refine s_X9_change_28 ?_
  refine s_X9_change_29 hI rfl (by decide) rfl (by decide) ?_
  refine s_X9_change_32 ?_
  refine s_X9_change_33 hI rfl (by decide) rfl (by decide) ?_
  refine sg_X9_change_36 hI rfl (by decide) (Nat.le_of_ble_eq_true rfl) (c_save hI hs.2.1 hs.1) ?_
  intro h5 g5 hI5 ⟨f5, s5⟩
  refine s_X9_change_39 ?_
  refine s_X9_change_40 hI5 rfl (by decide) rfl (by decide) ?_
  refine s_X9_change_43 ?_
  have cs5 : CS h5 g5 z _ _ Y c cd n := hs.sv f5 s5
  refine s_X9_change_44 hI5 rfl (by decide) (Nat.le_of_ble_eq_true rfl) (c_soundAt hI5 (z := z) (t := t) (c := zc z) cs5.1.1.1 (cs5.so ok) ok.1.2.1 (by have := ok.1.2.1; omega)) ?_
  intro h9 e9; rw [e9]; clear e9 h9
  refine s_X9_change_47 rfl ?_
  refine s_X9_change_48 ?_
  refine s_X9_change_49 hI5 rfl (by decide) rfl (by decide) ?_
  refine s_X9_change_52 hI5 rfl (by decide) rfl (by decide) ?_
  refine s_X9_change_55 ?_
  refine s_X9_change_56 ?_
  rw [if_pos ht]
  refine s_X9_change_57 hI5 rfl (by decide) (by decide) (rfl) (by have := ok.1.2.1; omega) ?_
  refine s_X9_change_58 ?_
  exact s_X9_change_59 (hΦ _ _ hI5 (⟨f5.C.tr (nwC (frU (by decide))), cs5.mvN (frU (by decide)) (cs5.1.up (by have := ok.1.2.1; omega) (fun k i j q => by have := ok.1.2.1; unfold cmR at q; omega))⟩))
theorem x1_drop {hi : am_HI} {g : am_G} (hI : am_Inv g) {z : Nat → Int32} {Z : Nat → Nat → Int32} {p : Nat} {Y : Nat → Nat → Int32} {c : Nat → Bool} {cd : Nat → Nat} {n : Nat} (hs : CS hi g z Z p Y c cd n) (ok : OKz z) (h0 : ¬ 0 < zc z) : am_Th M_X9_drop [.ref 0] hi g am_x2 (fun h => h = hi) := by
  refine am_thn (by decide) (Nat.le_of_ble_eq_true rfl) (fun Φ hΦ => ?_)
  show AP M_X9_drop _ 0 [.ref 0] [] _ g Φ
  refine s_X9_drop_0 ?_
  refine s_X9_drop_1 hI rfl (by decide) rfl (by decide) ?_
  refine s_X9_drop_4 hI rfl (by decide) ?_
  rw [hs.so ok, show zc z = 0 by omega]
  refine s_X9_drop_7 (fun _ => ?_) (fun h => absurd (by decide) h)
  refine s_X9_drop_14 ?_
  exact tx_X9_drop_15 hI (by decide) (by decide) (hΦ _ rfl)
theorem w_drop {hi : am_HI} {g : am_G} (hI : am_Inv g) {z : Nat → Int32} {Z : Nat → Nat → Int32} {p : Nat} {Y : Nat → Nat → Int32} {c : Nat → Bool} {cd : Nat → Nat} {n : Nat} (hs : CS hi g z Z p Y c cd n) (ok : OKz z)  (h0 : 0 < zc z) : am_Cg M_X9_drop [.ref 0] hi g (some (.int (z (zc z - 1)))) (fun h g' => frC hi h ∧ CS h g' (upd z 48 (nI (zc z - 1))) (svZ Z p z) (svp p) Y c cd n) := by
  refine am_cgn (by decide) (Nat.le_of_ble_eq_true rfl) (fun Φ hΦ => ?_)
  show AP M_X9_drop _ 0 [.ref 0] [] _ g Φ
  refine s_X9_drop_0 ?_
  refine s_X9_drop_1 hI rfl (by decide) rfl (by decide) ?_
  refine s_X9_drop_4 hI rfl (by decide) ?_
  rw [hs.so ok]
  refine s_X9_drop_7 (fun h => absurd h (nI_nle (n := zc z) h0 (by have := ok.1.2.1; omega))) (fun _ => ?_)
  refine s_X9_drop_10 ?_
  refine s_X9_drop_11 ?_
  refine s_X9_drop_15 hI (Nat.le_of_ble_eq_true rfl) (c_needP1) ?_
  intro h9 e9; rw [e9]; clear e9 h9
  refine s_X9_drop_18 ?_
  refine s_X9_drop_19 hI rfl (by decide) rfl (by decide) ?_
  refine s_X9_drop_22 ?_
  refine s_X9_drop_23 hI rfl (by decide) rfl (by decide) ?_
  refine sg_X9_drop_26 hI rfl (by decide) (Nat.le_of_ble_eq_true rfl) (c_save hI hs.2.1 hs.1) ?_
  intro h5 g5 hI5 ⟨f5, s5⟩
  refine s_X9_drop_29 ?_
  refine s_X9_drop_30 hI5 rfl (by decide) rfl (by decide) ?_
  refine s_X9_drop_33 rfl ?_
  refine s_X9_drop_34 hI5 rfl (by decide) ?_
  refine s_X9_drop_37 ?_
  refine s_X9_drop_38 ?_
  refine s_X9_drop_39 hI5 rfl (by decide) ?_
  refine s_X9_drop_42 ?_
  refine s_X9_drop_43 hI5 rfl (by decide) rfl (by decide) ?_
  refine s_X9_drop_46 hI5 rfl (by decide) rfl (by decide) ?_
  refine s_X9_drop_49 ?_
  refine s_X9_drop_50 hI5 rfl (by decide) rfl (by decide) ?_
  refine s_X9_drop_53 hI5 rfl (by decide) ?_
  have cs5 : CS h5 g5 z _ _ Y c cd n := hs.sv f5 s5
  have h48 := ok.1.2.1
  rw [cs5.so ok, show nI (zc z) - 1 = nI (zc z - 1) by rw [show zc z = (zc z - 1) + 1 by omega, nI_i1]; rfl]
  refine s_X9_drop_56 hI5 rfl (by decide) (by decide) (by (rw [up_c, up_f])) (by omega) ?_
  rw [up_k (by decide), cs5.1.1.1 (zc z - 1) (by omega)]
  exact s_X9_drop_57 (hΦ _ _ hI5 (⟨f5.C.tr (nwC (frU (by decide))), cs5.mvN (frU (by decide)) (cs5.1.up (by omega) (fun k i j q => by unfold cmR at q; omega))⟩))
theorem w_empty {hi : am_HI} {g : am_G} (hI : am_Inv g) {z : Nat → Int32} {Z : Nat → Nat → Int32} {p : Nat} {Y : Nat → Nat → Int32} {c : Nat → Bool} {cd : Nat → Nat} {n : Nat} (hs : CS hi g z Z p Y c cd n) (ok : OKz z)  : am_Cg M_X9_empty [.ref 0] hi g (some (.int (nI (zc z)))) (fun h g' => frC hi h ∧ CS h g' (upd z 48 (nI 0)) (svZ Z p z) (svp p) Y c cd n) := by
  refine am_cgn (by decide) (Nat.le_of_ble_eq_true rfl) (fun Φ hΦ => ?_)
  show AP M_X9_empty _ 0 [.ref 0, jk] [] _ g Φ
  refine s_X9_empty_0 ?_
  refine s_X9_empty_1 hI rfl (by decide) rfl (by decide) ?_
  refine s_X9_empty_4 ?_
  refine s_X9_empty_5 hI rfl (by decide) rfl (by decide) ?_
  refine sg_X9_empty_8 hI rfl (by decide) (Nat.le_of_ble_eq_true rfl) (c_save hI hs.2.1 hs.1) ?_
  intro h5 g5 hI5 ⟨f5, s5⟩
  refine s_X9_empty_11 ?_
  refine s_X9_empty_12 hI5 rfl (by decide) rfl (by decide) ?_
  refine s_X9_empty_15 hI5 rfl (by decide) ?_
  refine s_X9_empty_18 rfl ?_
  refine s_X9_empty_19 ?_
  refine s_X9_empty_20 hI5 rfl (by decide) rfl (by decide) ?_
  refine s_X9_empty_23 ?_
  refine s_X9_empty_24 hI5 rfl (by decide) ?_
  refine s_X9_empty_27 ?_
  have cs5 : CS h5 g5 z _ _ Y c cd n := hs.sv f5 s5
  rw [cs5.so ok]
  exact s_X9_empty_28 (hΦ _ _ hI5 (⟨f5.C.tr (nwC (frU (by decide))), cs5.mvN (frU (by decide)) (cs5.1.up (by omega) (fun k i j q => by unfold cmR at q; omega))⟩))
theorem x1_setDelay {hi : am_HI} {g : am_G} (hI : am_Inv g) {z : Nat → Int32} {Z : Nat → Nat → Int32} {p : Nat} {Y : Nat → Nat → Int32} {c : Nat → Bool} {cd : Nat → Nat} {n : Nat} (hs : CS hi g z Z p Y c cd n) (ok : OKz z) {v : Int32} (h0 : wi v (1) (12) = false) : am_Th M_X9_setDelay [.ref 0, .int v] hi g am_x1 (fun h => h = hi) := by
  refine am_thn (by decide) (Nat.le_of_ble_eq_true rfl) (fun Φ hΦ => ?_)
  show AP M_X9_setDelay _ 0 [.ref 0, .int v, jk] [] _ g Φ
  refine s_X9_setDelay_0 ?_
  refine s_X9_setDelay_1 ?_
  refine s_X9_setDelay_2 ?_
  refine s_X9_setDelay_4 hI (Nat.le_of_ble_eq_true rfl) (c_isWithin v _ _) ?_
  intro h9 e9; rw [e9]; clear e9 h9
  rw [h0]
  exact tx_X9_setDelay_7 hI (by decide) (by decide) (hΦ _ rfl)
theorem w_setDelay {hi : am_HI} {g : am_G} (hI : am_Inv g) {z : Nat → Int32} {Z : Nat → Nat → Int32} {p : Nat} {Y : Nat → Nat → Int32} {c : Nat → Bool} {cd : Nat → Nat} {n : Nat} (hs : CS hi g z Z p Y c cd n) (ok : OKz z) {v : Int32} (h0 : wi (v) (1) (12) = true) : am_Cg M_X9_setDelay [.ref 0, .int (v)] hi g (some (.int (z 49))) (fun h g' => frC hi h ∧ CS h g' (upd z 49 v) (svZ Z p z) (svp p) Y c cd n) := by
  refine am_cgn (by decide) (Nat.le_of_ble_eq_true rfl) (fun Φ hΦ => ?_)
  show AP M_X9_setDelay _ 0 [.ref 0, .int (v), jk] [] _ g Φ
  refine s_X9_setDelay_0 ?_
  refine s_X9_setDelay_1 ?_
  refine s_X9_setDelay_2 ?_
  refine s_X9_setDelay_4 hI (Nat.le_of_ble_eq_true rfl) (c_isWithin (v) _ _) ?_
  intro h9 e9; rw [e9]; clear e9 h9
  rw [h0]
  refine s_X9_setDelay_7 hI (Nat.le_of_ble_eq_true rfl) (c_needA1) ?_
  intro h9 e9; rw [e9]; clear e9 h9
  refine s_X9_setDelay_10 ?_
  refine s_X9_setDelay_11 hI rfl (by decide) rfl (by decide) ?_
  refine s_X9_setDelay_14 ?_
  refine s_X9_setDelay_15 hI rfl (by decide) rfl (by decide) ?_
  refine sg_X9_setDelay_18 hI rfl (by decide) (Nat.le_of_ble_eq_true rfl) (c_save hI hs.2.1 hs.1) ?_
  intro h5 g5 hI5 ⟨f5, s5⟩
  refine s_X9_setDelay_21 ?_
  refine s_X9_setDelay_22 hI5 rfl (by decide) rfl (by decide) ?_
  refine s_X9_setDelay_25 hI5 rfl (by decide) ?_
  refine s_X9_setDelay_28 rfl ?_
  refine s_X9_setDelay_29 ?_
  refine s_X9_setDelay_30 hI5 rfl (by decide) rfl (by decide) ?_
  refine s_X9_setDelay_33 ?_
  refine s_X9_setDelay_34 hI5 rfl (by decide) ?_
  refine s_X9_setDelay_37 ?_
  have cs5 : CS h5 g5 z _ _ Y c cd n := hs.sv f5 s5
  rw [cs5.1.1.2.2.1]
  exact s_X9_setDelay_38 (hΦ _ _ hI5 (⟨f5.C.tr (nwC (frU (by decide))), cs5.mvN (frU (by decide)) (cs5.1.up (by omega) (fun k i j q => by unfold cmR at q; omega))⟩))
theorem x1_setSpeed {hi : am_HI} {g : am_G} (hI : am_Inv g) {z : Nat → Int32} {Z : Nat → Nat → Int32} {p : Nat} {Y : Nat → Nat → Int32} {c : Nat → Bool} {cd : Nat → Nat} {n : Nat} (hs : CS hi g z Z p Y c cd n) (ok : OKz z) {v : Int32} (h0 : wi v (0) (3) = false) : am_Th M_X9_setSpeed [.ref 0, .int v] hi g am_x1 (fun h => h = hi) := by
  refine am_thn (by decide) (Nat.le_of_ble_eq_true rfl) (fun Φ hΦ => ?_)
  show AP M_X9_setSpeed _ 0 [.ref 0, .int v, jk] [] _ g Φ
  refine s_X9_setSpeed_0 ?_
  refine s_X9_setSpeed_1 ?_
  refine s_X9_setSpeed_2 ?_
  refine s_X9_setSpeed_3 hI (Nat.le_of_ble_eq_true rfl) (c_isWithin v _ _) ?_
  intro h9 e9; rw [e9]; clear e9 h9
  rw [h0]
  exact tx_X9_setSpeed_6 hI (by decide) (by decide) (hΦ _ rfl)
theorem w_setSpeed {hi : am_HI} {g : am_G} (hI : am_Inv g) {z : Nat → Int32} {Z : Nat → Nat → Int32} {p : Nat} {Y : Nat → Nat → Int32} {c : Nat → Bool} {cd : Nat → Nat} {n : Nat} (hs : CS hi g z Z p Y c cd n) (ok : OKz z) {v : Int32} (h0 : wi (v) (0) (3) = true) : am_Cg M_X9_setSpeed [.ref 0, .int (v)] hi g (some (.int (z 50))) (fun h g' => frC hi h ∧ CS h g' (upd z 50 v) (svZ Z p z) (svp p) Y c cd n) := by
  refine am_cgn (by decide) (Nat.le_of_ble_eq_true rfl) (fun Φ hΦ => ?_)
  show AP M_X9_setSpeed _ 0 [.ref 0, .int (v), jk] [] _ g Φ
  refine s_X9_setSpeed_0 ?_
  refine s_X9_setSpeed_1 ?_
  refine s_X9_setSpeed_2 ?_
  refine s_X9_setSpeed_3 hI (Nat.le_of_ble_eq_true rfl) (c_isWithin (v) _ _) ?_
  intro h9 e9; rw [e9]; clear e9 h9
  rw [h0]
  refine s_X9_setSpeed_6 hI (Nat.le_of_ble_eq_true rfl) (c_needA1) ?_
  intro h9 e9; rw [e9]; clear e9 h9
  refine s_X9_setSpeed_9 ?_
  refine s_X9_setSpeed_10 hI rfl (by decide) rfl (by decide) ?_
  refine s_X9_setSpeed_13 ?_
  refine s_X9_setSpeed_14 hI rfl (by decide) rfl (by decide) ?_
  refine sg_X9_setSpeed_17 hI rfl (by decide) (Nat.le_of_ble_eq_true rfl) (c_save hI hs.2.1 hs.1) ?_
  intro h5 g5 hI5 ⟨f5, s5⟩
  refine s_X9_setSpeed_20 ?_
  refine s_X9_setSpeed_21 hI5 rfl (by decide) rfl (by decide) ?_
  refine s_X9_setSpeed_24 hI5 rfl (by decide) ?_
  refine s_X9_setSpeed_27 rfl ?_
  refine s_X9_setSpeed_28 ?_
  refine s_X9_setSpeed_29 hI5 rfl (by decide) rfl (by decide) ?_
  refine s_X9_setSpeed_32 ?_
  refine s_X9_setSpeed_33 hI5 rfl (by decide) ?_
  refine s_X9_setSpeed_36 ?_
  have cs5 : CS h5 g5 z _ _ Y c cd n := hs.sv f5 s5
  rw [cs5.1.1.2.2.2.1]
  exact s_X9_setSpeed_37 (hΦ _ _ hI5 (⟨f5.C.tr (nwC (frU (by decide))), cs5.mvN (frU (by decide)) (cs5.1.up (by omega) (fun k i j q => by unfold cmR at q; omega))⟩))
theorem x1_setWeight {hi : am_HI} {g : am_G} (hI : am_Inv g) {z : Nat → Int32} {Z : Nat → Nat → Int32} {p : Nat} {Y : Nat → Nat → Int32} {c : Nat → Bool} {cd : Nat → Nat} {n : Nat} (hs : CS hi g z Z p Y c cd n) (ok : OKz z) {w v : Int32} (h0 : wi w (1) (4) = false) : am_Th M_X9_setWeight [.ref 0, .int w, .int v] hi g am_x1 (fun h => h = hi) := by
  refine am_thn (by decide) (Nat.le_of_ble_eq_true rfl) (fun Φ hΦ => ?_)
  show AP M_X9_setWeight _ 0 [.ref 0, .int w, .int v, jk] [] _ g Φ
  refine s_X9_setWeight_0 ?_
  refine s_X9_setWeight_1 ?_
  refine s_X9_setWeight_2 ?_
  refine s_X9_setWeight_3 hI (Nat.le_of_ble_eq_true rfl) (c_isWithin w _ _) ?_
  intro h9 e9; rw [e9]; clear e9 h9
  rw [h0]
  exact tx_X9_setWeight_6 hI (by decide) (by decide) (hΦ _ rfl)
theorem x2_setWeight {hi : am_HI} {g : am_G} (hI : am_Inv g) {z : Nat → Int32} {Z : Nat → Nat → Int32} {p : Nat} {Y : Nat → Nat → Int32} {c : Nat → Bool} {cd : Nat → Nat} {n : Nat} (hs : CS hi g z Z p Y c cd n) (ok : OKz z) {w v : Int32} (h0 : wi w (1) (4) = true) (h1 : wi v (-64) (64) = false) : am_Th M_X9_setWeight [.ref 0, .int w, .int v] hi g am_x1 (fun h => h = hi) := by
  refine am_thn (by decide) (Nat.le_of_ble_eq_true rfl) (fun Φ hΦ => ?_)
  show AP M_X9_setWeight _ 0 [.ref 0, .int w, .int v, jk] [] _ g Φ
  refine s_X9_setWeight_0 ?_
  refine s_X9_setWeight_1 ?_
  refine s_X9_setWeight_2 ?_
  refine s_X9_setWeight_3 hI (Nat.le_of_ble_eq_true rfl) (c_isWithin w _ _) ?_
  intro h9 e9; rw [e9]; clear e9 h9
  rw [h0]
  refine s_X9_setWeight_6 hI (Nat.le_of_ble_eq_true rfl) (c_needA1) ?_
  intro h9 e9; rw [e9]; clear e9 h9
  refine s_X9_setWeight_9 ?_
  refine s_X9_setWeight_10 ?_
  refine s_X9_setWeight_12 ?_
  refine s_X9_setWeight_14 hI (Nat.le_of_ble_eq_true rfl) (c_isWithin v _ _) ?_
  intro h9 e9; rw [e9]; clear e9 h9
  rw [h1]
  exact tx_X9_setWeight_17 hI (by decide) (by decide) (hΦ _ rfl)
theorem w_setWeight {hi : am_HI} {g : am_G} (hI : am_Inv g) {z : Nat → Int32} {Z : Nat → Nat → Int32} {p : Nat} {Y : Nat → Nat → Int32} {c : Nat → Bool} {cd : Nat → Nat} {n : Nat} (hs : CS hi g z Z p Y c cd n) (ok : OKz z) {k : Nat} {v : Int32} (hk : k < 4) (h0 : wi (nI (k + 1)) (1) (4) = true) (h1 : wi (v) (-64) (64) = true) : am_Cg M_X9_setWeight [.ref 0, .int (nI (k + 1)), .int (v)] hi g (some (.int (z (51 + k)))) (fun h g' => frC hi h ∧ CS h g' (upd z (51 + k) v) (svZ Z p z) (svp p) Y c cd n) := by
  refine am_cgn (by decide) (Nat.le_of_ble_eq_true rfl) (fun Φ hΦ => ?_)
  show AP M_X9_setWeight _ 0 [.ref 0, .int (nI (k + 1)), .int (v), jk] [] _ g Φ
  refine s_X9_setWeight_0 ?_
  refine s_X9_setWeight_1 ?_
  refine s_X9_setWeight_2 ?_
  refine s_X9_setWeight_3 hI (Nat.le_of_ble_eq_true rfl) (c_isWithin (nI (k + 1)) _ _) ?_
  intro h9 e9; rw [e9]; clear e9 h9
  rw [h0]
  refine s_X9_setWeight_6 hI (Nat.le_of_ble_eq_true rfl) (c_needA1) ?_
  intro h9 e9; rw [e9]; clear e9 h9
  refine s_X9_setWeight_9 ?_
  refine s_X9_setWeight_10 ?_
  refine s_X9_setWeight_12 ?_
  refine s_X9_setWeight_14 hI (Nat.le_of_ble_eq_true rfl) (c_isWithin (v) _ _) ?_
  intro h9 e9; rw [e9]; clear e9 h9
  rw [h1]
  refine s_X9_setWeight_17 hI (Nat.le_of_ble_eq_true rfl) (c_needA1) ?_
  intro h9 e9; rw [e9]; clear e9 h9
  refine s_X9_setWeight_20 ?_
  refine s_X9_setWeight_21 hI rfl (by decide) rfl (by decide) ?_
  refine s_X9_setWeight_24 ?_
  refine s_X9_setWeight_25 hI rfl (by decide) rfl (by decide) ?_
  refine sg_X9_setWeight_28 hI rfl (by decide) (Nat.le_of_ble_eq_true rfl) (c_save hI hs.2.1 hs.1) ?_
  intro h5 g5 hI5 ⟨f5, s5⟩
  refine s_X9_setWeight_31 ?_
  refine s_X9_setWeight_32 hI5 rfl (by decide) rfl (by decide) ?_
  refine s_X9_setWeight_35 hI5 rfl (by decide) rfl (by decide) ?_
  refine s_X9_setWeight_38 ?_
  refine s_X9_setWeight_39 ?_
  refine s_X9_setWeight_40 ?_
  have cs5 : CS h5 g5 z _ _ Y c cd n := hs.sv f5 s5
  refine s_X9_setWeight_41 hI5 rfl (by decide) (by decide) (nI_i1 k) (hk) ?_
  refine s_X9_setWeight_42 rfl ?_
  refine s_X9_setWeight_43 ?_
  refine s_X9_setWeight_44 hI5 rfl (by decide) rfl (by decide) ?_
  refine s_X9_setWeight_47 hI5 rfl (by decide) rfl (by decide) ?_
  refine s_X9_setWeight_50 ?_
  refine s_X9_setWeight_51 ?_
  refine s_X9_setWeight_52 ?_
  refine s_X9_setWeight_53 ?_
  rw [cs5.1.1.2.2.2.2.1 k hk]
  refine s_X9_setWeight_54 hI5 rfl (by decide) (by decide) (nI_i1 k) (hk) ?_
  refine s_X9_setWeight_55 ?_
  exact s_X9_setWeight_56 (hΦ _ _ hI5 (⟨f5.C.tr (nwC (frU (by decide))), cs5.mvN (frU (by decide)) (cs5.1.up (by omega) (fun k i j q => by unfold cmR at q; omega))⟩))
theorem x1_turnKind {hi : am_HI} {g : am_G} (hI : am_Inv g) {z : Nat → Int32} {Z : Nat → Nat → Int32} {p : Nat} {Y : Nat → Nat → Int32} {c : Nat → Bool} {cd : Nat → Nat} {n : Nat} (hs : CS hi g z Z p Y c cd n) (ok : OKz z) {w : Int32} (h0 : wi w 0 4 = false) : am_Th M_X9_turnKind [.ref 0, .int w] hi g am_x1 (fun h => h = hi) := by
  refine am_thn (by decide) (Nat.le_of_ble_eq_true rfl) (fun Φ hΦ => ?_)
  show AP M_X9_turnKind _ 0 [.ref 0, .int w] [] _ g Φ
  refine s_X9_turnKind_0 ?_
  refine s_X9_turnKind_1 hI (Nat.le_of_ble_eq_true rfl) (c_isKind hI w) ?_
  intro h9 e9; rw [e9]; clear e9 h9
  rw [h0]
  exact tx_X9_turnKind_4 hI (by decide) (by decide) (hΦ _ rfl)
theorem x2_turnKind {hi : am_HI} {g : am_G} (hI : am_Inv g) {z : Nat → Int32} {Z : Nat → Nat → Int32} {p : Nat} {Y : Nat → Nat → Int32} {c : Nat → Bool} {cd : Nat → Nat} {n : Nat} (hs : CS hi g z Z p Y c cd n) (ok : OKz z) {k : Nat} (h0 : wi (nI k) 0 4 = true) (h1 : ¬ ¬ z 55 = 1 <<< (nI k &&& 31)) : am_Th M_X9_turnKind [.ref 0, .int (nI k)] hi g am_x2 (fun h => h = hi) := by
  refine am_thn (by decide) (Nat.le_of_ble_eq_true rfl) (fun Φ hΦ => ?_)
  show AP M_X9_turnKind _ 0 [.ref 0, .int (nI k)] [] _ g Φ
  refine s_X9_turnKind_0 ?_
  refine s_X9_turnKind_1 hI (Nat.le_of_ble_eq_true rfl) (c_isKind hI (nI k)) ?_
  intro h9 e9; rw [e9]; clear e9 h9
  rw [h0]
  refine s_X9_turnKind_4 hI (Nat.le_of_ble_eq_true rfl) (c_needA1) ?_
  intro h9 e9; rw [e9]; clear e9 h9
  refine s_X9_turnKind_7 ?_
  refine s_X9_turnKind_8 hI rfl (by decide) rfl (by decide) ?_
  refine s_X9_turnKind_11 ?_
  refine s_X9_turnKind_12 hI rfl (by decide) (Nat.le_of_ble_eq_true rfl) (c_canTurn hI _) ?_
  intro h9 e9; rw [e9]; clear e9 h9
  rw [hs.1.1.2.2.2.2.2, decide_eq_false h1]
  exact tx_X9_turnKind_15 hI (by decide) (by decide) (hΦ _ rfl)
theorem w_turnKind {hi : am_HI} {g : am_G} (hI : am_Inv g) {z : Nat → Int32} {Z : Nat → Nat → Int32} {p : Nat} {Y : Nat → Nat → Int32} {c : Nat → Bool} {cd : Nat → Nat} {n : Nat} (hs : CS hi g z Z p Y c cd n) (ok : OKz z) {k : Nat} (h0 : wi (nI k) 0 4 = true) (h1 : ¬ z 55 = 1 <<< (nI k &&& 31)) : am_Cg M_X9_turnKind [.ref 0, .int (nI k)] hi g (some (.int (bI (alI (z 55 ^^^ 1 <<< (nI k &&& 31)) (nI k))))) (fun h g' => frC hi h ∧ CS h g' (upd z 55 (z 55 ^^^ 1 <<< (nI k &&& 31))) (svZ Z p z) (svp p) Y c cd n) := by
  refine am_cgn (by decide) (Nat.le_of_ble_eq_true rfl) (fun Φ hΦ => ?_)
  show AP M_X9_turnKind _ 0 [.ref 0, .int (nI k)] [] _ g Φ
  refine s_X9_turnKind_0 ?_
  refine s_X9_turnKind_1 hI (Nat.le_of_ble_eq_true rfl) (c_isKind hI (nI k)) ?_
  intro h9 e9; rw [e9]; clear e9 h9
  rw [h0]
  refine s_X9_turnKind_4 hI (Nat.le_of_ble_eq_true rfl) (c_needA1) ?_
  intro h9 e9; rw [e9]; clear e9 h9
  refine s_X9_turnKind_7 ?_
  refine s_X9_turnKind_8 hI rfl (by decide) rfl (by decide) ?_
  refine s_X9_turnKind_11 ?_
  refine s_X9_turnKind_12 hI rfl (by decide) (Nat.le_of_ble_eq_true rfl) (c_canTurn hI _) ?_
  intro h9 e9; rw [e9]; clear e9 h9
  rw [hs.1.1.2.2.2.2.2, decide_eq_true h1]
  refine s_X9_turnKind_15 hI (Nat.le_of_ble_eq_true rfl) (c_needP1) ?_
  intro h9 e9; rw [e9]; clear e9 h9
  refine s_X9_turnKind_18 ?_
  refine s_X9_turnKind_19 hI rfl (by decide) rfl (by decide) ?_
  refine s_X9_turnKind_22 ?_
  refine s_X9_turnKind_23 hI rfl (by decide) rfl (by decide) ?_
  refine sg_X9_turnKind_26 hI rfl (by decide) (Nat.le_of_ble_eq_true rfl) (c_save hI hs.2.1 hs.1) ?_
  intro h5 g5 hI5 ⟨f5, s5⟩
  refine s_X9_turnKind_29 ?_
  refine s_X9_turnKind_30 hI5 rfl (by decide) rfl (by decide) ?_
  refine s_X9_turnKind_33 ?_
  have cs5 : CS h5 g5 z _ _ Y c cd n := hs.sv f5 s5
  refine s_X9_turnKind_34 hI5 rfl (by decide) (Nat.le_of_ble_eq_true rfl) (c_turn hI5 _) ?_
  intro h9 e9; rw [e9]; clear e9 h9
  refine s_X9_turnKind_37 ?_
  refine s_X9_turnKind_38 hI5 rfl (by decide) rfl (by decide) ?_
  refine s_X9_turnKind_41 ?_
  refine s_X9_turnKind_42 hI5 rfl (by decide) (Nat.le_of_ble_eq_true rfl) (c_allows hI5 _) ?_
  intro h9 e9; rw [e9]; clear e9 h9
  rw [up_c, up_f, cs5.1.1.2.2.2.2.2]
  exact s_X9_turnKind_45 (by first | exact Or.inl rfl | exact Or.inr rfl | exact bI_01 _) (hΦ _ _ hI5 (⟨f5.C.tr (nwC (frU (by decide))), cs5.mvN (frU (by decide)) (cs5.1.up (by omega) (fun k i j q => by unfold cmR at q; omega))⟩))
theorem x1_tamper {hi : am_HI} {g : am_G} (hI : am_Inv g) {z : Nat → Int32} {Z : Nat → Nat → Int32} {p : Nat} {Y : Nat → Nat → Int32} {c : Nat → Bool} {cd : Nat → Nat} {n : Nat} (hs : CS hi g z Z p Y c cd n) (ok : OKz z) {x v : Int32} (h0 : wi x 0 (nI (zt z) - 1) = false) : am_Th M_X9_tamper [.ref 0, .int x, .int v] hi g am_x0 (fun h => h = hi) := by
  refine am_thn (by decide) (Nat.le_of_ble_eq_true rfl) (fun Φ hΦ => ?_)
  show AP M_X9_tamper _ 0 [.ref 0, .int x, .int v, jk] [] _ g Φ
  refine s_X9_tamper_0 ?_
  refine s_X9_tamper_1 ?_
  refine s_X9_tamper_2 hI rfl (by decide) (Nat.le_of_ble_eq_true rfl) (c_isTold hI hs.1.2.1 ok x) ?_
  intro h9 e9; rw [e9]; clear e9 h9
  rw [h0]
  exact tx_X9_tamper_5 hI (by decide) (by decide) (hΦ _ rfl)
theorem x2_tamper {hi : am_HI} {g : am_G} (hI : am_Inv g) {z : Nat → Int32} {Z : Nat → Nat → Int32} {p : Nat} {Y : Nat → Nat → Int32} {c : Nat → Bool} {cd : Nat → Nat} {n : Nat} (hs : CS hi g z Z p Y c cd n) (ok : OKz z) {x v : Int32} (h0 : wi x 0 (nI (zt z) - 1) = true) (h1 : wi v (-198) (198) = false) : am_Th M_X9_tamper [.ref 0, .int x, .int v] hi g am_x1 (fun h => h = hi) := by
  refine am_thn (by decide) (Nat.le_of_ble_eq_true rfl) (fun Φ hΦ => ?_)
  show AP M_X9_tamper _ 0 [.ref 0, .int x, .int v, jk] [] _ g Φ
  refine s_X9_tamper_0 ?_
  refine s_X9_tamper_1 ?_
  refine s_X9_tamper_2 hI rfl (by decide) (Nat.le_of_ble_eq_true rfl) (c_isTold hI hs.1.2.1 ok x) ?_
  intro h9 e9; rw [e9]; clear e9 h9
  rw [h0]
  refine s_X9_tamper_5 hI (Nat.le_of_ble_eq_true rfl) (c_needI1) ?_
  intro h9 e9; rw [e9]; clear e9 h9
  refine s_X9_tamper_8 ?_
  refine s_X9_tamper_9 ?_
  refine s_X9_tamper_12 ?_
  refine s_X9_tamper_15 hI (Nat.le_of_ble_eq_true rfl) (c_isWithin v _ _) ?_
  intro h9 e9; rw [e9]; clear e9 h9
  rw [h1]
  exact tx_X9_tamper_18 hI (by decide) (by decide) (hΦ _ rfl)
theorem w_tamper {hi : am_HI} {g : am_G} (hI : am_Inv g) {z : Nat → Int32} {Z : Nat → Nat → Int32} {p : Nat} {Y : Nat → Nat → Int32} {c : Nat → Bool} {cd : Nat → Nat} {n : Nat} (hs : CS hi g z Z p Y c cd n) (ok : OKz z) {t : Nat} {v : Int32} (ht : t < zt z) (h0 : wi (nI t) 0 (nI (zt z) - 1) = true) (h1 : wi (v) (-198) (198) = true) : am_Cg M_X9_tamper [.ref 0, .int (nI t), .int (v)] hi g (some (.int (z (75 + t)))) (fun h g' => frC hi h ∧ CS h g' (upd z (75 + t) v) (svZ Z p z) (svp p) Y c cd n) := by
  refine am_cgn (by decide) (Nat.le_of_ble_eq_true rfl) (fun Φ hΦ => ?_)
  show AP M_X9_tamper _ 0 [.ref 0, .int (nI t), .int (v), jk] [] _ g Φ
  refine s_X9_tamper_0 ?_
  refine s_X9_tamper_1 ?_
  refine s_X9_tamper_2 hI rfl (by decide) (Nat.le_of_ble_eq_true rfl) (c_isTold hI hs.1.2.1 ok (nI t)) ?_
  intro h9 e9; rw [e9]; clear e9 h9
  rw [h0]
  refine s_X9_tamper_5 hI (Nat.le_of_ble_eq_true rfl) (c_needI1) ?_
  intro h9 e9; rw [e9]; clear e9 h9
  refine s_X9_tamper_8 ?_
  refine s_X9_tamper_9 ?_
  refine s_X9_tamper_12 ?_
  refine s_X9_tamper_15 hI (Nat.le_of_ble_eq_true rfl) (c_isWithin (v) _ _) ?_
  intro h9 e9; rw [e9]; clear e9 h9
  rw [h1]
  refine s_X9_tamper_18 hI (Nat.le_of_ble_eq_true rfl) (c_needA1) ?_
  intro h9 e9; rw [e9]; clear e9 h9
  refine s_X9_tamper_21 ?_
  refine s_X9_tamper_22 hI rfl (by decide) rfl (by decide) ?_
  refine s_X9_tamper_25 ?_
  refine s_X9_tamper_26 hI rfl (by decide) rfl (by decide) ?_
  refine sg_X9_tamper_29 hI rfl (by decide) (Nat.le_of_ble_eq_true rfl) (c_save hI hs.2.1 hs.1) ?_
  intro h5 g5 hI5 ⟨f5, s5⟩
  refine s_X9_tamper_32 ?_
  refine s_X9_tamper_33 hI5 rfl (by decide) rfl (by decide) ?_
  refine s_X9_tamper_36 hI5 rfl (by decide) rfl (by decide) ?_
  refine s_X9_tamper_39 hI5 rfl (by decide) rfl (by decide) ?_
  refine s_X9_tamper_42 ?_
  have cs5 : CS h5 g5 z _ _ Y c cd n := hs.sv f5 s5
  have h48 := ok.2.2.1
  refine s_X9_tamper_43 hI5 rfl (by decide) (by decide) (rfl) (by omega) ?_
  refine s_X9_tamper_44 rfl ?_
  refine s_X9_tamper_45 ?_
  refine s_X9_tamper_46 hI5 rfl (by decide) rfl (by decide) ?_
  refine s_X9_tamper_49 hI5 rfl (by decide) rfl (by decide) ?_
  refine s_X9_tamper_52 hI5 rfl (by decide) rfl (by decide) ?_
  refine s_X9_tamper_55 ?_
  refine s_X9_tamper_56 ?_
  rw [cs5.1.2.1.2.2.2.2.2.2.1 t (by omega)]
  refine s_X9_tamper_57 hI5 rfl (by decide) (by decide) (rfl) (by omega) ?_
  refine s_X9_tamper_58 ?_
  exact s_X9_tamper_59 (hΦ _ _ hI5 (⟨f5.C.tr (nwC (frU (by decide))), cs5.mvN (frU (by decide)) (cs5.1.up (by omega) (fun k i j q => by unfold cmR at q; omega))⟩))
/-- a snapshot is taken -/
def updN {α : Type} (f : Nat → α) (k : Nat) (x : α) : Nat → α := fun i => if i = k then x else f i
theorem x1_keep {hi : am_HI} {g : am_G} (hI : am_Inv g) {z : Nat → Int32} {Z : Nat → Nat → Int32} {p : Nat} {Y : Nat → Nat → Int32} {c : Nat → Bool} {cd : Nat → Nat} {n : Nat} (hs : CS hi g z Z p Y c cd n) (ok : OKz z) {x : Int32} (h0 : wi x (0) (1) = false) : am_Th M_X9_keep [.ref 0, .int x] hi g am_x0 (fun h => h = hi) := by
  refine am_thn (by decide) (Nat.le_of_ble_eq_true rfl) (fun Φ hΦ => ?_)
  show AP M_X9_keep _ 0 [.ref 0, .int x] [] _ g Φ
  refine s_X9_keep_0 ?_
  refine s_X9_keep_1 ?_
  refine s_X9_keep_2 ?_
  refine s_X9_keep_3 hI (Nat.le_of_ble_eq_true rfl) (c_isWithin x _ _) ?_
  intro h9 e9; rw [e9]; clear e9 h9
  rw [h0]
  exact tx_X9_keep_6 hI (by decide) (by decide) (hΦ _ rfl)
theorem w_keep {hi : am_HI} {g : am_G} (hI : am_Inv g) {z : Nat → Int32} {Z : Nat → Nat → Int32} {p : Nat} {Y : Nat → Nat → Int32} {c : Nat → Bool} {cd : Nat → Nat} {n : Nat} (hs : CS hi g z Z p Y c cd n) (ok : OKz z) {k : Nat} (hk : k < 2) (h0 : wi (nI k) (0) (1) = true) : am_Cr M_X9_keep [.ref 0, .int (nI k)] hi g (some (.int (nI (zc z)))) (fun h => frC hi h ∧ CS h g z Z p (updN Y k z) (updN c k true) cd n) := by
  refine am_crn (by decide) (Nat.le_of_ble_eq_true rfl) (fun Φ hΦ => ?_)
  show AP M_X9_keep _ 0 [.ref 0, .int (nI k)] [] _ g Φ
  refine s_X9_keep_0 ?_
  refine s_X9_keep_1 ?_
  refine s_X9_keep_2 ?_
  refine s_X9_keep_3 hI (Nat.le_of_ble_eq_true rfl) (c_isWithin (nI k) _ _) ?_
  intro h9 e9; rw [e9]; clear e9 h9
  rw [h0]
  refine s_X9_keep_6 hI (Nat.le_of_ble_eq_true rfl) (c_needI1) ?_
  intro h9 e9; rw [e9]; clear e9 h9
  refine s_X9_keep_9 ?_
  refine s_X9_keep_10 hI rfl (by decide) rfl (by decide) ?_
  refine s_X9_keep_13 ?_
  refine s_X9_keep_14 ?_
  refine s_X9_keep_15 hI rfl (by decide) rfl (by decide) ?_
  refine s_X9_keep_18 hI rfl (by decide) (Nat.le_of_ble_eq_true rfl) (c_snPut hI hk) ?_
  intro h5 ⟨f5, g5, e5⟩
  refine s_X9_keep_21 ?_
  refine s_X9_keep_22 hI rfl (by decide) rfl (by decide) ?_
  refine s_X9_keep_25 hI rfl (by decide) ?_
  have fk : ∀ i, i = 114 ∨ (96 + 9 * k ≤ i ∧ i < 105 + 9 * k) ∨ h5 i = hi i := fun i => by
    by_cases hq : i ∈ 114 :: stS (96 + 9 * k)
    · simp at hq; omega
    · exact Or.inr (Or.inr (f5 i hq))
  have f9 : ∀ i, i < 96 ∨ 115 ≤ i → h5 i = hi i := fun i hq => by rcases fk i with a | a | a <;> first | exact a | omega
  rw [f9 2 (by omega), hs.so ok]
  have ss5 : SS h5 (updN Y k z) (updN c k true) := by
    intro i hq
    unfold updN
    by_cases he : i = k
    · rw [if_pos he, if_pos he, e5 i, if_pos he, he]
      exact ⟨rfl, fun _ => g5 z hs.1⟩
    · rw [if_neg he, if_neg he, e5 i, if_neg he]
      exact ⟨(hs.2.2.1 i hq).1, fun hc => ((hs.2.2.1 i hq).2 hc).mv (fun j hj => by rcases fk (96 + 9 * i + j) with a | a | a <;> first | exact a | omega)⟩
  exact s_X9_keep_28 (hΦ _ (⟨fun i hq => f9 i (by omega), hs.1.mv (fun i hq => f9 _ (by omega)), hs.2.1.mv (fun i hq => f9 _ (by omega)), ss5, hs.2.2.2.mv (by rw [f9 115 (by omega)]) (f9 116 (by omega))⟩))
theorem x1_goBack {hi : am_HI} {g : am_G} (hI : am_Inv g) {z : Nat → Int32} {Z : Nat → Nat → Int32} {p : Nat} {Y : Nat → Nat → Int32} {c : Nat → Bool} {cd : Nat → Nat} {n : Nat} (hs : CS hi g z Z p Y c cd n) (ok : OKz z) {x : Int32} (h0 : wi x (0) (1) = false) : am_Th M_X9_goBack [.ref 0, .int x] hi g am_x0 (fun h => h = hi) := by
  refine am_thn (by decide) (Nat.le_of_ble_eq_true rfl) (fun Φ hΦ => ?_)
  show AP M_X9_goBack _ 0 [.ref 0, .int x] [] _ g Φ
  refine s_X9_goBack_0 ?_
  refine s_X9_goBack_1 ?_
  refine s_X9_goBack_2 ?_
  refine s_X9_goBack_3 hI (Nat.le_of_ble_eq_true rfl) (c_isWithin x _ _) ?_
  intro h9 e9; rw [e9]; clear e9 h9
  rw [h0]
  exact tx_X9_goBack_6 hI (by decide) (by decide) (hΦ _ rfl)
theorem x2_goBack {hi : am_HI} {g : am_G} (hI : am_Inv g) {z : Nat → Int32} {Z : Nat → Nat → Int32} {p : Nat} {Y : Nat → Nat → Int32} {c : Nat → Bool} {cd : Nat → Nat} {n : Nat} (hs : CS hi g z Z p Y c cd n) (ok : OKz z) {k : Nat} (hk : k < 2) (h0 : wi (nI k) (0) (1) = true) (h1 : c k = false) : am_Th M_X9_goBack [.ref 0, .int (nI k)] hi g am_x2 (fun h => h = hi) := by
  refine am_thn (by decide) (Nat.le_of_ble_eq_true rfl) (fun Φ hΦ => ?_)
  show AP M_X9_goBack _ 0 [.ref 0, .int (nI k)] [] _ g Φ
  refine s_X9_goBack_0 ?_
  refine s_X9_goBack_1 ?_
  refine s_X9_goBack_2 ?_
  refine s_X9_goBack_3 hI (Nat.le_of_ble_eq_true rfl) (c_isWithin (nI k) _ _) ?_
  intro h9 e9; rw [e9]; clear e9 h9
  rw [h0]
  refine s_X9_goBack_6 hI (Nat.le_of_ble_eq_true rfl) (c_needI1) ?_
  intro h9 e9; rw [e9]; clear e9 h9
  refine s_X9_goBack_9 ?_
  refine s_X9_goBack_10 hI rfl (by decide) rfl (by decide) ?_
  refine s_X9_goBack_13 ?_
  refine s_X9_goBack_14 hI rfl (by decide) (Nat.le_of_ble_eq_true rfl) (c_has hI hk (hs.2.2.1 k hk).1) ?_
  intro h9 e9; rw [e9]; clear e9 h9
  rw [h1]
  exact tx_X9_goBack_17 hI (by decide) (by decide) (hΦ _ rfl)
theorem w_goBack {hi : am_HI} {g : am_G} (hI : am_Inv g) {z : Nat → Int32} {Z : Nat → Nat → Int32} {p : Nat} {Y : Nat → Nat → Int32} {c : Nat → Bool} {cd : Nat → Nat} {n : Nat} (hs : CS hi g z Z p Y c cd n) (ok : OKz z) {k : Nat} (hk : k < 2) (h0 : wi (nI k) (0) (1) = true) (h1 : c k = true) : am_Cg M_X9_goBack [.ref 0, .int (nI k)] hi g (some (.int (Y k 48))) (fun h g' => frC hi h ∧ CS h g' (Y k) (svZ Z p z) (svp p) Y c cd n) := by
  refine am_cgn (by decide) (Nat.le_of_ble_eq_true rfl) (fun Φ hΦ => ?_)
  show AP M_X9_goBack _ 0 [.ref 0, .int (nI k)] [] _ g Φ
  refine s_X9_goBack_0 ?_
  refine s_X9_goBack_1 ?_
  refine s_X9_goBack_2 ?_
  refine s_X9_goBack_3 hI (Nat.le_of_ble_eq_true rfl) (c_isWithin (nI k) _ _) ?_
  intro h9 e9; rw [e9]; clear e9 h9
  rw [h0]
  refine s_X9_goBack_6 hI (Nat.le_of_ble_eq_true rfl) (c_needI1) ?_
  intro h9 e9; rw [e9]; clear e9 h9
  refine s_X9_goBack_9 ?_
  refine s_X9_goBack_10 hI rfl (by decide) rfl (by decide) ?_
  refine s_X9_goBack_13 ?_
  refine s_X9_goBack_14 hI rfl (by decide) (Nat.le_of_ble_eq_true rfl) (c_has hI hk (hs.2.2.1 k hk).1) ?_
  intro h9 e9; rw [e9]; clear e9 h9
  rw [h1]
  refine s_X9_goBack_17 hI (Nat.le_of_ble_eq_true rfl) (c_needP1) ?_
  intro h9 e9; rw [e9]; clear e9 h9
  refine s_X9_goBack_20 ?_
  refine s_X9_goBack_21 hI rfl (by decide) rfl (by decide) ?_
  refine s_X9_goBack_24 ?_
  refine s_X9_goBack_25 hI rfl (by decide) rfl (by decide) ?_
  refine sg_X9_goBack_28 hI rfl (by decide) (Nat.le_of_ble_eq_true rfl) (c_save hI hs.2.1 hs.1) ?_
  intro h5 g5 hI5 ⟨f5, s5⟩
  refine s_X9_goBack_31 ?_
  refine s_X9_goBack_32 hI5 rfl (by decide) rfl (by decide) ?_
  refine s_X9_goBack_35 ?_
  refine s_X9_goBack_36 ?_
  refine s_X9_goBack_37 hI5 rfl (by decide) rfl (by decide) ?_
  have cs5 : CS h5 g5 z _ _ Y c cd n := hs.sv f5 s5
  refine s_X9_goBack_40 hI5 rfl (by decide) (Nat.le_of_ble_eq_true rfl) (c_snRest hI5 hk) ?_
  intro h6 ⟨f6, g6⟩
  refine s_X9_goBack_43 ?_
  refine s_X9_goBack_44 hI5 rfl (by decide) rfl (by decide) ?_
  refine s_X9_goBack_47 hI5 rfl (by decide) ?_
  have z6 : ZB h6 2 (Y k) := g6 _ ((cs5.2.2.1 k hk).2 h1)
  rw [z6.1.2.1]
  have f6' : fr nwS h5 h6 := f6.mono (by decide)
  exact s_X9_goBack_50 (hΦ _ _ hI5 (⟨f5.C.tr (nwC f6'), cs5.mvN f6' z6⟩))
theorem x1_append {hi : am_HI} {g : am_G} (hI : am_Inv g) {z : Nat → Int32} {Z : Nat → Nat → Int32} {p : Nat} {Y : Nat → Nat → Int32} {c : Nat → Bool} {cd : Nat → Nat} {n : Nat} (hs : CS hi g z Z p Y c cd n) (ok : OKz z) {v : Int32} (h0 : wi v (33) (126) = false) : am_Th M_X9_append [.ref 0, .int v] hi g am_x1 (fun h => h = hi) := by
  refine am_thn (by decide) (Nat.le_of_ble_eq_true rfl) (fun Φ hΦ => ?_)
  show AP M_X9_append _ 0 [.ref 0, .int v] [] _ g Φ
  refine s_X9_append_0 ?_
  refine s_X9_append_1 ?_
  refine s_X9_append_3 ?_
  refine s_X9_append_5 hI (Nat.le_of_ble_eq_true rfl) (c_isWithin v _ _) ?_
  intro h9 e9; rw [e9]; clear e9 h9
  rw [h0]
  exact tx_X9_append_8 hI (by decide) (by decide) (hΦ _ rfl)
theorem x2_append {hi : am_HI} {g : am_G} (hI : am_Inv g) {z : Nat → Int32} {Z : Nat → Nat → Int32} {p : Nat} {Y : Nat → Nat → Int32} {c : Nat → Bool} {cd : Nat → Nat} {n : Nat} (hs : CS hi g z Z p Y c cd n) (ok : OKz z) {k : Nat} (hk : 33 ≤ k ∧ k ≤ 126) (h0 : wi (nI k) (33) (126) = true) (h1 : ¬ n < 80) : am_Th M_X9_append [.ref 0, .int (nI k)] hi g am_x2 (fun h => h = hi) := by
  refine am_thn (by decide) (Nat.le_of_ble_eq_true rfl) (fun Φ hΦ => ?_)
  show AP M_X9_append _ 0 [.ref 0, .int (nI k)] [] _ g Φ
  refine s_X9_append_0 ?_
  refine s_X9_append_1 ?_
  refine s_X9_append_3 ?_
  refine s_X9_append_5 hI (Nat.le_of_ble_eq_true rfl) (c_isWithin (nI k) _ _) ?_
  intro h9 e9; rw [e9]; clear e9 h9
  rw [h0]
  refine s_X9_append_8 hI (Nat.le_of_ble_eq_true rfl) (c_needA1) ?_
  intro h9 e9; rw [e9]; clear e9 h9
  refine s_X9_append_11 ?_
  refine s_X9_append_12 hI rfl (by decide) rfl (by decide) ?_
  refine s_X9_append_15 hI rfl (by decide) ?_
  refine s_X9_append_18 ?_
  rw [hs.2.2.2.1]
  refine s_X9_append_20 (fun _ => ?_) (fun h => absurd (nI_le (a := 80) (b := n) (by omega) (by have := hs.2.2.2.2.1; omega)) h)
  refine s_X9_append_27 ?_
  exact tx_X9_append_28 hI (by decide) (by decide) (hΦ _ rfl)
theorem w_append {hi : am_HI} {g : am_G} (hI : am_Inv g) {z : Nat → Int32} {Z : Nat → Nat → Int32} {p : Nat} {Y : Nat → Nat → Int32} {c : Nat → Bool} {cd : Nat → Nat} {n : Nat} (hs : CS hi g z Z p Y c cd n) (ok : OKz z) {k : Nat} (hk : 33 ≤ k ∧ k ≤ 126) (h0 : wi (nI k) (33) (126) = true) (h1 : n < 80) : am_Cr M_X9_append [.ref 0, .int (nI k)] hi g (some (.int (nI (n + 1)))) (fun h => frC hi h ∧ CS h g z Z p Y c (updN cd n k) (n + 1)) := by
  refine am_crn (by decide) (Nat.le_of_ble_eq_true rfl) (fun Φ hΦ => ?_)
  show AP M_X9_append _ 0 [.ref 0, .int (nI k)] [] _ g Φ
  refine s_X9_append_0 ?_
  refine s_X9_append_1 ?_
  refine s_X9_append_3 ?_
  refine s_X9_append_5 hI (Nat.le_of_ble_eq_true rfl) (c_isWithin (nI k) _ _) ?_
  intro h9 e9; rw [e9]; clear e9 h9
  rw [h0]
  refine s_X9_append_8 hI (Nat.le_of_ble_eq_true rfl) (c_needA1) ?_
  intro h9 e9; rw [e9]; clear e9 h9
  refine s_X9_append_11 ?_
  refine s_X9_append_12 hI rfl (by decide) rfl (by decide) ?_
  refine s_X9_append_15 hI rfl (by decide) ?_
  refine s_X9_append_18 ?_
  rw [hs.2.2.2.1]
  refine s_X9_append_20 (fun h => absurd h (nI_ge (a := n) (b := 80) h1 (by decide))) (fun _ => ?_)
  refine s_X9_append_23 ?_
  refine s_X9_append_24 ?_
  refine s_X9_append_28 hI (Nat.le_of_ble_eq_true rfl) (c_needP1) ?_
  intro h9 e9; rw [e9]; clear e9 h9
  refine s_X9_append_31 ?_
  refine s_X9_append_32 hI rfl (by decide) rfl (by decide) ?_
  refine s_X9_append_35 ?_
  refine s_X9_append_36 hI rfl (by decide) (Nat.le_of_ble_eq_true rfl) (c_wput hI hs.2.2.2.1 h1) ?_
  intro h9 e9; rw [e9]; clear e9 h9
  refine s_X9_append_39 ?_
  refine s_X9_append_40 hI rfl (by decide) rfl (by decide) ?_
  refine s_X9_append_43 hI rfl (by decide) ?_
  rw [up_c, up_f]
  refine s_X9_append_46 (hΦ _ (⟨fun i hq => by rw [up_k (by omega), up_k (by omega)], hs.1.mv (fun i hq => by rw [up_k (by omega), up_k (by omega)]), hs.2.1.mv (fun i hq => by rw [up_k (by omega), up_k (by omega)]), hs.2.2.1.mv (fun i hq => by rw [up_k (by omega), up_k (by omega)]), by rw [up_c, up_f], by omega, fun i hq => ?_⟩))
  rw [up_k (by decide), up_c]; unfold updN
  by_cases he : i = n
  · rw [if_pos he, he, up_f]; exact ⟨rfl, hk.1, hk.2⟩
  · rw [if_neg he, up_n he]; exact hs.2.2.2.2.2 i (by omega)
theorem w_clearText {hi : am_HI} {g : am_G} (hI : am_Inv g) {z : Nat → Int32} {Z : Nat → Nat → Int32} {p : Nat} {Y : Nat → Nat → Int32} {c : Nat → Bool} {cd : Nat → Nat} {n : Nat} (hs : CS hi g z Z p Y c cd n) (ok : OKz z)  : am_Cr M_X9_clearText [.ref 0] hi g (some (.int (nI n))) (fun h => frC hi h ∧ CS h g z Z p Y c cd 0) := by
  refine am_crn (by decide) (Nat.le_of_ble_eq_true rfl) (fun Φ hΦ => ?_)
  show AP M_X9_clearText _ 0 [.ref 0, jk] [] _ g Φ
  refine s_X9_clearText_0 ?_
  refine s_X9_clearText_1 hI rfl (by decide) rfl (by decide) ?_
  refine s_X9_clearText_4 hI rfl (by decide) ?_
  refine s_X9_clearText_7 rfl ?_
  refine s_X9_clearText_8 ?_
  refine s_X9_clearText_9 hI rfl (by decide) rfl (by decide) ?_
  refine s_X9_clearText_12 ?_
  refine s_X9_clearText_13 hI rfl (by decide) ?_
  refine s_X9_clearText_16 ?_
  rw [hs.2.2.2.1]
  exact s_X9_clearText_17 (hΦ _ (⟨fun i hq => up_k (by omega), hs.1.mv (fun i hq => up_k (by omega)), hs.2.1.mv (fun i hq => up_k (by omega)), hs.2.2.1.mv (fun i hq => up_k (by omega)), by rw [up_c, up_f]; rfl, by omega, fun i hq => by omega⟩))
theorem CS.fq {hi h : am_HI} {g : am_G} {z : Nat → Int32} {Z : Nat → Nat → Int32} {p : Nat} {Y : Nat → Nat → Int32} {c : Nat → Bool} {cd : Nat → Nat} {n : Nat} (hs : CS hi g z Z p Y c cd n) (f : fq [2, 3, 4, 5] hi h) : frC hi h ∧ CS h g z Z p Y c cd n :=
  ⟨fun i hq => f.row (by omega), hs.1.mv (fun i hq => f.row (by omega)), hs.2.1.mv (fun i hq => f.row (by omega)), hs.2.2.1.mv (fun i hq => f.row (by omega)), hs.2.2.2.fq f (by decide)⟩
theorem w_firstError {hi : am_HI} {g : am_G} (hI : am_Inv g) {z : Nat → Int32} {Z : Nat → Nat → Int32} {p : Nat} {Y : Nat → Nat → Int32} {c : Nat → Bool} {cd : Nat → Nat} {n : Nat} (hs : CS hi g z Z p Y c cd n) (ok : OKz z)  : am_Cr M_X9_firstError [.ref 0] hi g (some (.int (tl cd n 81 0))) (fun h => frC hi h ∧ CS h g z Z p Y c cd n) := by
  refine am_crn (by decide) (Nat.le_of_ble_eq_true rfl) (fun Φ hΦ => ?_)
  show AP M_X9_firstError _ 0 [.ref 0] [] _ g Φ
  refine s_X9_firstError_0 ?_
  refine s_X9_firstError_1 hI rfl (by decide) rfl (by decide) ?_
  refine s_X9_firstError_4 hI rfl (by decide) (Nat.le_of_ble_eq_true rfl) (c_findFault hI hs.2.2.2) ?_
  intro h5 f5
  exact s_X9_firstError_7 (hΦ _ (hs.fq f5))
theorem x1_undo {hi : am_HI} {g : am_G} (hI : am_Inv g) {z : Nat → Int32} {Z : Nat → Nat → Int32} {p : Nat} {Y : Nat → Nat → Int32} {c : Nat → Bool} {cd : Nat → Nat} {n : Nat} (hs : CS hi g z Z p Y c cd n) (ok : OKz z) (h0 : p = 0) : am_Th M_X9_undo [.ref 0] hi g am_x2 (fun h => h = hi) := by
  obtain ⟨w, w1, w2, w3, w4⟩ := hs.2.1
  refine am_thn (by decide) (Nat.le_of_ble_eq_true rfl) (fun Φ hΦ => ?_)
  show AP M_X9_undo _ 0 [.ref 0] [] _ g Φ
  refine s_X9_undo_0 ?_
  refine s_X9_undo_1 hI rfl (by decide) rfl (by decide) ?_
  refine s_X9_undo_4 hI rfl (by decide) ?_
  rw [w2, h0]
  refine s_X9_undo_7 (fun _ => ?_) (fun h => absurd (by decide) h)
  refine s_X9_undo_14 ?_
  exact tx_X9_undo_15 hI (by decide) (by decide) (hΦ _ rfl)
theorem w_undo {hi : am_HI} {g : am_G} (hI : am_Inv g) {z : Nat → Int32} {Z : Nat → Nat → Int32} {p : Nat} {Y : Nat → Nat → Int32} {c : Nat → Bool} {cd : Nat → Nat} {n : Nat} (hs : CS hi g z Z (p + 1) Y c cd n) (ok : OKz z) : am_Cr M_X9_undo [.ref 0] hi g (some (.int (nI p))) (fun h => frC hi h ∧ CS h g (Z p) Z p Y c cd n) := by
  have hp : hi 38 1 = nI (p + 1) ∧ p + 1 ≤ 6 := by obtain ⟨w, w1, w2, w3, w4⟩ := hs.2.1; exact ⟨w2, w3⟩
  refine am_crn (by decide) (Nat.le_of_ble_eq_true rfl) (fun Φ hΦ => ?_)
  show AP M_X9_undo _ 0 [.ref 0] [] _ g Φ
  refine s_X9_undo_0 ?_
  refine s_X9_undo_1 hI rfl (by decide) rfl (by decide) ?_
  refine s_X9_undo_4 hI rfl (by decide) ?_
  rw [hp.1]
  refine s_X9_undo_7 (fun h => absurd h (nI_nle (n := p + 1) (by omega) (by omega))) (fun _ => ?_)
  refine s_X9_undo_10 ?_
  refine s_X9_undo_11 ?_
  refine s_X9_undo_15 hI (Nat.le_of_ble_eq_true rfl) (c_needP1) ?_
  intro h9 e9; rw [e9]; clear e9 h9
  refine s_X9_undo_18 ?_
  refine s_X9_undo_19 hI rfl (by decide) rfl (by decide) ?_
  refine s_X9_undo_22 ?_
  refine s_X9_undo_23 hI rfl (by decide) rfl (by decide) ?_
  refine s_X9_undo_26 hI rfl (by decide) (Nat.le_of_ble_eq_true rfl) (c_hrest hI hs.2.1) ?_
  intro h5 ⟨f5, z5, s5, e5⟩
  refine s_X9_undo_29 ?_
  refine s_X9_undo_30 hI rfl (by decide) rfl (by decide) ?_
  refine s_X9_undo_33 hI rfl (by decide) ?_
  have f9 : ∀ i, 11 ≤ i → i ≠ 38 → h5 i = hi i := fun i h1 h2 => f5 i (by simp; omega)
  rw [e5]
  exact s_X9_undo_36 (hΦ _ (⟨fun i hq => f9 i (by omega) (by omega), z5, s5, hs.2.2.1.mv (fun i hq => f9 i (by omega) (by omega)), hs.2.2.2.mv (by rw [f9 115 (by omega) (by omega)]) (f9 116 (by omega) (by omega))⟩))
