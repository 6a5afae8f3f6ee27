/-! ===== History: save, restore; Snapshots ===== -/
theorem c_forget {hi : am_HI} {g : am_G} (hI : am_Inv g) {w : Nat → Nat} (hw : HW g w) : am_Cg M_X1_forgetOldest [.ref 38] hi g none (fun h g' => h = am_up hi 38 1 5 ∧ HW g' (rotw w)) := by
  have hok : ∀ i, i < 6 → am_SH (w i) = (0, 6) ∧ w i < 134 := fun i hi => ⟨(hb_st _ (hw.1 i hi).2).2.2.1, (hb_st _ (hw.1 i hi).2).2.2.2⟩
  refine am_cgn (by decide) (Nat.le_of_ble_eq_true rfl) (fun Φ hΦ => ?_)
  show AP M_X1_forgetOldest _ 0 [.ref 38, jk, jk] [] _ g Φ
  refine s_X1_forgetOldest_0 ?_
  refine s_X1_forgetOldest_1 hI rfl (by decide) rfl (by decide) ?_
  refine s_X1_forgetOldest_4 ?_
  refine s_X1_forgetOldest_5a hI rfl (by decide) (by decide) (rfl) (by decide) ((hw.1 0 (by decide)).1) ?_
  refine s_X1_forgetOldest_6 rfl ?_
  refine s_X1_forgetOldest_7 ?_
  refine s_X1_forgetOldest_8 rfl ?_
  have key : ∀ m i (g' : am_G), 5 - i = m → i ≤ 5 → am_Inv g' → (∀ j, j < 6 → g'.2.1 39 j = some (if j < i then w (j + 1) else w j)) → AP M_X1_forgetOldest (0, 0) 9 [.ref 38, .ref (w 0), .int (nI (i + 1))] [] hi g' Φ := ?_
  · exact key 5 0 g rfl (by decide) hI (fun j hj => by rw [if_neg (by omega)]; exact (hw.1 j hj).1)
  intro m
  induction m with
  | zero =>
    intro i g' hm hi5 hI' hr
    have : i = 5 := by omega
    subst this
    refine s_X1_forgetOldest_9 ?_
    refine s_X1_forgetOldest_10 ?_
    refine s_X1_forgetOldest_12 (fun _ => ?_) (fun h => absurd ((nI_le (a := 6) (b := 5 + 1) (by decide) (by decide))) h)
    refine s_X1_forgetOldest_35 ?_
    refine s_X1_forgetOldest_36 hI' rfl (by decide) rfl (by decide) ?_
    refine s_X1_forgetOldest_39 ?_
    refine s_X1_forgetOldest_40 ?_
    refine s_X1_forgetOldest_41 hI' rfl (by decide) (by decide) ((rfl : (5 : Int32) = nI 5)) (by decide) ((hok 0 (by decide)).1) ((hok 0 (by decide)).2) ?_
    refine s_X1_forgetOldest_42 ?_
    refine s_X1_forgetOldest_43 ?_
    refine s_X1_forgetOldest_44 (hI'.rot 5 (w 0)) rfl (by decide) ?_
    refine s_X1_forgetOldest_47 ?_
    refine hΦ _ _ (hI'.rot 5 (w 0)) ⟨rfl, hw.rota (fun j hj => ?_)⟩
    rw [upr_r]
    unfold rotw
    by_cases h5 : j < 5
    · rw [if_pos h5, if_neg (show ¬ j = 5 by omega), hr j hj, if_pos h5]
    · rw [if_neg h5, if_pos (show j = 5 by omega)]
  | succ m ih =>
    intro i g' hm hi5 hI' hr
    have hi6 : i < 5 := by omega
    have r1 := hr (i + 1) (by omega)
    rw [if_neg (by omega)] at r1
    refine s_X1_forgetOldest_9 ?_
    refine s_X1_forgetOldest_10 ?_
    refine s_X1_forgetOldest_12 (fun h => absurd h ((nI_ge (a := i + 1) (b := 6) (by omega) (by decide)))) (fun _ => ?_)
    refine s_X1_forgetOldest_15 ?_
    refine s_X1_forgetOldest_16 hI' rfl (by decide) rfl (by decide) ?_
    refine s_X1_forgetOldest_19 ?_
    refine s_X1_forgetOldest_20 ?_
    refine s_X1_forgetOldest_21 ?_
    refine s_X1_forgetOldest_22 ?_
    refine s_X1_forgetOldest_23 hI' rfl (by decide) rfl (by decide) ?_
    refine s_X1_forgetOldest_26 ?_
    refine s_X1_forgetOldest_27a hI' rfl (by decide) (by decide) (rfl) (by omega) (r1) ?_
    refine s_X1_forgetOldest_28 hI' rfl (by decide) (by decide) (nI_pred i) (by omega) ((hok (i + 1) (by omega)).1) ((hok (i + 1) (by omega)).2) ?_
    refine s_X1_forgetOldest_29 rfl ?_
    refine s_X1_forgetOldest_32 ?_
    rw [nI_1]
    refine ih (i + 1) _ (by omega) (by omega) (hI'.rot i (w (i + 1))) (fun j hj => ?_)
    rw [upr_r]
    by_cases h5 : j = i
    · rw [if_pos h5, if_pos (by omega), h5]
    · rw [if_neg h5, hr j hj]
      by_cases h6 : j < i
      · rw [if_pos h6, if_pos (by omega)]
      · rw [if_neg h6, if_neg (by omega)]
/-- the saved states are as Z tells, p of them -/
def HS (hi : am_HI) (g : am_G) (Z : Nat → Nat → Int32) (p : Nat) : Prop := ∃ w, HW g w ∧ hi 38 1 = nI p ∧ p ≤ 6 ∧ ∀ i, i < p → ZB hi (w i) (Z i)
/-- one more is saved; the oldest is forgotten, if there are six -/
def svZ (Z : Nat → Nat → Int32) (p : Nat) (z : Nat → Int32) : Nat → Nat → Int32 := if p < 6 then (fun i => if i = p then z else Z i) else (fun i => if i = 5 then z else Z (i + 1))
def svp (p : Nat) : Nat := if p < 6 then p + 1 else 6
def hisB (k : Nat) : Bool := k == 38 || (Nat.ble 40 k && Nat.ble k 93)
/-- but for the history, nothing changed -/
def frH (h h' : am_HI) : Prop := ∀ k, ¬(k = 38 ∨ (40 ≤ k ∧ k ≤ 93)) → h' k = h k
theorem his_in : ∀ B ∈ hb6, 40 ≤ B ∧ B + 8 ≤ 93 := by decide
theorem hb_ne : ∀ A ∈ hb6, ∀ B ∈ hb6, A ≠ B → A + 9 ≤ B ∨ B + 9 ≤ A := by decide
theorem c_save {hi : am_HI} {g : am_G} (hI : am_Inv g) {Z : Nat → Nat → Int32} {p : Nat} {z : Nat → Int32} (hs : HS hi g Z p) (hz : ZB hi 2 z) : am_Cg M_X1_save [.ref 38, .ref 2] hi g none (fun h g' => frH hi h ∧ HS h g' (svZ Z p z) (svp p)) := by
  obtain ⟨w, hw, hp, hp6, hZ⟩ := hs
  have key : ∀ (Φ : am_P) (h : am_HI) (g' : am_G) (w' : Nat → Nat) (q : Nat) (Z' : Nat → Nat → Int32), am_Inv g' → HW g' w' → h 38 1 = nI q → q < 6 → ZB h 2 z → (∀ i, i < q → ZB h (w' i) (Z' i)) → (∀ h2, frH h h2 → HS h2 g' (fun i => if i = q then z else Z' i) (q + 1) → Φ (.ok none) h2 g') → AP M_X1_save (0, 0) 13 [.ref 38, .ref 2] [] h g' Φ := by
    intro Φ h g' w' q Z' hI' hw' hq hq6 hz' hZ' hΦ'
    obtain ⟨b1, b2, b3, b4⟩ := hb_st _ (hw'.1 q hq6).2
    obtain ⟨b5, b6⟩ := his_in _ (hw'.1 q hq6).2
    refine s_X1_save_13 ?_
    refine s_X1_save_14 hI' (by first | assumption | rfl | decide | omega) (by first | assumption | rfl | decide | omega) (by first | assumption | rfl | decide | omega) (by first | assumption | rfl | decide | omega) ?_
    refine s_X1_save_17 ?_
    refine s_X1_save_18 hI' (by first | assumption | rfl | decide | omega) (by first | assumption | rfl | decide | omega) ?_
    refine s_X1_save_21a hI' (by first | assumption | rfl | decide | omega) (by first | assumption | rfl | decide | omega) (by first | assumption | rfl | decide | omega) (hq) (hq6) ((hw'.1 q hq6).1) ?_
    refine s_X1_save_22 ?_
    refine s_X1_save_23 hI' (by first | assumption | rfl | decide | omega) (by first | assumption | rfl | decide | omega) (Nat.le_of_ble_eq_true rfl) (c_stCopy hI' b1 (by decide) b2) ?_
    intro h5 ⟨g1, g2⟩
    refine s_X1_save_26 ?_
    refine s_X1_save_27 (by first | assumption | rfl | decide | omega) ?_
    refine s_X1_save_28 hI' (by first | assumption | rfl | decide | omega) (by first | assumption | rfl | decide | omega) ?_
    refine s_X1_save_31 ?_
    refine s_X1_save_32 ?_
    refine s_X1_save_33 hI' (by first | assumption | rfl | decide | omega) (by first | assumption | rfl | decide | omega) ?_
    refine s_X1_save_36 ?_
    have f5 : frH h h5 := fun k hk => g1 k (by simp; omega)
    have e38 : h5 38 1 = nI q := by rw [g1 38 (by simp; omega)]; exact hq
    refine hΦ' _ (fun k hk => ?_) ⟨w', hw', ?_, by omega, fun i hi' => ?_⟩
    · rw [up_k (by omega)]; exact f5 k hk
    · rw [up_c, up_f, e38, nI_1]
    · have em : ∀ z', ZB h5 (w' i) z' → ZB (am_up h5 38 1 (h5 38 1 + 1)) (w' i) z' := fun z' a => a.mv (fun j hj => up_k (by have := his_in _ (hw'.1 i (by omega)).2; omega))
      show ZB _ _ (if i = q then z else Z' i)
      by_cases he : i = q
      · rw [if_pos he, he]
        rw [he] at em
        exact em _ (g2 z hz')
      · rw [if_neg he]
        refine em _ ((hZ' i (by omega)).mv (fun j hj => g1 _ ?_))
        have hd := hb_ne _ (hw'.1 i (by omega)).2 _ (hw'.1 q hq6).2 (fun e => he (hw'.2 _ _ (by omega) hq6 e))
        simp
        omega
  refine am_cgn (by decide) (Nat.le_of_ble_eq_true rfl) (fun Φ hΦ => ?_)
  show AP M_X1_save _ 0 [.ref 38, .ref 2] [] _ g Φ
  refine s_X1_save_0 ?_
  refine s_X1_save_1 hI rfl (by decide) ?_
  refine s_X1_save_4 ?_
  rw [hp]
  refine s_X1_save_6 (fun h6' => ?_) (fun h6' => ?_)
  · have h6 : p < 6 := (nI_ltI (a := p) (b := 6) (by omega) (by decide)).mp h6'
    refine key _ _ _ w p Z hI hw hp h6 hz hZ (fun h2 f2 s2 => hΦ _ _ hI ⟨f2, ?_⟩)
    unfold svZ svp
    rw [if_pos h6, if_pos h6]
    exact s2
  · refine s_X1_save_9 ?_
    have h6 : ¬ p < 6 := fun e => h6' ((nI_ltI (a := p) (b := 6) (by omega) (by decide)).mpr e)
    refine sg_X1_save_10 hI rfl (by decide) (Nat.le_of_ble_eq_true rfl) (c_forget hI hw) ?_
    intro h1 g1 hI1 ⟨e1, w1⟩
    refine key _ _ _ (rotw w) 5 (fun i => Z (i + 1)) hI1 w1 (by rw [e1]; rfl) (by decide) ?_ (fun i hi5 => ?_) (fun h2 f2 s2 => hΦ _ _ hI1 ⟨?_, ?_⟩)
    · rw [e1]; exact hz.mv (fun j hj => up_k (by omega))
    · rw [e1, rotw, if_pos hi5]
      exact (hZ (i + 1) (by omega)).mv (fun j hj => up_k (by have := his_in _ (hw.1 (i + 1) (by omega)).2; omega))
    · intro k hk
      rw [f2 k hk, e1, up_k (by omega)]
    · unfold svZ svp
      rw [if_neg h6, if_neg h6]
      exact s2
theorem c_hrest {hi : am_HI} {g : am_G} (hI : am_Inv g) {Z : Nat → Nat → Int32} {p : Nat} (hs : HS hi g Z (p + 1)) : am_Cr M_X1_restore [.ref 38, .ref 2] hi g none (fun h => fr (38 :: stS 2) hi h ∧ ZB h 2 (Z p) ∧ HS h g Z p ∧ h 38 1 = nI p) := by
  obtain ⟨w, hw, hp, hp6, hZ⟩ := hs
  obtain ⟨b1, b2, b3, b4⟩ := hb_st _ (hw.1 p (by omega)).2
  obtain ⟨b5, b6⟩ := his_in _ (hw.1 p (by omega)).2
  refine am_crn (by decide) (Nat.le_of_ble_eq_true rfl) (fun Φ hΦ => ?_)
  show AP M_X1_restore _ 0 [.ref 38, .ref 2] [] _ g Φ
  refine s_X1_restore_0 ?_
  refine s_X1_restore_1 hI (by first | assumption | rfl | decide | omega) (by first | assumption | rfl | decide | omega) ?_
  rw [hp]
  refine s_X1_restore_4 (fun h => absurd h ((nI_nle (by omega) (by omega)))) (fun _ => ?_)
  refine s_X1_restore_7 ?_
  refine s_X1_restore_8 (by first | assumption | rfl | decide | omega) ?_
  refine s_X1_restore_9 hI (by first | assumption | rfl | decide | omega) (by first | assumption | rfl | decide | omega) ?_
  refine s_X1_restore_12 ?_
  refine s_X1_restore_13 ?_
  refine s_X1_restore_14 hI (by first | assumption | rfl | decide | omega) (by first | assumption | rfl | decide | omega) ?_
  refine s_X1_restore_17 ?_
  refine s_X1_restore_18 ?_
  refine s_X1_restore_19 hI (by first | assumption | rfl | decide | omega) (by first | assumption | rfl | decide | omega) (by first | assumption | rfl | decide | omega) (by first | assumption | rfl | decide | omega) ?_
  refine s_X1_restore_22 ?_
  refine s_X1_restore_23 hI (by first | assumption | rfl | decide | omega) (by first | assumption | rfl | decide | omega) ?_
  rw [hp, nI_pred]
  refine s_X1_restore_26a hI (by first | assumption | rfl | decide | omega) (by first | assumption | rfl | decide | omega) (by first | assumption | rfl | decide | omega) (rfl) (by omega) ((hw.1 p (by omega)).1) ?_
  refine s_X1_restore_27 hI (by first | assumption | rfl | decide | omega) (by first | assumption | rfl | decide | omega) (Nat.le_of_ble_eq_true rfl) (c_stCopy hI (D := 2) (by decide) b1 (fun e => b2 e.symm)) ?_
  intro h5 ⟨g1, g2⟩
  refine s_X1_restore_30 (hΦ _ (?_))
  have e38 : h5 38 1 = nI p := by rw [g1 38 (by decide), up_c, up_f]
  refine ⟨(fr.rfl.up (by decide)).tr (g1.mono (fun k hk => List.mem_cons_of_mem _ hk)), g2 _ ((hZ p (by omega)).mv (fun j hj => up_k (by omega))), ⟨w, hw, e38, by omega, fun i hi' => (hZ i (by omega)).mv (fun j hj => ?_)⟩, e38⟩
  have := his_in _ (hw.1 i (by omega)).2
  rw [g1 _ (by simp; omega), up_k (by omega)]
/-! the two snapshots -/
theorem hr95 {k : Nat} (h : k < 2) : am_HRf 95 k = some (96 + 9 * k) ∧ 96 + 9 * k ∈ st9 ∧ 96 + 9 * k ≠ 2 := by
  rcases (show k = 0 ∨ k = 1 by omega) with rfl | rfl <;> exact ⟨rfl, by decide, by decide⟩
theorem c_has {hi : am_HI} {g : am_G} (hI : am_Inv g) {k : Nat} (hk : k < 2) {c : Bool} (hc : hi 114 k = bI c) : am_Cr M_X5_has [.ref 94, .int (nI k)] hi g (some (.int (bI c))) (fun h => h = hi) := by
  refine am_crn (by decide) (Nat.le_of_ble_eq_true rfl) (fun Φ hΦ => ?_)
  show AP M_X5_has _ 0 [.ref 94, .int (nI k)] [] _ g Φ
  refine s_X5_has_0 ?_
  refine s_X5_has_1 hI rfl (by decide) rfl (by decide) ?_
  refine s_X5_has_4 ?_
  refine s_X5_has_5 hI rfl (by decide) (by decide) (rfl) (hk) ?_
  rw [hc]
  exact s_X5_has_6 (by first | exact Or.inl rfl | exact Or.inr rfl | exact bI_01 _) (hΦ _ (rfl))
theorem c_snPut {hi : am_HI} {g : am_G} (hI : am_Inv g) {k : Nat} (hk : k < 2) : am_Cr M_X5_put [.ref 94, .int (nI k), .ref 2] hi g none (fun h => fr (114 :: stS (96 + 9 * k)) hi h ∧ (∀ z, ZB hi 2 z → ZB h (96 + 9 * k) z) ∧ (∀ j, h 114 j = if j = k then 1 else hi 114 j)) := by
  obtain ⟨b1, b2, b3⟩ := hr95 hk
  have b4 := (st9_ok _ b2).1
  have b5 : 96 + 9 * k < 134 := by omega
  refine am_crn (by decide) (Nat.le_of_ble_eq_true rfl) (fun Φ hΦ => ?_)
  show AP M_X5_put _ 0 [.ref 94, .int (nI k), .ref 2] [] _ g Φ
  refine s_X5_put_0 ?_
  refine s_X5_put_1 hI (by first | assumption | rfl | decide | omega) (by first | assumption | rfl | decide | omega) (by first | assumption | rfl | decide | omega) (by first | assumption | rfl | decide | omega) ?_
  refine s_X5_put_4 ?_
  refine s_X5_put_5a hI (by first | assumption | rfl | decide | omega) (by first | assumption | rfl | decide | omega) (by first | assumption | rfl | decide | omega) (rfl) (hk) ((hI.2 95 k (by decide)).trans b1) ?_
  refine s_X5_put_6 ?_
  refine s_X5_put_7 hI (by first | assumption | rfl | decide | omega) (by first | assumption | rfl | decide | omega) (Nat.le_of_ble_eq_true rfl) (c_stCopy hI b2 (by decide) b3) ?_
  intro h5 ⟨g1, g2⟩
  refine s_X5_put_10 ?_
  refine s_X5_put_11 hI (by first | assumption | rfl | decide | omega) (by first | assumption | rfl | decide | omega) (by first | assumption | rfl | decide | omega) (by first | assumption | rfl | decide | omega) ?_
  refine s_X5_put_14 ?_
  refine s_X5_put_15 ?_
  refine s_X5_put_16 hI (by first | assumption | rfl | decide | omega) (by first | assumption | rfl | decide | omega) (by first | assumption | rfl | decide | omega) (rfl) (hk) (rfl) ?_
  refine s_X5_put_17 (hΦ _ (?_))
  refine ⟨(g1.mono (fun k hk => List.mem_cons_of_mem _ hk)).up List.mem_cons_self, fun z hz => (g2 z hz).mv (fun j hj => up_k (by omega)), fun j => ?_⟩
  rw [up_r, g1 114 (by simp; omega)]
  by_cases he : j = k
  · rw [if_pos ⟨rfl, he⟩, if_pos he]
  · rw [if_neg (fun e => he e.2), if_neg he]
theorem c_snRest {hi : am_HI} {g : am_G} (hI : am_Inv g) {k : Nat} (hk : k < 2) : am_Cr M_X5_restore [.ref 94, .int (nI k), .ref 2] hi g none (fun h => fr (stS 2) hi h ∧ ∀ z, ZB hi (96 + 9 * k) z → ZB h 2 z) := by
  obtain ⟨b1, b2, b3⟩ := hr95 hk
  have b4 := (st9_ok _ b2).1
  have b5 : 96 + 9 * k < 134 := by omega
  refine am_crn (by decide) (Nat.le_of_ble_eq_true rfl) (fun Φ hΦ => ?_)
  show AP M_X5_restore _ 0 [.ref 94, .int (nI k), .ref 2] [] _ g Φ
  refine s_X5_restore_0 ?_
  refine s_X5_restore_1 ?_
  refine s_X5_restore_2 hI (by first | assumption | rfl | decide | omega) (by first | assumption | rfl | decide | omega) (by first | assumption | rfl | decide | omega) (by first | assumption | rfl | decide | omega) ?_
  refine s_X5_restore_5 ?_
  refine s_X5_restore_6a hI (by first | assumption | rfl | decide | omega) (by first | assumption | rfl | decide | omega) (by first | assumption | rfl | decide | omega) (rfl) (hk) ((hI.2 95 k (by decide)).trans b1) ?_
  refine s_X5_restore_7 hI (by first | assumption | rfl | decide | omega) (by first | assumption | rfl | decide | omega) (Nat.le_of_ble_eq_true rfl) (c_stCopy hI (D := 2) (by decide) b2 (fun e => b3 e.symm)) ?_
  intro h5 ⟨g1, g2⟩
  exact s_X5_restore_10 (hΦ _ (⟨g1, g2⟩))
