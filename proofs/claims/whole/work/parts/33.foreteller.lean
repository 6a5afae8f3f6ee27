/-! ===== the class's Foreteller, at its two places ===== -/
/-- who foretells: shown are t samples of the row r, the weights are w, the delay d, the speed sp -/
def FT (hi : am_HI) (f : Nat) (r w : Nat → Int32) (t d : Nat) (sp : Int32) : Prop :=
  hi f 2 = nI t ∧ hi f 3 = nI d ∧ hi f 4 = sp ∧ hi f 5 = wfo w r t ∧ (∀ i, i < t → hi (f + 1) i = r i) ∧ ∀ k, k < 4 → hi (f + 2) k = w k
theorem c_sb11 {hi : am_HI} {g : am_G} (hI : am_Inv g) {t k : Nat} (ht : hi 11 2 = nI t) (h48 : t ≤ 48) (hk : 1 ≤ k) (hk2 : k ≤ 48) : am_Cr M_X0_shownBefore [.ref 11, .int (nI k)] hi g (some (.int (sm (hi 12) t k))) (fun h => h = hi) := by
  refine am_crn (by decide) (Nat.le_of_ble_eq_true rfl) (fun Φ hΦ => ?_)
  show AP M_X0_shownBefore _ 0 [.ref 11, .int (nI k), jk] [] _ g Φ
  refine s_X0_shownBefore_0 ?_
  refine s_X0_shownBefore_1 hI rfl (by decide) ?_
  refine s_X0_shownBefore_4 ?_
  refine s_X0_shownBefore_5 ?_
  refine s_X0_shownBefore_6 rfl ?_
  refine s_X0_shownBefore_7 ?_
  rw [ht]
  refine s_X0_shownBefore_8 (fun h => ?_) (fun h => ?_)
  · refine s_X0_shownBefore_26 ?_
    refine s_X0_shownBefore_27 ?_
    rw [nsub_lt0 (by omega) (by omega)] at h
    rw [sm, if_neg (by omega)] at hΦ
    exact hΦ _ rfl
  · refine s_X0_shownBefore_11 ?_
    refine s_X0_shownBefore_12 ?_
    rw [nsub_lt0 (by omega) (by omega)] at h
    rw [sm, if_pos (by omega)] at hΦ
    rw [pk_sub (by omega)]
    refine s_X0_shownBefore_14 (fun h => absurd h ((nI_ge (a := t - k) (b := 48) (by omega) (by decide)))) (fun _ => ?_)
    refine s_X0_shownBefore_17 ?_
    refine s_X0_shownBefore_18 hI rfl (by decide) rfl (by decide) ?_
    refine s_X0_shownBefore_21 ?_
    refine s_X0_shownBefore_22 hI rfl (by decide) (by decide) (rfl) (by omega) ?_
    refine s_X0_shownBefore_23 ?_
    exact s_X0_shownBefore_27 (hΦ _ rfl)
theorem c_weigh11 {hi : am_HI} {g : am_G} (hI : am_Inv g) {t : Nat} (ht : hi 11 2 = nI t) (h48 : t ≤ 48) : am_Cr M_X0_weigh [.ref 11] hi g none (fun h => h = am_up hi 11 5 (wfo (hi 13) (hi 12) t)) := by
  refine am_crn (by decide) (Nat.le_of_ble_eq_true rfl) (fun Φ hΦ => ?_)
  show AP M_X0_weigh _ 0 [.ref 11, jk, jk] [] _ g Φ
  refine s_X0_weigh_0 ?_
  refine s_X0_weigh_2 rfl ?_
  refine s_X0_weigh_3 ?_
  refine s_X0_weigh_4 rfl ?_
  refine am_for0 (n := 4) (fun _ h => h = hi) (fun i h => AP M_X0_weigh (0, 0) 5 [.ref 11, .int (wacc (hi 13) (hi 12) t i), .int (nI (i + 1))] [] h g Φ) rfl ?_ ?_
  · intro h9 e9
    obtain rfl := e9.symm
    refine s_X0_weigh_5 ?_
    refine s_X0_weigh_6 ?_
    refine s_X0_weigh_7 (fun _ => ?_) (fun h => absurd ((nI_lt (a := 4) (b := 4 + 1) (by decide) (by decide))) h)
    refine s_X0_weigh_33 ?_
    refine s_X0_weigh_34 ?_
    refine s_X0_weigh_35 ?_
    refine s_X0_weigh_37 hI (Nat.le_of_ble_eq_true rfl) (c_fd16 _) ?_
    intro h9 e9; rw [e9]; clear e9 h9
    refine s_X0_weigh_40 hI (Nat.le_of_ble_eq_true rfl) (c_limit _) ?_
    intro h9 e9; rw [e9]; clear e9 h9
    refine s_X0_weigh_43 hI rfl (by decide) ?_
    exact s_X0_weigh_46 (hΦ _ rfl)
  · intro i h9 hi4 e9 ih
    obtain rfl := e9.symm
    refine s_X0_weigh_5 ?_
    refine s_X0_weigh_6 ?_
    refine s_X0_weigh_7 (fun h => absurd h ((nI_nlt (a := 4) (b := i + 1) (by omega) (by decide)))) (fun _ => ?_)
    refine s_X0_weigh_10 ?_
    refine s_X0_weigh_11 ?_
    refine s_X0_weigh_12 hI rfl (by decide) rfl (by decide) ?_
    refine s_X0_weigh_15 ?_
    refine s_X0_weigh_16 ?_
    refine s_X0_weigh_17 ?_
    refine s_X0_weigh_18 hI rfl (by decide) (by decide) (nI_i1 i) (hi4) ?_
    refine s_X0_weigh_19 ?_
    refine s_X0_weigh_20 ?_
    refine s_X0_weigh_21 hI rfl (by decide) (Nat.le_of_ble_eq_true rfl) (c_sb11 hI ht h48 (by omega) (by omega)) ?_
    intro h9 e9; rw [e9]; clear e9 h9
    refine s_X0_weigh_24 ?_
    refine s_X0_weigh_25 ?_
    refine s_X0_weigh_26 rfl ?_
    refine s_X0_weigh_27 rfl ?_
    refine s_X0_weigh_30 ?_
    rw [nI_1]
    exact ih _ rfl
theorem c_adapt11 {hi : am_HI} {g : am_G} (hI : am_Inv g) {t : Nat} (left : Int32) (ht : hi 11 2 = nI t) (h48 : t ≤ 48) : am_Cr M_X0_adapt [.ref 11, .int left] hi g none (fun h => fr [13] hi h ∧ ∀ k, k < 4 → h 13 k = ad1 (hi 11 4) left (sm (hi 12) t (k + 1)) (hi 13 k)) := by
  refine am_crn (by decide) (Nat.le_of_ble_eq_true rfl) (fun Φ hΦ => ?_)
  show AP M_X0_adapt _ 0 [.ref 11, .int left, jk, jk] [] _ g Φ
  refine s_X0_adapt_0 ?_
  refine s_X0_adapt_1 rfl ?_
  have key := am_for0 (n := 4) (hi := hi) (fun i h => fr [13] hi h ∧ ∀ k, h 13 k = if k < i then ad1 (hi 11 4) left (sm (hi 12) t (k + 1)) (hi 13 k) else hi 13 k) (fun i h => ∀ e : Value, AP M_X0_adapt (0, 0) 2 [.ref 11, .int left, .int (nI (i + 1)), e] [] h g Φ) ⟨fr.rfl, fun k => by rw [if_neg (by omega)]⟩ ?_ ?_
  · exact key _
  · intro h ⟨h1, h2⟩ e
    refine s_X0_adapt_2 ?_
    refine s_X0_adapt_3 ?_
    refine s_X0_adapt_4 (fun _ => ?_) (fun h => absurd ((nI_lt (a := 4) (b := 4 + 1) (by decide) (by decide))) h)
    exact s_X0_adapt_58 (hΦ _ (⟨h1, fun k hk => by rw [h2, if_pos hk]⟩))
  · intro i h hi4 ⟨h1, h2⟩ ih e
    have e11 : h 11 = hi 11 := h1 11 (by decide)
    have e12 : h 12 = hi 12 := h1 12 (by decide)
    have w0 : h 13 i = hi 13 i := by rw [h2, if_neg (by omega)]
    have stay : ad1 (hi 11 4) left (sm (hi 12) t (i + 1)) (hi 13 i) = hi 13 i → ∀ k, h 13 k = if k < i + 1 then ad1 (hi 11 4) left (sm (hi 12) t (k + 1)) (hi 13 k) else hi 13 k := by
      intro hs k
      rw [h2]
      by_cases hk : k = i
      · subst hk
        rw [if_neg (by omega), if_pos (by omega), hs]
      · by_cases hk2 : k < i
        · rw [if_pos hk2, if_pos (by omega)]
        · rw [if_neg hk2, if_neg (by omega)]
    have move : ∀ x : Int32, ad1 (hi 11 4) left (sm (hi 12) t (i + 1)) (hi 13 i) = x → ∀ k, am_up h 13 i x 13 k = if k < i + 1 then ad1 (hi 11 4) left (sm (hi 12) t (k + 1)) (hi 13 k) else hi 13 k := by
      intro x hx k
      rw [up_c]
      by_cases hk : k = i
      · subst hk
        rw [up_f, if_pos (by omega), hx]
      · rw [up_n hk, h2]
        by_cases hk2 : k < i
        · rw [if_pos hk2, if_pos (by omega)]
        · rw [if_neg hk2, if_neg (by omega)]
    refine s_X0_adapt_2 ?_
    refine s_X0_adapt_3 ?_
    refine s_X0_adapt_4 (fun h => absurd h ((nI_nlt (a := 4) (b := i + 1) (by omega) (by decide)))) (fun _ => ?_)
    refine s_X0_adapt_7 ?_
    refine s_X0_adapt_8 ?_
    refine s_X0_adapt_9 hI rfl (by decide) (Nat.le_of_ble_eq_true rfl) (c_sb11 hI (t := t) (by rw [e11]; exact ht) h48 (by omega) (by omega)) ?_
    intro h9 e9; rw [e9]; clear e9 h9
    refine s_X0_adapt_12 rfl ?_
    refine s_X0_adapt_13 ?_
    rw [e12]
    refine s_X0_adapt_14 (fun hl => ?_) (fun hl => ?_)
    · refine s_X0_adapt_52 rfl ?_
      refine s_X0_adapt_55 ?_
      rw [nI_1]
      exact ih _ ⟨h1, stay (by rw [ad1, if_pos (Or.inl hl)])⟩ _
    · refine s_X0_adapt_17 ?_
      refine s_X0_adapt_18 (fun hv => ?_) (fun hv => ?_)
      · refine s_X0_adapt_52 rfl ?_
        refine s_X0_adapt_55 ?_
        rw [nI_1]
        exact ih _ ⟨h1, stay (by rw [ad1, if_pos (Or.inr hv)])⟩ _
      · refine s_X0_adapt_21 ?_
        refine s_X0_adapt_22 hI rfl (by decide) rfl (by decide) ?_
        refine s_X0_adapt_25 ?_
        refine s_X0_adapt_26 ?_
        refine s_X0_adapt_27 ?_
        refine s_X0_adapt_28 rfl rfl ?_
        refine s_X0_adapt_29 hI rfl (by decide) (by decide) (nI_i1 i) (hi4) ?_
        refine s_X0_adapt_30 ?_
        refine s_X0_adapt_31 ?_
        refine s_X0_adapt_32 hI (Nat.le_of_ble_eq_true rfl) (c_sameSign _ _) ?_
        intro h9 e9; rw [e9]; clear e9 h9
        refine s_X0_adapt_35 (fun hz => ?_) (fun hz => ?_)
        · refine s_X0_adapt_45 ?_
          refine s_X0_adapt_46 hI rfl (by decide) ?_
          refine s_X0_adapt_49 ?_
          refine s_X0_adapt_50 ?_
          refine s_X0_adapt_51 hI rfl (by decide) (by decide) (nI_i1 i) (hi4) ?_
          refine s_X0_adapt_52 rfl ?_
          refine s_X0_adapt_55 ?_
          rw [nI_1]
          refine ih _ ⟨h1.up (by decide), move _ ?_⟩ _
          rw [ad1, if_neg (by rintro (z | z); exact hl z; exact hv z), if_neg (fun e => bI_d0.mp hz e.symm), w0, e11]
        · refine s_X0_adapt_38 ?_
          refine s_X0_adapt_39 hI rfl (by decide) ?_
          refine s_X0_adapt_42 ?_
          refine s_X0_adapt_50 ?_
          refine s_X0_adapt_51 hI rfl (by decide) (by decide) (nI_i1 i) (hi4) ?_
          refine s_X0_adapt_52 rfl ?_
          refine s_X0_adapt_55 ?_
          rw [nI_1]
          refine ih _ ⟨h1.up (by decide), move _ ?_⟩ _
          rw [ad1, if_neg (by rintro (z | z); exact hl z; exact hv z), if_pos (Decidable.not_not.mp (fun e => hz (bI_d0.mpr (fun z => e z.symm)))), w0, e11]
theorem c_begin11 {hi : am_HI} {g : am_G} (hI : am_Inv g) {d q : Nat} (sp : Int32) (r : Nat → Int32) (hq : q = 4 ∨ q = 14 ∨ q = 6) : am_Cr M_X0_begin [.ref 11, .int (nI d), .int sp, .ref q] hi g none (fun h => fr [11, 13] hi h ∧ FT h 11 r (hi q) 0 d sp) := by
  have hs : am_SH q = (1, 4) := by rcases hq with rfl | rfl | rfl <;> rfl
  have hk : q < 134 := by omega
  have hn : q ≠ 13 := by omega
  refine am_crn (by decide) (Nat.le_of_ble_eq_true rfl) (fun Φ hΦ => ?_)
  show AP M_X0_begin _ 0 [.ref 11, .int (nI d), .int sp, .ref q] [] _ g Φ
  refine s_X0_begin_0 ?_
  refine s_X0_begin_1 ?_
  refine s_X0_begin_2 ?_
  refine s_X0_begin_3 hI (by first | assumption | rfl | decide | omega) (by first | assumption | rfl | decide | omega) (by first | assumption | rfl | decide | omega) (by first | assumption | rfl | decide | omega) ?_
  refine s_X0_begin_6 ?_
  refine s_X0_begin_7 ?_
  refine s_X0_begin_8 hI (by first | assumption | rfl | decide | omega) (by first | assumption | rfl | decide | omega) (by first | assumption | rfl | decide | omega) (by first | assumption | rfl | decide | omega) (by first | assumption | rfl | decide | omega) (Nat.le_of_ble_eq_true rfl) ?_
  refine s_X0_begin_11 ?_
  refine s_X0_begin_12 ?_
  refine s_X0_begin_13 hI (by first | assumption | rfl | decide | omega) (by first | assumption | rfl | decide | omega) ?_
  refine s_X0_begin_16 ?_
  refine s_X0_begin_17 ?_
  refine s_X0_begin_18 hI (by first | assumption | rfl | decide | omega) (by first | assumption | rfl | decide | omega) ?_
  refine s_X0_begin_21 ?_
  refine s_X0_begin_22 ?_
  refine s_X0_begin_23 hI (by first | assumption | rfl | decide | omega) (by first | assumption | rfl | decide | omega) ?_
  refine s_X0_begin_26 ?_
  refine s_X0_begin_27 hI (by first | assumption | rfl | decide | omega) (by first | assumption | rfl | decide | omega) (Nat.le_of_ble_eq_true rfl) (c_weigh11 hI (t := 0) rfl (by decide)) ?_
  intro h9 e9; rw [e9]; clear e9 h9
  refine s_X0_begin_30 (hΦ _ (?_))
  refine ⟨((((fr.rfl.cp (by decide)).up (by decide)).up (by decide)).up (by decide)).up (by decide), ?_⟩
  have hw : ∀ k, k < 4 → am_up (am_up (am_up (am_cp hi q 13 4) 11 2 0) 11 3 (nI d)) 11 4 sp 13 k = hi q k := by
    intro k hk4
    rw [up_k (by decide), up_k (by decide), up_k (by decide), cp_c, if_pos hk4]
  refine ⟨rfl, rfl, rfl, ?_, fun i hi' => absurd hi' (Nat.not_lt_zero _), fun k hk4 => ?_⟩
  · rw [up_c, up_f]
    exact wfo_congr hw (fun i hi' => absurd hi' (Nat.not_lt_zero _))
  · show am_up _ 11 5 _ 13 k = _
    rw [up_k (by decide)]
    exact hw k hk4
theorem c_foretell11 {hi : am_HI} {g : am_G} (hI : am_Inv g) {r w : Nat → Int32} {t d : Nat} {sp : Int32} (kd : Nat) (hkd : kd ≤ 4) (h : FT hi 11 r w t d sp) (h48 : t ≤ 48) (hd : 1 ≤ d ∧ d ≤ 12) (hr : ∀ i, i < t → -99 ≤ (r i).toInt ∧ (r i).toInt ≤ 99) : am_Cr M_X0_foretell [.ref 11, .int (nI kd)] hi g (some (.int (fore kd d w r t))) (fun h => h = hi) := by
  obtain ⟨h1, h2, h3, h4, h5, h6⟩ := h
  have hc : ∀ k, 1 ≤ k → k ≤ 48 → am_Cr M_X0_shownBefore [.ref 11, .int (nI k)] hi g (some (.int (sm r t k))) (fun h => h = hi) := by
    intro k k1 k2
    rw [← sm_congr (r := hi 12) k1 h5]
    exact c_sb11 hI h1 h48 k1 k2
  rcases (show kd = 0 ∨ kd = 1 ∨ kd = 2 ∨ kd = 3 ∨ kd = 4 by omega) with rfl | rfl | rfl | rfl | rfl
  · refine am_crn (by decide) (Nat.le_of_ble_eq_true rfl) (fun Φ hΦ => ?_)
    show AP M_X0_foretell _ 0 [.ref 11, .int (nI 0)] [] _ g Φ
    refine s_X0_foretell_0 ?_
    refine s_X0_foretell_1_d (by decide) ?_
    refine s_X0_foretell_69 ?_
    exact s_X0_foretell_70 (hΦ _ rfl)
  · refine am_crn (by decide) (Nat.le_of_ble_eq_true rfl) (fun Φ hΦ => ?_)
    show AP M_X0_foretell _ 0 [.ref 11, .int (nI 1)] [] _ g Φ
    refine s_X0_foretell_0 ?_
    refine s_X0_foretell_1_1 ?_
    refine s_X0_foretell_32 ?_
    refine s_X0_foretell_33 ?_
    refine s_X0_foretell_34 hI rfl (by decide) (Nat.le_of_ble_eq_true rfl) (hc 1 (by decide) (by decide)) ?_
    intro h9 e9; rw [e9]; clear e9 h9
    refine s_X0_foretell_37 ?_
    rw [fore, lim_id (sm_rng (by decide) hr).1 (sm_rng (by decide) hr).2] at hΦ
    exact hΦ _ rfl
  · refine am_crn (by decide) (Nat.le_of_ble_eq_true rfl) (fun Φ hΦ => ?_)
    show AP M_X0_foretell _ 0 [.ref 11, .int (nI 2)] [] _ g Φ
    refine s_X0_foretell_0 ?_
    refine s_X0_foretell_1_2 ?_
    refine s_X0_foretell_38 ?_
    refine s_X0_foretell_39 ?_
    refine s_X0_foretell_40 ?_
    refine s_X0_foretell_41 hI rfl (by decide) (Nat.le_of_ble_eq_true rfl) (hc 1 (by decide) (by decide)) ?_
    intro h9 e9; rw [e9]; clear e9 h9
    refine s_X0_foretell_44 ?_
    refine s_X0_foretell_45 ?_
    refine s_X0_foretell_46 ?_
    refine s_X0_foretell_47 hI rfl (by decide) (Nat.le_of_ble_eq_true rfl) (hc 2 (by decide) (by decide)) ?_
    intro h9 e9; rw [e9]; clear e9 h9
    refine s_X0_foretell_50 ?_
    refine s_X0_foretell_51 hI (Nat.le_of_ble_eq_true rfl) (c_limit _) ?_
    intro h9 e9; rw [e9]; clear e9 h9
    exact s_X0_foretell_54 (hΦ _ rfl)
  · refine am_crn (by decide) (Nat.le_of_ble_eq_true rfl) (fun Φ hΦ => ?_)
    show AP M_X0_foretell _ 0 [.ref 11, .int (nI 3)] [] _ g Φ
    refine s_X0_foretell_0 ?_
    refine s_X0_foretell_1_3 ?_
    refine s_X0_foretell_55 ?_
    refine s_X0_foretell_56 ?_
    refine s_X0_foretell_57 hI rfl (by decide) ?_
    rw [h2]
    refine s_X0_foretell_60 hI rfl (by decide) (Nat.le_of_ble_eq_true rfl) (hc d hd.1 (by omega)) ?_
    intro h9 e9; rw [e9]; clear e9 h9
    refine s_X0_foretell_63 ?_
    rw [fore, lim_id (sm_rng hd.1 hr).1 (sm_rng hd.1 hr).2] at hΦ
    exact hΦ _ rfl
  · refine am_crn (by decide) (Nat.le_of_ble_eq_true rfl) (fun Φ hΦ => ?_)
    show AP M_X0_foretell _ 0 [.ref 11, .int (nI 4)] [] _ g Φ
    refine s_X0_foretell_0 ?_
    refine s_X0_foretell_1_4 ?_
    refine s_X0_foretell_64 ?_
    refine s_X0_foretell_65 hI rfl (by decide) ?_
    refine s_X0_foretell_68 ?_
    rw [h4]
    exact hΦ _ rfl
theorem c_show11 {hi : am_HI} {g : am_G} (hI : am_Inv g) {r w : Nat → Int32} {t d : Nat} {sp v : Int32} (h : FT hi 11 r w t d sp) (h48 : t ≤ 48) : am_Cr M_X0_show [.ref 11, .int v] hi g none (fun h => fr [11, 12, 13] hi h ∧ (t < 48 → FT h 11 (upd r t v) (adw w (upd r t v) sp t) (t + 1) d sp)) := by
  obtain ⟨h1, h2, h3, h4, h5, h6⟩ := h
  refine am_crn (by decide) (Nat.le_of_ble_eq_true rfl) (fun Φ hΦ => ?_)
  show AP M_X0_show _ 0 [.ref 11, .int v] [] _ g Φ
  refine s_X0_show_0 ?_
  refine s_X0_show_1 ?_
  refine s_X0_show_2 ?_
  refine s_X0_show_3 hI rfl (by decide) ?_
  refine s_X0_show_6 ?_
  refine s_X0_show_7 hI rfl (by decide) (Nat.le_of_ble_eq_true rfl) (c_adapt11 hI _ h1 h48) ?_
  intro h7 ⟨h8, h9⟩
  refine s_X0_show_10 ?_
  refine s_X0_show_11 hI rfl (by decide) ?_
  refine s_X0_show_14 ?_
  have e11 : h7 11 = hi 11 := h8 11 (by decide)
  have e12 : h7 12 = hi 12 := h8 12 (by decide)
  rw [e11, h1]
  refine s_X0_show_16 (fun h => ?_) (fun h => ?_)
  · refine s_X0_show_39 ?_
    have ht : t = 48 := by have := (nI_leI (a := 48) (b := t) (by decide) (by omega)).mp h; omega
    refine s_X0_show_40 hI rfl (by decide) (Nat.le_of_ble_eq_true rfl) (c_weigh11 hI (t := t) (by rw [e11]; exact h1) h48) ?_
    intro h9 e9; rw [e9]; clear e9 h9
    exact s_X0_show_43 (hΦ _ (⟨((h8.mono (by decide)).up (by decide)), fun z => by omega⟩))
  · refine s_X0_show_19 ?_
    refine s_X0_show_20 hI rfl (by decide) rfl (by decide) ?_
    refine s_X0_show_23 ?_
    refine s_X0_show_24 hI rfl (by decide) ?_
    refine s_X0_show_27 ?_
    have ht : t < 48 := by by_cases hh : t < 48; exact hh; exact absurd (nI_le (a := 48) (b := t) (by omega) (by omega)) h
    refine s_X0_show_28 hI rfl (by decide) (by decide) ((by rw [e11]; exact h1)) (ht) ?_
    refine s_X0_show_29 ?_
    refine s_X0_show_30 rfl ?_
    refine s_X0_show_31 hI rfl (by decide) ?_
    refine s_X0_show_34 ?_
    refine s_X0_show_35 ?_
    refine s_X0_show_36 hI rfl (by decide) ?_
    refine s_X0_show_39 ?_
    rw [up_k (by decide), e11, h1, nI_1]
    refine s_X0_show_40 hI rfl (by decide) (Nat.le_of_ble_eq_true rfl) (c_weigh11 hI (t := t + 1) rfl (by omega)) ?_
    intro h9 e9; rw [e9]; clear e9 h9
    refine s_X0_show_43 (hΦ _ (?_))
    have hrow : ∀ i, i < t + 1 → am_up (am_up h7 12 t v) 11 2 (nI (t + 1)) 12 i = upd r t v i := by
      intro i hi'
      rw [up_k (by decide), up_c]
      by_cases he : i = t
      · subst he; rw [up_f, up_f]
      · rw [up_n he, up_n he, e12]; exact h5 i (by omega)
    have hwt : ∀ k, k < 4 → am_up (am_up h7 12 t v) 11 2 (nI (t + 1)) 13 k = adw w (upd r t v) sp t k := by
      intro k hk
      rw [up_k (by decide), up_k (by decide), h9 k hk, h3, h4, h6 k hk]
      unfold adw
      rw [if_pos hk, up_f, wfo_congr (fun _ _ => rfl) (r' := upd r t v) (fun i hi' => (up_n (by omega)).symm), sm_congr (by omega) (r' := upd r t v) (fun i hi' => by rw [up_n (by omega)]; exact h5 i hi')]
    refine ⟨(((h8.mono (by decide)).up (by decide)).up (by decide)).up (by decide), fun _ => ⟨rfl, ?_, ?_, ?_, fun i hi' => ?_, fun k hk => ?_⟩⟩
    · rw [up_c, up_n (by decide), up_c, up_n (by decide), up_k (by decide), e11]; exact h2
    · rw [up_c, up_n (by decide), up_c, up_n (by decide), up_k (by decide), e11]; exact h3
    · rw [up_c, up_f]; exact wfo_congr hwt hrow
    · show am_up _ 11 5 _ 12 i = _
      rw [up_k (by decide)]; exact hrow i hi'
    · show am_up _ 11 5 _ 13 k = _
      rw [up_k (by decide)]; exact hwt k hk
theorem c_sb118 {hi : am_HI} {g : am_G} (hI : am_Inv g) {t k : Nat} (ht : hi 118 2 = nI t) (h48 : t ≤ 48) (hk : 1 ≤ k) (hk2 : k ≤ 48) : am_Cr M_X0_shownBefore [.ref 118, .int (nI k)] hi g (some (.int (sm (hi 119) t k))) (fun h => h = hi) := by
  refine am_crn (by decide) (Nat.le_of_ble_eq_true rfl) (fun Φ hΦ => ?_)
  show AP M_X0_shownBefore _ 0 [.ref 118, .int (nI k), jk] [] _ g Φ
  refine s_X0_shownBefore_0 ?_
  refine s_X0_shownBefore_1 hI rfl (by decide) ?_
  refine s_X0_shownBefore_4 ?_
  refine s_X0_shownBefore_5 ?_
  refine s_X0_shownBefore_6 rfl ?_
  refine s_X0_shownBefore_7 ?_
  rw [ht]
  refine s_X0_shownBefore_8 (fun h => ?_) (fun h => ?_)
  · refine s_X0_shownBefore_26 ?_
    refine s_X0_shownBefore_27 ?_
    rw [nsub_lt0 (by omega) (by omega)] at h
    rw [sm, if_neg (by omega)] at hΦ
    exact hΦ _ rfl
  · refine s_X0_shownBefore_11 ?_
    refine s_X0_shownBefore_12 ?_
    rw [nsub_lt0 (by omega) (by omega)] at h
    rw [sm, if_pos (by omega)] at hΦ
    rw [pk_sub (by omega)]
    refine s_X0_shownBefore_14 (fun h => absurd h ((nI_ge (a := t - k) (b := 48) (by omega) (by decide)))) (fun _ => ?_)
    refine s_X0_shownBefore_17 ?_
    refine s_X0_shownBefore_18 hI rfl (by decide) rfl (by decide) ?_
    refine s_X0_shownBefore_21 ?_
    refine s_X0_shownBefore_22 hI rfl (by decide) (by decide) (rfl) (by omega) ?_
    refine s_X0_shownBefore_23 ?_
    exact s_X0_shownBefore_27 (hΦ _ rfl)
theorem c_weigh118 {hi : am_HI} {g : am_G} (hI : am_Inv g) {t : Nat} (ht : hi 118 2 = nI t) (h48 : t ≤ 48) : am_Cr M_X0_weigh [.ref 118] hi g none (fun h => h = am_up hi 118 5 (wfo (hi 120) (hi 119) t)) := by
  refine am_crn (by decide) (Nat.le_of_ble_eq_true rfl) (fun Φ hΦ => ?_)
  show AP M_X0_weigh _ 0 [.ref 118, jk, jk] [] _ g Φ
  refine s_X0_weigh_0 ?_
  refine s_X0_weigh_2 rfl ?_
  refine s_X0_weigh_3 ?_
  refine s_X0_weigh_4 rfl ?_
  refine am_for0 (n := 4) (fun _ h => h = hi) (fun i h => AP M_X0_weigh (0, 0) 5 [.ref 118, .int (wacc (hi 120) (hi 119) t i), .int (nI (i + 1))] [] h g Φ) rfl ?_ ?_
  · intro h9 e9
    obtain rfl := e9.symm
    refine s_X0_weigh_5 ?_
    refine s_X0_weigh_6 ?_
    refine s_X0_weigh_7 (fun _ => ?_) (fun h => absurd ((nI_lt (a := 4) (b := 4 + 1) (by decide) (by decide))) h)
    refine s_X0_weigh_33 ?_
    refine s_X0_weigh_34 ?_
    refine s_X0_weigh_35 ?_
    refine s_X0_weigh_37 hI (Nat.le_of_ble_eq_true rfl) (c_fd16 _) ?_
    intro h9 e9; rw [e9]; clear e9 h9
    refine s_X0_weigh_40 hI (Nat.le_of_ble_eq_true rfl) (c_limit _) ?_
    intro h9 e9; rw [e9]; clear e9 h9
    refine s_X0_weigh_43 hI rfl (by decide) ?_
    exact s_X0_weigh_46 (hΦ _ rfl)
  · intro i h9 hi4 e9 ih
    obtain rfl := e9.symm
    refine s_X0_weigh_5 ?_
    refine s_X0_weigh_6 ?_
    refine s_X0_weigh_7 (fun h => absurd h ((nI_nlt (a := 4) (b := i + 1) (by omega) (by decide)))) (fun _ => ?_)
    refine s_X0_weigh_10 ?_
    refine s_X0_weigh_11 ?_
    refine s_X0_weigh_12 hI rfl (by decide) rfl (by decide) ?_
    refine s_X0_weigh_15 ?_
    refine s_X0_weigh_16 ?_
    refine s_X0_weigh_17 ?_
    refine s_X0_weigh_18 hI rfl (by decide) (by decide) (nI_i1 i) (hi4) ?_
    refine s_X0_weigh_19 ?_
    refine s_X0_weigh_20 ?_
    refine s_X0_weigh_21 hI rfl (by decide) (Nat.le_of_ble_eq_true rfl) (c_sb118 hI ht h48 (by omega) (by omega)) ?_
    intro h9 e9; rw [e9]; clear e9 h9
    refine s_X0_weigh_24 ?_
    refine s_X0_weigh_25 ?_
    refine s_X0_weigh_26 rfl ?_
    refine s_X0_weigh_27 rfl ?_
    refine s_X0_weigh_30 ?_
    rw [nI_1]
    exact ih _ rfl
theorem c_adapt118 {hi : am_HI} {g : am_G} (hI : am_Inv g) {t : Nat} (left : Int32) (ht : hi 118 2 = nI t) (h48 : t ≤ 48) : am_Cr M_X0_adapt [.ref 118, .int left] hi g none (fun h => fr [120] hi h ∧ ∀ k, k < 4 → h 120 k = ad1 (hi 118 4) left (sm (hi 119) t (k + 1)) (hi 120 k)) := by
  refine am_crn (by decide) (Nat.le_of_ble_eq_true rfl) (fun Φ hΦ => ?_)
  show AP M_X0_adapt _ 0 [.ref 118, .int left, jk, jk] [] _ g Φ
  refine s_X0_adapt_0 ?_
  refine s_X0_adapt_1 rfl ?_
  have key := am_for0 (n := 4) (hi := hi) (fun i h => fr [120] hi h ∧ ∀ k, h 120 k = if k < i then ad1 (hi 118 4) left (sm (hi 119) t (k + 1)) (hi 120 k) else hi 120 k) (fun i h => ∀ e : Value, AP M_X0_adapt (0, 0) 2 [.ref 118, .int left, .int (nI (i + 1)), e] [] h g Φ) ⟨fr.rfl, fun k => by rw [if_neg (by omega)]⟩ ?_ ?_
  · exact key _
  · intro h ⟨h1, h2⟩ e
    refine s_X0_adapt_2 ?_
    refine s_X0_adapt_3 ?_
    refine s_X0_adapt_4 (fun _ => ?_) (fun h => absurd ((nI_lt (a := 4) (b := 4 + 1) (by decide) (by decide))) h)
    exact s_X0_adapt_58 (hΦ _ (⟨h1, fun k hk => by rw [h2, if_pos hk]⟩))
  · intro i h hi4 ⟨h1, h2⟩ ih e
    have e11 : h 118 = hi 118 := h1 118 (by decide)
    have e12 : h 119 = hi 119 := h1 119 (by decide)
    have w0 : h 120 i = hi 120 i := by rw [h2, if_neg (by omega)]
    have stay : ad1 (hi 118 4) left (sm (hi 119) t (i + 1)) (hi 120 i) = hi 120 i → ∀ k, h 120 k = if k < i + 1 then ad1 (hi 118 4) left (sm (hi 119) t (k + 1)) (hi 120 k) else hi 120 k := by
      intro hs k
      rw [h2]
      by_cases hk : k = i
      · subst hk
        rw [if_neg (by omega), if_pos (by omega), hs]
      · by_cases hk2 : k < i
        · rw [if_pos hk2, if_pos (by omega)]
        · rw [if_neg hk2, if_neg (by omega)]
    have move : ∀ x : Int32, ad1 (hi 118 4) left (sm (hi 119) t (i + 1)) (hi 120 i) = x → ∀ k, am_up h 120 i x 120 k = if k < i + 1 then ad1 (hi 118 4) left (sm (hi 119) t (k + 1)) (hi 120 k) else hi 120 k := by
      intro x hx k
      rw [up_c]
      by_cases hk : k = i
      · subst hk
        rw [up_f, if_pos (by omega), hx]
      · rw [up_n hk, h2]
        by_cases hk2 : k < i
        · rw [if_pos hk2, if_pos (by omega)]
        · rw [if_neg hk2, if_neg (by omega)]
    refine s_X0_adapt_2 ?_
    refine s_X0_adapt_3 ?_
    refine s_X0_adapt_4 (fun h => absurd h ((nI_nlt (a := 4) (b := i + 1) (by omega) (by decide)))) (fun _ => ?_)
    refine s_X0_adapt_7 ?_
    refine s_X0_adapt_8 ?_
    refine s_X0_adapt_9 hI rfl (by decide) (Nat.le_of_ble_eq_true rfl) (c_sb118 hI (t := t) (by rw [e11]; exact ht) h48 (by omega) (by omega)) ?_
    intro h9 e9; rw [e9]; clear e9 h9
    refine s_X0_adapt_12 rfl ?_
    refine s_X0_adapt_13 ?_
    rw [e12]
    refine s_X0_adapt_14 (fun hl => ?_) (fun hl => ?_)
    · refine s_X0_adapt_52 rfl ?_
      refine s_X0_adapt_55 ?_
      rw [nI_1]
      exact ih _ ⟨h1, stay (by rw [ad1, if_pos (Or.inl hl)])⟩ _
    · refine s_X0_adapt_17 ?_
      refine s_X0_adapt_18 (fun hv => ?_) (fun hv => ?_)
      · refine s_X0_adapt_52 rfl ?_
        refine s_X0_adapt_55 ?_
        rw [nI_1]
        exact ih _ ⟨h1, stay (by rw [ad1, if_pos (Or.inr hv)])⟩ _
      · refine s_X0_adapt_21 ?_
        refine s_X0_adapt_22 hI rfl (by decide) rfl (by decide) ?_
        refine s_X0_adapt_25 ?_
        refine s_X0_adapt_26 ?_
        refine s_X0_adapt_27 ?_
        refine s_X0_adapt_28 rfl rfl ?_
        refine s_X0_adapt_29 hI rfl (by decide) (by decide) (nI_i1 i) (hi4) ?_
        refine s_X0_adapt_30 ?_
        refine s_X0_adapt_31 ?_
        refine s_X0_adapt_32 hI (Nat.le_of_ble_eq_true rfl) (c_sameSign _ _) ?_
        intro h9 e9; rw [e9]; clear e9 h9
        refine s_X0_adapt_35 (fun hz => ?_) (fun hz => ?_)
        · refine s_X0_adapt_45 ?_
          refine s_X0_adapt_46 hI rfl (by decide) ?_
          refine s_X0_adapt_49 ?_
          refine s_X0_adapt_50 ?_
          refine s_X0_adapt_51 hI rfl (by decide) (by decide) (nI_i1 i) (hi4) ?_
          refine s_X0_adapt_52 rfl ?_
          refine s_X0_adapt_55 ?_
          rw [nI_1]
          refine ih _ ⟨h1.up (by decide), move _ ?_⟩ _
          rw [ad1, if_neg (by rintro (z | z); exact hl z; exact hv z), if_neg (fun e => bI_d0.mp hz e.symm), w0, e11]
        · refine s_X0_adapt_38 ?_
          refine s_X0_adapt_39 hI rfl (by decide) ?_
          refine s_X0_adapt_42 ?_
          refine s_X0_adapt_50 ?_
          refine s_X0_adapt_51 hI rfl (by decide) (by decide) (nI_i1 i) (hi4) ?_
          refine s_X0_adapt_52 rfl ?_
          refine s_X0_adapt_55 ?_
          rw [nI_1]
          refine ih _ ⟨h1.up (by decide), move _ ?_⟩ _
          rw [ad1, if_neg (by rintro (z | z); exact hl z; exact hv z), if_pos (Decidable.not_not.mp (fun e => hz (bI_d0.mpr (fun z => e z.symm)))), w0, e11]
theorem c_begin118 {hi : am_HI} {g : am_G} (hI : am_Inv g) {d q : Nat} (sp : Int32) (r : Nat → Int32) (hq : q = 4 ∨ q = 14 ∨ q = 6) : am_Cr M_X0_begin [.ref 118, .int (nI d), .int sp, .ref q] hi g none (fun h => fr [118, 120] hi h ∧ FT h 118 r (hi q) 0 d sp) := by
  have hs : am_SH q = (1, 4) := by rcases hq with rfl | rfl | rfl <;> rfl
  have hk : q < 134 := by omega
  have hn : q ≠ 120 := by omega
  refine am_crn (by decide) (Nat.le_of_ble_eq_true rfl) (fun Φ hΦ => ?_)
  show AP M_X0_begin _ 0 [.ref 118, .int (nI d), .int sp, .ref q] [] _ g Φ
  refine s_X0_begin_0 ?_
  refine s_X0_begin_1 ?_
  refine s_X0_begin_2 ?_
  refine s_X0_begin_3 hI (by first | assumption | rfl | decide | omega) (by first | assumption | rfl | decide | omega) (by first | assumption | rfl | decide | omega) (by first | assumption | rfl | decide | omega) ?_
  refine s_X0_begin_6 ?_
  refine s_X0_begin_7 ?_
  refine s_X0_begin_8 hI (by first | assumption | rfl | decide | omega) (by first | assumption | rfl | decide | omega) (by first | assumption | rfl | decide | omega) (by first | assumption | rfl | decide | omega) (by first | assumption | rfl | decide | omega) (Nat.le_of_ble_eq_true rfl) ?_
  refine s_X0_begin_11 ?_
  refine s_X0_begin_12 ?_
  refine s_X0_begin_13 hI (by first | assumption | rfl | decide | omega) (by first | assumption | rfl | decide | omega) ?_
  refine s_X0_begin_16 ?_
  refine s_X0_begin_17 ?_
  refine s_X0_begin_18 hI (by first | assumption | rfl | decide | omega) (by first | assumption | rfl | decide | omega) ?_
  refine s_X0_begin_21 ?_
  refine s_X0_begin_22 ?_
  refine s_X0_begin_23 hI (by first | assumption | rfl | decide | omega) (by first | assumption | rfl | decide | omega) ?_
  refine s_X0_begin_26 ?_
  refine s_X0_begin_27 hI (by first | assumption | rfl | decide | omega) (by first | assumption | rfl | decide | omega) (Nat.le_of_ble_eq_true rfl) (c_weigh118 hI (t := 0) rfl (by decide)) ?_
  intro h9 e9; rw [e9]; clear e9 h9
  refine s_X0_begin_30 (hΦ _ (?_))
  refine ⟨((((fr.rfl.cp (by decide)).up (by decide)).up (by decide)).up (by decide)).up (by decide), ?_⟩
  have hw : ∀ k, k < 4 → am_up (am_up (am_up (am_cp hi q 120 4) 118 2 0) 118 3 (nI d)) 118 4 sp 120 k = hi q k := by
    intro k hk4
    rw [up_k (by decide), up_k (by decide), up_k (by decide), cp_c, if_pos hk4]
  refine ⟨rfl, rfl, rfl, ?_, fun i hi' => absurd hi' (Nat.not_lt_zero _), fun k hk4 => ?_⟩
  · rw [up_c, up_f]
    exact wfo_congr hw (fun i hi' => absurd hi' (Nat.not_lt_zero _))
  · show am_up _ 118 5 _ 120 k = _
    rw [up_k (by decide)]
    exact hw k hk4
theorem c_foretell118 {hi : am_HI} {g : am_G} (hI : am_Inv g) {r w : Nat → Int32} {t d : Nat} {sp : Int32} (kd : Nat) (hkd : kd ≤ 4) (h : FT hi 118 r w t d sp) (h48 : t ≤ 48) (hd : 1 ≤ d ∧ d ≤ 12) (hr : ∀ i, i < t → -99 ≤ (r i).toInt ∧ (r i).toInt ≤ 99) : am_Cr M_X0_foretell [.ref 118, .int (nI kd)] hi g (some (.int (fore kd d w r t))) (fun h => h = hi) := by
  obtain ⟨h1, h2, h3, h4, h5, h6⟩ := h
  have hc : ∀ k, 1 ≤ k → k ≤ 48 → am_Cr M_X0_shownBefore [.ref 118, .int (nI k)] hi g (some (.int (sm r t k))) (fun h => h = hi) := by
    intro k k1 k2
    rw [← sm_congr (r := hi 119) k1 h5]
    exact c_sb118 hI h1 h48 k1 k2
  rcases (show kd = 0 ∨ kd = 1 ∨ kd = 2 ∨ kd = 3 ∨ kd = 4 by omega) with rfl | rfl | rfl | rfl | rfl
  · refine am_crn (by decide) (Nat.le_of_ble_eq_true rfl) (fun Φ hΦ => ?_)
    show AP M_X0_foretell _ 0 [.ref 118, .int (nI 0)] [] _ g Φ
    refine s_X0_foretell_0 ?_
    refine s_X0_foretell_1_d (by decide) ?_
    refine s_X0_foretell_69 ?_
    exact s_X0_foretell_70 (hΦ _ rfl)
  · refine am_crn (by decide) (Nat.le_of_ble_eq_true rfl) (fun Φ hΦ => ?_)
    show AP M_X0_foretell _ 0 [.ref 118, .int (nI 1)] [] _ g Φ
    refine s_X0_foretell_0 ?_
    refine s_X0_foretell_1_1 ?_
    refine s_X0_foretell_32 ?_
    refine s_X0_foretell_33 ?_
    refine s_X0_foretell_34 hI rfl (by decide) (Nat.le_of_ble_eq_true rfl) (hc 1 (by decide) (by decide)) ?_
    intro h9 e9; rw [e9]; clear e9 h9
    refine s_X0_foretell_37 ?_
    rw [fore, lim_id (sm_rng (by decide) hr).1 (sm_rng (by decide) hr).2] at hΦ
    exact hΦ _ rfl
  · refine am_crn (by decide) (Nat.le_of_ble_eq_true rfl) (fun Φ hΦ => ?_)
    show AP M_X0_foretell _ 0 [.ref 118, .int (nI 2)] [] _ g Φ
    refine s_X0_foretell_0 ?_
    refine s_X0_foretell_1_2 ?_
    refine s_X0_foretell_38 ?_
    refine s_X0_foretell_39 ?_
    refine s_X0_foretell_40 ?_
    refine s_X0_foretell_41 hI rfl (by decide) (Nat.le_of_ble_eq_true rfl) (hc 1 (by decide) (by decide)) ?_
    intro h9 e9; rw [e9]; clear e9 h9
    refine s_X0_foretell_44 ?_
    refine s_X0_foretell_45 ?_
    refine s_X0_foretell_46 ?_
    refine s_X0_foretell_47 hI rfl (by decide) (Nat.le_of_ble_eq_true rfl) (hc 2 (by decide) (by decide)) ?_
    intro h9 e9; rw [e9]; clear e9 h9
    refine s_X0_foretell_50 ?_
    refine s_X0_foretell_51 hI (Nat.le_of_ble_eq_true rfl) (c_limit _) ?_
    intro h9 e9; rw [e9]; clear e9 h9
    exact s_X0_foretell_54 (hΦ _ rfl)
  · refine am_crn (by decide) (Nat.le_of_ble_eq_true rfl) (fun Φ hΦ => ?_)
    show AP M_X0_foretell _ 0 [.ref 118, .int (nI 3)] [] _ g Φ
    refine s_X0_foretell_0 ?_
    refine s_X0_foretell_1_3 ?_
    refine s_X0_foretell_55 ?_
    refine s_X0_foretell_56 ?_
    refine s_X0_foretell_57 hI rfl (by decide) ?_
    rw [h2]
    refine s_X0_foretell_60 hI rfl (by decide) (Nat.le_of_ble_eq_true rfl) (hc d hd.1 (by omega)) ?_
    intro h9 e9; rw [e9]; clear e9 h9
    refine s_X0_foretell_63 ?_
    rw [fore, lim_id (sm_rng hd.1 hr).1 (sm_rng hd.1 hr).2] at hΦ
    exact hΦ _ rfl
  · refine am_crn (by decide) (Nat.le_of_ble_eq_true rfl) (fun Φ hΦ => ?_)
    show AP M_X0_foretell _ 0 [.ref 118, .int (nI 4)] [] _ g Φ
    refine s_X0_foretell_0 ?_
    refine s_X0_foretell_1_4 ?_
    refine s_X0_foretell_64 ?_
    refine s_X0_foretell_65 hI rfl (by decide) ?_
    refine s_X0_foretell_68 ?_
    rw [h4]
    exact hΦ _ rfl
theorem c_show118 {hi : am_HI} {g : am_G} (hI : am_Inv g) {r w : Nat → Int32} {t d : Nat} {sp v : Int32} (h : FT hi 118 r w t d sp) (h48 : t ≤ 48) : am_Cr M_X0_show [.ref 118, .int v] hi g none (fun h => fr [118, 119, 120] hi h ∧ (t < 48 → FT h 118 (upd r t v) (adw w (upd r t v) sp t) (t + 1) d sp)) := by
  obtain ⟨h1, h2, h3, h4, h5, h6⟩ := h
  refine am_crn (by decide) (Nat.le_of_ble_eq_true rfl) (fun Φ hΦ => ?_)
  show AP M_X0_show _ 0 [.ref 118, .int v] [] _ g Φ
  refine s_X0_show_0 ?_
  refine s_X0_show_1 ?_
  refine s_X0_show_2 ?_
  refine s_X0_show_3 hI rfl (by decide) ?_
  refine s_X0_show_6 ?_
  refine s_X0_show_7 hI rfl (by decide) (Nat.le_of_ble_eq_true rfl) (c_adapt118 hI _ h1 h48) ?_
  intro h7 ⟨h8, h9⟩
  refine s_X0_show_10 ?_
  refine s_X0_show_11 hI rfl (by decide) ?_
  refine s_X0_show_14 ?_
  have e11 : h7 118 = hi 118 := h8 118 (by decide)
  have e12 : h7 119 = hi 119 := h8 119 (by decide)
  rw [e11, h1]
  refine s_X0_show_16 (fun h => ?_) (fun h => ?_)
  · refine s_X0_show_39 ?_
    have ht : t = 48 := by have := (nI_leI (a := 48) (b := t) (by decide) (by omega)).mp h; omega
    refine s_X0_show_40 hI rfl (by decide) (Nat.le_of_ble_eq_true rfl) (c_weigh118 hI (t := t) (by rw [e11]; exact h1) h48) ?_
    intro h9 e9; rw [e9]; clear e9 h9
    exact s_X0_show_43 (hΦ _ (⟨((h8.mono (by decide)).up (by decide)), fun z => by omega⟩))
  · refine s_X0_show_19 ?_
    refine s_X0_show_20 hI rfl (by decide) rfl (by decide) ?_
    refine s_X0_show_23 ?_
    refine s_X0_show_24 hI rfl (by decide) ?_
    refine s_X0_show_27 ?_
    have ht : t < 48 := by by_cases hh : t < 48; exact hh; exact absurd (nI_le (a := 48) (b := t) (by omega) (by omega)) h
    refine s_X0_show_28 hI rfl (by decide) (by decide) ((by rw [e11]; exact h1)) (ht) ?_
    refine s_X0_show_29 ?_
    refine s_X0_show_30 rfl ?_
    refine s_X0_show_31 hI rfl (by decide) ?_
    refine s_X0_show_34 ?_
    refine s_X0_show_35 ?_
    refine s_X0_show_36 hI rfl (by decide) ?_
    refine s_X0_show_39 ?_
    rw [up_k (by decide), e11, h1, nI_1]
    refine s_X0_show_40 hI rfl (by decide) (Nat.le_of_ble_eq_true rfl) (c_weigh118 hI (t := t + 1) rfl (by omega)) ?_
    intro h9 e9; rw [e9]; clear e9 h9
    refine s_X0_show_43 (hΦ _ (?_))
    have hrow : ∀ i, i < t + 1 → am_up (am_up h7 119 t v) 118 2 (nI (t + 1)) 119 i = upd r t v i := by
      intro i hi'
      rw [up_k (by decide), up_c]
      by_cases he : i = t
      · subst he; rw [up_f, up_f]
      · rw [up_n he, up_n he, e12]; exact h5 i (by omega)
    have hwt : ∀ k, k < 4 → am_up (am_up h7 119 t v) 118 2 (nI (t + 1)) 120 k = adw w (upd r t v) sp t k := by
      intro k hk
      rw [up_k (by decide), up_k (by decide), h9 k hk, h3, h4, h6 k hk]
      unfold adw
      rw [if_pos hk, up_f, wfo_congr (fun _ _ => rfl) (r' := upd r t v) (fun i hi' => (up_n (by omega)).symm), sm_congr (by omega) (r' := upd r t v) (fun i hi' => by rw [up_n (by omega)]; exact h5 i hi')]
    refine ⟨(((h8.mono (by decide)).up (by decide)).up (by decide)).up (by decide), fun _ => ⟨rfl, ?_, ?_, ?_, fun i hi' => ?_, fun k hk => ?_⟩⟩
    · rw [up_c, up_n (by decide), up_c, up_n (by decide), up_k (by decide), e11]; exact h2
    · rw [up_c, up_n (by decide), up_c, up_n (by decide), up_k (by decide), e11]; exact h3
    · rw [up_c, up_f]; exact wfo_congr hwt hrow
    · show am_up _ 118 5 _ 119 i = _
      rw [up_k (by decide)]; exact hrow i hi'
    · show am_up _ 118 5 _ 120 k = _
      rw [up_k (by decide)]; exact hwt k hk
