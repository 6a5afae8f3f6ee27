/-! ===== the model: foretelling, weights, left-overs, bits ===== -/
theorem m_sample {hi : am_HI} {g : am_G} (hI : am_Inv g) {q n t k : Nat} (hq : am_SH q = (1, n)) (hq2 : q < 134) (hn : n ≤ 1000) (ht : t ≤ n) (hk : 1 ≤ k) (hk2 : k ≤ 1000) : am_Cr M_X10_sample [.ref q, .int (nI t - nI k)] hi g (some (.int (sm (hi q) t k))) (fun h => h = hi) := by
  have hn31 : n < 2 ^ 31 := by omega
  refine am_crn (by decide) (Nat.le_of_ble_eq_true rfl) (fun Φ hΦ => ?_)
  show AP M_X10_sample _ 0 [.ref q, .int (nI t - nI k)] [] _ g Φ
  refine s_X10_sample_0 ?_
  refine s_X10_sample_1 (fun h => ?_) (fun h => ?_)
  · refine s_X10_sample_8 ?_
    refine s_X10_sample_9 ?_
    have h' : ¬ t < k := fun e => absurd h (Int32.not_le.mpr ((nsub_lt0 (by omega) (by omega)).mpr e))
    rw [sm, if_pos (by omega)] at hΦ
    rw [pk_sub (by omega)]
    refine s_X10_sample_10 hI (by first | assumption | rfl | decide | omega) (by first | assumption | rfl | decide | omega) (by first | assumption | rfl | decide | omega) (rfl) (by omega) ?_
    exact s_X10_sample_11 (hΦ _ rfl)
  · refine s_X10_sample_4 ?_
    refine s_X10_sample_5 ?_
    refine s_X10_sample_11 ?_
    have h' : t < k := (nsub_lt0 (by omega) (by omega)).mp (Int32.not_le.mp h)
    rw [sm, if_neg (by omega)] at hΦ
    exact hΦ _ rfl
/-- the two rows that the model foretells from -/
def rw2 (q : Nat) : Prop := q = 124 ∨ q = 130
theorem rw2_sh {q : Nat} (h : rw2 q) : ∃ n, am_SH q = (1, n) ∧ q < 134 ∧ 48 ≤ n ∧ n ≤ 1000 := by
  rcases h with rfl | rfl
  · exact ⟨172, rfl, by decide, by decide, by decide⟩
  · exact ⟨48, rfl, by decide, by decide, by decide⟩
theorem m_samp {hi : am_HI} {g : am_G} (hI : am_Inv g) {q t k : Nat} (hq : rw2 q) (ht : t ≤ 48) (hk : 1 ≤ k) (hk2 : k ≤ 1000) : am_Cr M_X10_sample [.ref q, .int (nI t - nI k)] hi g (some (.int (sm (hi q) t k))) (fun h => h = hi) := by
  obtain ⟨n, h1, h2, h3, h4⟩ := rw2_sh hq
  exact m_sample hI h1 h2 h4 (by omega) hk hk2
theorem shr44 : ((4 : Int32) &&& 31) = 4 := by decide
theorem m_foretell {hi : am_HI} {g : am_G} (hI : am_Inv g) {q t d : Nat} (kd : Nat) (hkd : kd ≤ 4) (hq : rw2 q) (ht : t ≤ 48) (hd : kd = 3 → 1 ≤ d ∧ d ≤ 12) : am_Cr M_X10_foretell [.ref 123, .ref q, .int (nI kd), .int (nI t), .int (nI d)] hi g (some (.int (fore kd d (hi 128) (hi q) t))) (fun h => h = hi) := by
  rcases (show kd = 0 ∨ kd = 1 ∨ kd = 2 ∨ kd = 3 ∨ kd = 4 by omega) with rfl | rfl | rfl | rfl | rfl
  · refine am_crn (by decide) (Nat.le_of_ble_eq_true rfl) (fun Φ hΦ => ?_)
    show AP M_X10_foretell _ 0 [.ref 123, .ref q, .int (nI 0), .int (nI t), .int (nI d), jk, jk] [] _ g Φ
    refine s_X10_foretell_0 ?_
    refine s_X10_foretell_1 (fun h => absurd (by decide) h) (fun _ => ?_)
    refine s_X10_foretell_4 ?_
    exact s_X10_foretell_5 (hΦ _ rfl)
  · refine am_crn (by decide) (Nat.le_of_ble_eq_true rfl) (fun Φ hΦ => ?_)
    show AP M_X10_foretell _ 0 [.ref 123, .ref q, .int (nI 1), .int (nI t), .int (nI d), jk, jk] [] _ g Φ
    refine s_X10_foretell_0 ?_
    refine s_X10_foretell_1 (fun _ => ?_) (fun h => absurd h (by decide))
    refine s_X10_foretell_6 ?_
    refine s_X10_foretell_7 ?_
    refine s_X10_foretell_8 (fun h => absurd (by decide) h) (fun _ => ?_)
    refine s_X10_foretell_11 ?_
    refine s_X10_foretell_12 ?_
    refine s_X10_foretell_13 ?_
    refine s_X10_foretell_14 ?_
    refine s_X10_foretell_15 hI (Nat.le_of_ble_eq_true rfl) (m_samp hI (k := 1) hq ht (by decide) (by decide)) ?_
    intro h9 e9; rw [e9]; clear e9 h9
    refine s_X10_foretell_18 hI (Nat.le_of_ble_eq_true rfl) (m_cut _) ?_
    intro h9 e9; rw [e9]; clear e9 h9
    exact s_X10_foretell_21 (hΦ _ (rfl))
  · refine am_crn (by decide) (Nat.le_of_ble_eq_true rfl) (fun Φ hΦ => ?_)
    show AP M_X10_foretell _ 0 [.ref 123, .ref q, .int (nI 2), .int (nI t), .int (nI d), jk, jk] [] _ g Φ
    refine s_X10_foretell_0 ?_
    refine s_X10_foretell_1 (fun _ => ?_) (fun h => absurd h (by decide))
    refine s_X10_foretell_6 ?_
    refine s_X10_foretell_7 ?_
    refine s_X10_foretell_8 (fun _ => ?_) (fun h => absurd h (by decide))
    refine s_X10_foretell_22 ?_
    refine s_X10_foretell_23 ?_
    refine s_X10_foretell_24 (fun h => absurd (by decide) h) (fun _ => ?_)
    refine s_X10_foretell_27 ?_
    refine s_X10_foretell_28 ?_
    refine s_X10_foretell_29 ?_
    refine s_X10_foretell_30 ?_
    refine s_X10_foretell_31 ?_
    refine s_X10_foretell_32 hI (Nat.le_of_ble_eq_true rfl) (m_samp hI (k := 1) hq ht (by decide) (by decide)) ?_
    intro h9 e9; rw [e9]; clear e9 h9
    refine s_X10_foretell_35 ?_
    refine s_X10_foretell_36 ?_
    refine s_X10_foretell_37 ?_
    refine s_X10_foretell_38 ?_
    refine s_X10_foretell_39 ?_
    refine s_X10_foretell_40 hI (Nat.le_of_ble_eq_true rfl) (m_samp hI (k := 2) hq ht (by decide) (by decide)) ?_
    intro h9 e9; rw [e9]; clear e9 h9
    refine s_X10_foretell_43 ?_
    refine s_X10_foretell_44 hI (Nat.le_of_ble_eq_true rfl) (m_cut _) ?_
    intro h9 e9; rw [e9]; clear e9 h9
    exact s_X10_foretell_47 (hΦ _ (rfl))
  · refine am_crn (by decide) (Nat.le_of_ble_eq_true rfl) (fun Φ hΦ => ?_)
    show AP M_X10_foretell _ 0 [.ref 123, .ref q, .int (nI 3), .int (nI t), .int (nI d), jk, jk] [] _ g Φ
    refine s_X10_foretell_0 ?_
    refine s_X10_foretell_1 (fun _ => ?_) (fun h => absurd h (by decide))
    refine s_X10_foretell_6 ?_
    refine s_X10_foretell_7 ?_
    refine s_X10_foretell_8 (fun _ => ?_) (fun h => absurd h (by decide))
    refine s_X10_foretell_22 ?_
    refine s_X10_foretell_23 ?_
    refine s_X10_foretell_24 (fun _ => ?_) (fun h => absurd h (by decide))
    refine s_X10_foretell_48 ?_
    refine s_X10_foretell_49 ?_
    refine s_X10_foretell_50 (fun h => absurd (by decide) h) (fun _ => ?_)
    refine s_X10_foretell_53 ?_
    refine s_X10_foretell_54 ?_
    refine s_X10_foretell_55 ?_
    refine s_X10_foretell_57 ?_
    refine s_X10_foretell_58 hI (Nat.le_of_ble_eq_true rfl) (m_samp hI (k := d) hq ht (hd rfl).1 (by have := (hd rfl).2; omega)) ?_
    intro h9 e9; rw [e9]; clear e9 h9
    refine s_X10_foretell_61 hI (Nat.le_of_ble_eq_true rfl) (m_cut _) ?_
    intro h9 e9; rw [e9]; clear e9 h9
    exact s_X10_foretell_64 (hΦ _ (rfl))
  · refine am_crn (by decide) (Nat.le_of_ble_eq_true rfl) (fun Φ hΦ => ?_)
    show AP M_X10_foretell _ 0 [.ref 123, .ref q, .int (nI 4), .int (nI t), .int (nI d), jk, jk] [] _ g Φ
    refine s_X10_foretell_0 ?_
    refine s_X10_foretell_1 (fun _ => ?_) (fun h => absurd h (by decide))
    refine s_X10_foretell_6 ?_
    refine s_X10_foretell_7 ?_
    refine s_X10_foretell_8 (fun _ => ?_) (fun h => absurd h (by decide))
    refine s_X10_foretell_22 ?_
    refine s_X10_foretell_23 ?_
    refine s_X10_foretell_24 (fun _ => ?_) (fun h => absurd h (by decide))
    refine s_X10_foretell_48 ?_
    refine s_X10_foretell_49 ?_
    refine s_X10_foretell_50 (fun _ => ?_) (fun h => absurd h (by decide))
    refine s_X10_foretell_65 ?_
    refine s_X10_foretell_67 rfl ?_
    refine s_X10_foretell_69 ?_
    refine s_X10_foretell_70 rfl ?_
    have key := am_for0 (n := 4) (hi := hi) (fun _ h => h = hi) (fun i h => AP M_X10_foretell (0, 0) 72 [.ref 123, .ref q, .int (nI 4), .int (nI t), .int (nI d), .int (wacc (hi 128) (hi q) t i), .int (nI (i + 1))] [] h g Φ) rfl ?_ ?_
    · exact key
    · intro h9 e9
      obtain rfl := e9.symm
      refine s_X10_foretell_72 ?_
      refine s_X10_foretell_74 ?_
      refine s_X10_foretell_75 (fun _ => ?_) (fun h => absurd ((nI_lt (a := 4) (b := 4 + 1) (by decide) (by decide))) h)
      refine s_X10_foretell_107 ?_
      refine s_X10_foretell_109 ?_
      refine s_X10_foretell_110 ?_
      rw [shr44]
      refine s_X10_foretell_111 hI (Nat.le_of_ble_eq_true rfl) (m_cut _) ?_
      intro h9 e9; rw [e9]; clear e9 h9
      exact s_X10_foretell_114 (hΦ _ (rfl))
    · intro i h9 hi4 e9 ih
      obtain rfl := e9.symm
      refine s_X10_foretell_72 ?_
      refine s_X10_foretell_74 ?_
      refine s_X10_foretell_75 (fun h => absurd h ((nI_nlt (a := 4) (b := i + 1) (by omega) (by decide)))) (fun _ => ?_)
      refine s_X10_foretell_78 ?_
      refine s_X10_foretell_80 ?_
      refine s_X10_foretell_81 hI rfl (by decide) rfl (by decide) ?_
      refine s_X10_foretell_84 ?_
      refine s_X10_foretell_86 ?_
      refine s_X10_foretell_87 ?_
      refine s_X10_foretell_88 hI rfl (by decide) (by decide) (nI_i1 i) (hi4) ?_
      refine s_X10_foretell_89 ?_
      refine s_X10_foretell_90 ?_
      refine s_X10_foretell_91 ?_
      refine s_X10_foretell_93 ?_
      refine s_X10_foretell_94 hI (Nat.le_of_ble_eq_true rfl) (m_samp hI (k := i + 1) hq ht (by omega) (by omega)) ?_
      intro h9 e9; rw [e9]; clear e9 h9
      refine s_X10_foretell_97 ?_
      refine s_X10_foretell_98 ?_
      refine s_X10_foretell_99 rfl ?_
      refine s_X10_foretell_101 rfl ?_
      refine s_X10_foretell_104 ?_
      rw [nI_1]
      exact ih _ rfl
theorem m_begins {hi : am_HI} {g : am_G} (hI : am_Inv g) {f : Nat} (hf : f + 4 ≤ 172) : am_Cr M_X10_begins [.ref 123, .int (nI f)] hi g none (fun h => fr [128] hi h ∧ ∀ k, k < 4 → h 128 k = hi 124 (f + k)) := by
  refine am_crn (by decide) (Nat.le_of_ble_eq_true rfl) (fun Φ hΦ => ?_)
  show AP M_X10_begins _ 0 [.ref 123, .int (nI f), jk] [] _ g Φ
  refine s_X10_begins_0 ?_
  refine s_X10_begins_1 rfl ?_
  have key := am_for0 (n := 4) (hi := hi) (fun i h => fr [128] hi h ∧ ∀ k, k < i → h 128 k = hi 124 (f + k)) (fun i h => AP M_X10_begins (0, 0) 2 [.ref 123, .int (nI f), .int (nI i)] [] h g Φ) ⟨fr.rfl, fun k hk => absurd hk (Nat.not_lt_zero _)⟩ ?_ ?_
  · exact key
  · intro h ⟨h1, h2⟩
    refine s_X10_begins_2 ?_
    refine s_X10_begins_3 ?_
    refine s_X10_begins_4 (fun _ => ?_) (fun h => absurd ((nI_le (a := 4) (b := 4) (by decide) (by decide))) h)
    exact s_X10_begins_27 (hΦ _ (⟨h1, h2⟩))
  · intro i h hi4 ⟨h1, h2⟩ ih
    refine s_X10_begins_2 ?_
    refine s_X10_begins_3 ?_
    refine s_X10_begins_4 (fun h => absurd h ((nI_ge (a := i) (b := 4) (by omega) (by decide)))) (fun _ => ?_)
    refine s_X10_begins_7 ?_
    refine s_X10_begins_8 hI rfl (by decide) rfl (by decide) ?_
    refine s_X10_begins_11 ?_
    refine s_X10_begins_12 ?_
    refine s_X10_begins_13 hI rfl (by decide) rfl (by decide) ?_
    refine s_X10_begins_16 ?_
    refine s_X10_begins_17 ?_
    refine s_X10_begins_18 ?_
    rw [nI_add]
    refine s_X10_begins_19 hI rfl (by decide) (by decide) (rfl) (by omega) ?_
    refine s_X10_begins_20 hI rfl (by decide) (by decide) (rfl) (hi4) ?_
    refine s_X10_begins_21 rfl ?_
    refine s_X10_begins_24 ?_
    rw [nI_1]
    refine ih _ ⟨h1.up (by decide), fun k hk => ?_⟩
    rw [up_r]
    by_cases he : k = i
    · subst he
      rw [if_pos ⟨rfl, rfl⟩, h1 124 (by decide)]
    · rw [if_neg (by omega)]
      exact h2 k (by omega)
theorem m_adapts {hi : am_HI} {g : am_G} (hI : am_Inv g) {q t : Nat} (sp : Int32) (hq : rw2 q) (ht : t < 48) : am_Cr M_X10_adapts [.ref 123, .ref q, .int (nI t), .int sp] hi g none (fun h => fr [128] hi h ∧ ∀ k, k < 4 → h 128 k = adw (hi 128) (hi q) sp t k) := by
  obtain ⟨n, n1, n2, n3, n4⟩ := rw2_sh hq
  have n5 : n < 2 ^ 31 := by omega
  have hq9 : q ≠ 128 := by rcases hq with rfl | rfl <;> decide
  have had : ∀ k, k < 4 → adw (hi 128) (hi q) sp t k = ad1 sp (hi q t - wfo (hi 128) (hi q) t) (sm (hi q) t (k + 1)) (hi 128 k) := fun k hk => if_pos hk
  refine am_crn (by decide) (Nat.le_of_ble_eq_true rfl) (fun Φ hΦ => ?_)
  show AP M_X10_adapts _ 0 [.ref 123, .ref q, .int (nI t), .int sp, jk, jk, jk] [] _ g Φ
  refine s_X10_adapts_0 ?_
  refine s_X10_adapts_1 ?_
  refine s_X10_adapts_2 hI (by first | assumption | rfl | decide | omega) (by first | assumption | rfl | decide | omega) (by first | assumption | rfl | decide | omega) (rfl) (by omega) ?_
  refine s_X10_adapts_3 ?_
  refine s_X10_adapts_4 ?_
  refine s_X10_adapts_5 ?_
  refine s_X10_adapts_6 ?_
  refine s_X10_adapts_7 ?_
  refine s_X10_adapts_8 hI (by first | assumption | rfl | decide | omega) (by first | assumption | rfl | decide | omega) (Nat.le_of_ble_eq_true rfl) (m_foretell hI (d := 0) 4 (by decide) hq (by omega) (fun e => by cases e)) ?_
  intro h9 e9; rw [e9]; clear e9 h9
  refine s_X10_adapts_11 ?_
  refine s_X10_adapts_12 (by first | assumption | rfl | decide | omega) ?_
  refine s_X10_adapts_14 ?_
  refine s_X10_adapts_15 (by first | assumption | rfl | decide | omega) ?_
  generalize hleft : hi q t - fore 4 0 (hi 128) (hi q) t = left
  have hleft' : hi q t - wfo (hi 128) (hi q) t = left := hleft
  rw [hleft'] at had
  have key := am_for0 (n := 4) (hi := hi) (fun i h => fr [128] hi h ∧ ∀ k, h 128 k = if k < i then ad1 sp left (sm (hi q) t (k + 1)) (hi 128 k) else hi 128 k) (fun i h => ∀ e : Value, AP M_X10_adapts (0, 0) 17 [.ref 123, .ref q, .int (nI t), .int sp, .int left, .int (nI (i + 1)), e] [] h g Φ) ⟨fr.rfl, fun k => by rw [if_neg (by omega)]⟩ ?_ ?_
  · exact key _
  · intro h ⟨h1, h2⟩ e
    refine s_X10_adapts_17 ?_
    refine s_X10_adapts_19 ?_
    refine s_X10_adapts_20 (fun _ => ?_) (fun h => absurd ((nI_lt (a := 4) (b := 4 + 1) (by decide) (by decide))) h)
    exact s_X10_adapts_94 (hΦ _ (⟨h1, fun k hk => by rw [h2, if_pos hk, had k hk]⟩))
  · intro i h hi4 ⟨h1, h2⟩ ih e
    have w0 : h 128 i = hi 128 i := by rw [h2, if_neg (by omega)]
    have hqq : h q = hi q := h1 q (by simp [hq9])
    have move : ∀ x : Int32, ad1 sp left (sm (hi q) t (i + 1)) (hi 128 i) = x → ∀ k, am_up h 128 i x 128 k = if k < i + 1 then ad1 sp left (sm (hi q) t (k + 1)) (hi 128 k) else hi 128 k := by
      intro x hx k
      rw [up_c]
      by_cases hk : k = i
      · subst hk
        rw [up_f, if_pos (by omega), hx]
      · rw [up_n hk, h2]
        by_cases hk2 : k < i
        · rw [if_pos hk2, if_pos (by omega)]
        · rw [if_neg hk2, if_neg (by omega)]
    have st : ∀ (x : Int32) (v : Value), ad1 sp left (sm (hi q) t (i + 1)) (hi 128 i) = hi 128 i + x → AP M_X10_adapts (0, 0) 86 [.ref 123, .ref q, .int (nI t), .int sp, .int left, .int (nI (i + 1)), v] [.int x, .int (h 128 i), .int (nI (i + 1) - 1), .ref 128] h g Φ := by
      intro x v hx
      refine s_X10_adapts_86 ?_
      refine s_X10_adapts_87 hI rfl (by decide) (by decide) (nI_i1 i) (hi4) ?_
      refine s_X10_adapts_88 rfl ?_
      refine s_X10_adapts_91 ?_
      rw [nI_1]
      exact ih _ ⟨h1.up (by decide), move _ (by rw [hx, w0])⟩ _
    by_cases hl : left = 0
    · subst hl
      refine s_X10_adapts_17 ?_
      refine s_X10_adapts_19 ?_
      refine s_X10_adapts_20 (fun h => absurd h ((nI_nlt (a := 4) (b := i + 1) (by omega) (by decide)))) (fun _ => ?_)
      refine s_X10_adapts_23 ?_
      refine s_X10_adapts_25 (fun _ => ?_) (fun h => absurd (rfl) h)
      exact s_X10_adapts_94 (hΦ _ (⟨h1, fun k hk => by rw [h2, had k hk, ad1, if_pos (Or.inl rfl), ite_self]⟩))
    refine s_X10_adapts_17 ?_
    refine s_X10_adapts_19 ?_
    refine s_X10_adapts_20 (fun h => absurd h ((nI_nlt (a := 4) (b := i + 1) (by omega) (by decide)))) (fun _ => ?_)
    refine s_X10_adapts_23 ?_
    refine s_X10_adapts_25 (fun h => absurd h (hl)) (fun _ => ?_)
    refine s_X10_adapts_28 ?_
    refine s_X10_adapts_29 ?_
    refine s_X10_adapts_30 ?_
    refine s_X10_adapts_32 ?_
    refine s_X10_adapts_33 hI (Nat.le_of_ble_eq_true rfl) (m_samp hI (k := i + 1) hq (by omega) (by omega) (by omega)) ?_
    intro h9 e9; rw [e9]; clear e9 h9
    refine s_X10_adapts_36 rfl ?_
    refine s_X10_adapts_38 ?_
    refine s_X10_adapts_39 hI rfl (by decide) rfl (by decide) ?_
    refine s_X10_adapts_42 ?_
    refine s_X10_adapts_44 ?_
    refine s_X10_adapts_45 ?_
    refine s_X10_adapts_46 rfl rfl ?_
    rw [hqq]
    refine s_X10_adapts_47 hI rfl (by decide) (by decide) (nI_i1 i) (hi4) ?_
    refine s_X10_adapts_48 ?_
    refine s_X10_adapts_50 (fun hv => ?_) (fun hv => ?_)
    · refine s_X10_adapts_57 ?_
      refine s_X10_adapts_59 (fun hv1 => ?_) (fun hv1 => ?_)
      · refine s_X10_adapts_66 ?_
        refine s_X10_adapts_67 ?_
        refine s_X10_adapts_69 (fun hl1 => ?_) (fun hl1 => ?_)
        · refine s_X10_adapts_76 ?_
          refine s_X10_adapts_77 (fun hne => ?_) (fun hne => ?_)
          · refine s_X10_adapts_84 ?_
            refine s_X10_adapts_85 ?_
            refine s_X10_adapts_86 ?_
            exact absurd rfl hne
          · refine s_X10_adapts_80 ?_
            refine s_X10_adapts_81 ?_
            exact st _ _ (by rw [ad1, if_neg (by rintro (z | z); exact hl z; exact hv z), if_pos (by simp only [eq_iff_iff]; exact ⟨fun z => absurd z (Int32.not_lt.mpr hv1), fun z => absurd z (Int32.not_lt.mpr hl1)⟩)])
        · refine s_X10_adapts_72 ?_
          refine s_X10_adapts_73 ?_
          refine s_X10_adapts_77 (fun hne => ?_) (fun hne => ?_)
          · refine s_X10_adapts_84 ?_
            refine s_X10_adapts_85 ?_
            exact st _ _ (by rw [ad1, if_neg (by rintro (z | z); exact hl z; exact hv z), if_neg (by simp only [eq_iff_iff]; exact fun z => absurd (z.mpr (Int32.not_le.mp hl1)) (Int32.not_lt.mpr hv1))])
          · refine s_X10_adapts_80 ?_
            refine s_X10_adapts_81 ?_
            refine s_X10_adapts_86 ?_
            exact absurd hne (by decide)
      · refine s_X10_adapts_62 ?_
        refine s_X10_adapts_63 ?_
        refine s_X10_adapts_67 ?_
        refine s_X10_adapts_69 (fun hl1 => ?_) (fun hl1 => ?_)
        · refine s_X10_adapts_76 ?_
          refine s_X10_adapts_77 (fun hne => ?_) (fun hne => ?_)
          · refine s_X10_adapts_84 ?_
            refine s_X10_adapts_85 ?_
            exact st _ _ (by rw [ad1, if_neg (by rintro (z | z); exact hl z; exact hv z), if_neg (by simp only [eq_iff_iff]; exact fun z => absurd (z.mp (Int32.not_le.mp hv1)) (Int32.not_lt.mpr hl1))])
          · refine s_X10_adapts_80 ?_
            refine s_X10_adapts_81 ?_
            refine s_X10_adapts_86 ?_
            exact absurd hne (by decide)
        · refine s_X10_adapts_72 ?_
          refine s_X10_adapts_73 ?_
          refine s_X10_adapts_77 (fun hne => ?_) (fun hne => ?_)
          · refine s_X10_adapts_84 ?_
            refine s_X10_adapts_85 ?_
            refine s_X10_adapts_86 ?_
            exact absurd rfl hne
          · refine s_X10_adapts_80 ?_
            refine s_X10_adapts_81 ?_
            exact st _ _ (by rw [ad1, if_neg (by rintro (z | z); exact hl z; exact hv z), if_pos (by simp only [eq_iff_iff]; exact ⟨fun _ => Int32.not_le.mp hl1, fun _ => Int32.not_le.mp hv1⟩)])
    · refine s_X10_adapts_53 ?_
      refine s_X10_adapts_54 ?_
      exact st _ _ (by rw [ad1, if_pos (Or.inr hv), Int32.add_zero])
/-- a left-over, and what the model keeps of them -/
def lfv (kd d : Nat) (w z : Nat → Int32) (sp : Int32) (t : Nat) : Int32 := z t - fore kd d (Wt w z sp t) z t
theorem m_leaves {hi : am_HI} {g : am_G} (hI : am_Inv g) {z : Nat → Int32} (hz : hi 124 = z) {kd d c : Nat} (sp : Int32) (hkd : kd ≤ 4) (hd : 1 ≤ d ∧ d ≤ 12) (hc : z 48 = nI c) (h48 : c ≤ 48) : am_Cr M_X10_leaves [.ref 123, .int (nI kd), .int (nI d), .int sp] hi g (some (.int (sumv kd d (hi 128) z sp c))) (fun h => fr [128, 129] hi h ∧ ∀ t, t < c → h 129 t = lfv kd d (hi 128) z sp t) := by
  refine am_crn (by decide) (Nat.le_of_ble_eq_true rfl) (fun Φ hΦ => ?_)
  show AP M_X10_leaves _ 0 [.ref 123, .int (nI kd), .int (nI d), .int sp, jk, jk] [] _ g Φ
  refine s_X10_leaves_0 ?_
  refine s_X10_leaves_1 rfl ?_
  refine s_X10_leaves_3 ?_
  refine s_X10_leaves_4 rfl ?_
  have key := am_for0 (n := c) (hi := hi) (fun i h => fr [128, 129] hi h ∧ (∀ k, k < 4 → h 128 k = Wt (hi 128) z sp i k) ∧ ∀ t, t < i → h 129 t = lfv kd d (hi 128) z sp t) (fun i h => AP M_X10_leaves (0, 0) 6 [.ref 123, .int (nI kd), .int (nI d), .int sp, .int (isum (fun t => absI (z t - fore kd d (Wt (hi 128) z sp t) z t)) i), .int (nI i)] [] h g Φ) ⟨fr.rfl, fun _ _ => rfl, fun k hk => absurd hk (Nat.not_lt_zero _)⟩ ?_ ?_
  · exact key
  · intro h ⟨h1, h2, h3⟩
    have ez : h 124 = z := (h1 124 (by decide)).trans hz
    refine s_X10_leaves_6 ?_
    refine s_X10_leaves_8 ?_
    refine s_X10_leaves_9 hI rfl (by decide) rfl (by decide) ?_
    refine s_X10_leaves_12 ?_
    refine s_X10_leaves_14 hI rfl (by decide) (by decide) (by decide : (_ : Int32) = nI 48) (by decide) ?_
    rw [ez, hc]
    refine s_X10_leaves_15 (fun _ => ?_) (fun h => absurd ((nI_le (Nat.le_refl _) (by omega))) h)
    refine s_X10_leaves_77 ?_
    exact s_X10_leaves_79 (hΦ _ (⟨h1, h3⟩))
  · intro i h hic ⟨h1, h2, h3⟩ ih
    have ez : h 124 = z := (h1 124 (by decide)).trans hz
    have ef : fore kd d (h 128) z i = fore kd d (Wt (hi 128) z sp i) z i := fore_congr hd.1 h2 (fun _ _ => rfl)
    refine s_X10_leaves_6 ?_
    refine s_X10_leaves_8 ?_
    refine s_X10_leaves_9 hI rfl (by decide) rfl (by decide) ?_
    refine s_X10_leaves_12 ?_
    refine s_X10_leaves_14 hI rfl (by decide) (by decide) (by decide : (_ : Int32) = nI 48) (by decide) ?_
    rw [ez, hc]
    refine s_X10_leaves_15 (fun h => absurd h ((nI_ge (a := i) (b := c) hic (by omega)))) (fun _ => ?_)
    refine s_X10_leaves_18 ?_
    refine s_X10_leaves_19 hI rfl (by decide) rfl (by decide) ?_
    refine s_X10_leaves_22 ?_
    refine s_X10_leaves_24 ?_
    refine s_X10_leaves_25 hI rfl (by decide) rfl (by decide) ?_
    refine s_X10_leaves_28 ?_
    refine s_X10_leaves_30 hI rfl (by decide) (by decide) (rfl) (by omega) ?_
    refine s_X10_leaves_31 ?_
    refine s_X10_leaves_32 ?_
    refine s_X10_leaves_33 hI rfl (by decide) rfl (by decide) ?_
    refine s_X10_leaves_36 ?_
    refine s_X10_leaves_37 ?_
    refine s_X10_leaves_39 ?_
    refine s_X10_leaves_40 hI rfl (by decide) (Nat.le_of_ble_eq_true rfl) (m_foretell hI (t := i) (d := d) kd hkd (Or.inl rfl) (by omega) (fun _ => hd)) ?_
    intro h9 e9; rw [e9]; clear e9 h9
    refine s_X10_leaves_43 ?_
    refine s_X10_leaves_44 hI rfl (by decide) (by decide) (rfl) (by omega) ?_
    refine s_X10_leaves_45 ?_
    refine s_X10_leaves_47 ?_
    refine s_X10_leaves_48 hI rfl (by decide) rfl (by decide) ?_
    refine s_X10_leaves_51 ?_
    refine s_X10_leaves_53 hI rfl (by decide) (by decide) (rfl) (by omega) ?_
    rw [ez, ef, up_c, up_f]
    refine s_X10_leaves_54 hI (Nat.le_of_ble_eq_true rfl) (m_size _) ?_
    intro h9 e9; rw [e9]; clear e9 h9
    refine s_X10_leaves_57 ?_
    refine s_X10_leaves_58 rfl ?_
    refine s_X10_leaves_60 ?_
    refine s_X10_leaves_61 ?_
    refine s_X10_leaves_62 hI rfl (by decide) rfl (by decide) ?_
    refine s_X10_leaves_65 ?_
    refine s_X10_leaves_67 ?_
    refine s_X10_leaves_68 hI rfl (by decide) (Nat.le_of_ble_eq_true rfl) (m_adapts hI (t := i) sp (Or.inl rfl) (by omega)) ?_
    intro h5 ⟨g1, g2⟩
    refine s_X10_leaves_71 rfl ?_
    refine s_X10_leaves_74 ?_
    rw [nI_1]
    refine ih _ ⟨(h1.up (by decide)).tr (g1.mono (by decide)), fun k hk => ?_, fun t ht => ?_⟩
    · rw [g2 k hk, up_k (by decide), up_k (by decide), ez]
      exact adw_congr h2 (fun _ _ => rfl) k hk
    · rw [g1 129 (by decide), up_r]
      by_cases he : t = i
      · rw [if_pos ⟨rfl, he⟩, he]; rfl
      · rw [if_neg (by omega)]; exact h3 t (by omega)
/-- the left-overs by a kind lie in the model's row -/
def LF (hi : am_HI) (z : Nat → Int32) (kd : Nat) : Prop := ∀ t, t < zc z → hi 129 t = zL z kd t
theorem LF.mv {hi h : am_HI} {z : Nat → Int32} {kd : Nat} (a : LF hi z kd) (e : h 129 = hi 129) : LF h z kd := fun t ht => by rw [e]; exact a t ht
theorem lfv_zL {z w : Nat → Int32} {kd t : Nat} (hd : 1 ≤ zd z) (hw : ∀ k, k < 4 → w k = z0 z k) : lfv kd (zd z) w z (z 50) t = zL z kd t := by
  unfold lfv zL zF zW
  rw [fore_congr hd (Wt_congr hw t (fun _ _ => rfl)) (fun _ _ => rfl)]
theorem m_leavesBy {hi : am_HI} {g : am_G} (hI : am_Inv g) {z : Nat → Int32} (hz : hi 124 = z) (ok : OKz z) {kd : Nat} (hkd : kd ≤ 4) : am_Cr M_X10_leavesBy [.ref 123, .int (nI kd)] hi g (some (.int (sumv kd (zd z) (z0 z) z (z 50) (zc z)))) (fun h => fr [128, 129] hi h ∧ LF h z kd) := by
  have hd := ok.1.2.2.2
  refine am_crn (by decide) (Nat.le_of_ble_eq_true rfl) (fun Φ hΦ => ?_)
  show AP M_X10_leavesBy _ 0 [.ref 123, .int (nI kd)] [] _ g Φ
  refine s_X10_leavesBy_0 ?_
  refine s_X10_leavesBy_1 ?_
  refine s_X10_leavesBy_3 hI rfl (by decide) (Nat.le_of_ble_eq_true rfl) (m_begins hI (f := 51) (by decide)) ?_
  intro h5 ⟨g1, g2⟩
  refine s_X10_leavesBy_6 ?_
  refine s_X10_leavesBy_7 ?_
  refine s_X10_leavesBy_8 ?_
  refine s_X10_leavesBy_9 hI rfl (by decide) rfl (by decide) ?_
  refine s_X10_leavesBy_12 ?_
  have ez : h5 124 = z := (g1 124 (by decide)).trans hz
  have ew : ∀ k, k < 4 → h5 128 k = z0 z k := fun k hk => by rw [g2 k hk, hz]; rfl
  refine s_X10_leavesBy_14 hI rfl (by decide) (by decide) (by decide : (_ : Int32) = nI 49) (by decide) ?_
  refine s_X10_leavesBy_15 ?_
  refine s_X10_leavesBy_16 hI rfl (by decide) rfl (by decide) ?_
  refine s_X10_leavesBy_19 ?_
  refine s_X10_leavesBy_21 hI rfl (by decide) (by decide) (by decide : (_ : Int32) = nI 50) (by decide) ?_
  rw [ez, ok.1.2.2.1]
  rw [← Wt_sum hd.1 ew] at hΦ
  refine s_X10_leavesBy_22 hI rfl (by decide) (Nat.le_of_ble_eq_true rfl) (m_leaves hI ez (z 50) hkd ⟨hd.1, hd.2.1⟩ ok.1.1 ok.1.2.1) ?_
  intro h6 ⟨g3, g4⟩
  exact s_X10_leavesBy_25 (hΦ _ (⟨(g1.mono (by decide)).tr g3, fun t ht => by rw [g4 t ht]; exact lfv_zL hd.1 ew⟩))
theorem m_weightsAhead {hi : am_HI} {g : am_G} (hI : am_Inv g) {z : Nat → Int32} (hz : hi 124 = z) {n : Nat} (hn : n ≤ 48) : am_Cr M_X10_weightsAhead [.ref 123, .int (nI n)] hi g none (fun h => fr [128] hi h ∧ ∀ k, k < 4 → h 128 k = zW z n k) := by
  refine am_crn (by decide) (Nat.le_of_ble_eq_true rfl) (fun Φ hΦ => ?_)
  show AP M_X10_weightsAhead _ 0 [.ref 123, .int (nI n), jk] [] _ g Φ
  refine s_X10_weightsAhead_0 ?_
  refine s_X10_weightsAhead_1 ?_
  refine s_X10_weightsAhead_3 hI rfl (by decide) (Nat.le_of_ble_eq_true rfl) (m_begins hI (f := 51) (by decide)) ?_
  intro h5 ⟨g1, g2⟩
  refine s_X10_weightsAhead_6 ?_
  refine s_X10_weightsAhead_7 rfl ?_
  have key := am_for0 (n := n) (hi := h5) (fun i h => fr [128] hi h ∧ ∀ k, k < 4 → h 128 k = zW z i k) (fun i h => AP M_X10_weightsAhead (0, 0) 8 [.ref 123, .int (nI n), .int (nI i)] [] h g Φ) ⟨g1, fun k hk => by rw [g2 k hk, hz]; rfl⟩ ?_ ?_
  · exact key
  · intro h ⟨h1, h2⟩
    refine s_X10_weightsAhead_8 ?_
    refine s_X10_weightsAhead_9 ?_
    refine s_X10_weightsAhead_10 (fun _ => ?_) (fun h => absurd ((nI_le (Nat.le_refl _) (by omega))) h)
    exact s_X10_weightsAhead_35 (hΦ _ (⟨h1, h2⟩))
  · intro i h hin ⟨h1, h2⟩ ih
    have ez : h 124 = z := (h1 124 (by decide)).trans hz
    refine s_X10_weightsAhead_8 ?_
    refine s_X10_weightsAhead_9 ?_
    refine s_X10_weightsAhead_10 (fun h => absurd h ((nI_ge (a := i) (b := n) hin (by omega)))) (fun _ => ?_)
    refine s_X10_weightsAhead_13 ?_
    refine s_X10_weightsAhead_14 ?_
    refine s_X10_weightsAhead_15 hI rfl (by decide) rfl (by decide) ?_
    refine s_X10_weightsAhead_18 ?_
    refine s_X10_weightsAhead_19 ?_
    refine s_X10_weightsAhead_20 hI rfl (by decide) rfl (by decide) ?_
    refine s_X10_weightsAhead_23 ?_
    refine s_X10_weightsAhead_25 hI rfl (by decide) (by decide) (by decide : (_ : Int32) = nI 50) (by decide) ?_
    refine s_X10_weightsAhead_26 hI rfl (by decide) (Nat.le_of_ble_eq_true rfl) (m_adapts hI (t := i) _ (Or.inl rfl) (by omega)) ?_
    intro h6 ⟨g3, g4⟩
    refine s_X10_weightsAhead_29 rfl ?_
    refine s_X10_weightsAhead_32 ?_
    rw [nI_1]
    refine ih _ ⟨h1.tr g3, fun k hk => ?_⟩
    rw [g4 k hk, ez]
    exact adw_congr h2 (fun _ _ => rfl) k hk
theorem m_foretoldOf {hi : am_HI} {g : am_G} (hI : am_Inv g) {z : Nat → Int32} (hz : hi 124 = z) (ok : OKz z) {kd n : Nat} (hkd : kd ≤ 4) (hn : n ≤ 48) : am_Cr M_X10_foretoldOf [.ref 123, .int (nI kd), .int (nI n)] hi g (some (.int (zF z kd n))) (fun h => fr [128] hi h) := by
  have hd := ok.1.2.2.2
  refine am_crn (by decide) (Nat.le_of_ble_eq_true rfl) (fun Φ hΦ => ?_)
  show AP M_X10_foretoldOf _ 0 [.ref 123, .int (nI kd), .int (nI n)] [] _ g Φ
  refine s_X10_foretoldOf_0 ?_
  refine s_X10_foretoldOf_1 ?_
  refine s_X10_foretoldOf_2 hI rfl (by decide) (Nat.le_of_ble_eq_true rfl) (m_weightsAhead hI hz hn) ?_
  intro h5 ⟨g1, g2⟩
  refine s_X10_foretoldOf_5 ?_
  refine s_X10_foretoldOf_6 ?_
  refine s_X10_foretoldOf_7 hI rfl (by decide) rfl (by decide) ?_
  refine s_X10_foretoldOf_10 ?_
  refine s_X10_foretoldOf_11 ?_
  refine s_X10_foretoldOf_12 ?_
  refine s_X10_foretoldOf_13 hI rfl (by decide) rfl (by decide) ?_
  refine s_X10_foretoldOf_16 ?_
  have ez : h5 124 = z := (g1 124 (by decide)).trans hz
  refine s_X10_foretoldOf_18 hI rfl (by decide) (by decide) (by decide : (_ : Int32) = nI 49) (by decide) ?_
  rw [ez, ok.1.2.2.1]
  refine s_X10_foretoldOf_19 hI rfl (by decide) (Nat.le_of_ble_eq_true rfl) (m_foretell hI (t := n) (d := zd z) kd hkd (Or.inl rfl) hn (fun _ => ⟨hd.1, hd.2.1⟩)) ?_
  intro h9 e9; rw [e9]; clear e9 h9
  have ef : fore kd (zd z) (h5 128) (h5 124) n = zF z kd n := by rw [ez]; exact fore_congr hd.1 g2 (fun _ _ => rfl)
  rw [ef]
  exact s_X10_foretoldOf_22 (hΦ _ (g1))
theorem m_blockBits {hi : am_HI} {g : am_G} (hI : am_Inv g) {z : Nat → Int32} (hz : hi 124 = z) (ok : OKz z) {b kd p : Nat} (lf : LF hi z kd) (hb : b < 6) (hp : p ≤ 7) : am_Cr M_X10_blockBits [.ref 123, .int (nI b), .int (nI p)] hi g (some (.int (zbb z kd b p))) (fun h => h = hi) := by
  have hc48 := ok.1.2.1
  refine am_crn (by decide) (Nat.le_of_ble_eq_true rfl) (fun Φ hΦ => ?_)
  show AP M_X10_blockBits _ 0 [.ref 123, .int (nI b), .int (nI p), jk, jk] [] _ g Φ
  refine s_X10_blockBits_0 ?_
  refine s_X10_blockBits_2 rfl ?_
  refine s_X10_blockBits_3 ?_
  refine s_X10_blockBits_5 ?_
  refine s_X10_blockBits_6 ?_
  refine s_X10_blockBits_7 rfl ?_
  rw [show 8 * nI b = nI (8 * b) from pk_mul 8 b]
  have key := am_for0 (n := min (8 * b + 8) (zc z) - 8 * b) (hi := hi) (fun _ h => h = hi) (fun t h => AP M_X10_blockBits (0, 0) 9 [.ref 123, .int (nI b), .int (nI p), .int (bsum (fun t => bofI (foldI (zL z kd t)) (nI p)) (8 * b) t), .int (nI (8 * b + t))] [] h g Φ) rfl ?_ ?_
  · exact key
  · intro h9 e9
    obtain rfl := e9.symm
    refine s_X10_blockBits_9 ?_
    refine s_X10_blockBits_11 ?_
    refine s_X10_blockBits_12 hI rfl (by decide) rfl (by decide) ?_
    refine s_X10_blockBits_15 ?_
    refine s_X10_blockBits_17 hI rfl (by decide) (by decide) (by decide : (_ : Int32) = nI 48) (by decide) ?_
    rw [hz, ok.1.1]
    refine s_X10_blockBits_18 (fun hh => ?_) (fun hh => ?_)
    · refine s_X10_blockBits_53 ?_
      exact s_X10_blockBits_54 (hΦ _ rfl)
    · refine s_X10_blockBits_21 ?_
      refine s_X10_blockBits_23 ?_
      refine s_X10_blockBits_25 ?_
      refine s_X10_blockBits_26 ?_
      refine s_X10_blockBits_27 ?_
      refine s_X10_blockBits_29 ?_
      have hh' : ¬ zc z ≤ 8 * b + (min (8 * b + 8) (zc z) - 8 * b) := fun e => hh (nI_le e (by omega))
      rw [show 8 * nI b = nI (8 * b) from pk_mul 8 b, show nI (8 * b) + 8 = nI (8 * b + 8) from nI_add _ _]
      refine s_X10_blockBits_30 (fun _ => ?_) (fun h => absurd ((nI_le (by omega) (by omega))) h)
      refine s_X10_blockBits_53 ?_
      exact s_X10_blockBits_54 (hΦ _ rfl)
  · intro t h9 ht e9 ih
    obtain rfl := e9.symm
    refine s_X10_blockBits_9 ?_
    refine s_X10_blockBits_11 ?_
    refine s_X10_blockBits_12 hI rfl (by decide) rfl (by decide) ?_
    refine s_X10_blockBits_15 ?_
    refine s_X10_blockBits_17 hI rfl (by decide) (by decide) (by decide : (_ : Int32) = nI 48) (by decide) ?_
    rw [hz, ok.1.1]
    refine s_X10_blockBits_18 (fun h => absurd h ((nI_ge (by omega) (by omega)))) (fun _ => ?_)
    refine s_X10_blockBits_21 ?_
    refine s_X10_blockBits_23 ?_
    refine s_X10_blockBits_25 ?_
    refine s_X10_blockBits_26 ?_
    refine s_X10_blockBits_27 ?_
    refine s_X10_blockBits_29 ?_
    rw [show 8 * nI b = nI (8 * b) from pk_mul 8 b, show nI (8 * b) + 8 = nI (8 * b + 8) from nI_add _ _]
    refine s_X10_blockBits_30 (fun h => absurd h ((nI_ge (by omega) (by omega)))) (fun _ => ?_)
    refine s_X10_blockBits_33 ?_
    refine s_X10_blockBits_34 ?_
    refine s_X10_blockBits_35 hI rfl (by decide) rfl (by decide) ?_
    refine s_X10_blockBits_38 ?_
    refine s_X10_blockBits_40 hI rfl (by decide) (by decide) (rfl) (by omega) ?_
    refine s_X10_blockBits_41 ?_
    rw [lf (8 * b + t) (by omega)]
    refine s_X10_blockBits_42 hI (Nat.le_of_ble_eq_true rfl) (m_bitsOf hI _ _) ?_
    intro h9 e9; rw [e9]; clear e9 h9
    refine s_X10_blockBits_45 ?_
    refine s_X10_blockBits_46 rfl ?_
    refine s_X10_blockBits_47 rfl ?_
    refine s_X10_blockBits_50 ?_
    rw [nI_1]
    have ih' := ih _ rfl
    rw [bsum] at ih'
    exact ih'
theorem m_parameterFor {hi : am_HI} {g : am_G} (hI : am_Inv g) {z : Nat → Int32} (hz : hi 124 = z) (ok : OKz z) {b kd : Nat} (lf : LF hi z kd) (hb : b < 6) : am_Cr M_X10_parameterFor [.ref 123, .int (nI b)] hi g (some (.int (nI (zpb z kd b)))) (fun h => h = hi) := by
  refine am_crn (by decide) (Nat.le_of_ble_eq_true rfl) (fun Φ hΦ => ?_)
  show AP M_X10_parameterFor _ 0 [.ref 123, .int (nI b), jk, jk] [] _ g Φ
  refine s_X10_parameterFor_0 ?_
  refine s_X10_parameterFor_1 rfl ?_
  refine s_X10_parameterFor_2 ?_
  refine s_X10_parameterFor_3 rfl ?_
  have key := am_for0 (n := 7) (hi := hi) (fun _ h => h = hi) (fun p h => AP M_X10_parameterFor (0, 0) 4 [.ref 123, .int (nI b), .int (nI (amin (zbb z kd b) p)), .int (nI (p + 1))] [] h g Φ) rfl ?_ ?_
  · exact key
  · intro h9 e9
    obtain rfl := e9.symm
    refine s_X10_parameterFor_4 ?_
    refine s_X10_parameterFor_5 ?_
    refine s_X10_parameterFor_7 (fun _ => ?_) (fun h => absurd ((nI_le (a := 8) (b := 7 + 1) (by decide) (by decide))) h)
    refine s_X10_parameterFor_37 ?_
    exact s_X10_parameterFor_38 (hΦ _ (rfl))
  · intro p h9 hp e9 ih
    obtain rfl := e9.symm
    have ha := amin_le (zbb z kd b) p
    have ih' := ih _ rfl
    rw [amin] at ih'
    refine s_X10_parameterFor_4 ?_
    refine s_X10_parameterFor_5 ?_
    refine s_X10_parameterFor_7 (fun h => absurd h ((nI_ge (a := p + 1) (b := 8) (by omega) (by decide)))) (fun _ => ?_)
    refine s_X10_parameterFor_10 ?_
    refine s_X10_parameterFor_11 ?_
    refine s_X10_parameterFor_12 ?_
    refine s_X10_parameterFor_13 hI rfl (by decide) (Nat.le_of_ble_eq_true rfl) (m_blockBits hI (p := p + 1) hz ok lf hb (by omega)) ?_
    intro h9 e9; rw [e9]; clear e9 h9
    refine s_X10_parameterFor_16 ?_
    refine s_X10_parameterFor_17 ?_
    refine s_X10_parameterFor_18 ?_
    refine s_X10_parameterFor_19 hI rfl (by decide) (Nat.le_of_ble_eq_true rfl) (m_blockBits hI (p := amin (zbb z kd b) p) hz ok lf hb (by omega)) ?_
    intro h9 e9; rw [e9]; clear e9 h9
    refine s_X10_parameterFor_22 (fun hh => ?_) (fun hh => ?_)
    · refine s_X10_parameterFor_29 ?_
      refine s_X10_parameterFor_30 rfl ?_
      refine s_X10_parameterFor_31 rfl ?_
      refine s_X10_parameterFor_34 ?_
      rw [if_neg (Int32.not_lt.mpr hh)] at ih'
      rw [nI_1]
      exact ih'
    · refine s_X10_parameterFor_25 ?_
      refine s_X10_parameterFor_26 ?_
      refine s_X10_parameterFor_30 rfl ?_
      refine s_X10_parameterFor_31 rfl ?_
      refine s_X10_parameterFor_34 ?_
      rw [if_pos (Int32.not_le.mp hh)] at ih'
      rw [nI_1]
      exact ih'
theorem m_fewest {hi : am_HI} {g : am_G} (hI : am_Inv g) {z : Nat → Int32} (hz : hi 124 = z) (ok : OKz z) {b kd : Nat} (hkd : kd ≤ 4) (hb : b < 6) : am_Cr M_X10_fewest [.ref 123, .int (nI b), .int (nI kd)] hi g (some (.int (zfb z kd b))) (fun h => fr [128, 129] hi h ∧ LF h z kd) := by
  refine am_crn (by decide) (Nat.le_of_ble_eq_true rfl) (fun Φ hΦ => ?_)
  show AP M_X10_fewest _ 0 [.ref 123, .int (nI b), .int (nI kd)] [] _ g Φ
  refine s_X10_fewest_0 ?_
  refine s_X10_fewest_1 ?_
  refine s_X10_fewest_2 hI rfl (by decide) (Nat.le_of_ble_eq_true rfl) (m_leavesBy hI hz ok hkd) ?_
  intro h5 ⟨g1, g2⟩
  refine s_X10_fewest_5 rfl ?_
  refine s_X10_fewest_6 ?_
  refine s_X10_fewest_7 ?_
  refine s_X10_fewest_8 ?_
  refine s_X10_fewest_9 ?_
  have ez : h5 124 = z := (g1 124 (by decide)).trans hz
  refine s_X10_fewest_10 hI rfl (by decide) (Nat.le_of_ble_eq_true rfl) (m_parameterFor hI ez ok g2 hb) ?_
  intro h9 e9; rw [e9]; clear e9 h9
  refine s_X10_fewest_13 hI rfl (by decide) (Nat.le_of_ble_eq_true rfl) (m_blockBits hI (p := zpb z kd b) ez ok g2 hb (amin_le _ 7)) ?_
  intro h9 e9; rw [e9]; clear e9 h9
  exact s_X10_fewest_16 (hΦ _ (⟨g1, g2⟩))
