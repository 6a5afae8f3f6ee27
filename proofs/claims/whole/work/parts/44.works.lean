/-! ===== the text: how the class reads it ===== -/
def chr (cd : Nat → Nat) (n a : Nat) : Nat := if a < n then cd a else 0
def dgt (c : Nat) : Option Nat := if 48 ≤ c ∧ c ≤ 57 then some (c - 48) else none
/-- on with a number, as long as it stays in its range -/
def ext (cd : Nat → Nat) (n most : Nat) : Nat → Nat → Nat → Nat × Nat
  | 0, v, a => (v, a)
  | k + 1, v, a => match dgt (chr cd n a) with
    | none => (v, a)
    | some e => if 0 < v ∧ 10 * v + e ≤ most then ext cd n most k (10 * v + e) (a + 1) else (v, a)
def cnum (cd : Nat → Nat) (n least most a : Nat) : Option (Nat × Nat) := match dgt (chr cd n a) with
  | none => none
  | some d => if least ≤ d ∧ d ≤ most then some (ext cd n most 3 d (a + 1)) else none
/-- the text is there, n codes -/
def TX (hi : am_HI) (cd : Nat → Nat) (n : Nat) : Prop := hi 115 1 = nI n ∧ n ≤ 80 ∧ ∀ i, i < n → hi 116 i = nI (cd i) ∧ 33 ≤ cd i ∧ cd i ≤ 126
def atI (hi : am_HI) (a : Nat) : am_HI := am_up hi 115 2 (nI a)
theorem TX.at {hi : am_HI} {cd : Nat → Nat} {n : Nat} (h : TX hi cd n) (a : Nat) : TX (atI hi a) cd n := by
  unfold TX atI
  rw [up_c, up_n (by decide), up_k (by decide)]
  exact h
theorem chr_d (cd : Nat → Nat) (n a : Nat) : chr cd n a = if a < n then cd a else 0 := rfl
theorem TX.chr {hi : am_HI} {cd : Nat → Nat} {n : Nat} (h : TX hi cd n) (a : Nat) : chr cd n a ≤ 126 := by
  rw [chr_d]
  by_cases ha : a < n
  · rw [if_pos ha]; exact (h.2.2 a ha).2.2
  · rw [if_neg ha]; omega
theorem at_at {hi : am_HI} {a b : Nat} : atI (atI hi a) b = atI hi b := up_up
theorem at_2 {hi : am_HI} {a : Nat} : atI hi a 115 2 = nI a := by unfold atI; rw [up_c, up_f]
theorem c_codeHere {hi : am_HI} {g : am_G} (hI : am_Inv g) {cd : Nat → Nat} {n a : Nat} (h : TX hi cd n) (ha : hi 115 2 = nI a) (ha' : a ≤ 80) : am_Cr M_X8_codeHere [.ref 115] hi g (some (.int (nI (chr cd n a)))) (fun h => h = hi) := by
  obtain ⟨h1, h2, h3⟩ := h
  refine am_crn (by decide) (Nat.le_of_ble_eq_true rfl) (fun Φ hΦ => ?_)
  show AP M_X8_codeHere _ 0 [.ref 115] [] _ g Φ
  refine s_X8_codeHere_0 ?_
  refine s_X8_codeHere_1 hI rfl (by decide) ?_
  rw [ha]
  refine s_X8_codeHere_4 (fun h => absurd h ((nI_pos (by omega)))) (fun _ => ?_)
  refine s_X8_codeHere_7 ?_
  refine s_X8_codeHere_8 hI rfl (by decide) ?_
  refine s_X8_codeHere_11 ?_
  refine s_X8_codeHere_12 hI rfl (by decide) ?_
  rw [ha, h1]
  refine s_X8_codeHere_15 (fun hh => ?_) (fun hh => ?_)
  · refine s_X8_codeHere_39 ?_
    refine s_X8_codeHere_40 ?_
    rw [nI_leI (by omega) (by omega)] at hh
    rw [chr, if_neg (by omega)] at hΦ
    exact hΦ _ rfl
  · refine s_X8_codeHere_18 ?_
    refine s_X8_codeHere_19 hI rfl (by decide) ?_
    refine s_X8_codeHere_22 ?_
    rw [nI_leI (by omega) (by omega)] at hh
    rw [chr, if_pos (by omega)] at hΦ
    rw [ha]
    refine s_X8_codeHere_24 (fun h => absurd h ((nI_ge (b := 80) (by omega) (by decide)))) (fun _ => ?_)
    refine s_X8_codeHere_27 ?_
    refine s_X8_codeHere_28 hI rfl (by decide) rfl (by decide) ?_
    refine s_X8_codeHere_31 ?_
    refine s_X8_codeHere_32 hI rfl (by decide) ?_
    refine s_X8_codeHere_35 hI rfl (by decide) (by decide) (ha) (by omega) ?_
    refine s_X8_codeHere_36 ?_
    refine s_X8_codeHere_40 ?_
    rw [(h3 a (by omega)).1]
    exact hΦ _ rfl
def dgI (c : Nat) : Int32 := match dgt c with
  | none => -1
  | some d => nI d
theorem c_digitHere {hi : am_HI} {g : am_G} (hI : am_Inv g) {cd : Nat → Nat} {n a : Nat} (h : TX hi cd n) (ha : hi 115 2 = nI a) (ha' : a ≤ 80) : am_Cr M_X8_digitHere [.ref 115] hi g (some (.int (dgI (chr cd n a)))) (fun h => h = hi) := by
  have hc := h.chr a
  refine am_crn (by decide) (Nat.le_of_ble_eq_true rfl) (fun Φ hΦ => ?_)
  show AP M_X8_digitHere _ 0 [.ref 115, jk] [] _ g Φ
  refine s_X8_digitHere_0 ?_
  refine s_X8_digitHere_1 hI rfl (by decide) (Nat.le_of_ble_eq_true rfl) (c_codeHere hI h ha ha') ?_
  intro h9 e9; rw [e9]; clear e9 h9
  refine s_X8_digitHere_4 rfl ?_
  refine s_X8_digitHere_5 ?_
  refine s_X8_digitHere_6 ?_
  generalize chr cd n a = c at hc hΦ
  unfold dgI dgt at hΦ
  refine s_X8_digitHere_8 (fun h1 => ?_) (fun h1 => ?_)
  · refine s_X8_digitHere_24 ?_
    refine s_X8_digitHere_25 ?_
    have h1' : c < 48 := (nI_ltI (a := c) (b := 48) (by omega) (by decide)).mp h1
    rw [if_neg (by omega)] at hΦ
    exact hΦ _ rfl
  · refine s_X8_digitHere_11 ?_
    refine s_X8_digitHere_12 ?_
    have h1' : ¬ c < 48 := fun e => h1 ((nI_ltI (a := c) (b := 48) (by omega) (by decide)).mpr e)
    refine s_X8_digitHere_14 (fun h2 => ?_) (fun h2 => ?_)
    · refine s_X8_digitHere_24 ?_
      refine s_X8_digitHere_25 ?_
      have h2' : 57 < c := (nI_ltI (a := 57) (b := c) (by decide) (by omega)).mp h2
      rw [if_neg (by omega)] at hΦ
      exact hΦ _ rfl
    · refine s_X8_digitHere_17 ?_
      refine s_X8_digitHere_18 ?_
      refine s_X8_digitHere_20 ?_
      refine s_X8_digitHere_21 ?_
      refine s_X8_digitHere_25 ?_
      have h2' : ¬ 57 < c := fun e => h2 ((nI_ltI (a := 57) (b := c) (by decide) (by omega)).mpr e)
      rw [if_pos (by omega)] at hΦ
      rw [show nI c - 48 = nI (c - 48) from pk_sub (b := 48) (by omega)]
      exact hΦ _ rfl
def tk (cd : Nat → Nat) (n a k : Nat) : Nat := if chr cd n a = k then a + 1 else a
theorem c_take {hi : am_HI} {g : am_G} (hI : am_Inv g) {cd : Nat → Nat} {n a k : Nat} (h : TX hi cd n) (ha : hi 115 2 = nI a) (ha' : a ≤ 80) (hk : k < 1000) : am_Cr M_X8_take [.ref 115, .int (nI k)] hi g (some (.int (bI (decide (chr cd n a = k))))) (fun h => h = atI hi (tk cd n a k)) := by
  have hc := h.chr a
  refine am_crn (by decide) (Nat.le_of_ble_eq_true rfl) (fun Φ hΦ => ?_)
  show AP M_X8_take _ 0 [.ref 115, .int (nI k), jk] [] _ g Φ
  refine s_X8_take_0 ?_
  refine s_X8_take_1 hI rfl (by decide) (Nat.le_of_ble_eq_true rfl) (c_codeHere hI h ha ha') ?_
  intro h9 e9; rw [e9]; clear e9 h9
  refine s_X8_take_4 ?_
  unfold tk at hΦ
  refine s_X8_take_5 (fun hh => ?_) (fun hh => ?_)
  · refine s_X8_take_12 ?_
    refine s_X8_take_13 rfl ?_
    refine s_X8_take_14 ?_
    rw [nI_eq (by omega) (by omega)] at hh
    rw [decide_eq_false hh, if_neg hh] at hΦ
    refine s_X8_take_15 (fun _ => ?_) (fun h => absurd (by decide) h)
    refine s_X8_take_28 ?_
    refine s_X8_take_29 (by first | exact Or.inl rfl | exact Or.inr rfl | exact bI_01 _) ?_
    exact hΦ _ (up_sf ha).symm
  · refine s_X8_take_8 ?_
    refine s_X8_take_9 ?_
    refine s_X8_take_13 rfl ?_
    refine s_X8_take_14 ?_
    rw [nI_eq (by omega) (by omega)] at hh
    rw [decide_eq_true hh, if_pos hh] at hΦ
    refine s_X8_take_15 (fun h => absurd h (by decide)) (fun _ => ?_)
    refine s_X8_take_18 ?_
    refine s_X8_take_19 rfl ?_
    refine s_X8_take_20 hI rfl (by decide) ?_
    refine s_X8_take_23 ?_
    refine s_X8_take_24 ?_
    refine s_X8_take_25 hI rfl (by decide) ?_
    refine s_X8_take_28 ?_
    rw [ha, nI_1]
    exact s_X8_take_29 (by first | exact Or.inl rfl | exact Or.inr rfl | exact bI_01 _) (hΦ _ (rfl))
theorem ext_le (cd : Nat → Nat) (n most : Nat) : ∀ k v a, a ≤ n → (ext cd n most k v a).2 ≤ n ∧ a ≤ (ext cd n most k v a).2 := by
  intro k
  induction k with
  | zero => intro v a h; exact ⟨h, Nat.le_refl _⟩
  | succ k ih =>
    intro v a h
    rw [ext]
    by_cases hn : a < n
    · split
      · exact ⟨h, Nat.le_refl _⟩
      · split
        · rename_i e _ _
          have := ih (10 * v + e) (a + 1) (by omega)
          exact ⟨this.1, by omega⟩
        · exact ⟨h, Nat.le_refl _⟩
    · rw [show chr cd n a = 0 from if_neg hn]
      exact ⟨h, Nat.le_refl _⟩
theorem cnum_le {cd : Nat → Nat} {n least most a : Nat} {q : Nat × Nat} (h : cnum cd n least most a = some q) : a < q.2 ∧ q.2 ≤ n := by
  unfold cnum at h
  by_cases hn : a < n
  · split at h
    · cases h
    · split at h
      · cases h
        rename_i e _ _
        have := ext_le cd n most 3 e (a + 1) (by omega)
        exact ⟨by omega, this.1⟩
      · cases h
  · rw [show chr cd n a = 0 from if_neg hn] at h
    cases h
theorem ext_v (cd : Nat → Nat) (n most : Nat) : ∀ k v a, v ≤ most → (ext cd n most k v a).1 ≤ most := by
  intro k
  induction k with
  | zero => intro v a h; exact h
  | succ k ih =>
    intro v a h
    rw [ext]
    split
    · exact h
    · split
      · rename_i hh
        exact ih _ _ hh.2
      · exact h
theorem cnum_v {cd : Nat → Nat} {n least most a : Nat} {q : Nat × Nat} (h : cnum cd n least most a = some q) : q.1 ≤ most := by
  unfold cnum at h
  split at h
  · cases h
  · split at h
    · rename_i hh
      cases h
      exact ext_v cd n most 3 _ _ hh.2
    · cases h
def numI : Option (Nat × Nat) → Int32
  | none => -1
  | some q => nI q.1
def numA (a : Nat) : Option (Nat × Nat) → Nat
  | none => a
  | some q => q.2
theorem dgt_lt {c d : Nat} (h : dgt c = some d) : d ≤ 9 := by
  unfold dgt at h
  split at h
  · cases h; omega
  · cases h
theorem c_readNum {hi : am_HI} {g : am_G} (hI : am_Inv g) {cd : Nat → Nat} {n a least most : Nat} (h : TX hi cd n) (ha : hi 115 2 = nI a) (ha' : a ≤ 80) (hl : least ≤ 9) (hm : most ≤ 198) : am_Cr M_X8_readNumber [.ref 115, .int (nI least), .int (nI most)] hi g (some (.int (numI (cnum cd n least most a)))) (fun h => h = atI hi (numA a (cnum cd n least most a))) := by
  have loop : ∀ k v a (Φ : am_P), a ≤ n → v ≤ 1000 → (v = 0 ∨ 198 < v * 10 ^ k) → (∀ h', h' = atI hi (ext cd n most k v a).2 → Φ (.ok (some (.int (nI (ext cd n most k v a).1)))) h' g) → AP M_X8_readNumber (0, 0) 27 [.ref 115, .int (nI least), .int (nI most), .int (nI v)] [] (atI hi a) g Φ := by
    intro k
    induction k with
    | zero =>
      intro v a Φ ha1 hv hv2 hΦ
      have hlen : atI hi a 115 1 = nI n := (h.at a).1
      refine s_X8_readNumber_27 ?_
      refine s_X8_readNumber_28 hI rfl (by decide) ?_
      refine s_X8_readNumber_31 ?_
      refine s_X8_readNumber_32 hI rfl (by decide) ?_
      rw [at_2, hlen]
      refine s_X8_readNumber_35 (fun h1 => ?_) (fun h1 => ?_)
      · refine s_X8_readNumber_86 ?_
        exact s_X8_readNumber_87 (hΦ _ rfl)
      · refine s_X8_readNumber_38 ?_
        refine s_X8_readNumber_39 (fun h2 => ?_) (fun h2 => ?_)
        · refine s_X8_readNumber_86 ?_
          exact s_X8_readNumber_87 (hΦ _ rfl)
        · refine s_X8_readNumber_42 ?_
          have hv0 : ¬ v = 0 := fun e => h2 (by rw [e]; decide)
          refine s_X8_readNumber_43 hI rfl (by decide) (Nat.le_of_ble_eq_true rfl) (c_digitHere hI (h.at a) at_2 (by have := h.2.1; omega)) ?_
          intro h9 e9; rw [e9]; clear e9 h9
          refine s_X8_readNumber_46 ?_
          refine s_X8_readNumber_47 (fun h3 => ?_) (fun h3 => ?_)
          · refine s_X8_readNumber_86 ?_
            exact s_X8_readNumber_87 (hΦ _ rfl)
          · refine s_X8_readNumber_50 ?_
            refine s_X8_readNumber_52 ?_
            refine s_X8_readNumber_53 ?_
            refine s_X8_readNumber_54 ?_
            refine s_X8_readNumber_55 hI rfl (by decide) (Nat.le_of_ble_eq_true rfl) (c_digitHere hI (h.at a) at_2 (by have := h.2.1; omega)) ?_
            intro h9 e9; rw [e9]; clear e9 h9
            refine s_X8_readNumber_58 ?_
            refine s_X8_readNumber_59 ?_
            unfold dgI at h3 ⊢
            split at h3
            · exact absurd rfl h3
            · rename_i e hd
              have he := dgt_lt hd
              rw [show 10 * nI v = nI (10 * v) from pk_mul 10 v, nI_add]
              refine s_X8_readNumber_60 (fun _ => ?_) (fun h4 => absurd (nI_lt (a := most) (b := 10 * v + e) (by omega) (by omega)) h4)
              exact s_X8_readNumber_86 (s_X8_readNumber_87 (hΦ _ rfl))
    | succ k ih =>
      intro v a Φ ha1 hv hv2 hΦ
      have hlen : atI hi a 115 1 = nI n := (h.at a).1
      rw [ext] at hΦ
      refine s_X8_readNumber_27 ?_
      refine s_X8_readNumber_28 hI rfl (by decide) ?_
      refine s_X8_readNumber_31 ?_
      refine s_X8_readNumber_32 hI rfl (by decide) ?_
      rw [at_2, hlen]
      refine s_X8_readNumber_35 (fun h1 => ?_) (fun h1 => ?_)
      · refine s_X8_readNumber_86 ?_
        refine s_X8_readNumber_87 ?_
        have h1' : ¬ a < n := by have := (nI_leI (a := n) (b := a) (by have := h.2.1; omega) (by have := h.2.1; omega)).mp h1; omega
        rw [show chr cd n a = 0 from if_neg h1'] at hΦ
        exact hΦ _ rfl
      · refine s_X8_readNumber_38 ?_
        have h1' : a < n := by by_cases hh : a < n; exact hh; exact absurd (nI_le (a := n) (b := a) (by omega) (by have := h.2.1; omega)) h1
        refine s_X8_readNumber_39 (fun h2 => ?_) (fun h2 => ?_)
        · refine s_X8_readNumber_86 ?_
          refine s_X8_readNumber_87 ?_
          have hv0 : ¬ 0 < v := fun e => nI_nle e (by omega) h2
          split at hΦ
          · exact hΦ _ rfl
          · rw [if_neg (fun e => hv0 e.1)] at hΦ
            exact hΦ _ rfl
        · refine s_X8_readNumber_42 ?_
          have hv0 : 0 < v := by by_cases hh : v = 0; exact absurd (by rw [hh]; decide) h2; omega
          refine s_X8_readNumber_43 hI rfl (by decide) (Nat.le_of_ble_eq_true rfl) (c_digitHere hI (h.at a) at_2 (by have := h.2.1; omega)) ?_
          intro h9 e9; rw [e9]; clear e9 h9
          refine s_X8_readNumber_46 ?_
          refine s_X8_readNumber_47 (fun h3 => ?_) (fun h3 => ?_)
          · refine s_X8_readNumber_86 ?_
            refine s_X8_readNumber_87 ?_
            unfold dgI at h3
            split at h3
            · rename_i hd
              simp only [hd] at hΦ
              exact hΦ _ rfl
            · rename_i e hd
              exact absurd h3 (ne_m1 (by have := dgt_lt hd; omega))
          · refine s_X8_readNumber_50 ?_
            refine s_X8_readNumber_52 ?_
            refine s_X8_readNumber_53 ?_
            refine s_X8_readNumber_54 ?_
            have hde : ∃ e, dgt (chr cd n a) = some e := by
              unfold dgI at h3
              split at h3
              · exact absurd rfl h3
              · rename_i e hd; exact ⟨e, hd⟩
            obtain ⟨e, hd⟩ := hde
            have he := dgt_lt hd
            have hdI : dgI (chr cd n a) = nI e := by unfold dgI; rw [hd]
            refine s_X8_readNumber_55 hI rfl (by decide) (Nat.le_of_ble_eq_true rfl) (c_digitHere hI (h.at a) at_2 (by have := h.2.1; omega)) ?_
            intro h9 e9; rw [e9]; clear e9 h9
            refine s_X8_readNumber_58 ?_
            refine s_X8_readNumber_59 ?_
            rw [hdI, show 10 * nI v = nI (10 * v) from pk_mul 10 v, nI_add]
            simp only [hd] at hΦ
            refine s_X8_readNumber_60 (fun h4 => ?_) (fun h4 => ?_)
            · refine s_X8_readNumber_86 ?_
              refine s_X8_readNumber_87 ?_
              have h4' := (nI_ltI (by omega) (by omega)).mp h4
              rw [if_neg (by omega)] at hΦ
              exact hΦ _ rfl
            · refine s_X8_readNumber_63 ?_
              refine s_X8_readNumber_65 ?_
              refine s_X8_readNumber_66 ?_
              refine s_X8_readNumber_67 ?_
              have h4' : 10 * v + e ≤ most := by by_cases hh : 10 * v + e ≤ most; exact hh; exact absurd (nI_lt (by omega) (by omega)) h4
              rw [if_pos ⟨hv0, h4'⟩] at hΦ
              refine s_X8_readNumber_68 hI rfl (by decide) (Nat.le_of_ble_eq_true rfl) (c_digitHere hI (h.at a) at_2 (by have := h.2.1; omega)) ?_
              intro h9 e9; rw [e9]; clear e9 h9
              refine s_X8_readNumber_71 ?_
              refine s_X8_readNumber_72 rfl ?_
              refine s_X8_readNumber_73 ?_
              refine s_X8_readNumber_74 rfl ?_
              refine s_X8_readNumber_75 hI rfl (by decide) ?_
              refine s_X8_readNumber_78 ?_
              refine s_X8_readNumber_79 ?_
              refine s_X8_readNumber_80 hI rfl (by decide) ?_
              refine s_X8_readNumber_83 ?_
              rw [hdI, show 10 * nI v = nI (10 * v) from pk_mul 10 v, nI_add, at_2, nI_1]
              have e9 : am_up (atI hi a) 115 2 (nI (a + 1)) = atI hi (a + 1) := up_up
              rw [e9]
              refine ih _ _ Φ (by omega) (by omega) (Or.inr ?_) hΦ
              have hp : v * 10 ^ (k + 1) = 10 * v * 10 ^ k := by rw [Nat.pow_succ, Nat.mul_comm (10 ^ k), ← Nat.mul_assoc, Nat.mul_comm v]
              have hq : 10 * v * 10 ^ k ≤ (10 * v + e) * 10 ^ k := Nat.mul_le_mul_right _ (by omega)
              omega
  have e0 : atI hi a = hi := up_sf ha
  refine am_crn (by decide) (Nat.le_of_ble_eq_true rfl) (fun Φ hΦ => ?_)
  show AP M_X8_readNumber _ 0 [.ref 115, .int (nI least), .int (nI most), jk] [] _ g Φ
  refine s_X8_readNumber_0 ?_
  refine s_X8_readNumber_1 hI rfl (by decide) (Nat.le_of_ble_eq_true rfl) (c_digitHere hI h ha ha') ?_
  intro h9 e9; rw [e9]; clear e9 h9
  refine s_X8_readNumber_4 rfl ?_
  refine s_X8_readNumber_5 ?_
  refine s_X8_readNumber_6 ?_
  unfold cnum at hΦ
  by_cases hd : dgt (chr cd n a) = none
  · have hdI : dgI (chr cd n a) = -1 := by unfold dgI; rw [hd]
    simp only [hd] at hΦ
    rw [hdI]
    refine s_X8_readNumber_7 (fun _ => ?_) (fun h => absurd (by rw [am_lt, am_nI (by omega)]; exact Int.lt_of_lt_of_le (by decide) (Int.natCast_nonneg _)) h)
    exact s_X8_readNumber_15 (s_X8_readNumber_16 (hΦ _ e0.symm))
  obtain ⟨d, hd⟩ := Option.ne_none_iff_exists'.mp hd
  have hd9 := dgt_lt hd
  have han : a < n := by
    by_cases hh : a < n
    · exact hh
    · rw [show chr cd n a = 0 from if_neg hh] at hd; cases hd
  rw [show dgI (chr cd n a) = nI d by unfold dgI; rw [hd]]
  simp only [hd] at hΦ
  refine s_X8_readNumber_7 (fun h1 => ?_) (fun h1 => ?_)
  · refine s_X8_readNumber_15 ?_
    refine s_X8_readNumber_16 ?_
    have h1' := (nI_ltI (by omega) (by omega)).mp h1
    rw [if_neg (by omega)] at hΦ
    exact hΦ _ e0.symm
  · refine s_X8_readNumber_10 ?_
    refine s_X8_readNumber_11 ?_
    have h1' : least ≤ d := by by_cases hh : least ≤ d; exact hh; exact absurd (nI_lt (by omega) (by omega)) h1
    refine s_X8_readNumber_12 (fun h2 => ?_) (fun h2 => ?_)
    · refine s_X8_readNumber_17 ?_
      refine s_X8_readNumber_18 rfl ?_
      refine s_X8_readNumber_19 hI rfl (by decide) ?_
      refine s_X8_readNumber_22 ?_
      refine s_X8_readNumber_23 ?_
      refine s_X8_readNumber_24 hI rfl (by decide) ?_
      have h2' := (nI_leI (by omega) (by omega)).mp h2
      rw [if_pos ⟨h1', h2'⟩] at hΦ
      rw [ha, nI_1]
      exact loop 3 d (a + 1) Φ (by omega) (by omega) (by omega) hΦ
    · refine s_X8_readNumber_15 ?_
      refine s_X8_readNumber_16 ?_
      have h2' : ¬ d ≤ most := fun e => h2 (nI_le e (by omega))
      rw [if_neg (by omega)] at hΦ
      exact hΦ _ e0.symm
