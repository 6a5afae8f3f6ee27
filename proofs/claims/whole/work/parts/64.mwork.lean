/-! ===== the model reads a work ===== -/
theorem m_numberX {hi : am_HI} {g : am_G} (hI : am_Inv g) {cd : Nat → Nat} {n s : Nat} (mt : MT hi cd n) (hs : hi 123 13 = nI s) (h2 : s < 1000) (a : ¬ hi 123 14 = -1) {least most : Nat} (hm : 9 ≤ most ∧ most ≤ 198) : am_Cr M_X10_number [.ref 123, .int (nI least), .int (nI most)] hi g (some (.int (sg cd n s - 48))) (fun h => h = hi) := by
  have dead : ∀ k i (h : am_HI) (r : Int32) (Φ : am_P), i + k = 2 → ¬ h 123 14 = -1 → Φ (.ok (some (.int r))) h g → AP M_X10_number (0, 0) 21 [.ref 123, .int (nI least), .int (nI most), .int r, .int (nI i)] [] h g Φ := by
    intro k
    induction k with
    | zero =>
      intro i h r Φ hik hw hΦ
      refine s_X10_number_21 ?_
      refine s_X10_number_23 ?_
      refine s_X10_number_24 (fun _ => ?_) (fun h => absurd (nI_le (a := 2) (b := i) (by omega) (by omega)) h)
      refine s_X10_number_94 ?_
      refine s_X10_number_95 ?_
      exact hΦ
    | succ k ih =>
      intro i h r Φ hik hw hΦ
      refine s_X10_number_21 ?_
      refine s_X10_number_23 ?_
      refine s_X10_number_24 (fun h => absurd h (nI_ge (a := i) (b := 2) (by omega) (by decide))) (fun _ => ?_)
      refine s_X10_number_27 ?_
      refine s_X10_number_28 hI rfl (by decide) ?_
      refine s_X10_number_31 ?_
      refine s_X10_number_32 (fun _ => ?_) (fun h => absurd h (hw))
      refine s_X10_number_88 rfl ?_
      refine s_X10_number_91 ?_
      rw [nI_1]
      exact ih (i + 1) h r Φ (by omega) hw hΦ
  refine am_crn (by decide) (Nat.le_of_ble_eq_true rfl) (fun Φ hΦ => ?_)
  show AP M_X10_number _ 0 [.ref 123, .int (nI least), .int (nI most), jk, jk] [] _ g Φ
  refine s_X10_number_0 ?_
  refine s_X10_number_1 ?_
  refine s_X10_number_2 ?_
  refine s_X10_number_3 ?_
  refine s_X10_number_5 (fun _ => ?_) (fun h => absurd (nI_le (a := 9) (b := most) hm.1 (by omega)) h)
  refine s_X10_number_12 ?_
  refine s_X10_number_14 hI rfl (by decide) (Nat.le_of_ble_eq_true rfl) (m_digitX hI mt hs h2 a _ _) ?_
  intro h9 e9; rw [e9]; clear e9 h9
  refine s_X10_number_17 rfl ?_
  refine s_X10_number_18 ?_
  refine s_X10_number_19 rfl ?_
  exact dead 2 0 hi _ Φ (by omega) a (hΦ _ rfl)
theorem sg_chr {cd : Nat → Nat} {n s k : Nat} (hcd : ∀ i, i < n → 33 ≤ cd i ∧ cd i ≤ 126) (h0 : 0 < k) (hk : k < 1000) : sg cd n s = nI k ↔ chr cd n s = k := by
  unfold sg chr
  by_cases h : s < n
  · rw [if_pos h, if_pos h]
    exact nI_eq (by have := hcd s h; omega) (by omega)
  · rw [if_neg h, if_neg h]
    constructor
    · intro e; exact absurd e.symm (ne_m1 (by omega))
    · intro e; omega
def msi (cd : Nat → Nat) (n most s : Nat) : Bool × Nat × Int32 := if chr cd n s = 58 then ((mno cd n 0 most (tk cd n (s + 1) 45)).1, (mno cd n 0 most (tk cd n (s + 1) 45)).2.1, if chr cd n (s + 1) = 45 then -(mno cd n 0 most (tk cd n (s + 1) 45)).2.2 else (mno cd n 0 most (tk cd n (s + 1) 45)).2.2) else (false, s, sg cd n (s + 1) - 48)
theorem m_signedX {hi : am_HI} {g : am_G} (hI : am_Inv g) {cd : Nat → Nat} {n s : Nat} (mt : MT hi cd n) (hs : hi 123 13 = nI s) (h2 : s < 1000) (a : ¬ hi 123 14 = -1) {most : Nat} (hm : 9 ≤ most ∧ most ≤ 198) : am_Cr M_X10_signed [.ref 123, .int (nI most)] hi g (some (.int (sg cd n s - 48))) (fun h => h = hi) := by
  have fin : ∀ (f : Bool) (Φ : am_P), (∀ h', h' = hi → Φ (.ok (some (.int (sg cd n s - 48)))) h' g) → ∀ e2 e3 : Value, AP M_X10_signed (0, 0) 15 [.ref 123, .int (nI most), e2, e3] [.int (bI f), .ref 123] hi g Φ := by
    intro f Φ hΦ e2 e3
    refine s_X10_signed_15 hI rfl (by decide) (Nat.le_of_ble_eq_true rfl) (m_needsX hI f a) ?_
    intro h9 e9; rw [e9]; clear e9 h9
    refine s_X10_signed_18 ?_
    refine s_X10_signed_19 hI rfl (by decide) ?_
    refine s_X10_signed_22 ?_
    refine s_X10_signed_23 (fun _ => ?_) (fun h => absurd h (a))
    refine s_X10_signed_39 ?_
    refine s_X10_signed_40 rfl ?_
    refine s_X10_signed_41 ?_
    refine s_X10_signed_42 (fun _ => ?_) (fun h => absurd (by decide) h)
    refine s_X10_signed_50 ?_
    refine s_X10_signed_51 ?_
    refine s_X10_signed_52 ?_
    refine s_X10_signed_53 hI rfl (by decide) (Nat.le_of_ble_eq_true rfl) (m_numberX hI mt hs h2 a hm) ?_
    intro h9 e9; rw [e9]; clear e9 h9
    refine s_X10_signed_56 rfl ?_
    refine s_X10_signed_57 ?_
    refine s_X10_signed_58 (fun _ => ?_) (fun h => absurd (by decide) h)
    refine s_X10_signed_66 ?_
    exact s_X10_signed_67 (hΦ _ (rfl))
  refine am_crn (by decide) (Nat.le_of_ble_eq_true rfl) (fun Φ hΦ => ?_)
  show AP M_X10_signed _ 0 [.ref 123, .int (nI most), jk, jk] [] _ g Φ
  refine s_X10_signed_0 ?_
  refine s_X10_signed_1 ?_
  refine s_X10_signed_2 hI rfl (by decide) (Nat.le_of_ble_eq_true rfl) (m_sign hI mt hs h2) ?_
  intro h9 e9; rw [e9]; clear e9 h9
  refine s_X10_signed_5 ?_
  refine s_X10_signed_7 (fun hc => ?_) (fun hc => ?_)
  · refine s_X10_signed_14 ?_
    exact fin false Φ hΦ _ _
  · refine s_X10_signed_10 ?_
    refine s_X10_signed_11 ?_
    exact fin true Φ hΦ _ _
theorem m_signed {hi : am_HI} {g : am_G} (hI : am_Inv g) {cd : Nat → Nat} {n s : Nat} (mt : MT hi cd n) (a : RA hi s) (hs : s ≤ n) {most : Nat} (hm : 9 ≤ most ∧ most ≤ 198) : am_Cr M_X10_signed [.ref 123, .int (nI most)] hi g (some (.int (msi cd n most s).2.2)) (fun h => h = nst hi (msi cd n most s).1 (msi cd n most s).2.1) := by
  have hn80 := mt.2.1
  have hcd : ∀ i, i < n → 33 ≤ cd i ∧ cd i ≤ 126 := fun i hi' => (mt.2.2 i hi').2
  unfold msi
  by_cases hc : chr cd n s = 58
  · have hsn : s < n := chr_lt (by rw [hc]; decide)
    have hsg : sg cd n s = 58 := (sg_chr hcd (by decide) (by decide)).mpr hc
    have mt1 := mt.sp (s + 1)
    have ra1 := a.sp (s + 1)
    by_cases hd : chr cd n (s + 1) = 45
    · have hsn1 : s + 1 < n := chr_lt (by rw [hd]; decide)
      have hsg1 : sg cd n (s + 1) = 45 := (sg_chr hcd (by decide) (by decide)).mpr hd
      have etk : tk cd n (s + 1) 45 = s + 1 + 1 := if_pos hd
      rw [if_pos hc, if_pos hd, etk]
      refine am_crn (by decide) (Nat.le_of_ble_eq_true rfl) (fun Φ hΦ => ?_)
      show AP M_X10_signed _ 0 [.ref 123, .int (nI most), jk, jk] [] _ g Φ
      refine s_X10_signed_0 ?_
      refine s_X10_signed_1 ?_
      refine s_X10_signed_2 hI rfl (by decide) (Nat.le_of_ble_eq_true rfl) (m_sign hI mt a.2 (by omega)) ?_
      intro h9 e9; rw [e9]; clear e9 h9
      refine s_X10_signed_5 ?_
      rw [hsg]
      refine s_X10_signed_7 (fun h => absurd (Eq.refl (58 : Int32)) h) (fun _ => ?_)
      refine s_X10_signed_10 ?_
      refine s_X10_signed_11 ?_
      refine s_X10_signed_15 hI rfl (by decide) (Nat.le_of_ble_eq_true rfl) (m_needsT hI a) ?_
      intro h9 e9; rw [e9]; clear e9 h9
      refine s_X10_signed_18 ?_
      refine s_X10_signed_19 hI rfl (by decide) ?_
      refine s_X10_signed_22 ?_
      rw [ra1.1]
      refine s_X10_signed_23 (fun h => absurd (Eq.refl (-1 : Int32)) h) (fun _ => ?_)
      refine s_X10_signed_26 ?_
      refine s_X10_signed_27 hI rfl (by decide) (Nat.le_of_ble_eq_true rfl) (m_sign hI mt1 ra1.2 (by omega)) ?_
      intro h9 e9; rw [e9]; clear e9 h9
      refine s_X10_signed_30 ?_
      rw [hsg1]
      refine s_X10_signed_32 (fun h => absurd (Eq.refl (45 : Int32)) h) (fun _ => ?_)
      refine s_X10_signed_35 ?_
      refine s_X10_signed_36 ?_
      refine s_X10_signed_40 rfl ?_
      refine s_X10_signed_41 ?_
      refine s_X10_signed_42 (fun h => absurd h (by decide)) (fun _ => ?_)
      refine s_X10_signed_45 ?_
      refine s_X10_signed_46 ?_
      refine s_X10_signed_47 hI rfl (by decide) (Nat.le_of_ble_eq_true rfl) (m_needsT hI ra1) ?_
      intro h9 e9; rw [e9]; clear e9 h9
      refine s_X10_signed_50 ?_
      refine s_X10_signed_51 ?_
      refine s_X10_signed_52 ?_
      rw [sp_sp]
      refine s_X10_signed_53 hI rfl (by decide) (Nat.le_of_ble_eq_true rfl) (m_number hI (least := 0) (most := most) (mt.sp _) (a.sp (s + 1 + 1)) (by omega) (by decide) hm.1 hm.2) ?_
      intro h9 e9; rw [e9]; clear e9 h9
      refine s_X10_signed_56 rfl ?_
      refine s_X10_signed_57 ?_
      rw [sp_ns]
      refine s_X10_signed_58 (fun h => absurd h (by decide)) (fun _ => ?_)
      refine s_X10_signed_61 ?_
      refine s_X10_signed_62 ?_
      refine s_X10_signed_63 ?_
      exact s_X10_signed_67 (hΦ _ (rfl))
    · have hsg1 : ¬ sg cd n (s + 1) = 45 := fun e => hd ((sg_chr hcd (k := 45) (by decide) (by decide)).mp e)
      have etk : tk cd n (s + 1) 45 = s + 1 := if_neg hd
      rw [if_pos hc, if_neg hd, etk]
      refine am_crn (by decide) (Nat.le_of_ble_eq_true rfl) (fun Φ hΦ => ?_)
      show AP M_X10_signed _ 0 [.ref 123, .int (nI most), jk, jk] [] _ g Φ
      refine s_X10_signed_0 ?_
      refine s_X10_signed_1 ?_
      refine s_X10_signed_2 hI rfl (by decide) (Nat.le_of_ble_eq_true rfl) (m_sign hI mt a.2 (by omega)) ?_
      intro h9 e9; rw [e9]; clear e9 h9
      refine s_X10_signed_5 ?_
      rw [hsg]
      refine s_X10_signed_7 (fun h => absurd (Eq.refl (58 : Int32)) h) (fun _ => ?_)
      refine s_X10_signed_10 ?_
      refine s_X10_signed_11 ?_
      refine s_X10_signed_15 hI rfl (by decide) (Nat.le_of_ble_eq_true rfl) (m_needsT hI a) ?_
      intro h9 e9; rw [e9]; clear e9 h9
      refine s_X10_signed_18 ?_
      refine s_X10_signed_19 hI rfl (by decide) ?_
      refine s_X10_signed_22 ?_
      rw [ra1.1]
      refine s_X10_signed_23 (fun h => absurd (Eq.refl (-1 : Int32)) h) (fun _ => ?_)
      refine s_X10_signed_26 ?_
      refine s_X10_signed_27 hI rfl (by decide) (Nat.le_of_ble_eq_true rfl) (m_sign hI mt1 ra1.2 (by omega)) ?_
      intro h9 e9; rw [e9]; clear e9 h9
      refine s_X10_signed_30 ?_
      refine s_X10_signed_32 (fun _ => ?_) (fun h => absurd h (hsg1))
      refine s_X10_signed_39 ?_
      refine s_X10_signed_40 rfl ?_
      refine s_X10_signed_41 ?_
      refine s_X10_signed_42 (fun _ => ?_) (fun h => absurd (by decide) h)
      refine s_X10_signed_50 ?_
      refine s_X10_signed_51 ?_
      refine s_X10_signed_52 ?_
      refine s_X10_signed_53 hI rfl (by decide) (Nat.le_of_ble_eq_true rfl) (m_number hI (least := 0) (most := most) mt1 ra1 (by omega) (by decide) hm.1 hm.2) ?_
      intro h9 e9; rw [e9]; clear e9 h9
      refine s_X10_signed_56 rfl ?_
      refine s_X10_signed_57 ?_
      rw [sp_ns]
      refine s_X10_signed_58 (fun _ => ?_) (fun h => absurd (by decide) h)
      refine s_X10_signed_66 ?_
      exact s_X10_signed_67 (hΦ _ (rfl))
  · have hsg : ¬ sg cd n s = 58 := fun e => hc ((sg_chr hcd (k := 58) (by decide) (by decide)).mp e)
    rw [if_neg hc]
    have dw := de_w (hi := hi) (s := s) (by omega)
    refine am_crn (by decide) (Nat.le_of_ble_eq_true rfl) (fun Φ hΦ => ?_)
    show AP M_X10_signed _ 0 [.ref 123, .int (nI most), jk, jk] [] _ g Φ
    refine s_X10_signed_0 ?_
    refine s_X10_signed_1 ?_
    refine s_X10_signed_2 hI rfl (by decide) (Nat.le_of_ble_eq_true rfl) (m_sign hI mt a.2 (by omega)) ?_
    intro h9 e9; rw [e9]; clear e9 h9
    refine s_X10_signed_5 ?_
    refine s_X10_signed_7 (fun _ => ?_) (fun h => absurd h (hsg))
    refine s_X10_signed_14 ?_
    refine s_X10_signed_15 hI rfl (by decide) (Nat.le_of_ble_eq_true rfl) (m_needsF hI a) ?_
    intro h9 e9; rw [e9]; clear e9 h9
    refine s_X10_signed_18 ?_
    refine s_X10_signed_19 hI rfl (by decide) ?_
    refine s_X10_signed_22 ?_
    refine s_X10_signed_23 (fun _ => ?_) (fun h => absurd h (dw.1))
    refine s_X10_signed_39 ?_
    refine s_X10_signed_40 rfl ?_
    refine s_X10_signed_41 ?_
    refine s_X10_signed_42 (fun _ => ?_) (fun h => absurd (by decide) h)
    refine s_X10_signed_50 ?_
    refine s_X10_signed_51 ?_
    refine s_X10_signed_52 ?_
    refine s_X10_signed_53 hI rfl (by decide) (Nat.le_of_ble_eq_true rfl) (m_numberX hI (mt.de s) dw.2.1 (by omega) dw.1 hm) ?_
    intro h9 e9; rw [e9]; clear e9 h9
    refine s_X10_signed_56 rfl ?_
    refine s_X10_signed_57 ?_
    refine s_X10_signed_58 (fun _ => ?_) (fun h => absurd (by decide) h)
    refine s_X10_signed_66 ?_
    exact s_X10_signed_67 (hΦ _ (rfl))
theorem ext_small {cd : Nat → Nat} {n most : Nat} (hm : most < 10) : ∀ k v a, ext cd n most k v a = (v, a) := by
  intro k v a
  cases k with
  | zero => rfl
  | succ k =>
    rw [ext]
    split
    · rfl
    · rw [if_neg (by omega)]
theorem mno_c {cd : Nat → Nat} {n least most s : Nat} (hl : least ≤ 9) (hm : 9 ≤ most ∧ most ≤ 198) : ((mno cd n least most s).1 = true → ∃ v, cnum cd n least most s = some (v, (mno cd n least most s).2.1) ∧ (mno cd n least most s).2.2 = nI v) ∧ ((mno cd n least most s).1 = false → (cnum cd n least most s = none ∧ (mno cd n least most s).2.1 = s) ∨ ∃ v d, cnum cd n least most s = some (v, (mno cd n least most s).2.1) ∧ dgt (chr cd n (mno cd n least most s).2.1) = some d) := by
  unfold mno cnum
  cases hd : dgt (chr cd n s) with
  | none => exact ⟨fun q => (by cases q), fun _ => Or.inl ⟨rfl, rfl⟩⟩
  | some d =>
    have h9 := dgt_lt hd
    dsimp only
    by_cases h : least ≤ d
    · rw [if_pos h, if_pos ⟨h, by omega⟩]
      obtain ⟨q1, q2, q3⟩ := mext_ext (cd := cd) (n := n) (most := most) 2 d (s + 1) (by omega)
      constructor
      · intro q
        exact ⟨_, by rw [← q1], by rw [q2 q]⟩
      · intro q
        obtain ⟨d', hd'⟩ := q3 q
        exact Or.inr ⟨_, d', by rw [← q1], hd'⟩
    · rw [if_neg h, if_neg (fun q => h q.1)]
      exact ⟨fun q => (by cases q), fun _ => Or.inl ⟨rfl, rfl⟩⟩
theorem mdi_c {cd : Nat → Nat} {n least most s : Nat} (hcd : ∀ i, i < n → 33 ≤ cd i ∧ cd i ≤ 126) (hl : least ≤ 9) (hm : most < 9) : ((mdi cd n least most s).1 = true → ∃ v, cnum cd n least most s = some (v, (mdi cd n least most s).2.1) ∧ (mdi cd n least most s).2.2 = nI v) ∧ ((mdi cd n least most s).1 = false → cnum cd n least most s = none ∧ (mdi cd n least most s).2.1 = s) := by
  have hw := dig_wi (cd := cd) (n := n) (s := s) (least := least) (most := most) hcd hl (by omega)
  unfold mdi cnum
  dsimp only
  constructor
  · intro q
    obtain ⟨d, hd, h1, h2⟩ := hw.mp q
    rw [if_pos q, hd]
    dsimp only
    rw [if_pos ⟨h1, h2⟩, ext_small (by omega)]
    exact ⟨d, rfl, (dig_v hd).1⟩
  · intro q
    rw [if_neg (by rw [q]; exact fun z => by cases z)]
    refine ⟨?_, rfl⟩
    cases hd : dgt (chr cd n s) with
    | none => rfl
    | some d =>
      dsimp only
      rw [if_neg (fun z => by rw [hw.mpr ⟨d, hd, z.1, z.2⟩] at q; cases q)]
theorem msi_s {cd : Nat → Nat} {n most s : Nat} (hm : 9 ≤ most ∧ most ≤ 198) : ((msi cd n most s).1 = true → chr cd n s = 58 ∧ sgn cd n most (s + 1) = (true, (msi cd n most s).2.1, (msi cd n most s).2.2)) ∧ ((msi cd n most s).1 = false → (¬ chr cd n s = 58 ∧ (msi cd n most s).2.1 = s) ∨ (chr cd n s = 58 ∧ (sgn cd n most (s + 1)).2.1 = (msi cd n most s).2.1 ∧ ((sgn cd n most (s + 1)).1 = false ∨ ∃ d, dgt (chr cd n (msi cd n most s).2.1) = some d))) := by
  unfold msi
  by_cases hc : chr cd n s = 58
  · rw [if_pos hc]
    dsimp only
    obtain ⟨q1, q2⟩ := mno_c (cd := cd) (n := n) (least := 0) (most := most) (s := tk cd n (s + 1) 45) (by decide) hm
    unfold sgn
    constructor
    · intro q
      obtain ⟨v, e1, e2⟩ := q1 q
      rw [e1, e2]
      exact ⟨hc, rfl⟩
    · intro q
      right
      rcases q2 q with ⟨e1, e2⟩ | ⟨v, d, e1, e2⟩
      · rw [e1, e2]
        exact ⟨hc, rfl, Or.inl rfl⟩
      · rw [e1]
        exact ⟨hc, rfl, Or.inr ⟨d, e2⟩⟩
  · rw [if_neg hc]
    exact ⟨fun q => (by cases q), fun _ => Or.inl ⟨hc, rfl⟩⟩
/-- what a work's reading leaves as it was -/
def SR (hi h : am_HI) (m : Nat) : Prop := fr [123, 132] hi h ∧ (∀ j, j ≠ 12 → j ≠ 13 → j ≠ 14 → h 123 j = hi 123 j) ∧ (∀ j, j < 3 * m → h 132 j = hi 132 j) ∧ h 123 12 = hi 123 12
theorem SR.rfl {hi : am_HI} {m : Nat} : SR hi hi m := ⟨fr.rfl, fun _ _ _ _ => Eq.refl _, fun _ _ => Eq.refl _, Eq.refl _⟩
theorem SR.sp {hi h : am_HI} {m : Nat} (a : SR hi h m) (s : Nat) : SR hi (spt h s) m := ⟨a.1.up (by decide), fun j h1 h2 h3 => by unfold spt; rw [up_c, up_n h2]; exact a.2.1 j h1 h2 h3, fun j hj => by unfold spt; rw [up_k (by decide)]; exact a.2.2.1 j hj, by unfold spt; rw [up_c, up_n (by decide)]; exact a.2.2.2⟩
theorem SR.de {hi h : am_HI} {m : Nat} (a : SR hi h m) (s : Nat) : SR hi (ded h s) m := ⟨(a.1.up (by decide)).up (by decide), fun j h1 h2 h3 => by unfold ded; rw [up_c, up_n h2, up_c, up_n h3]; exact a.2.1 j h1 h2 h3, fun j hj => by unfold ded; rw [up_k (by decide), up_k (by decide)]; exact a.2.2.1 j hj, by unfold ded; rw [up_c, up_n (by decide), up_c, up_n (by decide)]; exact a.2.2.2⟩
theorem SR.ns {hi h : am_HI} {m : Nat} (a : SR hi h m) (b : Bool) (s : Nat) : SR hi (nst h b s) m := by
  unfold nst
  split
  · exact a.sp s
  · exact a.de s
theorem SR.w {hi h : am_HI} {m j : Nat} (a : SR hi h m) (hj : 3 * m ≤ j) (x : Int32) : SR hi (am_up h 132 j x) m := ⟨a.1.up (by decide), fun i h1 h2 h3 => by rw [up_k (by decide)]; exact a.2.1 i h1 h2 h3, fun i hi' => by rw [up_c, up_n (by omega)]; exact a.2.2.1 i hi', by rw [up_k (by decide)]; exact a.2.2.2⟩
theorem MT.w {hi : am_HI} {cd : Nat → Nat} {n : Nat} (a : MT hi cd n) (j : Nat) (x : Int32) : MT (am_up hi 132 j x) cd n := by
  unfold MT at *
  rw [up_k (by decide), up_k (by decide)]
  exact a
theorem RA.w {hi : am_HI} {s : Nat} (a : RA hi s) (j : Nat) (x : Int32) : RA (am_up hi 132 j x) s := by
  unfold RA at *
  rw [up_k (by decide)]
  exact a
/-- the works' row holds a work at m -/
def WK (h : am_HI) (m c : Nat) (x v : Int32) : Prop := h 132 (3 * m) = nI c ∧ (is0 c = false → h 132 (3 * m + 1) = if is2 c = true then x else if c = 45 then -v else v) ∧ (is2 c = true → h 132 (3 * m + 2) = v)
/-- how the reading of the work at s ended: well, or with a fault -/
def MD (h : am_HI) (cd : Nat → Nat) (n s m : Nat) : Prop := ((wk cd n s).1 = true ∧ RA h (wk cd n s).2.1 ∧ WK h m (chr cd n s) (wk cd n s).2.2.1 (wk cd n s).2.2.2) ∨ (h 123 14 = nI (wk cd n s).2.1 ∧ ((wk cd n s).1 = false ∨ ∃ d, dgt (chr cd n (wk cd n s).2.1) = some d))
