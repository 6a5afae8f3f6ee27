/-! ===== booleans; the JDK's own numbers; the small static methods ===== -/
def bI (b : Bool) : Int32 := cond b 1 0
theorem bI_01 (b : Bool) : bI b = 0 ∨ bI b = 1 := by cases b <;> decide
theorem bI_e0 {b : Bool} : bI b = 0 ↔ b = false := by cases b <;> decide
theorem bI_e1 {b : Bool} : bI b = 1 ↔ b = true := by cases b <;> decide
theorem bI_n0 {b : Bool} : ¬ bI b = 0 ↔ b = true := by cases b <;> decide
theorem bI_t {b : Bool} (h : b = true) : bI b = 1 := by rw [h]; rfl
theorem bI_f {b : Bool} (h : b = false) : bI b = 0 := by rw [h]; rfl
theorem bI_d0 {p : Prop} {d : Decidable p} : bI (@decide p d) = 0 ↔ ¬ p := by rw [bI_e0, decide_eq_false_iff_not]
theorem bI_d1 {p : Prop} {d : Decidable p} : bI (@decide p d) = 1 ↔ p := by rw [bI_e1, decide_eq_true_iff]
/-- a number between two, both counted in -/
def wi (x a b : Int32) : Bool := decide (a ≤ x) && decide (x ≤ b)
theorem wi_t {x a b : Int32} : wi x a b = true ↔ a ≤ x ∧ x ≤ b := by simp [wi]
theorem wi_nI {x : Int32} {a b : Nat} (hb : b < 2147483648) (h : wi x (nI a) (nI b) = true) (ha : a < 2147483648) : ∃ k : Nat, a ≤ k ∧ k ≤ b ∧ x = nI k := by
  obtain ⟨h1, h2⟩ := wi_t.mp h
  rw [am_le, am_nI (by omega)] at h1 h2
  exact ⟨x.toInt.toNat, by omega, by omega, am_ofInt (by omega)⟩
def absI (x : Int32) : Int32 := if 0 ≤ x then x else -x
def foldI (x : Int32) : Int32 := if 0 ≤ x then 2 * x else -2 * x - 1
def unfI (x : Int32) : Int32 := if x &&& 1 = 0 then x / 2 else -(x + 1) / 2
def bofI (x p : Int32) : Int32 := (x >>> (p &&& 31)) + 1 + p
/-- how many blocks -/
def blkI (c : Int32) : Int32 := (c + 8 - 1) / 8
theorem div8 {n : Nat} (h : n < 2147483600) : nI n / 8 = nI (n / 8) := pk_div (d := 8) (by omega) (by decide) (by decide)
theorem rem8 {n : Nat} (h : n < 2147483600) : nI n - nI n / 8 * 8 = nI (n % 8) := pk_rem (d := 8) (by omega) (by decide) (by decide)
theorem blk_nI7 {c : Nat} (h : c < 2147483500) : (nI c + 7) / 8 = nI ((c + 7) / 8) := by
  rw [show nI c + 7 = nI (c + 7) from nI_add c 7, div8 (by omega)]
theorem blk_nI {c : Nat} (h : c < 2147483500) : blkI (nI c) = nI ((c + 7) / 8) := by
  unfold blkI
  rw [show nI c + 8 = nI (c + 8) from nI_add c 8, show nI (c + 8) - 1 = nI (c + 7) from nI_pred (c + 7), div8 (by omega)]
theorem am_crn {M : am_M} {av : List Value} {hi : am_HI} {g : am_G} {r : Option Value} {P : am_HI → Prop} (hpl : plainName (am_y M).cls = true) (hlen : (am_flat av).length ≤ am_nL M) (h : ∀ Φ : am_P, (∀ h', P h' → Φ (.ok r) h' g) → AP M (0, 0) 0 (am_ent (am_nL M) av) [] hi g Φ) : am_Cr M av hi g r P :=
  am_ct hpl hlen (h _ (fun _ hp => ⟨rfl, rfl, hp⟩))
theorem am_ctn {M : am_M} {b : Nat × Nat} {av : List Value} {hi : am_HI} {g : am_G} {Ψ : am_P} (hpl : plainName (am_y M).cls = true) (hlen : (am_flat av).length ≤ am_nL M) (h : ∀ Φ : am_P, (∀ r h' g', Ψ r h' g' → Φ r h' g') → AP M b 0 (am_ent (am_nL M) av) [] hi g Φ) : am_Ct M b av hi g Ψ :=
  am_ct hpl hlen (h _ (fun _ _ _ hp => hp))
theorem c_fd16 {hi : am_HI} {g : am_G} (x : Int32) : am_Cr M_J9_floorDiv_7cf53 [.int x, .int 16] hi g (some (.int (x >>> 4))) (fun h => h = hi) := by
  have e := am_fd16 x
  refine am_crnF (by decide +kernel) rfl (Nat.le_of_ble_eq_true rfl) (fun Φ hΦ => ?_)
  show AP M_J9_floorDiv_7cf53 _ 0 [.int x, .int 16, jk] [] _ g Φ
  refine s_J9_floorDiv_7cf53_0 ?_
  refine s_J9_floorDiv_7cf53_1 ?_
  refine s_J9_floorDiv_7cf53_2 (by decide) ?_
  refine s_J9_floorDiv_7cf53_3 rfl ?_
  refine s_J9_floorDiv_7cf53_4 ?_
  refine s_J9_floorDiv_7cf53_5 ?_
  refine s_J9_floorDiv_7cf53_6 ?_
  refine s_J9_floorDiv_7cf53_7 (fun h1 => ?_) (fun h1 => ?_)
  · refine s_J9_floorDiv_7cf53_21 ?_
    refine s_J9_floorDiv_7cf53_22 ?_
    rw [if_neg (fun z => z.1 h1)] at e
    rw [e]
    exact hΦ _ rfl
  · refine s_J9_floorDiv_7cf53_10 ?_
    refine s_J9_floorDiv_7cf53_11 ?_
    refine s_J9_floorDiv_7cf53_12 ?_
    refine s_J9_floorDiv_7cf53_13 ?_
    refine s_J9_floorDiv_7cf53_14 (fun h2 => ?_) (fun h2 => ?_)
    · refine s_J9_floorDiv_7cf53_21 ?_
      refine s_J9_floorDiv_7cf53_22 ?_
      rw [if_neg (fun z => z.2 h2)] at e
      rw [e]
      exact hΦ _ rfl
    · refine s_J9_floorDiv_7cf53_17 ?_
      refine s_J9_floorDiv_7cf53_18 ?_
      refine s_J9_floorDiv_7cf53_19 ?_
      refine s_J9_floorDiv_7cf53_20 ?_
      rw [if_pos ⟨h1, h2⟩] at e
      rw [e]
      exact hΦ _ rfl
theorem c_abs {hi : am_HI} {g : am_G} (x : Int32) : am_Cr M_J9_abs_0f7a4 [.int x] hi g (some (.int (absI x))) (fun h => h = hi) := by
  unfold absI
  refine am_crnF (by decide +kernel) rfl (Nat.le_of_ble_eq_true rfl) (fun Φ hΦ => ?_)
  show AP M_J9_abs_0f7a4 _ 0 [.int x] [] _ g Φ
  refine s_J9_abs_0f7a4_0 ?_
  refine s_J9_abs_0f7a4_1 (fun h => ?_) (fun h => ?_)
  · refine s_J9_abs_0f7a4_9 ?_
    refine s_J9_abs_0f7a4_10 ?_
    rw [if_pos h] at hΦ
    exact hΦ _ rfl
  · refine s_J9_abs_0f7a4_4 ?_
    refine s_J9_abs_0f7a4_5 ?_
    refine s_J9_abs_0f7a4_6 ?_
    refine s_J9_abs_0f7a4_10 ?_
    rw [if_neg h] at hΦ
    exact hΦ _ rfl
theorem c_min {hi : am_HI} {g : am_G} (a b : Nat) (ha : a < 2147483648) (hb : b < 2147483648) : am_Cr M_J9_min_7cf53 [.int (nI a), .int (nI b)] hi g (some (.int (nI (min a b)))) (fun h => h = hi) := by
  refine am_crnF (by decide +kernel) rfl (Nat.le_of_ble_eq_true rfl) (fun Φ hΦ => ?_)
  show AP M_J9_min_7cf53 _ 0 [.int (nI a), .int (nI b)] [] _ g Φ
  refine s_J9_min_7cf53_0 ?_
  refine s_J9_min_7cf53_1 ?_
  refine s_J9_min_7cf53_2 (fun h => ?_) (fun h => ?_)
  · refine s_J9_min_7cf53_9 ?_
    refine s_J9_min_7cf53_10 ?_
    rw [nI_ltI (by omega) (by omega)] at h
    rw [Nat.min_eq_right (by omega)] at hΦ
    exact hΦ _ rfl
  · refine s_J9_min_7cf53_5 ?_
    refine s_J9_min_7cf53_6 ?_
    refine s_J9_min_7cf53_10 ?_
    rw [nI_ltI (by omega) (by omega)] at h
    rw [Nat.min_eq_left (by omega)] at hΦ
    exact hΦ _ rfl
theorem c_limit {hi : am_HI} {g : am_G} (x : Int32) : am_Cr M_X9_limit [.int x] hi g (some (.int (lim x))) (fun h => h = hi) := by
  unfold lim
  refine am_crn (by decide) (Nat.le_of_ble_eq_true rfl) (fun Φ hΦ => ?_)
  show AP M_X9_limit _ 0 [.int x] [] _ g Φ
  refine s_X9_limit_0 ?_
  refine s_X9_limit_1 ?_
  refine s_X9_limit_3 (fun h => ?_) (fun h => ?_)
  · refine s_X9_limit_11 ?_
    refine s_X9_limit_12 ?_
    rw [if_neg (Int32.not_lt.mpr h)] at hΦ
    refine s_X9_limit_14 (fun h2 => ?_) (fun h2 => ?_)
    · refine s_X9_limit_22 ?_
      refine s_X9_limit_23 ?_
      rw [if_neg (Int32.not_lt.mpr h2)] at hΦ
      exact hΦ _ rfl
    · refine s_X9_limit_17 ?_
      refine s_X9_limit_19 ?_
      refine s_X9_limit_23 ?_
      rw [if_pos (Int32.not_le.mp h2)] at hΦ
      exact hΦ _ rfl
  · refine s_X9_limit_6 ?_
    refine s_X9_limit_8 ?_
    refine s_X9_limit_23 ?_
    rw [if_pos (Int32.not_le.mp h)] at hΦ
    exact hΦ _ rfl
theorem c_isWithin {hi : am_HI} {g : am_G} (x a b : Int32) : am_Cr M_X9_isWithin [.int x, .int a, .int b] hi g (some (.int (bI (wi x a b)))) (fun h => h = hi) := by
  refine am_crn (by decide) (Nat.le_of_ble_eq_true rfl) (fun Φ hΦ => ?_)
  show AP M_X9_isWithin _ 0 [.int x, .int a, .int b] [] _ g Φ
  refine s_X9_isWithin_0 ?_
  refine s_X9_isWithin_1 ?_
  refine s_X9_isWithin_2 (fun h => ?_) (fun h => ?_)
  · refine s_X9_isWithin_14 ?_
    refine s_X9_isWithin_15 (by first | exact Or.inl rfl | exact Or.inr rfl | exact bI_01 _) ?_
    rw [show wi x a b = false from by simp [wi, h, Int32.not_le.mpr h]] at hΦ
    exact hΦ _ rfl
  · refine s_X9_isWithin_5 ?_
    refine s_X9_isWithin_6 ?_
    refine s_X9_isWithin_7 (fun h2 => ?_) (fun h2 => ?_)
    · refine s_X9_isWithin_14 ?_
      refine s_X9_isWithin_15 (by first | exact Or.inl rfl | exact Or.inr rfl | exact bI_01 _) ?_
      rw [show wi x a b = false from by simp [wi, Int32.not_le.mpr h2]] at hΦ
      exact hΦ _ rfl
    · refine s_X9_isWithin_10 ?_
      refine s_X9_isWithin_11 ?_
      refine s_X9_isWithin_15 (by first | exact Or.inl rfl | exact Or.inr rfl | exact bI_01 _) ?_
      rw [show wi x a b = true from by simp [wi, Int32.not_lt.mp h, Int32.not_lt.mp h2]] at hΦ
      exact hΦ _ rfl
theorem c_isKind {hi : am_HI} {g : am_G} (hI : am_Inv g) (x : Int32) : am_Cr M_X9_isKind [.int x] hi g (some (.int (bI (wi x 0 4)))) (fun h => h = hi) := by
  refine am_crn (by decide) (Nat.le_of_ble_eq_true rfl) (fun Φ hΦ => ?_)
  show AP M_X9_isKind _ 0 [.int x] [] _ g Φ
  refine s_X9_isKind_0 ?_
  refine s_X9_isKind_1 ?_
  refine s_X9_isKind_2 ?_
  refine s_X9_isKind_3 hI (Nat.le_of_ble_eq_true rfl) (c_isWithin x 0 4) ?_
  intro h9 e9; rw [e9]; clear e9 h9
  exact s_X9_isKind_6 (by first | exact Or.inl rfl | exact Or.inr rfl | exact bI_01 _) (hΦ _ (rfl))
theorem c_blocksOf {hi : am_HI} {g : am_G} (x : Int32) : am_Cr M_X9_blocksOf [.int x] hi g (some (.int (blkI x))) (fun h => h = hi) := by
  refine am_crn (by decide) (Nat.le_of_ble_eq_true rfl) (fun Φ hΦ => ?_)
  show AP M_X9_blocksOf _ 0 [.int x] [] _ g Φ
  refine s_X9_blocksOf_0 ?_
  refine s_X9_blocksOf_1 ?_
  refine s_X9_blocksOf_3 ?_
  refine s_X9_blocksOf_4 ?_
  refine s_X9_blocksOf_5 ?_
  refine s_X9_blocksOf_6 ?_
  refine s_X9_blocksOf_8 (by decide) ?_
  exact s_X9_blocksOf_9 (hΦ _ (rfl))
theorem c_fold {hi : am_HI} {g : am_G} (x : Int32) : am_Cr M_X9_fold [.int x] hi g (some (.int (foldI x))) (fun h => h = hi) := by
  unfold foldI
  refine am_crn (by decide) (Nat.le_of_ble_eq_true rfl) (fun Φ hΦ => ?_)
  show AP M_X9_fold _ 0 [.int x] [] _ g Φ
  refine s_X9_fold_0 ?_
  refine s_X9_fold_1 (fun h => ?_) (fun h => ?_)
  · refine s_X9_fold_10 ?_
    refine s_X9_fold_12 ?_
    refine s_X9_fold_13 ?_
    refine s_X9_fold_14 ?_
    refine s_X9_fold_15 ?_
    refine s_X9_fold_16 ?_
    rw [if_neg (Int32.not_le.mpr h)] at hΦ
    exact hΦ _ rfl
  · refine s_X9_fold_4 ?_
    refine s_X9_fold_5 ?_
    refine s_X9_fold_6 ?_
    refine s_X9_fold_7 ?_
    refine s_X9_fold_16 ?_
    rw [if_pos (Int32.not_lt.mp h)] at hΦ
    exact hΦ _ rfl
theorem c_unfold {hi : am_HI} {g : am_G} (x : Int32) : am_Cr M_X9_unfold [.int x] hi g (some (.int (unfI x))) (fun h => h = hi) := by
  unfold unfI
  refine am_crn (by decide) (Nat.le_of_ble_eq_true rfl) (fun Φ hΦ => ?_)
  show AP M_X9_unfold _ 0 [.int x] [] _ g Φ
  refine s_X9_unfold_0 ?_
  refine s_X9_unfold_1 ?_
  refine s_X9_unfold_2 ?_
  refine s_X9_unfold_3 (fun h => ?_) (fun h => ?_)
  · refine s_X9_unfold_12 ?_
    refine s_X9_unfold_13 ?_
    refine s_X9_unfold_14 ?_
    refine s_X9_unfold_15 ?_
    refine s_X9_unfold_16 ?_
    refine s_X9_unfold_17 (by decide) ?_
    refine s_X9_unfold_18 ?_
    rw [if_neg h] at hΦ
    exact hΦ _ rfl
  · refine s_X9_unfold_6 ?_
    refine s_X9_unfold_7 ?_
    refine s_X9_unfold_8 (by decide) ?_
    refine s_X9_unfold_9 ?_
    refine s_X9_unfold_18 ?_
    rw [if_pos h] at hΦ
    exact hΦ _ rfl
theorem c_bitsOfFolded {hi : am_HI} {g : am_G} (x p : Int32) : am_Cr M_X9_bitsOfFolded [.int x, .int p] hi g (some (.int (bofI x p))) (fun h => h = hi) := by
  refine am_crn (by decide) (Nat.le_of_ble_eq_true rfl) (fun Φ hΦ => ?_)
  show AP M_X9_bitsOfFolded _ 0 [.int x, .int p] [] _ g Φ
  refine s_X9_bitsOfFolded_0 ?_
  refine s_X9_bitsOfFolded_1 ?_
  refine s_X9_bitsOfFolded_2 ?_
  refine s_X9_bitsOfFolded_3 ?_
  refine s_X9_bitsOfFolded_4 ?_
  refine s_X9_bitsOfFolded_5 ?_
  refine s_X9_bitsOfFolded_6 ?_
  exact s_X9_bitsOfFolded_7 (hΦ _ (rfl))
theorem c_sameSign {hi : am_HI} {g : am_G} (x y : Int32) : am_Cr M_X9_haveSameSign [.int x, .int y] hi g (some (.int (bI (decide ((0 < x) = (0 < y)))))) (fun h => h = hi) := by
  refine am_crn (by decide) (Nat.le_of_ble_eq_true rfl) (fun Φ hΦ => ?_)
  show AP M_X9_haveSameSign _ 0 [.int x, .int y] [] _ g Φ
  refine s_X9_haveSameSign_0 ?_
  refine s_X9_haveSameSign_1 (fun h1 => ?_) (fun h1 => ?_)
  · refine s_X9_haveSameSign_8 ?_
    refine s_X9_haveSameSign_9 ?_
    refine s_X9_haveSameSign_10 (fun h2 => ?_) (fun h2 => ?_)
    · refine s_X9_haveSameSign_17 ?_
      refine s_X9_haveSameSign_18 (fun h => absurd (by decide) h) (fun _ => ?_)
      refine s_X9_haveSameSign_21 ?_
      refine s_X9_haveSameSign_22 ?_
      refine s_X9_haveSameSign_26 (by first | exact Or.inl rfl | exact Or.inr rfl | exact bI_01 _) ?_
      exact (by simpa [Int32.not_lt.mpr h1, Int32.not_lt.mpr h2, bI] using hΦ _ rfl)
    · refine s_X9_haveSameSign_13 ?_
      refine s_X9_haveSameSign_14 ?_
      refine s_X9_haveSameSign_18 (fun _ => ?_) (fun h => absurd h (by decide))
      refine s_X9_haveSameSign_25 ?_
      refine s_X9_haveSameSign_26 (by first | exact Or.inl rfl | exact Or.inr rfl | exact bI_01 _) ?_
      exact (by simpa [Int32.not_lt.mpr h1, Int32.not_le.mp h2, bI] using hΦ _ rfl)
  · refine s_X9_haveSameSign_4 ?_
    refine s_X9_haveSameSign_5 ?_
    refine s_X9_haveSameSign_9 ?_
    refine s_X9_haveSameSign_10 (fun h2 => ?_) (fun h2 => ?_)
    · refine s_X9_haveSameSign_17 ?_
      refine s_X9_haveSameSign_18 (fun _ => ?_) (fun h => absurd h (by decide))
      refine s_X9_haveSameSign_25 ?_
      refine s_X9_haveSameSign_26 (by first | exact Or.inl rfl | exact Or.inr rfl | exact bI_01 _) ?_
      exact (by simpa [Int32.not_le.mp h1, Int32.not_lt.mpr h2, bI] using hΦ _ rfl)
    · refine s_X9_haveSameSign_13 ?_
      refine s_X9_haveSameSign_14 ?_
      refine s_X9_haveSameSign_18 (fun h => absurd (by decide) h) (fun _ => ?_)
      refine s_X9_haveSameSign_21 ?_
      refine s_X9_haveSameSign_22 ?_
      refine s_X9_haveSameSign_26 (by first | exact Or.inl rfl | exact Or.inr rfl | exact bI_01 _) ?_
      exact (by simpa [Int32.not_le.mp h1, Int32.not_le.mp h2, bI] using hΦ _ rfl)
theorem c_mix {hi : am_HI} {g : am_G} (x y : Int64) : am_Cr M_X9_mix [.long x, .long y] hi g (some (.long (31 * x + y))) (fun h => h = hi) := by
  refine am_crn (by decide) (Nat.le_of_ble_eq_true rfl) (fun Φ hΦ => ?_)
  show AP M_X9_mix _ 0 [.long x, jk, .long y, jk] [] _ g Φ
  refine s_X9_mix_0 ?_
  refine s_X9_mix_3 ?_
  refine s_X9_mix_4 ?_
  refine s_X9_mix_5 ?_
  refine s_X9_mix_6 ?_
  exact s_X9_mix_7 (hΦ _ (rfl))
/-! the model's -/
theorem m_in {hi : am_HI} {g : am_G} (x a b : Int32) : am_Cr M_X10_in [.int x, .int a, .int b] hi g (some (.int (bI (wi x a b)))) (fun h => h = hi) := by
  refine am_crn (by decide) (Nat.le_of_ble_eq_true rfl) (fun Φ hΦ => ?_)
  show AP M_X10_in _ 0 [.int x, .int a, .int b] [] _ g Φ
  refine s_X10_in_0 ?_
  refine s_X10_in_1 ?_
  refine s_X10_in_2 (fun h => ?_) (fun h => ?_)
  · refine s_X10_in_14 ?_
    refine s_X10_in_15 (by first | exact Or.inl rfl | exact Or.inr rfl | exact bI_01 _) ?_
    rw [show wi x a b = false from by simp [wi, h, Int32.not_le.mpr h]] at hΦ
    exact hΦ _ rfl
  · refine s_X10_in_5 ?_
    refine s_X10_in_6 ?_
    refine s_X10_in_7 (fun h2 => ?_) (fun h2 => ?_)
    · refine s_X10_in_14 ?_
      refine s_X10_in_15 (by first | exact Or.inl rfl | exact Or.inr rfl | exact bI_01 _) ?_
      rw [show wi x a b = false from by simp [wi, Int32.not_le.mpr h2]] at hΦ
      exact hΦ _ rfl
    · refine s_X10_in_10 ?_
      refine s_X10_in_11 ?_
      refine s_X10_in_15 (by first | exact Or.inl rfl | exact Or.inr rfl | exact bI_01 _) ?_
      rw [show wi x a b = true from by simp [wi, Int32.not_lt.mp h, Int32.not_lt.mp h2]] at hΦ
      exact hΦ _ rfl
theorem m_size {hi : am_HI} {g : am_G} (x : Int32) : am_Cr M_X10_size [.int x] hi g (some (.int (absI x))) (fun h => h = hi) := by
  unfold absI
  refine am_crn (by decide) (Nat.le_of_ble_eq_true rfl) (fun Φ hΦ => ?_)
  show AP M_X10_size _ 0 [.int x] [] _ g Φ
  refine s_X10_size_0 ?_
  refine s_X10_size_1 (fun h => ?_) (fun h => ?_)
  · refine s_X10_size_9 ?_
    refine s_X10_size_10 ?_
    rw [if_pos h] at hΦ
    exact hΦ _ rfl
  · refine s_X10_size_4 ?_
    refine s_X10_size_5 ?_
    refine s_X10_size_6 ?_
    refine s_X10_size_10 ?_
    rw [if_neg h] at hΦ
    exact hΦ _ rfl
theorem m_cut {hi : am_HI} {g : am_G} (x : Int32) : am_Cr M_X10_cut [.int x] hi g (some (.int (lim x))) (fun h => h = hi) := by
  unfold lim
  refine am_crn (by decide) (Nat.le_of_ble_eq_true rfl) (fun Φ hΦ => ?_)
  show AP M_X10_cut _ 0 [.int x] [] _ g Φ
  refine s_X10_cut_0 ?_
  refine s_X10_cut_1 ?_
  refine s_X10_cut_3 (fun h => ?_) (fun h => ?_)
  · refine s_X10_cut_11 ?_
    refine s_X10_cut_12 ?_
    rw [if_neg (Int32.not_lt.mpr h)] at hΦ
    refine s_X10_cut_14 (fun h2 => ?_) (fun h2 => ?_)
    · refine s_X10_cut_22 ?_
      refine s_X10_cut_23 ?_
      rw [if_neg (Int32.not_lt.mpr h2)] at hΦ
      exact hΦ _ rfl
    · refine s_X10_cut_17 ?_
      refine s_X10_cut_19 ?_
      refine s_X10_cut_23 ?_
      rw [if_pos (Int32.not_le.mp h2)] at hΦ
      exact hΦ _ rfl
  · refine s_X10_cut_6 ?_
    refine s_X10_cut_8 ?_
    refine s_X10_cut_23 ?_
    rw [if_pos (Int32.not_le.mp h)] at hΦ
    exact hΦ _ rfl
theorem m_isKind {hi : am_HI} {g : am_G} (hI : am_Inv g) (x : Int32) : am_Cr M_X10_isKind [.int x] hi g (some (.int (bI (wi x 0 4)))) (fun h => h = hi) := by
  refine am_crn (by decide) (Nat.le_of_ble_eq_true rfl) (fun Φ hΦ => ?_)
  show AP M_X10_isKind _ 0 [.int x] [] _ g Φ
  refine s_X10_isKind_0 ?_
  refine s_X10_isKind_1 ?_
  refine s_X10_isKind_2 ?_
  refine s_X10_isKind_3 hI (Nat.le_of_ble_eq_true rfl) (m_in x 0 4) ?_
  intro h9 e9; rw [e9]; clear e9 h9
  exact s_X10_isKind_6 (by first | exact Or.inl rfl | exact Or.inr rfl | exact bI_01 _) (hΦ _ (rfl))
theorem m_isWeight {hi : am_HI} {g : am_G} (hI : am_Inv g) (x : Int32) : am_Cr M_X10_isWeight [.int x] hi g (some (.int (bI (wi x 1 4)))) (fun h => h = hi) := by
  refine am_crn (by decide) (Nat.le_of_ble_eq_true rfl) (fun Φ hΦ => ?_)
  show AP M_X10_isWeight _ 0 [.int x] [] _ g Φ
  refine s_X10_isWeight_0 ?_
  refine s_X10_isWeight_1 ?_
  refine s_X10_isWeight_2 ?_
  refine s_X10_isWeight_3 hI (Nat.le_of_ble_eq_true rfl) (m_in x 1 4) ?_
  intro h9 e9; rw [e9]; clear e9 h9
  exact s_X10_isWeight_6 (by first | exact Or.inl rfl | exact Or.inr rfl | exact bI_01 _) (hΦ _ (rfl))
theorem m_isSample {hi : am_HI} {g : am_G} (hI : am_Inv g) (x : Int32) : am_Cr M_X10_isSample [.ref 123, .int x] hi g (some (.int (bI (wi x 0 (hi 124 48 - 1))))) (fun h => h = hi) := by
  refine am_crn (by decide) (Nat.le_of_ble_eq_true rfl) (fun Φ hΦ => ?_)
  show AP M_X10_isSample _ 0 [.ref 123, .int x] [] _ g Φ
  refine s_X10_isSample_0 ?_
  refine s_X10_isSample_1 ?_
  refine s_X10_isSample_2 ?_
  refine s_X10_isSample_3 hI rfl (by decide) rfl (by decide) ?_
  refine s_X10_isSample_6 ?_
  refine s_X10_isSample_8 hI rfl (by decide) (by decide) (by decide : (_ : Int32) = nI 48) (by decide) ?_
  refine s_X10_isSample_9 ?_
  refine s_X10_isSample_10 ?_
  refine s_X10_isSample_11 hI (Nat.le_of_ble_eq_true rfl) (m_in x 0 _) ?_
  intro h9 e9; rw [e9]; clear e9 h9
  exact s_X10_isSample_14 (by first | exact Or.inl rfl | exact Or.inr rfl | exact bI_01 _) (hΦ _ (rfl))
theorem m_isTold {hi : am_HI} {g : am_G} (hI : am_Inv g) (x : Int32) : am_Cr M_X10_isTold [.ref 123, .int x] hi g (some (.int (bI (wi x 0 (hi 124 56 - 1))))) (fun h => h = hi) := by
  refine am_crn (by decide) (Nat.le_of_ble_eq_true rfl) (fun Φ hΦ => ?_)
  show AP M_X10_isTold _ 0 [.ref 123, .int x] [] _ g Φ
  refine s_X10_isTold_0 ?_
  refine s_X10_isTold_1 ?_
  refine s_X10_isTold_2 ?_
  refine s_X10_isTold_3 hI rfl (by decide) rfl (by decide) ?_
  refine s_X10_isTold_6 ?_
  refine s_X10_isTold_8 hI rfl (by decide) (by decide) (by decide : (_ : Int32) = nI 56) (by decide) ?_
  refine s_X10_isTold_9 ?_
  refine s_X10_isTold_10 ?_
  refine s_X10_isTold_11 hI (Nat.le_of_ble_eq_true rfl) (m_in x 0 _) ?_
  intro h9 e9; rw [e9]; clear e9 h9
  exact s_X10_isTold_14 (by first | exact Or.inl rfl | exact Or.inr rfl | exact bI_01 _) (hΦ _ (rfl))
theorem m_blocksOf {hi : am_HI} {g : am_G} (x : Int32) : am_Cr M_X10_blocksOf [.int x] hi g (some (.int ((x + 7) / 8))) (fun h => h = hi) := by
  refine am_crn (by decide) (Nat.le_of_ble_eq_true rfl) (fun Φ hΦ => ?_)
  show AP M_X10_blocksOf _ 0 [.int x] [] _ g Φ
  refine s_X10_blocksOf_0 ?_
  refine s_X10_blocksOf_1 ?_
  refine s_X10_blocksOf_3 ?_
  refine s_X10_blocksOf_4 ?_
  refine s_X10_blocksOf_6 (by decide) ?_
  exact s_X10_blocksOf_7 (hΦ _ (rfl))
theorem m_isBlock {hi : am_HI} {g : am_G} (hI : am_Inv g) (x : Int32) : am_Cr M_X10_isBlock [.ref 123, .int x] hi g (some (.int (bI (wi x 0 ((hi 124 48 + 7) / 8 - 1))))) (fun h => h = hi) := by
  refine am_crn (by decide) (Nat.le_of_ble_eq_true rfl) (fun Φ hΦ => ?_)
  show AP M_X10_isBlock _ 0 [.ref 123, .int x] [] _ g Φ
  refine s_X10_isBlock_0 ?_
  refine s_X10_isBlock_1 ?_
  refine s_X10_isBlock_2 ?_
  refine s_X10_isBlock_3 hI rfl (by decide) rfl (by decide) ?_
  refine s_X10_isBlock_6 ?_
  refine s_X10_isBlock_8 hI rfl (by decide) (by decide) (by decide : (_ : Int32) = nI 48) (by decide) ?_
  refine s_X10_isBlock_9 hI (Nat.le_of_ble_eq_true rfl) (m_blocksOf _) ?_
  intro h9 e9; rw [e9]; clear e9 h9
  refine s_X10_isBlock_12 ?_
  refine s_X10_isBlock_13 ?_
  refine s_X10_isBlock_14 hI (Nat.le_of_ble_eq_true rfl) (m_in x 0 _) ?_
  intro h9 e9; rw [e9]; clear e9 h9
  exact s_X10_isBlock_17 (by first | exact Or.inl rfl | exact Or.inr rfl | exact bI_01 _) (hΦ _ (rfl))
theorem m_isLetterBlock {hi : am_HI} {g : am_G} (hI : am_Inv g) (x : Int32) : am_Cr M_X10_isLetterBlock [.ref 123, .int x] hi g (some (.int (bI (wi x 0 ((hi 124 56 + 7) / 8 - 1))))) (fun h => h = hi) := by
  refine am_crn (by decide) (Nat.le_of_ble_eq_true rfl) (fun Φ hΦ => ?_)
  show AP M_X10_isLetterBlock _ 0 [.ref 123, .int x] [] _ g Φ
  refine s_X10_isLetterBlock_0 ?_
  refine s_X10_isLetterBlock_1 ?_
  refine s_X10_isLetterBlock_2 ?_
  refine s_X10_isLetterBlock_3 hI rfl (by decide) rfl (by decide) ?_
  refine s_X10_isLetterBlock_6 ?_
  refine s_X10_isLetterBlock_8 hI rfl (by decide) (by decide) (by decide : (_ : Int32) = nI 56) (by decide) ?_
  refine s_X10_isLetterBlock_9 hI (Nat.le_of_ble_eq_true rfl) (m_blocksOf _) ?_
  intro h9 e9; rw [e9]; clear e9 h9
  refine s_X10_isLetterBlock_12 ?_
  refine s_X10_isLetterBlock_13 ?_
  refine s_X10_isLetterBlock_14 hI (Nat.le_of_ble_eq_true rfl) (m_in x 0 _) ?_
  intro h9 e9; rw [e9]; clear e9 h9
  exact s_X10_isLetterBlock_17 (by first | exact Or.inl rfl | exact Or.inr rfl | exact bI_01 _) (hΦ _ (rfl))
theorem m_fold {hi : am_HI} {g : am_G} (x : Int32) : am_Cr M_X10_fold [.int x] hi g (some (.int (foldI x))) (fun h => h = hi) := by
  unfold foldI
  refine am_crn (by decide) (Nat.le_of_ble_eq_true rfl) (fun Φ hΦ => ?_)
  show AP M_X10_fold _ 0 [.int x] [] _ g Φ
  refine s_X10_fold_0 ?_
  refine s_X10_fold_1 (fun h => ?_) (fun h => ?_)
  · refine s_X10_fold_13 ?_
    refine s_X10_fold_14 ?_
    refine s_X10_fold_15 ?_
    refine s_X10_fold_16 ?_
    rw [if_pos h] at hΦ
    exact hΦ _ rfl
  · refine s_X10_fold_4 ?_
    refine s_X10_fold_6 ?_
    refine s_X10_fold_7 ?_
    refine s_X10_fold_8 ?_
    refine s_X10_fold_9 ?_
    refine s_X10_fold_10 ?_
    refine s_X10_fold_16 ?_
    rw [if_neg h] at hΦ
    exact hΦ _ rfl
theorem m_bitsOf {hi : am_HI} {g : am_G} (hI : am_Inv g) (x p : Int32) : am_Cr M_X10_bitsOf [.int x, .int p] hi g (some (.int (bofI (foldI x) p))) (fun h => h = hi) := by
  refine am_crn (by decide) (Nat.le_of_ble_eq_true rfl) (fun Φ hΦ => ?_)
  show AP M_X10_bitsOf _ 0 [.int x, .int p] [] _ g Φ
  refine s_X10_bitsOf_0 ?_
  refine s_X10_bitsOf_1 hI (Nat.le_of_ble_eq_true rfl) (m_fold x) ?_
  intro h9 e9; rw [e9]; clear e9 h9
  refine s_X10_bitsOf_4 ?_
  refine s_X10_bitsOf_5 ?_
  refine s_X10_bitsOf_6 ?_
  refine s_X10_bitsOf_7 ?_
  refine s_X10_bitsOf_8 ?_
  refine s_X10_bitsOf_9 ?_
  exact s_X10_bitsOf_10 (hΦ _ (rfl))
theorem m_on {hi : am_HI} {g : am_G} (x y : Int64) : am_Cr M_X10_on [.long x, .long y] hi g (some (.long (31 * x + y))) (fun h => h = hi) := by
  refine am_crn (by decide) (Nat.le_of_ble_eq_true rfl) (fun Φ hΦ => ?_)
  show AP M_X10_on _ 0 [.long x, jk, .long y, jk] [] _ g Φ
  refine s_X10_on_0 ?_
  refine s_X10_on_3 ?_
  refine s_X10_on_4 ?_
  refine s_X10_on_5 ?_
  refine s_X10_on_6 ?_
  exact s_X10_on_7 (hΦ _ (rfl))
theorem m_thrown {hi : am_HI} {g : am_G} (hI : am_Inv g) : am_Cr M_X10_thrown [.ref 123] hi g (some (.int (hi 123 10))) (fun h => h = hi) := by
  refine am_crn (by decide) (Nat.le_of_ble_eq_true rfl) (fun Φ hΦ => ?_)
  show AP M_X10_thrown _ 0 [.ref 123] [] _ g Φ
  refine s_X10_thrown_0 ?_
  refine s_X10_thrown_1 hI rfl (by decide) ?_
  exact s_X10_thrown_4 (hΦ _ (rfl))
theorem m_says {hi : am_HI} {g : am_G} (hI : am_Inv g) (x : Int32) : am_Cr M_X10_says [.ref 123, .int x] hi g (some (.int x)) (fun h => h = am_up hi 123 10 0) := by
  refine am_crn (by decide) (Nat.le_of_ble_eq_true rfl) (fun Φ hΦ => ?_)
  show AP M_X10_says _ 0 [.ref 123, .int x] [] _ g Φ
  refine s_X10_says_0 ?_
  refine s_X10_says_1 ?_
  refine s_X10_says_2 hI rfl (by decide) ?_
  refine s_X10_says_5 ?_
  exact s_X10_says_6 (hΦ _ (rfl))
theorem m_asks {hi : am_HI} {g : am_G} (hI : am_Inv g) (f : Bool) : am_Cr M_X10_asks [.ref 123, .int (bI f)] hi g (some (.int (bI f))) (fun h => h = am_up hi 123 10 (bI (!f))) := by
  refine am_crn (by decide) (Nat.le_of_ble_eq_true rfl) (fun Φ hΦ => ?_)
  show AP M_X10_asks _ 0 [.ref 123, .int (bI f)] [] _ g Φ
  refine s_X10_asks_0 ?_
  refine s_X10_asks_1 ?_
  refine s_X10_asks_2 (fun h => ?_) (fun h => ?_)
  · refine s_X10_asks_9 ?_
    refine s_X10_asks_10 hI rfl (by decide) ?_
    refine s_X10_asks_13 ?_
    refine s_X10_asks_14 (by first | exact Or.inl rfl | exact Or.inr rfl | exact bI_01 _) ?_
    rw [bI_e0] at h
    subst h
    exact hΦ _ rfl
  · refine s_X10_asks_5 ?_
    refine s_X10_asks_6 ?_
    refine s_X10_asks_10 hI rfl (by decide) ?_
    refine s_X10_asks_13 ?_
    refine s_X10_asks_14 (by first | exact Or.inl rfl | exact Or.inr rfl | exact bI_01 _) ?_
    rw [bI_n0] at h
    subst h
    exact hΦ _ rfl
theorem up_f {f : Nat → Int32} {j : Nat} {x : Int32} : upd f j x j = x := if_pos rfl
theorem up_n {f : Nat → Int32} {j i : Nat} {x : Int32} (h : i ≠ j) : upd f j x i = f i := if_neg h
theorem up_c {hi : am_HI} {k j : Nat} {x : Int32} : am_up hi k j x k = upd (hi k) j x := if_pos rfl
theorem up_k {hi : am_HI} {k j k' : Nat} {x : Int32} (h : k' ≠ k) : am_up hi k j x k' = hi k' := if_neg h
theorem up_r {hi : am_HI} {k j k' j' : Nat} {x : Int32} : am_up hi k j x k' j' = if k' = k ∧ j' = j then x else hi k' j' := by
  by_cases h : k' = k
  · subst h
    rw [up_c]
    by_cases h2 : j' = j
    · subst h2; rw [up_f, if_pos ⟨rfl, rfl⟩]
    · rw [up_n h2, if_neg (fun z => h2 z.2)]
  · rw [up_k h, if_neg (fun z => h z.1)]
/-- goes on with a call: what is thrown then -/
def th2 (t : Int32) (f : Bool) (c : Int32) : Int32 := if 0 < t then t else if f = true then 0 else c
theorem m_asksThen {hi : am_HI} {g : am_G} (hI : am_Inv g) (f : Bool) (c : Int32) : am_Cr M_X10_asksThen [.ref 123, .int (bI f), .int c] hi g (some (.int (bI (decide (th2 (hi 123 10) f c = 0))))) (fun h => h = am_up hi 123 10 (th2 (hi 123 10) f c)) := by
  have key : ∀ (x : Int32) (Φ : am_P), Φ (.ok (some (.int (bI (decide (x = 0)))))) (am_up hi 123 10 x) g → AP M_X10_asksThen (0, 0) 24 [.ref 123, .int (bI f), .int c] [.int x, .ref 123] hi g Φ := by
    intro x Φ hΦ
    refine s_X10_asksThen_24 hI rfl (by decide) ?_
    refine s_X10_asksThen_27 ?_
    refine s_X10_asksThen_28 hI rfl (by decide) ?_
    refine s_X10_asksThen_31 (fun h => ?_) (fun h => ?_)
    · refine s_X10_asksThen_38 ?_
      refine s_X10_asksThen_39 (by first | exact Or.inl rfl | exact Or.inr rfl | exact bI_01 _) ?_
      rw [up_c, up_f] at h
      exact (by simpa [h, bI] using hΦ)
    · refine s_X10_asksThen_34 ?_
      refine s_X10_asksThen_35 ?_
      refine s_X10_asksThen_39 (by first | exact Or.inl rfl | exact Or.inr rfl | exact bI_01 _) ?_
      rw [up_c, up_f] at h
      exact (by simpa [h, bI] using hΦ)
  refine am_crn (by decide) (Nat.le_of_ble_eq_true rfl) (fun Φ hΦ => ?_)
  show AP M_X10_asksThen _ 0 [.ref 123, .int (bI f), .int c] [] _ g Φ
  refine s_X10_asksThen_0 ?_
  refine s_X10_asksThen_1 ?_
  refine s_X10_asksThen_2 hI rfl (by decide) ?_
  refine s_X10_asksThen_5 (fun h => ?_) (fun h => ?_)
  · refine s_X10_asksThen_15 ?_
    refine s_X10_asksThen_16 (fun h2 => ?_) (fun h2 => ?_)
    · refine s_X10_asksThen_23 ?_
      rw [bI_e0] at h2
      rw [show th2 (hi 123 10) f c = c from by rw [th2, if_neg (Int32.not_lt.mpr h), if_neg (by rw [h2]; decide)]] at hΦ
      exact key _ _ (hΦ _ rfl)
    · refine s_X10_asksThen_19 ?_
      refine s_X10_asksThen_20 ?_
      rw [bI_n0] at h2
      rw [show th2 (hi 123 10) f c = 0 from by rw [th2, if_neg (Int32.not_lt.mpr h), if_pos h2]] at hΦ
      exact key _ _ (hΦ _ rfl)
  · refine s_X10_asksThen_8 ?_
    refine s_X10_asksThen_9 hI rfl (by decide) ?_
    refine s_X10_asksThen_12 ?_
    rw [show th2 (hi 123 10) f c = hi 123 10 from by rw [th2, if_pos (Int32.not_le.mp h)]] at hΦ
    exact key _ _ (hΦ _ rfl)
