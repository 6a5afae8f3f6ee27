/-! ===== the class: what is asked of it, and what it refuses ===== -/
abbrev roS : List Nat := [11, 12, 13, 14, 16, 17, 18, 19, 20, 22, 23, 24, 25, 27, 28, 29, 30, 31, 33, 34, 35, 36, 37, 118, 119, 120, 121, 122]
def RO (hi h : am_HI) : Prop := fr roS hi h
theorem RO.rfl {h : am_HI} : RO h h := fr.rfl
theorem RO.of {S : List Nat} {h h' : am_HI} (a : fr S h h') (hS : ∀ k ∈ S, k ∈ roS) : RO h h' := a.mono hS
theorem ZS.ro {hi h : am_HI} {z : Nat → Int32} (a : ZS hi 2 z) (f : RO hi h) : ZS h 2 z := a.mv (f 2 (by decide)) (f 3 (by decide)) (f 4 (by decide))
theorem ZL.ro {hi h : am_HI} {z : Nat → Int32} (a : ZL hi 5 z) (f : RO hi h) : ZL h 5 z := a.mv (fun i h6 => f _ (by rcases (show i = 0 ∨ i = 1 ∨ i = 2 ∨ i = 3 ∨ i = 4 ∨ i = 5 by omega) with rfl | rfl | rfl | rfl | rfl | rfl <;> decide))
theorem ZB.ro {hi h : am_HI} {z : Nat → Int32} (a : ZB hi 2 z) (f : RO hi h) : ZB h 2 z := ⟨a.1.ro f, a.2.1.ro f, by rw [f 2 (by decide)]; exact a.2.2⟩
/-- how many blocks a letter has -/
def zln (z : Nat → Int32) : Nat := (zt z + 7) / 8
theorem zln_lt {z : Nat → Int32} (ok : OKz z) : zln z ≤ 6 := by
  have := ok.2.2.1
  unfold zln
  omega
theorem wi_ok {k a b : Nat} (h1 : a ≤ k) (h2 : k ≤ b) (hb : b < 2147483648) : wi (nI k) (nI a) (nI b) = true := wi_t.mpr ⟨nI_le h1 (by omega), nI_le h2 (by omega)⟩
/-- between 0 and a count less 1 -/
theorem wi_lt {x : Int32} {c : Nat} (hc : c < 1000000) : wi x 0 (nI c - 1) = true ↔ ∃ k, k < c ∧ x = nI k := by
  cases c with
  | zero =>
    constructor
    · intro h
      obtain ⟨h1, h2⟩ := wi_t.mp h
      rw [am_le] at h1 h2
      have e0 : (0 : Int32).toInt = 0 := rfl
      have e1 : (nI 0 - 1).toInt = -1 := by decide
      omega
    · rintro ⟨k, hk, -⟩
      omega
  | succ c =>
    rw [nI_i1]
    constructor
    · intro h
      obtain ⟨k, h1, h2, h3⟩ := wi_nI (a := 0) (b := c) (by omega) h (by decide)
      exact ⟨k, by omega, h3⟩
    · rintro ⟨k, hk, rfl⟩
      exact wi_ok (a := 0) (Nat.zero_le _) (by omega) (by omega)
theorem c_isBlock {hi : am_HI} {g : am_G} (hI : am_Inv g) {z : Nat → Int32} (hz : ZS hi 2 z) (ok : OKz z) (x : Int32) : am_Cr M_X9_isBlock [.ref 0, .int x] hi g (some (.int (bI (wi x 0 (nI (zn z) - 1))))) (fun h => h = hi) := by
  refine am_crn (by decide) (Nat.le_of_ble_eq_true rfl) (fun Φ hΦ => ?_)
  show AP M_X9_isBlock _ 0 [.ref 0, .int x] [] _ g Φ
  refine s_X9_isBlock_0 ?_
  refine s_X9_isBlock_1 ?_
  refine s_X9_isBlock_2 ?_
  refine s_X9_isBlock_3 hI rfl (by decide) rfl (by decide) ?_
  refine s_X9_isBlock_6 hI rfl (by decide) ?_
  refine s_X9_isBlock_9 hI (Nat.le_of_ble_eq_true rfl) (c_blocks hz ok) ?_
  intro h9 e9; rw [e9]; clear e9 h9
  refine s_X9_isBlock_12 ?_
  refine s_X9_isBlock_13 ?_
  refine s_X9_isBlock_14 hI (Nat.le_of_ble_eq_true rfl) (c_isWithin x 0 _) ?_
  intro h9 e9; rw [e9]; clear e9 h9
  exact s_X9_isBlock_17 (by first | exact Or.inl rfl | exact Or.inr rfl | exact bI_01 _) (hΦ _ (rfl))
theorem c_isTold {hi : am_HI} {g : am_G} (hI : am_Inv g) {z : Nat → Int32} (hz : ZL hi 5 z) (ok : OKz z) (x : Int32) : am_Cr M_X9_isTold [.ref 0, .int x] hi g (some (.int (bI (wi x 0 (nI (zt z) - 1))))) (fun h => h = hi) := by
  refine am_crn (by decide) (Nat.le_of_ble_eq_true rfl) (fun Φ hΦ => ?_)
  show AP M_X9_isTold _ 0 [.ref 0, .int x] [] _ g Φ
  refine s_X9_isTold_0 ?_
  refine s_X9_isTold_1 ?_
  refine s_X9_isTold_2 ?_
  refine s_X9_isTold_3 hI rfl (by decide) rfl (by decide) ?_
  refine s_X9_isTold_6 hI rfl (by decide) rfl (by decide) ?_
  refine s_X9_isTold_9 hI rfl (by decide) ?_
  refine s_X9_isTold_12 ?_
  refine s_X9_isTold_13 ?_
  rw [hz.1, ok.2.1]
  refine s_X9_isTold_14 hI (Nat.le_of_ble_eq_true rfl) (c_isWithin x 0 _) ?_
  intro h9 e9; rw [e9]; clear e9 h9
  exact s_X9_isTold_17 (by first | exact Or.inl rfl | exact Or.inr rfl | exact bI_01 _) (hΦ _ (rfl))
theorem c_blocksL {hi : am_HI} {g : am_G} {z : Nat → Int32} (hz : ZL hi 5 z) (ok : OKz z) : am_Cr M_X9_blocksOf [.int (hi 5 5)] hi g (some (.int (nI (zln z)))) (fun h => h = hi) := by
  have := c_blocksOf (hi := hi) (g := g) (hi 5 5)
  rw [hz.1, ok.2.1, blk_nI (by have := ok.2.2.1; omega)] at this
  rw [hz.1, ok.2.1]
  exact this

theorem r_samples {hi : am_HI} {g : am_G} (hI : am_Inv g) {z : Nat → Int32} (hz : ZB hi 2 z) (ok : OKz z) : am_Cr M_X9_samples [.ref 0] hi g (some (.int (z 48))) (fun h => RO hi h) := by
  refine am_crn (by decide) (Nat.le_of_ble_eq_true rfl) (fun Φ hΦ => ?_)
  show AP M_X9_samples _ 0 [.ref 0] [] _ g Φ
  refine s_X9_samples_0 ?_
  refine s_X9_samples_1 hI rfl (by decide) rfl (by decide) ?_
  refine s_X9_samples_4 hI rfl (by decide) ?_
  rw [hz.1.2.1]
  exact s_X9_samples_7 (hΦ _ (RO.rfl))
theorem r_delay {hi : am_HI} {g : am_G} (hI : am_Inv g) {z : Nat → Int32} (hz : ZB hi 2 z) (ok : OKz z) : am_Cr M_X9_delay [.ref 0] hi g (some (.int (z 49))) (fun h => RO hi h) := by
  refine am_crn (by decide) (Nat.le_of_ble_eq_true rfl) (fun Φ hΦ => ?_)
  show AP M_X9_delay _ 0 [.ref 0] [] _ g Φ
  refine s_X9_delay_0 ?_
  refine s_X9_delay_1 hI rfl (by decide) rfl (by decide) ?_
  refine s_X9_delay_4 hI rfl (by decide) ?_
  rw [hz.1.2.2.1]
  exact s_X9_delay_7 (hΦ _ (RO.rfl))
theorem r_speed {hi : am_HI} {g : am_G} (hI : am_Inv g) {z : Nat → Int32} (hz : ZB hi 2 z) (ok : OKz z) : am_Cr M_X9_speed [.ref 0] hi g (some (.int (z 50))) (fun h => RO hi h) := by
  refine am_crn (by decide) (Nat.le_of_ble_eq_true rfl) (fun Φ hΦ => ?_)
  show AP M_X9_speed _ 0 [.ref 0] [] _ g Φ
  refine s_X9_speed_0 ?_
  refine s_X9_speed_1 hI rfl (by decide) rfl (by decide) ?_
  refine s_X9_speed_4 hI rfl (by decide) ?_
  rw [hz.1.2.2.2.1]
  exact s_X9_speed_7 (hΦ _ (RO.rfl))
theorem r_allowed {hi : am_HI} {g : am_G} (hI : am_Inv g) {z : Nat → Int32} (hz : ZB hi 2 z) (ok : OKz z) : am_Cr M_X9_allowed [.ref 0] hi g (some (.int (z 55))) (fun h => RO hi h) := by
  refine am_crn (by decide) (Nat.le_of_ble_eq_true rfl) (fun Φ hΦ => ?_)
  show AP M_X9_allowed _ 0 [.ref 0] [] _ g Φ
  refine s_X9_allowed_0 ?_
  refine s_X9_allowed_1 hI rfl (by decide) rfl (by decide) ?_
  refine s_X9_allowed_4 hI rfl (by decide) ?_
  rw [hz.1.2.2.2.2.2]
  exact s_X9_allowed_7 (hΦ _ (RO.rfl))
theorem r_told {hi : am_HI} {g : am_G} (hI : am_Inv g) {z : Nat → Int32} (hz : ZB hi 2 z) (ok : OKz z) : am_Cr M_X9_told [.ref 0] hi g (some (.int (z 56))) (fun h => RO hi h) := by
  refine am_crn (by decide) (Nat.le_of_ble_eq_true rfl) (fun Φ hΦ => ?_)
  show AP M_X9_told _ 0 [.ref 0] [] _ g Φ
  refine s_X9_told_0 ?_
  refine s_X9_told_1 hI rfl (by decide) rfl (by decide) ?_
  refine s_X9_told_4 hI rfl (by decide) rfl (by decide) ?_
  refine s_X9_told_7 hI rfl (by decide) ?_
  rw [hz.2.1.1]
  exact s_X9_told_10 (hΦ _ (RO.rfl))
theorem r_sent {hi : am_HI} {g : am_G} (hI : am_Inv g) {z : Nat → Int32} (hz : ZB hi 2 z) (ok : OKz z) : am_Cr M_X9_sent [.ref 0] hi g (some (.int (z 171))) (fun h => RO hi h) := by
  refine am_crn (by decide) (Nat.le_of_ble_eq_true rfl) (fun Φ hΦ => ?_)
  show AP M_X9_sent _ 0 [.ref 0] [] _ g Φ
  refine s_X9_sent_0 ?_
  refine s_X9_sent_1 hI rfl (by decide) rfl (by decide) ?_
  refine s_X9_sent_4 hI rfl (by decide) ?_
  rw [hz.2.2]
  exact s_X9_sent_7 (hΦ _ (RO.rfl))
theorem r_blocks {hi : am_HI} {g : am_G} (hI : am_Inv g) {z : Nat → Int32} (hz : ZB hi 2 z) (ok : OKz z) : am_Cr M_X9_blocks [.ref 0] hi g (some (.int (nI (zn z)))) (fun h => RO hi h) := by
  refine am_crn (by decide) (Nat.le_of_ble_eq_true rfl) (fun Φ hΦ => ?_)
  show AP M_X9_blocks _ 0 [.ref 0] [] _ g Φ
  refine s_X9_blocks_0 ?_
  refine s_X9_blocks_1 hI rfl (by decide) rfl (by decide) ?_
  refine s_X9_blocks_4 hI rfl (by decide) ?_
  refine s_X9_blocks_7 hI (Nat.le_of_ble_eq_true rfl) (c_blocks hz.1 ok) ?_
  intro h9 e9; rw [e9]; clear e9 h9
  exact s_X9_blocks_10 (hΦ _ (RO.rfl))
theorem r_letterBits {hi : am_HI} {g : am_G} (hI : am_Inv g) {z : Nat → Int32} (hz : ZB hi 2 z) (ok : OKz z) : am_Cr M_X9_letterBits [.ref 0] hi g (some (.int (nI (zbits z)))) (fun h => RO hi h) := by
  refine am_crn (by decide) (Nat.le_of_ble_eq_true rfl) (fun Φ hΦ => ?_)
  show AP M_X9_letterBits _ 0 [.ref 0] [] _ g Φ
  refine s_X9_letterBits_0 ?_
  refine s_X9_letterBits_1 hI rfl (by decide) rfl (by decide) ?_
  refine s_X9_letterBits_4 hI rfl (by decide) rfl (by decide) ?_
  refine s_X9_letterBits_7 hI rfl (by decide) (Nat.le_of_ble_eq_true rfl) (c_countLB hI hz.2.1 ok) ?_
  intro h9 e9; rw [e9]; clear e9 h9
  exact s_X9_letterBits_10 (hΦ _ (RO.rfl))
theorem x1_sampleAt {hi : am_HI} {g : am_G} (hI : am_Inv g) {z : Nat → Int32} (hz : ZB hi 2 z) (ok : OKz z) {x : Int32} (h0 : wi x (0) (z 48 - 1) = false) : am_Th M_X9_sampleAt [.ref 0, .int x] hi g am_x0 (fun h => h = hi) := by
  refine am_thn (by decide) (Nat.le_of_ble_eq_true rfl) (fun Φ hΦ => ?_)
  show AP M_X9_sampleAt _ 0 [.ref 0, .int x] [] _ g Φ
  refine s_X9_sampleAt_0 ?_
  refine s_X9_sampleAt_1 ?_
  refine s_X9_sampleAt_2 ?_
  refine s_X9_sampleAt_3 hI rfl (by decide) rfl (by decide) ?_
  refine s_X9_sampleAt_6 hI rfl (by decide) ?_
  refine s_X9_sampleAt_9 ?_
  refine s_X9_sampleAt_10 ?_
  rw [hz.1.2.1]
  refine s_X9_sampleAt_11 hI (Nat.le_of_ble_eq_true rfl) (c_isWithin x _ _) ?_
  intro h9 e9; rw [e9]; clear e9 h9
  rw [h0]
  exact tx_X9_sampleAt_14 hI (by decide) (by decide) (hΦ _ rfl)
theorem r_sampleAt {hi : am_HI} {g : am_G} (hI : am_Inv g) {z : Nat → Int32} (hz : ZB hi 2 z) (ok : OKz z) {t : Nat} (ht : t < zc z) (h0 : wi (nI t) (0) (z 48 - 1) = true) : am_Cr M_X9_sampleAt [.ref 0, .int (nI t)] hi g (some (.int (z t))) (fun h => RO hi h) := by
  refine am_crn (by decide) (Nat.le_of_ble_eq_true rfl) (fun Φ hΦ => ?_)
  show AP M_X9_sampleAt _ 0 [.ref 0, .int (nI t)] [] _ g Φ
  refine s_X9_sampleAt_0 ?_
  refine s_X9_sampleAt_1 ?_
  refine s_X9_sampleAt_2 ?_
  refine s_X9_sampleAt_3 hI rfl (by decide) rfl (by decide) ?_
  refine s_X9_sampleAt_6 hI rfl (by decide) ?_
  refine s_X9_sampleAt_9 ?_
  refine s_X9_sampleAt_10 ?_
  rw [hz.1.2.1]
  refine s_X9_sampleAt_11 hI (Nat.le_of_ble_eq_true rfl) (c_isWithin (nI t) _ _) ?_
  intro h9 e9; rw [e9]; clear e9 h9
  rw [h0]
  refine s_X9_sampleAt_14 hI (Nat.le_of_ble_eq_true rfl) (c_needI1) ?_
  intro h9 e9; rw [e9]; clear e9 h9
  refine s_X9_sampleAt_17 ?_
  refine s_X9_sampleAt_18 hI rfl (by decide) rfl (by decide) ?_
  refine s_X9_sampleAt_21 ?_
  refine s_X9_sampleAt_22 hI rfl (by decide) (Nat.le_of_ble_eq_true rfl) (c_soundAt hI (z := z) (t := t) (c := zc z) hz.1.1 (hz.1.so ok).1 ok.1.2.1 (by have := ok.1.2.1; omega)) ?_
  intro h9 e9; rw [e9]; clear e9 h9
  rw [if_pos ht]
  exact s_X9_sampleAt_25 (hΦ _ (RO.rfl))
theorem x1_firstWeight {hi : am_HI} {g : am_G} (hI : am_Inv g) {z : Nat → Int32} (hz : ZB hi 2 z) (ok : OKz z) {x : Int32} (h0 : wi x (1) (4) = false) : am_Th M_X9_firstWeight [.ref 0, .int x] hi g am_x1 (fun h => h = hi) := by
  refine am_thn (by decide) (Nat.le_of_ble_eq_true rfl) (fun Φ hΦ => ?_)
  show AP M_X9_firstWeight _ 0 [.ref 0, .int x] [] _ g Φ
  refine s_X9_firstWeight_0 ?_
  refine s_X9_firstWeight_1 ?_
  refine s_X9_firstWeight_2 ?_
  refine s_X9_firstWeight_3 hI (Nat.le_of_ble_eq_true rfl) (c_isWithin x _ _) ?_
  intro h9 e9; rw [e9]; clear e9 h9
  rw [h0]
  exact tx_X9_firstWeight_6 hI (by decide) (by decide) (hΦ _ rfl)
theorem r_firstWeight {hi : am_HI} {g : am_G} (hI : am_Inv g) {z : Nat → Int32} (hz : ZB hi 2 z) (ok : OKz z) {k : Nat} (hk : k < 4) (h0 : wi (nI (k + 1)) (1) (4) = true) : am_Cr M_X9_firstWeight [.ref 0, .int (nI (k + 1))] hi g (some (.int (z (51 + k)))) (fun h => RO hi h) := by
  refine am_crn (by decide) (Nat.le_of_ble_eq_true rfl) (fun Φ hΦ => ?_)
  show AP M_X9_firstWeight _ 0 [.ref 0, .int (nI (k + 1))] [] _ g Φ
  refine s_X9_firstWeight_0 ?_
  refine s_X9_firstWeight_1 ?_
  refine s_X9_firstWeight_2 ?_
  refine s_X9_firstWeight_3 hI (Nat.le_of_ble_eq_true rfl) (c_isWithin (nI (k + 1)) _ _) ?_
  intro h9 e9; rw [e9]; clear e9 h9
  rw [h0]
  refine s_X9_firstWeight_6 hI (Nat.le_of_ble_eq_true rfl) (c_needA1) ?_
  intro h9 e9; rw [e9]; clear e9 h9
  refine s_X9_firstWeight_9 ?_
  refine s_X9_firstWeight_10 hI rfl (by decide) rfl (by decide) ?_
  refine s_X9_firstWeight_13 hI rfl (by decide) rfl (by decide) ?_
  refine s_X9_firstWeight_16 ?_
  refine s_X9_firstWeight_17 ?_
  refine s_X9_firstWeight_18 ?_
  refine s_X9_firstWeight_19 hI rfl (by decide) (by decide) (nI_i1 k) (hk) ?_
  rw [hz.1.2.2.2.2.1 k hk]
  exact s_X9_firstWeight_20 (hΦ _ (RO.rfl))
theorem x1_weightAt {hi : am_HI} {g : am_G} (hI : am_Inv g) {z : Nat → Int32} (hz : ZB hi 2 z) (ok : OKz z) {w x : Int32} (h0 : wi x (0) (z 48) = false) : am_Th M_X9_weightAt [.ref 0, .int w, .int x] hi g am_x0 (fun h => h = hi) := by
  refine am_thn (by decide) (Nat.le_of_ble_eq_true rfl) (fun Φ hΦ => ?_)
  show AP M_X9_weightAt _ 0 [.ref 0, .int w, .int x] [] _ g Φ
  refine s_X9_weightAt_0 ?_
  refine s_X9_weightAt_1 ?_
  refine s_X9_weightAt_2 ?_
  refine s_X9_weightAt_3 hI rfl (by decide) rfl (by decide) ?_
  refine s_X9_weightAt_6 hI rfl (by decide) ?_
  rw [hz.1.2.1]
  refine s_X9_weightAt_9 hI (Nat.le_of_ble_eq_true rfl) (c_isWithin x _ _) ?_
  intro h9 e9; rw [e9]; clear e9 h9
  rw [h0]
  exact tx_X9_weightAt_12 hI (by decide) (by decide) (hΦ _ rfl)
theorem x2_weightAt {hi : am_HI} {g : am_G} (hI : am_Inv g) {z : Nat → Int32} (hz : ZB hi 2 z) (ok : OKz z) {w x : Int32} (h0 : wi x (0) (z 48) = true) (h1 : wi w (1) (4) = false) : am_Th M_X9_weightAt [.ref 0, .int w, .int x] hi g am_x1 (fun h => h = hi) := by
  refine am_thn (by decide) (Nat.le_of_ble_eq_true rfl) (fun Φ hΦ => ?_)
  show AP M_X9_weightAt _ 0 [.ref 0, .int w, .int x] [] _ g Φ
  refine s_X9_weightAt_0 ?_
  refine s_X9_weightAt_1 ?_
  refine s_X9_weightAt_2 ?_
  refine s_X9_weightAt_3 hI rfl (by decide) rfl (by decide) ?_
  refine s_X9_weightAt_6 hI rfl (by decide) ?_
  rw [hz.1.2.1]
  refine s_X9_weightAt_9 hI (Nat.le_of_ble_eq_true rfl) (c_isWithin x _ _) ?_
  intro h9 e9; rw [e9]; clear e9 h9
  rw [h0]
  refine s_X9_weightAt_12 hI (Nat.le_of_ble_eq_true rfl) (c_needI1) ?_
  intro h9 e9; rw [e9]; clear e9 h9
  refine s_X9_weightAt_15 ?_
  refine s_X9_weightAt_16 ?_
  refine s_X9_weightAt_17 ?_
  refine s_X9_weightAt_18 hI (Nat.le_of_ble_eq_true rfl) (c_isWithin w _ _) ?_
  intro h9 e9; rw [e9]; clear e9 h9
  rw [h1]
  exact tx_X9_weightAt_21 hI (by decide) (by decide) (hΦ _ rfl)
theorem r_weightAt {hi : am_HI} {g : am_G} (hI : am_Inv g) {z : Nat → Int32} (hz : ZB hi 2 z) (ok : OKz z) {k t : Nat} (hk : k < 4) (ht : t ≤ zc z) (h0 : wi (nI t) (0) (z 48) = true) (h1 : wi (nI (k + 1)) (1) (4) = true) : am_Cr M_X9_weightAt [.ref 0, .int (nI (k + 1)), .int (nI t)] hi g (some (.int (zW z t k))) (fun h => RO hi h) := by
  have h48 := ok.1.2.1
  obtain ⟨v1, v2, v3⟩ := hr21 hk
  refine am_crn (by decide) (Nat.le_of_ble_eq_true rfl) (fun Φ hΦ => ?_)
  show AP M_X9_weightAt _ 0 [.ref 0, .int (nI (k + 1)), .int (nI t)] [] _ g Φ
  refine s_X9_weightAt_0 ?_
  refine s_X9_weightAt_1 ?_
  refine s_X9_weightAt_2 ?_
  refine s_X9_weightAt_3 hI (by first | assumption | rfl | decide | omega) (by first | assumption | rfl | decide | omega) (by first | assumption | rfl | decide | omega) (by first | assumption | rfl | decide | omega) ?_
  refine s_X9_weightAt_6 hI (by first | assumption | rfl | decide | omega) (by first | assumption | rfl | decide | omega) ?_
  rw [hz.1.2.1]
  refine s_X9_weightAt_9 hI (Nat.le_of_ble_eq_true rfl) (c_isWithin (nI t) _ _) ?_
  intro h9 e9; rw [e9]; clear e9 h9
  rw [h0]
  refine s_X9_weightAt_12 hI (Nat.le_of_ble_eq_true rfl) (c_needI1) ?_
  intro h9 e9; rw [e9]; clear e9 h9
  refine s_X9_weightAt_15 ?_
  refine s_X9_weightAt_16 ?_
  refine s_X9_weightAt_17 ?_
  refine s_X9_weightAt_18 hI (Nat.le_of_ble_eq_true rfl) (c_isWithin (nI (k + 1)) _ _) ?_
  intro h9 e9; rw [e9]; clear e9 h9
  rw [h1]
  refine s_X9_weightAt_21 hI (Nat.le_of_ble_eq_true rfl) (c_needA1) ?_
  intro h9 e9; rw [e9]; clear e9 h9
  refine s_X9_weightAt_24 ?_
  refine s_X9_weightAt_25 hI (by first | assumption | rfl | decide | omega) (by first | assumption | rfl | decide | omega) (by first | assumption | rfl | decide | omega) (by first | assumption | rfl | decide | omega) ?_
  refine s_X9_weightAt_28 hI (by first | assumption | rfl | decide | omega) (by first | assumption | rfl | decide | omega) (Nat.le_of_ble_eq_true rfl) (c_follow hI hz.1 ok) ?_
  intro h5 ⟨g1, fo⟩
  refine s_X9_weightAt_31 ?_
  refine s_X9_weightAt_32 hI (by first | assumption | rfl | decide | omega) (by first | assumption | rfl | decide | omega) (by first | assumption | rfl | decide | omega) (by first | assumption | rfl | decide | omega) ?_
  refine s_X9_weightAt_35 hI (by first | assumption | rfl | decide | omega) (by first | assumption | rfl | decide | omega) (by first | assumption | rfl | decide | omega) (by first | assumption | rfl | decide | omega) ?_
  refine s_X9_weightAt_38 ?_
  refine s_X9_weightAt_39 ?_
  refine s_X9_weightAt_40 ?_
  refine s_X9_weightAt_41 hI (by first | assumption | rfl | decide | omega) (by first | assumption | rfl | decide | omega) (by first | assumption | rfl | decide | omega) (nI_i1 k) (hk) ((hI.2 21 k (by decide)).trans v1) ?_
  refine s_X9_weightAt_42 ?_
  refine s_X9_weightAt_43 hI (by first | assumption | rfl | decide | omega) (by first | assumption | rfl | decide | omega) (by first | assumption | rfl | decide | omega) (rfl) (by omega) ?_
  rw [(fo t (by omega)).2 k hk]
  exact s_X9_weightAt_44 (hΦ _ (RO.of g1 (by decide)))
theorem x1_weightByCounting {hi : am_HI} {g : am_G} (hI : am_Inv g) {z : Nat → Int32} (hz : ZB hi 2 z) (ok : OKz z) {w x : Int32} (h0 : wi x (0) (z 48) = false) : am_Th M_X9_weightByCounting [.ref 0, .int w, .int x] hi g am_x0 (fun h => h = hi) := by
  refine am_thn (by decide) (Nat.le_of_ble_eq_true rfl) (fun Φ hΦ => ?_)
  show AP M_X9_weightByCounting _ 0 [.ref 0, .int w, .int x] [] _ g Φ
  refine s_X9_weightByCounting_0 ?_
  refine s_X9_weightByCounting_1 ?_
  refine s_X9_weightByCounting_2 ?_
  refine s_X9_weightByCounting_3 hI rfl (by decide) rfl (by decide) ?_
  refine s_X9_weightByCounting_6 hI rfl (by decide) ?_
  rw [hz.1.2.1]
  refine s_X9_weightByCounting_9 hI (Nat.le_of_ble_eq_true rfl) (c_isWithin x _ _) ?_
  intro h9 e9; rw [e9]; clear e9 h9
  rw [h0]
  exact tx_X9_weightByCounting_12 hI (by decide) (by decide) (hΦ _ rfl)
theorem x2_weightByCounting {hi : am_HI} {g : am_G} (hI : am_Inv g) {z : Nat → Int32} (hz : ZB hi 2 z) (ok : OKz z) {w x : Int32} (h0 : wi x (0) (z 48) = true) (h1 : wi w (1) (4) = false) : am_Th M_X9_weightByCounting [.ref 0, .int w, .int x] hi g am_x1 (fun h => h = hi) := by
  refine am_thn (by decide) (Nat.le_of_ble_eq_true rfl) (fun Φ hΦ => ?_)
  show AP M_X9_weightByCounting _ 0 [.ref 0, .int w, .int x] [] _ g Φ
  refine s_X9_weightByCounting_0 ?_
  refine s_X9_weightByCounting_1 ?_
  refine s_X9_weightByCounting_2 ?_
  refine s_X9_weightByCounting_3 hI rfl (by decide) rfl (by decide) ?_
  refine s_X9_weightByCounting_6 hI rfl (by decide) ?_
  rw [hz.1.2.1]
  refine s_X9_weightByCounting_9 hI (Nat.le_of_ble_eq_true rfl) (c_isWithin x _ _) ?_
  intro h9 e9; rw [e9]; clear e9 h9
  rw [h0]
  refine s_X9_weightByCounting_12 hI (Nat.le_of_ble_eq_true rfl) (c_needI1) ?_
  intro h9 e9; rw [e9]; clear e9 h9
  refine s_X9_weightByCounting_15 ?_
  refine s_X9_weightByCounting_16 ?_
  refine s_X9_weightByCounting_17 ?_
  refine s_X9_weightByCounting_18 hI (Nat.le_of_ble_eq_true rfl) (c_isWithin w _ _) ?_
  intro h9 e9; rw [e9]; clear e9 h9
  rw [h1]
  exact tx_X9_weightByCounting_21 hI (by decide) (by decide) (hΦ _ rfl)
theorem r_weightByCounting {hi : am_HI} {g : am_G} (hI : am_Inv g) {z : Nat → Int32} (hz : ZB hi 2 z) (ok : OKz z) {k t : Nat} (hk : k < 4) (ht : t ≤ zc z) (h0 : wi (nI t) (0) (z 48) = true) (h1 : wi (nI (k + 1)) (1) (4) = true) : am_Cr M_X9_weightByCounting [.ref 0, .int (nI (k + 1)), .int (nI t)] hi g (some (.int (zW z t k))) (fun h => RO hi h) := by
  refine am_crn (by decide) (Nat.le_of_ble_eq_true rfl) (fun Φ hΦ => ?_)
  show AP M_X9_weightByCounting _ 0 [.ref 0, .int (nI (k + 1)), .int (nI t)] [] _ g Φ
  refine s_X9_weightByCounting_0 ?_
  refine s_X9_weightByCounting_1 ?_
  refine s_X9_weightByCounting_2 ?_
  refine s_X9_weightByCounting_3 hI rfl (by decide) rfl (by decide) ?_
  refine s_X9_weightByCounting_6 hI rfl (by decide) ?_
  rw [hz.1.2.1]
  refine s_X9_weightByCounting_9 hI (Nat.le_of_ble_eq_true rfl) (c_isWithin (nI t) _ _) ?_
  intro h9 e9; rw [e9]; clear e9 h9
  rw [h0]
  refine s_X9_weightByCounting_12 hI (Nat.le_of_ble_eq_true rfl) (c_needI1) ?_
  intro h9 e9; rw [e9]; clear e9 h9
  refine s_X9_weightByCounting_15 ?_
  refine s_X9_weightByCounting_16 ?_
  refine s_X9_weightByCounting_17 ?_
  refine s_X9_weightByCounting_18 hI (Nat.le_of_ble_eq_true rfl) (c_isWithin (nI (k + 1)) _ _) ?_
  intro h9 e9; rw [e9]; clear e9 h9
  rw [h1]
  refine s_X9_weightByCounting_21 hI (Nat.le_of_ble_eq_true rfl) (c_needA1) ?_
  intro h9 e9; rw [e9]; clear e9 h9
  refine s_X9_weightByCounting_24 ?_
  refine s_X9_weightByCounting_25 hI rfl (by decide) rfl (by decide) ?_
  refine s_X9_weightByCounting_28 hI rfl (by decide) (Nat.le_of_ble_eq_true rfl) (c_follow hI hz.1 ok) ?_
  intro h5 ⟨g1, fo⟩
  refine s_X9_weightByCounting_31 ?_
  refine s_X9_weightByCounting_32 hI rfl (by decide) rfl (by decide) ?_
  refine s_X9_weightByCounting_35 hI rfl (by decide) rfl (by decide) ?_
  refine s_X9_weightByCounting_38 ?_
  refine s_X9_weightByCounting_39 ?_
  refine s_X9_weightByCounting_40 ?_
  have f5 : RO hi h5 := RO.of g1 (by decide)
  refine s_X9_weightByCounting_41 hI rfl (by decide) (by decide) (nI_i1 k) (hk) ?_
  refine s_X9_weightByCounting_42 ?_
  refine s_X9_weightByCounting_43 hI rfl (by decide) rfl (by decide) ?_
  refine s_X9_weightByCounting_46 hI rfl (by decide) ?_
  refine s_X9_weightByCounting_49 ?_
  refine s_X9_weightByCounting_50 hI rfl (by decide) rfl (by decide) ?_
  refine s_X9_weightByCounting_53 ?_
  refine s_X9_weightByCounting_54 ?_
  refine s_X9_weightByCounting_55 hI rfl (by decide) (Nat.le_of_ble_eq_true rfl) (c_countRises hI (hz.1.ro f5) ok fo (k := k + 1) (by omega) (by omega) ht) ?_
  intro h9 e9; rw [e9]; clear e9 h9
  refine s_X9_weightByCounting_58 ?_
  refine s_X9_weightByCounting_59 ?_
  rw [(hz.1.ro f5).2.2.2.2.1 k hk, (hz.1.ro f5).2.2.2.1, rises_w z hk t]
  exact s_X9_weightByCounting_60 (hΦ _ (f5))
theorem x1_foretold {hi : am_HI} {g : am_G} (hI : am_Inv g) {z : Nat → Int32} (hz : ZB hi 2 z) (ok : OKz z) {w x : Int32} (h0 : wi x (0) (z 48) = false) : am_Th M_X9_foretold [.ref 0, .int w, .int x] hi g am_x0 (fun h => h = hi) := by
  refine am_thn (by decide) (Nat.le_of_ble_eq_true rfl) (fun Φ hΦ => ?_)
  show AP M_X9_foretold _ 0 [.ref 0, .int w, .int x] [] _ g Φ
  refine s_X9_foretold_0 ?_
  refine s_X9_foretold_1 ?_
  refine s_X9_foretold_2 ?_
  refine s_X9_foretold_3 hI rfl (by decide) rfl (by decide) ?_
  refine s_X9_foretold_6 hI rfl (by decide) ?_
  rw [hz.1.2.1]
  refine s_X9_foretold_9 hI (Nat.le_of_ble_eq_true rfl) (c_isWithin x _ _) ?_
  intro h9 e9; rw [e9]; clear e9 h9
  rw [h0]
  exact tx_X9_foretold_12 hI (by decide) (by decide) (hΦ _ rfl)
theorem x2_foretold {hi : am_HI} {g : am_G} (hI : am_Inv g) {z : Nat → Int32} (hz : ZB hi 2 z) (ok : OKz z) {w x : Int32} (h0 : wi x (0) (z 48) = true) (h1 : wi w 0 4 = false) : am_Th M_X9_foretold [.ref 0, .int w, .int x] hi g am_x1 (fun h => h = hi) := by
  refine am_thn (by decide) (Nat.le_of_ble_eq_true rfl) (fun Φ hΦ => ?_)
  show AP M_X9_foretold _ 0 [.ref 0, .int w, .int x] [] _ g Φ
  refine s_X9_foretold_0 ?_
  refine s_X9_foretold_1 ?_
  refine s_X9_foretold_2 ?_
  refine s_X9_foretold_3 hI rfl (by decide) rfl (by decide) ?_
  refine s_X9_foretold_6 hI rfl (by decide) ?_
  rw [hz.1.2.1]
  refine s_X9_foretold_9 hI (Nat.le_of_ble_eq_true rfl) (c_isWithin x _ _) ?_
  intro h9 e9; rw [e9]; clear e9 h9
  rw [h0]
  refine s_X9_foretold_12 hI (Nat.le_of_ble_eq_true rfl) (c_needI1) ?_
  intro h9 e9; rw [e9]; clear e9 h9
  refine s_X9_foretold_15 ?_
  refine s_X9_foretold_16 hI (Nat.le_of_ble_eq_true rfl) (c_isKind hI w) ?_
  intro h9 e9; rw [e9]; clear e9 h9
  rw [h1]
  exact tx_X9_foretold_19 hI (by decide) (by decide) (hΦ _ rfl)
theorem r_foretold {hi : am_HI} {g : am_G} (hI : am_Inv g) {z : Nat → Int32} (hz : ZB hi 2 z) (ok : OKz z) {k t : Nat} (hk : k < 5) (ht : t ≤ zc z) (h0 : wi (nI t) (0) (z 48) = true) (h1 : wi (nI k) 0 4 = true) : am_Cr M_X9_foretold [.ref 0, .int (nI k), .int (nI t)] hi g (some (.int (zF z k t))) (fun h => RO hi h) := by
  have h48 := ok.1.2.1
  obtain ⟨v1, v2, v3⟩ := hr15 hk
  refine am_crn (by decide) (Nat.le_of_ble_eq_true rfl) (fun Φ hΦ => ?_)
  show AP M_X9_foretold _ 0 [.ref 0, .int (nI k), .int (nI t)] [] _ g Φ
  refine s_X9_foretold_0 ?_
  refine s_X9_foretold_1 ?_
  refine s_X9_foretold_2 ?_
  refine s_X9_foretold_3 hI (by first | assumption | rfl | decide | omega) (by first | assumption | rfl | decide | omega) (by first | assumption | rfl | decide | omega) (by first | assumption | rfl | decide | omega) ?_
  refine s_X9_foretold_6 hI (by first | assumption | rfl | decide | omega) (by first | assumption | rfl | decide | omega) ?_
  rw [hz.1.2.1]
  refine s_X9_foretold_9 hI (Nat.le_of_ble_eq_true rfl) (c_isWithin (nI t) _ _) ?_
  intro h9 e9; rw [e9]; clear e9 h9
  rw [h0]
  refine s_X9_foretold_12 hI (Nat.le_of_ble_eq_true rfl) (c_needI1) ?_
  intro h9 e9; rw [e9]; clear e9 h9
  refine s_X9_foretold_15 ?_
  refine s_X9_foretold_16 hI (Nat.le_of_ble_eq_true rfl) (c_isKind hI (nI k)) ?_
  intro h9 e9; rw [e9]; clear e9 h9
  rw [h1]
  refine s_X9_foretold_19 hI (Nat.le_of_ble_eq_true rfl) (c_needA1) ?_
  intro h9 e9; rw [e9]; clear e9 h9
  refine s_X9_foretold_22 ?_
  refine s_X9_foretold_23 hI (by first | assumption | rfl | decide | omega) (by first | assumption | rfl | decide | omega) (by first | assumption | rfl | decide | omega) (by first | assumption | rfl | decide | omega) ?_
  refine s_X9_foretold_26 hI (by first | assumption | rfl | decide | omega) (by first | assumption | rfl | decide | omega) (Nat.le_of_ble_eq_true rfl) (c_follow hI hz.1 ok) ?_
  intro h5 ⟨g1, fo⟩
  refine s_X9_foretold_29 ?_
  refine s_X9_foretold_30 hI (by first | assumption | rfl | decide | omega) (by first | assumption | rfl | decide | omega) (by first | assumption | rfl | decide | omega) (by first | assumption | rfl | decide | omega) ?_
  refine s_X9_foretold_33 hI (by first | assumption | rfl | decide | omega) (by first | assumption | rfl | decide | omega) (by first | assumption | rfl | decide | omega) (by first | assumption | rfl | decide | omega) ?_
  refine s_X9_foretold_36 ?_
  refine s_X9_foretold_37 hI (by first | assumption | rfl | decide | omega) (by first | assumption | rfl | decide | omega) (by first | assumption | rfl | decide | omega) (rfl) (hk) ((hI.2 15 k (by decide)).trans v1) ?_
  refine s_X9_foretold_38 ?_
  refine s_X9_foretold_39 hI (by first | assumption | rfl | decide | omega) (by first | assumption | rfl | decide | omega) (by first | assumption | rfl | decide | omega) (rfl) (by omega) ?_
  rw [(fo t (by omega)).1 k hk]
  exact s_X9_foretold_40 (hΦ _ (RO.of g1 (by decide)))
theorem x1_leftOver {hi : am_HI} {g : am_G} (hI : am_Inv g) {z : Nat → Int32} (hz : ZB hi 2 z) (ok : OKz z) {w x : Int32} (h0 : wi x (0) (z 48 - 1) = false) : am_Th M_X9_leftOver [.ref 0, .int w, .int x] hi g am_x0 (fun h => h = hi) := by
  refine am_thn (by decide) (Nat.le_of_ble_eq_true rfl) (fun Φ hΦ => ?_)
  show AP M_X9_leftOver _ 0 [.ref 0, .int w, .int x] [] _ g Φ
  refine s_X9_leftOver_0 ?_
  refine s_X9_leftOver_1 ?_
  refine s_X9_leftOver_2 ?_
  refine s_X9_leftOver_3 hI rfl (by decide) rfl (by decide) ?_
  refine s_X9_leftOver_6 hI rfl (by decide) ?_
  refine s_X9_leftOver_9 ?_
  refine s_X9_leftOver_10 ?_
  rw [hz.1.2.1]
  refine s_X9_leftOver_11 hI (Nat.le_of_ble_eq_true rfl) (c_isWithin x _ _) ?_
  intro h9 e9; rw [e9]; clear e9 h9
  rw [h0]
  exact tx_X9_leftOver_14 hI (by decide) (by decide) (hΦ _ rfl)
theorem x2_leftOver {hi : am_HI} {g : am_G} (hI : am_Inv g) {z : Nat → Int32} (hz : ZB hi 2 z) (ok : OKz z) {w x : Int32} (h0 : wi x (0) (z 48 - 1) = true) (h1 : wi w 0 4 = false) : am_Th M_X9_leftOver [.ref 0, .int w, .int x] hi g am_x1 (fun h => h = hi) := by
  refine am_thn (by decide) (Nat.le_of_ble_eq_true rfl) (fun Φ hΦ => ?_)
  show AP M_X9_leftOver _ 0 [.ref 0, .int w, .int x] [] _ g Φ
  refine s_X9_leftOver_0 ?_
  refine s_X9_leftOver_1 ?_
  refine s_X9_leftOver_2 ?_
  refine s_X9_leftOver_3 hI rfl (by decide) rfl (by decide) ?_
  refine s_X9_leftOver_6 hI rfl (by decide) ?_
  refine s_X9_leftOver_9 ?_
  refine s_X9_leftOver_10 ?_
  rw [hz.1.2.1]
  refine s_X9_leftOver_11 hI (Nat.le_of_ble_eq_true rfl) (c_isWithin x _ _) ?_
  intro h9 e9; rw [e9]; clear e9 h9
  rw [h0]
  refine s_X9_leftOver_14 hI (Nat.le_of_ble_eq_true rfl) (c_needI1) ?_
  intro h9 e9; rw [e9]; clear e9 h9
  refine s_X9_leftOver_17 ?_
  refine s_X9_leftOver_18 hI (Nat.le_of_ble_eq_true rfl) (c_isKind hI w) ?_
  intro h9 e9; rw [e9]; clear e9 h9
  rw [h1]
  exact tx_X9_leftOver_21 hI (by decide) (by decide) (hΦ _ rfl)
theorem r_leftOver {hi : am_HI} {g : am_G} (hI : am_Inv g) {z : Nat → Int32} (hz : ZB hi 2 z) (ok : OKz z) {k t : Nat} (hk : k < 5) (ht : t < zc z) (h0 : wi (nI t) (0) (z 48 - 1) = true) (h1 : wi (nI k) 0 4 = true) : am_Cr M_X9_leftOver [.ref 0, .int (nI k), .int (nI t)] hi g (some (.int (zL z k t))) (fun h => RO hi h) := by
  refine am_crn (by decide) (Nat.le_of_ble_eq_true rfl) (fun Φ hΦ => ?_)
  show AP M_X9_leftOver _ 0 [.ref 0, .int (nI k), .int (nI t)] [] _ g Φ
  refine s_X9_leftOver_0 ?_
  refine s_X9_leftOver_1 ?_
  refine s_X9_leftOver_2 ?_
  refine s_X9_leftOver_3 hI rfl (by decide) rfl (by decide) ?_
  refine s_X9_leftOver_6 hI rfl (by decide) ?_
  refine s_X9_leftOver_9 ?_
  refine s_X9_leftOver_10 ?_
  rw [hz.1.2.1]
  refine s_X9_leftOver_11 hI (Nat.le_of_ble_eq_true rfl) (c_isWithin (nI t) _ _) ?_
  intro h9 e9; rw [e9]; clear e9 h9
  rw [h0]
  refine s_X9_leftOver_14 hI (Nat.le_of_ble_eq_true rfl) (c_needI1) ?_
  intro h9 e9; rw [e9]; clear e9 h9
  refine s_X9_leftOver_17 ?_
  refine s_X9_leftOver_18 hI (Nat.le_of_ble_eq_true rfl) (c_isKind hI (nI k)) ?_
  intro h9 e9; rw [e9]; clear e9 h9
  rw [h1]
  refine s_X9_leftOver_21 hI (Nat.le_of_ble_eq_true rfl) (c_needA1) ?_
  intro h9 e9; rw [e9]; clear e9 h9
  refine s_X9_leftOver_24 ?_
  refine s_X9_leftOver_25 hI rfl (by decide) rfl (by decide) ?_
  refine s_X9_leftOver_28 hI rfl (by decide) (Nat.le_of_ble_eq_true rfl) (c_follow hI hz.1 ok) ?_
  intro h5 ⟨g1, fo⟩
  refine s_X9_leftOver_31 ?_
  refine s_X9_leftOver_32 hI rfl (by decide) rfl (by decide) ?_
  refine s_X9_leftOver_35 ?_
  refine s_X9_leftOver_36 ?_
  have f5 : RO hi h5 := RO.of g1 (by decide)
  refine s_X9_leftOver_37 hI rfl (by decide) (Nat.le_of_ble_eq_true rfl) (c_leftZ hI (hz.1.ro f5).1 fo hk (by have := ok.1.2.1; omega) (by omega)) ?_
  intro h9 e9; rw [e9]; clear e9 h9
  exact s_X9_leftOver_40 (hΦ _ (f5))
theorem x1_sumOf {hi : am_HI} {g : am_G} (hI : am_Inv g) {z : Nat → Int32} (hz : ZB hi 2 z) (ok : OKz z) {w : Int32} (h0 : wi w 0 4 = false) : am_Th M_X9_sumOf [.ref 0, .int w] hi g am_x1 (fun h => h = hi) := by
  refine am_thn (by decide) (Nat.le_of_ble_eq_true rfl) (fun Φ hΦ => ?_)
  show AP M_X9_sumOf _ 0 [.ref 0, .int w] [] _ g Φ
  refine s_X9_sumOf_0 ?_
  refine s_X9_sumOf_1 hI (Nat.le_of_ble_eq_true rfl) (c_isKind hI w) ?_
  intro h9 e9; rw [e9]; clear e9 h9
  rw [h0]
  exact tx_X9_sumOf_4 hI (by decide) (by decide) (hΦ _ rfl)
theorem r_sumOf {hi : am_HI} {g : am_G} (hI : am_Inv g) {z : Nat → Int32} (hz : ZB hi 2 z) (ok : OKz z) {k : Nat} (hk : k < 5) (h0 : wi (nI k) 0 4 = true) : am_Cr M_X9_sumOf [.ref 0, .int (nI k)] hi g (some (.int (sumv k (zd z) (z0 z) z (z 50) (zc z)))) (fun h => RO hi h) := by
  refine am_crn (by decide) (Nat.le_of_ble_eq_true rfl) (fun Φ hΦ => ?_)
  show AP M_X9_sumOf _ 0 [.ref 0, .int (nI k)] [] _ g Φ
  refine s_X9_sumOf_0 ?_
  refine s_X9_sumOf_1 hI (Nat.le_of_ble_eq_true rfl) (c_isKind hI (nI k)) ?_
  intro h9 e9; rw [e9]; clear e9 h9
  rw [h0]
  refine s_X9_sumOf_4 hI (Nat.le_of_ble_eq_true rfl) (c_needA1) ?_
  intro h9 e9; rw [e9]; clear e9 h9
  refine s_X9_sumOf_7 ?_
  refine s_X9_sumOf_8 hI rfl (by decide) rfl (by decide) ?_
  refine s_X9_sumOf_11 ?_
  rw [← Wt_sum (w := hi 4) (w' := z0 z) ok.1.2.2.2.1 hz.1.2.2.2.2.1] at hΦ
  refine s_X9_sumOf_12 hI rfl (by decide) (Nat.le_of_ble_eq_true rfl) (c_sumBy hI hz.1 ok (kd := k) (by omega)) ?_
  intro h5 g1
  exact s_X9_sumOf_15 (hΦ _ (RO.of g1 (by decide)))
theorem x1_sumWithDelay {hi : am_HI} {g : am_G} (hI : am_Inv g) {z : Nat → Int32} (hz : ZB hi 2 z) (ok : OKz z) {w : Int32} (h0 : wi w (1) (12) = false) : am_Th M_X9_sumWithDelay [.ref 0, .int w] hi g am_x1 (fun h => h = hi) := by
  refine am_thn (by decide) (Nat.le_of_ble_eq_true rfl) (fun Φ hΦ => ?_)
  show AP M_X9_sumWithDelay _ 0 [.ref 0, .int w] [] _ g Φ
  refine s_X9_sumWithDelay_0 ?_
  refine s_X9_sumWithDelay_1 ?_
  refine s_X9_sumWithDelay_2 ?_
  refine s_X9_sumWithDelay_4 hI (Nat.le_of_ble_eq_true rfl) (c_isWithin w _ _) ?_
  intro h9 e9; rw [e9]; clear e9 h9
  rw [h0]
  exact tx_X9_sumWithDelay_7 hI (by decide) (by decide) (hΦ _ rfl)
theorem r_sumWithDelay {hi : am_HI} {g : am_G} (hI : am_Inv g) {z : Nat → Int32} (hz : ZB hi 2 z) (ok : OKz z) {d : Nat} (hd : 1 ≤ d ∧ d ≤ 12) (h0 : wi (nI d) (1) (12) = true) : am_Cr M_X9_sumWithDelay [.ref 0, .int (nI d)] hi g (some (.int (sumv 3 d (z0 z) z (z 50) (zc z)))) (fun h => RO hi h) := by
  refine am_crn (by decide) (Nat.le_of_ble_eq_true rfl) (fun Φ hΦ => ?_)
  show AP M_X9_sumWithDelay _ 0 [.ref 0, .int (nI d)] [] _ g Φ
  refine s_X9_sumWithDelay_0 ?_
  refine s_X9_sumWithDelay_1 ?_
  refine s_X9_sumWithDelay_2 ?_
  refine s_X9_sumWithDelay_4 hI (Nat.le_of_ble_eq_true rfl) (c_isWithin (nI d) _ _) ?_
  intro h9 e9; rw [e9]; clear e9 h9
  rw [h0]
  refine s_X9_sumWithDelay_7 hI (Nat.le_of_ble_eq_true rfl) (c_needA1) ?_
  intro h9 e9; rw [e9]; clear e9 h9
  refine s_X9_sumWithDelay_10 ?_
  refine s_X9_sumWithDelay_11 hI rfl (by decide) rfl (by decide) ?_
  refine s_X9_sumWithDelay_14 ?_
  refine s_X9_sumWithDelay_15 ?_
  refine s_X9_sumWithDelay_16 ?_
  refine s_X9_sumWithDelay_17 hI rfl (by decide) rfl (by decide) ?_
  refine s_X9_sumWithDelay_20 hI rfl (by decide) ?_
  refine s_X9_sumWithDelay_23 ?_
  refine s_X9_sumWithDelay_24 hI rfl (by decide) rfl (by decide) ?_
  refine s_X9_sumWithDelay_27 hI rfl (by decide) rfl (by decide) ?_
  rw [← Wt_sum (w := hi 4) (w' := z0 z) hd.1 hz.1.2.2.2.2.1] at hΦ
  rw [(hz.1.so ok).2.2]
  refine s_X9_sumWithDelay_30 hI rfl (by decide) (Nat.le_of_ble_eq_true rfl) (c_sumIf hI hz.1 ok (kd := 3) (d := d) (z 50) (by decide) hd (Or.inl rfl)) ?_
  intro h5 g1
  exact s_X9_sumWithDelay_33 (hΦ _ (RO.of g1 (by decide)))
theorem r_bestDelay {hi : am_HI} {g : am_G} (hI : am_Inv g) {z : Nat → Int32} (hz : ZB hi 2 z) (ok : OKz z)  : am_Cr M_X9_bestDelay [.ref 0] hi g (some (.int (nI (amin (fD z) 11 + 1)))) (fun h => RO hi h) := by
  refine am_crn (by decide) (Nat.le_of_ble_eq_true rfl) (fun Φ hΦ => ?_)
  show AP M_X9_bestDelay _ 0 [.ref 0] [] _ g Φ
  refine s_X9_bestDelay_0 ?_
  refine s_X9_bestDelay_1 hI rfl (by decide) rfl (by decide) ?_
  refine s_X9_bestDelay_4 hI rfl (by decide) (Nat.le_of_ble_eq_true rfl) (c_findDelay hI hz.1 ok) ?_
  intro h5 g1
  exact s_X9_bestDelay_7 (hΦ _ (RO.of g1 (by decide)))
theorem r_bestSpeed {hi : am_HI} {g : am_G} (hI : am_Inv g) {z : Nat → Int32} (hz : ZB hi 2 z) (ok : OKz z)  : am_Cr M_X9_bestSpeed [.ref 0] hi g (some (.int (nI (amin (fS z) 3)))) (fun h => RO hi h) := by
  refine am_crn (by decide) (Nat.le_of_ble_eq_true rfl) (fun Φ hΦ => ?_)
  show AP M_X9_bestSpeed _ 0 [.ref 0] [] _ g Φ
  refine s_X9_bestSpeed_0 ?_
  refine s_X9_bestSpeed_1 hI rfl (by decide) rfl (by decide) ?_
  refine s_X9_bestSpeed_4 hI rfl (by decide) (Nat.le_of_ble_eq_true rfl) (c_findSpeed hI hz.1 ok) ?_
  intro h5 g1
  exact s_X9_bestSpeed_7 (hΦ _ (RO.of g1 (by decide)))
theorem x1_bestFirst {hi : am_HI} {g : am_G} (hI : am_Inv g) {z : Nat → Int32} (hz : ZB hi 2 z) (ok : OKz z) {w : Int32} (h0 : wi w (1) (4) = false) : am_Th M_X9_bestFirst [.ref 0, .int w] hi g am_x1 (fun h => h = hi) := by
  refine am_thn (by decide) (Nat.le_of_ble_eq_true rfl) (fun Φ hΦ => ?_)
  show AP M_X9_bestFirst _ 0 [.ref 0, .int w] [] _ g Φ
  refine s_X9_bestFirst_0 ?_
  refine s_X9_bestFirst_1 ?_
  refine s_X9_bestFirst_2 ?_
  refine s_X9_bestFirst_3 hI (Nat.le_of_ble_eq_true rfl) (c_isWithin w _ _) ?_
  intro h9 e9; rw [e9]; clear e9 h9
  rw [h0]
  exact tx_X9_bestFirst_6 hI (by decide) (by decide) (hΦ _ rfl)
theorem r_bestFirst {hi : am_HI} {g : am_G} (hI : am_Inv g) {z : Nat → Int32} (hz : ZB hi 2 z) (ok : OKz z) {k : Nat} (hk : k < 4) (h0 : wi (nI (k + 1)) (1) (4) = true) : am_Cr M_X9_bestFirst [.ref 0, .int (nI (k + 1))] hi g (some (.int (e8 (amin (fW z k) 16)))) (fun h => RO hi h) := by
  refine am_crn (by decide) (Nat.le_of_ble_eq_true rfl) (fun Φ hΦ => ?_)
  show AP M_X9_bestFirst _ 0 [.ref 0, .int (nI (k + 1))] [] _ g Φ
  refine s_X9_bestFirst_0 ?_
  refine s_X9_bestFirst_1 ?_
  refine s_X9_bestFirst_2 ?_
  refine s_X9_bestFirst_3 hI (Nat.le_of_ble_eq_true rfl) (c_isWithin (nI (k + 1)) _ _) ?_
  intro h9 e9; rw [e9]; clear e9 h9
  rw [h0]
  refine s_X9_bestFirst_6 hI (Nat.le_of_ble_eq_true rfl) (c_needA1) ?_
  intro h9 e9; rw [e9]; clear e9 h9
  refine s_X9_bestFirst_9 ?_
  refine s_X9_bestFirst_10 hI rfl (by decide) rfl (by decide) ?_
  refine s_X9_bestFirst_13 ?_
  refine s_X9_bestFirst_14 hI rfl (by decide) (Nat.le_of_ble_eq_true rfl) (c_findFirst hI hz.1 ok hk) ?_
  intro h5 g1
  exact s_X9_bestFirst_17 (hΦ _ (RO.of g1 (by decide)))
theorem x1_bitsWith {hi : am_HI} {g : am_G} (hI : am_Inv g) {z : Nat → Int32} (hz : ZB hi 2 z) (ok : OKz z) {b w p : Int32} (h0 : wi b 0 (nI (zn z) - 1) = false) : am_Th M_X9_bitsWith [.ref 0, .int b, .int w, .int p] hi g am_x0 (fun h => h = hi) := by
  refine am_thn (by decide) (Nat.le_of_ble_eq_true rfl) (fun Φ hΦ => ?_)
  show AP M_X9_bitsWith _ 0 [.ref 0, .int b, .int w, .int p] [] _ g Φ
  refine s_X9_bitsWith_0 ?_
  refine s_X9_bitsWith_1 ?_
  refine s_X9_bitsWith_2 hI rfl (by decide) (Nat.le_of_ble_eq_true rfl) (c_isBlock hI hz.1 ok b) ?_
  intro h9 e9; rw [e9]; clear e9 h9
  rw [h0]
  exact tx_X9_bitsWith_5 hI (by decide) (by decide) (hΦ _ rfl)
theorem x2_bitsWith {hi : am_HI} {g : am_G} (hI : am_Inv g) {z : Nat → Int32} (hz : ZB hi 2 z) (ok : OKz z) {b w p : Int32} (h0 : wi b 0 (nI (zn z) - 1) = true) (h1 : wi w 0 4 = false) : am_Th M_X9_bitsWith [.ref 0, .int b, .int w, .int p] hi g am_x1 (fun h => h = hi) := by
  refine am_thn (by decide) (Nat.le_of_ble_eq_true rfl) (fun Φ hΦ => ?_)
  show AP M_X9_bitsWith _ 0 [.ref 0, .int b, .int w, .int p] [] _ g Φ
  refine s_X9_bitsWith_0 ?_
  refine s_X9_bitsWith_1 ?_
  refine s_X9_bitsWith_2 hI rfl (by decide) (Nat.le_of_ble_eq_true rfl) (c_isBlock hI hz.1 ok b) ?_
  intro h9 e9; rw [e9]; clear e9 h9
  rw [h0]
  refine s_X9_bitsWith_5 hI (Nat.le_of_ble_eq_true rfl) (c_needI1) ?_
  intro h9 e9; rw [e9]; clear e9 h9
  refine s_X9_bitsWith_8 ?_
  refine s_X9_bitsWith_9 hI (Nat.le_of_ble_eq_true rfl) (c_isKind hI w) ?_
  intro h9 e9; rw [e9]; clear e9 h9
  rw [h1]
  exact tx_X9_bitsWith_12 hI (by decide) (by decide) (hΦ _ rfl)
theorem x3_bitsWith {hi : am_HI} {g : am_G} (hI : am_Inv g) {z : Nat → Int32} (hz : ZB hi 2 z) (ok : OKz z) {b w p : Int32} (h0 : wi b 0 (nI (zn z) - 1) = true) (h1 : wi w 0 4 = true) (h2 : wi p (0) (7) = false) : am_Th M_X9_bitsWith [.ref 0, .int b, .int w, .int p] hi g am_x1 (fun h => h = hi) := by
  refine am_thn (by decide) (Nat.le_of_ble_eq_true rfl) (fun Φ hΦ => ?_)
  show AP M_X9_bitsWith _ 0 [.ref 0, .int b, .int w, .int p] [] _ g Φ
  refine s_X9_bitsWith_0 ?_
  refine s_X9_bitsWith_1 ?_
  refine s_X9_bitsWith_2 hI rfl (by decide) (Nat.le_of_ble_eq_true rfl) (c_isBlock hI hz.1 ok b) ?_
  intro h9 e9; rw [e9]; clear e9 h9
  rw [h0]
  refine s_X9_bitsWith_5 hI (Nat.le_of_ble_eq_true rfl) (c_needI1) ?_
  intro h9 e9; rw [e9]; clear e9 h9
  refine s_X9_bitsWith_8 ?_
  refine s_X9_bitsWith_9 hI (Nat.le_of_ble_eq_true rfl) (c_isKind hI w) ?_
  intro h9 e9; rw [e9]; clear e9 h9
  rw [h1]
  refine s_X9_bitsWith_12 hI (Nat.le_of_ble_eq_true rfl) (c_needA1) ?_
  intro h9 e9; rw [e9]; clear e9 h9
  refine s_X9_bitsWith_15 ?_
  refine s_X9_bitsWith_16 ?_
  refine s_X9_bitsWith_17 ?_
  refine s_X9_bitsWith_19 hI (Nat.le_of_ble_eq_true rfl) (c_isWithin p _ _) ?_
  intro h9 e9; rw [e9]; clear e9 h9
  rw [h2]
  exact tx_X9_bitsWith_22 hI (by decide) (by decide) (hΦ _ rfl)
theorem r_bitsWith {hi : am_HI} {g : am_G} (hI : am_Inv g) {z : Nat → Int32} (hz : ZB hi 2 z) (ok : OKz z) {j k q : Nat} (hj : j < zn z) (hk : k < 5) (hq : q ≤ 7) (h0 : wi (nI j) 0 (nI (zn z) - 1) = true) (h1 : wi (nI k) 0 4 = true) (h2 : wi (nI q) (0) (7) = true) : am_Cr M_X9_bitsWith [.ref 0, .int (nI j), .int (nI k), .int (nI q)] hi g (some (.int (zbb z k j q))) (fun h => RO hi h) := by
  refine am_crn (by decide) (Nat.le_of_ble_eq_true rfl) (fun Φ hΦ => ?_)
  show AP M_X9_bitsWith _ 0 [.ref 0, .int (nI j), .int (nI k), .int (nI q)] [] _ g Φ
  refine s_X9_bitsWith_0 ?_
  refine s_X9_bitsWith_1 ?_
  refine s_X9_bitsWith_2 hI rfl (by decide) (Nat.le_of_ble_eq_true rfl) (c_isBlock hI hz.1 ok (nI j)) ?_
  intro h9 e9; rw [e9]; clear e9 h9
  rw [h0]
  refine s_X9_bitsWith_5 hI (Nat.le_of_ble_eq_true rfl) (c_needI1) ?_
  intro h9 e9; rw [e9]; clear e9 h9
  refine s_X9_bitsWith_8 ?_
  refine s_X9_bitsWith_9 hI (Nat.le_of_ble_eq_true rfl) (c_isKind hI (nI k)) ?_
  intro h9 e9; rw [e9]; clear e9 h9
  rw [h1]
  refine s_X9_bitsWith_12 hI (Nat.le_of_ble_eq_true rfl) (c_needA1) ?_
  intro h9 e9; rw [e9]; clear e9 h9
  refine s_X9_bitsWith_15 ?_
  refine s_X9_bitsWith_16 ?_
  refine s_X9_bitsWith_17 ?_
  refine s_X9_bitsWith_19 hI (Nat.le_of_ble_eq_true rfl) (c_isWithin (nI q) _ _) ?_
  intro h9 e9; rw [e9]; clear e9 h9
  rw [h2]
  refine s_X9_bitsWith_22 hI (Nat.le_of_ble_eq_true rfl) (c_needA1) ?_
  intro h9 e9; rw [e9]; clear e9 h9
  refine s_X9_bitsWith_25 ?_
  refine s_X9_bitsWith_26 hI rfl (by decide) rfl (by decide) ?_
  refine s_X9_bitsWith_29 hI rfl (by decide) (Nat.le_of_ble_eq_true rfl) (c_follow hI hz.1 ok) ?_
  intro h5 ⟨g1, fo⟩
  refine s_X9_bitsWith_32 ?_
  refine s_X9_bitsWith_33 hI rfl (by decide) rfl (by decide) ?_
  refine s_X9_bitsWith_36 ?_
  refine s_X9_bitsWith_37 ?_
  refine s_X9_bitsWith_38 ?_
  have f5 : RO hi h5 := RO.of g1 (by decide)
  refine s_X9_bitsWith_39 hI rfl (by decide) (Nat.le_of_ble_eq_true rfl) (c_countBits hI (hz.1.ro f5) ok fo (b := j) (by have := zn_lt ok; omega) hk hq) ?_
  intro h9 e9; rw [e9]; clear e9 h9
  exact s_X9_bitsWith_42 (hΦ _ (f5))
theorem x1_bestParameter {hi : am_HI} {g : am_G} (hI : am_Inv g) {z : Nat → Int32} (hz : ZB hi 2 z) (ok : OKz z) {b w : Int32} (h0 : wi b 0 (nI (zn z) - 1) = false) : am_Th M_X9_bestParameter [.ref 0, .int b, .int w] hi g am_x0 (fun h => h = hi) := by
  refine am_thn (by decide) (Nat.le_of_ble_eq_true rfl) (fun Φ hΦ => ?_)
  show AP M_X9_bestParameter _ 0 [.ref 0, .int b, .int w] [] _ g Φ
  refine s_X9_bestParameter_0 ?_
  refine s_X9_bestParameter_1 ?_
  refine s_X9_bestParameter_2 hI rfl (by decide) (Nat.le_of_ble_eq_true rfl) (c_isBlock hI hz.1 ok b) ?_
  intro h9 e9; rw [e9]; clear e9 h9
  rw [h0]
  exact tx_X9_bestParameter_5 hI (by decide) (by decide) (hΦ _ rfl)
theorem x2_bestParameter {hi : am_HI} {g : am_G} (hI : am_Inv g) {z : Nat → Int32} (hz : ZB hi 2 z) (ok : OKz z) {b w : Int32} (h0 : wi b 0 (nI (zn z) - 1) = true) (h1 : wi w 0 4 = false) : am_Th M_X9_bestParameter [.ref 0, .int b, .int w] hi g am_x1 (fun h => h = hi) := by
  refine am_thn (by decide) (Nat.le_of_ble_eq_true rfl) (fun Φ hΦ => ?_)
  show AP M_X9_bestParameter _ 0 [.ref 0, .int b, .int w] [] _ g Φ
  refine s_X9_bestParameter_0 ?_
  refine s_X9_bestParameter_1 ?_
  refine s_X9_bestParameter_2 hI rfl (by decide) (Nat.le_of_ble_eq_true rfl) (c_isBlock hI hz.1 ok b) ?_
  intro h9 e9; rw [e9]; clear e9 h9
  rw [h0]
  refine s_X9_bestParameter_5 hI (Nat.le_of_ble_eq_true rfl) (c_needI1) ?_
  intro h9 e9; rw [e9]; clear e9 h9
  refine s_X9_bestParameter_8 ?_
  refine s_X9_bestParameter_9 hI (Nat.le_of_ble_eq_true rfl) (c_isKind hI w) ?_
  intro h9 e9; rw [e9]; clear e9 h9
  rw [h1]
  exact tx_X9_bestParameter_12 hI (by decide) (by decide) (hΦ _ rfl)
theorem r_bestParameter {hi : am_HI} {g : am_G} (hI : am_Inv g) {z : Nat → Int32} (hz : ZB hi 2 z) (ok : OKz z) {j k : Nat} (hj : j < zn z) (hk : k < 5) (h0 : wi (nI j) 0 (nI (zn z) - 1) = true) (h1 : wi (nI k) 0 4 = true) : am_Cr M_X9_bestParameter [.ref 0, .int (nI j), .int (nI k)] hi g (some (.int (nI (zpb z k j)))) (fun h => RO hi h) := by
  have h48 := zn_lt ok
  obtain ⟨v1, v2, v3⟩ := hr26 hk
  refine am_crn (by decide) (Nat.le_of_ble_eq_true rfl) (fun Φ hΦ => ?_)
  show AP M_X9_bestParameter _ 0 [.ref 0, .int (nI j), .int (nI k)] [] _ g Φ
  refine s_X9_bestParameter_0 ?_
  refine s_X9_bestParameter_1 ?_
  refine s_X9_bestParameter_2 hI (by first | assumption | rfl | decide | omega) (by first | assumption | rfl | decide | omega) (Nat.le_of_ble_eq_true rfl) (c_isBlock hI hz.1 ok (nI j)) ?_
  intro h9 e9; rw [e9]; clear e9 h9
  rw [h0]
  refine s_X9_bestParameter_5 hI (Nat.le_of_ble_eq_true rfl) (c_needI1) ?_
  intro h9 e9; rw [e9]; clear e9 h9
  refine s_X9_bestParameter_8 ?_
  refine s_X9_bestParameter_9 hI (Nat.le_of_ble_eq_true rfl) (c_isKind hI (nI k)) ?_
  intro h9 e9; rw [e9]; clear e9 h9
  rw [h1]
  refine s_X9_bestParameter_12 hI (Nat.le_of_ble_eq_true rfl) (c_needA1) ?_
  intro h9 e9; rw [e9]; clear e9 h9
  refine s_X9_bestParameter_15 ?_
  refine s_X9_bestParameter_16 hI (by first | assumption | rfl | decide | omega) (by first | assumption | rfl | decide | omega) (by first | assumption | rfl | decide | omega) (by first | assumption | rfl | decide | omega) ?_
  refine s_X9_bestParameter_19 hI (by first | assumption | rfl | decide | omega) (by first | assumption | rfl | decide | omega) (Nat.le_of_ble_eq_true rfl) (c_weighBlocks hI hz.1 ok) ?_
  intro h5 ⟨g1, fo, fp⟩
  refine s_X9_bestParameter_22 ?_
  refine s_X9_bestParameter_23 hI (by first | assumption | rfl | decide | omega) (by first | assumption | rfl | decide | omega) (by first | assumption | rfl | decide | omega) (by first | assumption | rfl | decide | omega) ?_
  refine s_X9_bestParameter_26 hI (by first | assumption | rfl | decide | omega) (by first | assumption | rfl | decide | omega) (by first | assumption | rfl | decide | omega) (by first | assumption | rfl | decide | omega) ?_
  refine s_X9_bestParameter_29 ?_
  refine s_X9_bestParameter_30 hI (by first | assumption | rfl | decide | omega) (by first | assumption | rfl | decide | omega) (by first | assumption | rfl | decide | omega) (rfl) (hk) ((hI.2 26 k (by decide)).trans v1) ?_
  refine s_X9_bestParameter_31 ?_
  refine s_X9_bestParameter_32 hI (by first | assumption | rfl | decide | omega) (by first | assumption | rfl | decide | omega) (by first | assumption | rfl | decide | omega) (rfl) (by omega) ?_
  rw [(fp j hj k hk).1]
  exact s_X9_bestParameter_33 (hΦ _ (RO.of g1 (by decide)))
theorem x1_bestKind {hi : am_HI} {g : am_G} (hI : am_Inv g) {z : Nat → Int32} (hz : ZB hi 2 z) (ok : OKz z) {b : Int32} (h0 : wi b 0 (nI (zn z) - 1) = false) : am_Th M_X9_bestKind [.ref 0, .int b] hi g am_x0 (fun h => h = hi) := by
  refine am_thn (by decide) (Nat.le_of_ble_eq_true rfl) (fun Φ hΦ => ?_)
  show AP M_X9_bestKind _ 0 [.ref 0, .int b] [] _ g Φ
  refine s_X9_bestKind_0 ?_
  refine s_X9_bestKind_1 ?_
  refine s_X9_bestKind_2 hI rfl (by decide) (Nat.le_of_ble_eq_true rfl) (c_isBlock hI hz.1 ok b) ?_
  intro h9 e9; rw [e9]; clear e9 h9
  rw [h0]
  exact tx_X9_bestKind_5 hI (by decide) (by decide) (hΦ _ rfl)
theorem r_bestKind {hi : am_HI} {g : am_G} (hI : am_Inv g) {z : Nat → Int32} (hz : ZB hi 2 z) (ok : OKz z) {j : Nat} (hj : j < zn z) (h0 : wi (nI j) 0 (nI (zn z) - 1) = true) : am_Cr M_X9_bestKind [.ref 0, .int (nI j)] hi g (some (.int (nI (zkf z j)))) (fun h => RO hi h) := by
  refine am_crn (by decide) (Nat.le_of_ble_eq_true rfl) (fun Φ hΦ => ?_)
  show AP M_X9_bestKind _ 0 [.ref 0, .int (nI j)] [] _ g Φ
  refine s_X9_bestKind_0 ?_
  refine s_X9_bestKind_1 ?_
  refine s_X9_bestKind_2 hI rfl (by decide) (Nat.le_of_ble_eq_true rfl) (c_isBlock hI hz.1 ok (nI j)) ?_
  intro h9 e9; rw [e9]; clear e9 h9
  rw [h0]
  refine s_X9_bestKind_5 hI (Nat.le_of_ble_eq_true rfl) (c_needI1) ?_
  intro h9 e9; rw [e9]; clear e9 h9
  refine s_X9_bestKind_8 ?_
  refine s_X9_bestKind_9 hI rfl (by decide) rfl (by decide) ?_
  refine s_X9_bestKind_12 hI rfl (by decide) (Nat.le_of_ble_eq_true rfl) (c_weighBlocks hI hz.1 ok) ?_
  intro h5 ⟨g1, fo, fp⟩
  refine s_X9_bestKind_15 ?_
  refine s_X9_bestKind_16 hI rfl (by decide) rfl (by decide) ?_
  refine s_X9_bestKind_19 ?_
  have f5 : RO hi h5 := RO.of g1 (by decide)
  refine s_X9_bestKind_20 hI rfl (by decide) (Nat.le_of_ble_eq_true rfl) (c_kindFor hI (hz.1.ro f5) ok fp hj) ?_
  intro h9 e9; rw [e9]; clear e9 h9
  exact s_X9_bestKind_23 (hΦ _ (f5))
theorem x1_whyBest {hi : am_HI} {g : am_G} (hI : am_Inv g) {z : Nat → Int32} (hz : ZB hi 2 z) (ok : OKz z) {b : Int32} (h0 : wi b 0 (nI (zn z) - 1) = false) : am_Th M_X9_whyBest [.ref 0, .int b] hi g am_x0 (fun h => h = hi) := by
  refine am_thn (by decide) (Nat.le_of_ble_eq_true rfl) (fun Φ hΦ => ?_)
  show AP M_X9_whyBest _ 0 [.ref 0, .int b] [] _ g Φ
  refine s_X9_whyBest_0 ?_
  refine s_X9_whyBest_1 ?_
  refine s_X9_whyBest_2 hI rfl (by decide) (Nat.le_of_ble_eq_true rfl) (c_isBlock hI hz.1 ok b) ?_
  intro h9 e9; rw [e9]; clear e9 h9
  rw [h0]
  exact tx_X9_whyBest_5 hI (by decide) (by decide) (hΦ _ rfl)
theorem r_whyBest {hi : am_HI} {g : am_G} (hI : am_Inv g) {z : Nat → Int32} (hz : ZB hi 2 z) (ok : OKz z) {j : Nat} (hj : j < zn z) (h0 : wi (nI j) 0 (nI (zn z) - 1) = true) : am_Cr M_X9_whyBest [.ref 0, .int (nI j)] hi g (some (.int (zwhy z j))) (fun h => RO hi h) := by
  refine am_crn (by decide) (Nat.le_of_ble_eq_true rfl) (fun Φ hΦ => ?_)
  show AP M_X9_whyBest _ 0 [.ref 0, .int (nI j)] [] _ g Φ
  refine s_X9_whyBest_0 ?_
  refine s_X9_whyBest_1 ?_
  refine s_X9_whyBest_2 hI rfl (by decide) (Nat.le_of_ble_eq_true rfl) (c_isBlock hI hz.1 ok (nI j)) ?_
  intro h9 e9; rw [e9]; clear e9 h9
  rw [h0]
  refine s_X9_whyBest_5 hI (Nat.le_of_ble_eq_true rfl) (c_needI1) ?_
  intro h9 e9; rw [e9]; clear e9 h9
  refine s_X9_whyBest_8 ?_
  refine s_X9_whyBest_9 hI rfl (by decide) rfl (by decide) ?_
  refine s_X9_whyBest_12 hI rfl (by decide) (Nat.le_of_ble_eq_true rfl) (c_weighBlocks hI hz.1 ok) ?_
  intro h5 ⟨g1, fo, fp⟩
  refine s_X9_whyBest_15 ?_
  refine s_X9_whyBest_16 hI rfl (by decide) rfl (by decide) ?_
  refine s_X9_whyBest_19 ?_
  have f5 : RO hi h5 := RO.of g1 (by decide)
  refine s_X9_whyBest_20 hI rfl (by decide) (Nat.le_of_ble_eq_true rfl) (c_reasonFor hI (hz.1.ro f5) ok fp hj) ?_
  intro h9 e9; rw [e9]; clear e9 h9
  exact s_X9_whyBest_23 (hΦ _ (f5))
theorem r_bits {hi : am_HI} {g : am_G} (hI : am_Inv g) {z : Nat → Int32} (hz : ZB hi 2 z) (ok : OKz z)  : am_Cr M_X9_bits [.ref 0] hi g (some (.int (sAll z (zn z)))) (fun h => RO hi h) := by
  refine am_crn (by decide) (Nat.le_of_ble_eq_true rfl) (fun Φ hΦ => ?_)
  show AP M_X9_bits _ 0 [.ref 0] [] _ g Φ
  refine s_X9_bits_0 ?_
  refine s_X9_bits_1 hI rfl (by decide) rfl (by decide) ?_
  refine s_X9_bits_4 hI rfl (by decide) (Nat.le_of_ble_eq_true rfl) (c_weighBlocks hI hz.1 ok) ?_
  intro h5 ⟨g1, fo, fp⟩
  refine s_X9_bits_7 ?_
  refine s_X9_bits_8 hI rfl (by decide) rfl (by decide) ?_
  have f5 : RO hi h5 := RO.of g1 (by decide)
  refine s_X9_bits_11 hI rfl (by decide) (Nat.le_of_ble_eq_true rfl) (c_sumOfBlocks hI (hz.1.ro f5) ok fp) ?_
  intro h9 e9; rw [e9]; clear e9 h9
  exact s_X9_bits_14 (hΦ _ (f5))
theorem x1_blocksWith {hi : am_HI} {g : am_G} (hI : am_Inv g) {z : Nat → Int32} (hz : ZB hi 2 z) (ok : OKz z) {w : Int32} (h0 : wi w 0 4 = false) : am_Th M_X9_blocksWith [.ref 0, .int w] hi g am_x1 (fun h => h = hi) := by
  refine am_thn (by decide) (Nat.le_of_ble_eq_true rfl) (fun Φ hΦ => ?_)
  show AP M_X9_blocksWith _ 0 [.ref 0, .int w] [] _ g Φ
  refine s_X9_blocksWith_0 ?_
  refine s_X9_blocksWith_1 hI (Nat.le_of_ble_eq_true rfl) (c_isKind hI w) ?_
  intro h9 e9; rw [e9]; clear e9 h9
  rw [h0]
  exact tx_X9_blocksWith_4 hI (by decide) (by decide) (hΦ _ rfl)
theorem r_blocksWith {hi : am_HI} {g : am_G} (hI : am_Inv g) {z : Nat → Int32} (hz : ZB hi 2 z) (ok : OKz z) {k : Nat} (hk : k < 5) (h0 : wi (nI k) 0 4 = true) : am_Cr M_X9_blocksWith [.ref 0, .int (nI k)] hi g (some (.int (sMany z k (zn z)))) (fun h => RO hi h) := by
  refine am_crn (by decide) (Nat.le_of_ble_eq_true rfl) (fun Φ hΦ => ?_)
  show AP M_X9_blocksWith _ 0 [.ref 0, .int (nI k)] [] _ g Φ
  refine s_X9_blocksWith_0 ?_
  refine s_X9_blocksWith_1 hI (Nat.le_of_ble_eq_true rfl) (c_isKind hI (nI k)) ?_
  intro h9 e9; rw [e9]; clear e9 h9
  rw [h0]
  refine s_X9_blocksWith_4 hI (Nat.le_of_ble_eq_true rfl) (c_needA1) ?_
  intro h9 e9; rw [e9]; clear e9 h9
  refine s_X9_blocksWith_7 ?_
  refine s_X9_blocksWith_8 hI rfl (by decide) rfl (by decide) ?_
  refine s_X9_blocksWith_11 hI rfl (by decide) (Nat.le_of_ble_eq_true rfl) (c_weighBlocks hI hz.1 ok) ?_
  intro h5 ⟨g1, fo, fp⟩
  refine s_X9_blocksWith_14 ?_
  refine s_X9_blocksWith_15 hI rfl (by decide) rfl (by decide) ?_
  refine s_X9_blocksWith_18 ?_
  have f5 : RO hi h5 := RO.of g1 (by decide)
  refine s_X9_blocksWith_19 hI rfl (by decide) (Nat.le_of_ble_eq_true rfl) (c_countBlocksWith hI (hz.1.ro f5) ok fp hk) ?_
  intro h9 e9; rw [e9]; clear e9 h9
  exact s_X9_blocksWith_22 (hΦ _ (f5))
theorem x1_bitsIfOnly {hi : am_HI} {g : am_G} (hI : am_Inv g) {z : Nat → Int32} (hz : ZB hi 2 z) (ok : OKz z) {w : Int32} (h0 : wi w 0 4 = false) : am_Th M_X9_bitsIfOnly [.ref 0, .int w] hi g am_x1 (fun h => h = hi) := by
  refine am_thn (by decide) (Nat.le_of_ble_eq_true rfl) (fun Φ hΦ => ?_)
  show AP M_X9_bitsIfOnly _ 0 [.ref 0, .int w] [] _ g Φ
  refine s_X9_bitsIfOnly_0 ?_
  refine s_X9_bitsIfOnly_1 hI (Nat.le_of_ble_eq_true rfl) (c_isKind hI w) ?_
  intro h9 e9; rw [e9]; clear e9 h9
  rw [h0]
  exact tx_X9_bitsIfOnly_4 hI (by decide) (by decide) (hΦ _ rfl)
theorem r_bitsIfOnly {hi : am_HI} {g : am_G} (hI : am_Inv g) {z : Nat → Int32} (hz : ZB hi 2 z) (ok : OKz z) {k : Nat} (hk : k < 5) (h0 : wi (nI k) 0 4 = true) : am_Cr M_X9_bitsIfOnly [.ref 0, .int (nI k)] hi g (some (.int (sOnly z k (zn z)))) (fun h => RO hi h) := by
  refine am_crn (by decide) (Nat.le_of_ble_eq_true rfl) (fun Φ hΦ => ?_)
  show AP M_X9_bitsIfOnly _ 0 [.ref 0, .int (nI k)] [] _ g Φ
  refine s_X9_bitsIfOnly_0 ?_
  refine s_X9_bitsIfOnly_1 hI (Nat.le_of_ble_eq_true rfl) (c_isKind hI (nI k)) ?_
  intro h9 e9; rw [e9]; clear e9 h9
  rw [h0]
  refine s_X9_bitsIfOnly_4 hI (Nat.le_of_ble_eq_true rfl) (c_needA1) ?_
  intro h9 e9; rw [e9]; clear e9 h9
  refine s_X9_bitsIfOnly_7 ?_
  refine s_X9_bitsIfOnly_8 hI rfl (by decide) rfl (by decide) ?_
  refine s_X9_bitsIfOnly_11 hI rfl (by decide) (Nat.le_of_ble_eq_true rfl) (c_weighBlocks hI hz.1 ok) ?_
  intro h5 ⟨g1, fo, fp⟩
  refine s_X9_bitsIfOnly_14 ?_
  refine s_X9_bitsIfOnly_15 hI rfl (by decide) rfl (by decide) ?_
  refine s_X9_bitsIfOnly_18 ?_
  have f5 : RO hi h5 := RO.of g1 (by decide)
  refine s_X9_bitsIfOnly_19 hI rfl (by decide) (Nat.le_of_ble_eq_true rfl) (c_sumIfOnly hI (hz.1.ro f5) ok fp hk) ?_
  intro h9 e9; rw [e9]; clear e9 h9
  exact s_X9_bitsIfOnly_22 (hΦ _ (f5))
theorem x1_letterKind {hi : am_HI} {g : am_G} (hI : am_Inv g) {z : Nat → Int32} (hz : ZB hi 2 z) (ok : OKz z) {b : Int32} (h0 : wi b 0 (nI (zln z) - 1) = false) : am_Th M_X9_letterKind [.ref 0, .int b] hi g am_x0 (fun h => h = hi) := by
  refine am_thn (by decide) (Nat.le_of_ble_eq_true rfl) (fun Φ hΦ => ?_)
  show AP M_X9_letterKind _ 0 [.ref 0, .int b] [] _ g Φ
  refine s_X9_letterKind_0 ?_
  refine s_X9_letterKind_1 ?_
  refine s_X9_letterKind_2 ?_
  refine s_X9_letterKind_3 hI rfl (by decide) rfl (by decide) ?_
  refine s_X9_letterKind_6 hI rfl (by decide) rfl (by decide) ?_
  refine s_X9_letterKind_9 hI rfl (by decide) ?_
  refine s_X9_letterKind_12 hI (Nat.le_of_ble_eq_true rfl) (c_blocksL hz.2.1 ok) ?_
  intro h9 e9; rw [e9]; clear e9 h9
  refine s_X9_letterKind_15 ?_
  refine s_X9_letterKind_16 ?_
  refine s_X9_letterKind_17 hI (Nat.le_of_ble_eq_true rfl) (c_isWithin b _ _) ?_
  intro h9 e9; rw [e9]; clear e9 h9
  rw [h0]
  exact tx_X9_letterKind_20 hI (by decide) (by decide) (hΦ _ rfl)
theorem r_letterKind {hi : am_HI} {g : am_G} (hI : am_Inv g) {z : Nat → Int32} (hz : ZB hi 2 z) (ok : OKz z) {j : Nat} (hj : j < zln z) (h0 : wi (nI j) 0 (nI (zln z) - 1) = true) : am_Cr M_X9_letterKind [.ref 0, .int (nI j)] hi g (some (.int (z (63 + j)))) (fun h => RO hi h) := by
  refine am_crn (by decide) (Nat.le_of_ble_eq_true rfl) (fun Φ hΦ => ?_)
  show AP M_X9_letterKind _ 0 [.ref 0, .int (nI j)] [] _ g Φ
  refine s_X9_letterKind_0 ?_
  refine s_X9_letterKind_1 ?_
  refine s_X9_letterKind_2 ?_
  refine s_X9_letterKind_3 hI rfl (by decide) rfl (by decide) ?_
  refine s_X9_letterKind_6 hI rfl (by decide) rfl (by decide) ?_
  refine s_X9_letterKind_9 hI rfl (by decide) ?_
  refine s_X9_letterKind_12 hI (Nat.le_of_ble_eq_true rfl) (c_blocksL hz.2.1 ok) ?_
  intro h9 e9; rw [e9]; clear e9 h9
  refine s_X9_letterKind_15 ?_
  refine s_X9_letterKind_16 ?_
  refine s_X9_letterKind_17 hI (Nat.le_of_ble_eq_true rfl) (c_isWithin (nI j) _ _) ?_
  intro h9 e9; rw [e9]; clear e9 h9
  rw [h0]
  refine s_X9_letterKind_20 hI (Nat.le_of_ble_eq_true rfl) (c_needI1) ?_
  intro h9 e9; rw [e9]; clear e9 h9
  refine s_X9_letterKind_23 ?_
  refine s_X9_letterKind_24 hI rfl (by decide) rfl (by decide) ?_
  refine s_X9_letterKind_27 hI rfl (by decide) rfl (by decide) ?_
  refine s_X9_letterKind_30 hI rfl (by decide) rfl (by decide) ?_
  refine s_X9_letterKind_33 ?_
  refine s_X9_letterKind_34 hI rfl (by decide) (by decide) (rfl) (by have := zln_lt ok; omega) ?_
  rw [hz.2.1.2.2.2.2.1 j (by have := zln_lt ok; omega)]
  exact s_X9_letterKind_35 (hΦ _ (RO.rfl))
theorem x1_letterParameter {hi : am_HI} {g : am_G} (hI : am_Inv g) {z : Nat → Int32} (hz : ZB hi 2 z) (ok : OKz z) {b : Int32} (h0 : wi b 0 (nI (zln z) - 1) = false) : am_Th M_X9_letterParameter [.ref 0, .int b] hi g am_x0 (fun h => h = hi) := by
  refine am_thn (by decide) (Nat.le_of_ble_eq_true rfl) (fun Φ hΦ => ?_)
  show AP M_X9_letterParameter _ 0 [.ref 0, .int b] [] _ g Φ
  refine s_X9_letterParameter_0 ?_
  refine s_X9_letterParameter_1 ?_
  refine s_X9_letterParameter_2 ?_
  refine s_X9_letterParameter_3 hI rfl (by decide) rfl (by decide) ?_
  refine s_X9_letterParameter_6 hI rfl (by decide) rfl (by decide) ?_
  refine s_X9_letterParameter_9 hI rfl (by decide) ?_
  refine s_X9_letterParameter_12 hI (Nat.le_of_ble_eq_true rfl) (c_blocksL hz.2.1 ok) ?_
  intro h9 e9; rw [e9]; clear e9 h9
  refine s_X9_letterParameter_15 ?_
  refine s_X9_letterParameter_16 ?_
  refine s_X9_letterParameter_17 hI (Nat.le_of_ble_eq_true rfl) (c_isWithin b _ _) ?_
  intro h9 e9; rw [e9]; clear e9 h9
  rw [h0]
  exact tx_X9_letterParameter_20 hI (by decide) (by decide) (hΦ _ rfl)
theorem r_letterParameter {hi : am_HI} {g : am_G} (hI : am_Inv g) {z : Nat → Int32} (hz : ZB hi 2 z) (ok : OKz z) {j : Nat} (hj : j < zln z) (h0 : wi (nI j) 0 (nI (zln z) - 1) = true) : am_Cr M_X9_letterParameter [.ref 0, .int (nI j)] hi g (some (.int (z (69 + j)))) (fun h => RO hi h) := by
  refine am_crn (by decide) (Nat.le_of_ble_eq_true rfl) (fun Φ hΦ => ?_)
  show AP M_X9_letterParameter _ 0 [.ref 0, .int (nI j)] [] _ g Φ
  refine s_X9_letterParameter_0 ?_
  refine s_X9_letterParameter_1 ?_
  refine s_X9_letterParameter_2 ?_
  refine s_X9_letterParameter_3 hI rfl (by decide) rfl (by decide) ?_
  refine s_X9_letterParameter_6 hI rfl (by decide) rfl (by decide) ?_
  refine s_X9_letterParameter_9 hI rfl (by decide) ?_
  refine s_X9_letterParameter_12 hI (Nat.le_of_ble_eq_true rfl) (c_blocksL hz.2.1 ok) ?_
  intro h9 e9; rw [e9]; clear e9 h9
  refine s_X9_letterParameter_15 ?_
  refine s_X9_letterParameter_16 ?_
  refine s_X9_letterParameter_17 hI (Nat.le_of_ble_eq_true rfl) (c_isWithin (nI j) _ _) ?_
  intro h9 e9; rw [e9]; clear e9 h9
  rw [h0]
  refine s_X9_letterParameter_20 hI (Nat.le_of_ble_eq_true rfl) (c_needI1) ?_
  intro h9 e9; rw [e9]; clear e9 h9
  refine s_X9_letterParameter_23 ?_
  refine s_X9_letterParameter_24 hI rfl (by decide) rfl (by decide) ?_
  refine s_X9_letterParameter_27 hI rfl (by decide) rfl (by decide) ?_
  refine s_X9_letterParameter_30 hI rfl (by decide) rfl (by decide) ?_
  refine s_X9_letterParameter_33 ?_
  refine s_X9_letterParameter_34 hI rfl (by decide) (by decide) (rfl) (by have := zln_lt ok; omega) ?_
  rw [hz.2.1.2.2.2.2.2.1 j (by have := zln_lt ok; omega)]
  exact s_X9_letterParameter_35 (hΦ _ (RO.rfl))
theorem x1_letterLeft {hi : am_HI} {g : am_G} (hI : am_Inv g) {z : Nat → Int32} (hz : ZB hi 2 z) (ok : OKz z) {x : Int32} (h0 : wi x 0 (nI (zt z) - 1) = false) : am_Th M_X9_letterLeft [.ref 0, .int x] hi g am_x0 (fun h => h = hi) := by
  refine am_thn (by decide) (Nat.le_of_ble_eq_true rfl) (fun Φ hΦ => ?_)
  show AP M_X9_letterLeft _ 0 [.ref 0, .int x] [] _ g Φ
  refine s_X9_letterLeft_0 ?_
  refine s_X9_letterLeft_1 ?_
  refine s_X9_letterLeft_2 hI rfl (by decide) (Nat.le_of_ble_eq_true rfl) (c_isTold hI hz.2.1 ok x) ?_
  intro h9 e9; rw [e9]; clear e9 h9
  rw [h0]
  exact tx_X9_letterLeft_5 hI (by decide) (by decide) (hΦ _ rfl)
theorem r_letterLeft {hi : am_HI} {g : am_G} (hI : am_Inv g) {z : Nat → Int32} (hz : ZB hi 2 z) (ok : OKz z) {t : Nat} (ht : t < zt z) (h0 : wi (nI t) 0 (nI (zt z) - 1) = true) : am_Cr M_X9_letterLeft [.ref 0, .int (nI t)] hi g (some (.int (z (75 + t)))) (fun h => RO hi h) := by
  refine am_crn (by decide) (Nat.le_of_ble_eq_true rfl) (fun Φ hΦ => ?_)
  show AP M_X9_letterLeft _ 0 [.ref 0, .int (nI t)] [] _ g Φ
  refine s_X9_letterLeft_0 ?_
  refine s_X9_letterLeft_1 ?_
  refine s_X9_letterLeft_2 hI rfl (by decide) (Nat.le_of_ble_eq_true rfl) (c_isTold hI hz.2.1 ok (nI t)) ?_
  intro h9 e9; rw [e9]; clear e9 h9
  rw [h0]
  refine s_X9_letterLeft_5 hI (Nat.le_of_ble_eq_true rfl) (c_needI1) ?_
  intro h9 e9; rw [e9]; clear e9 h9
  refine s_X9_letterLeft_8 ?_
  refine s_X9_letterLeft_9 hI rfl (by decide) rfl (by decide) ?_
  refine s_X9_letterLeft_12 hI rfl (by decide) rfl (by decide) ?_
  refine s_X9_letterLeft_15 hI rfl (by decide) rfl (by decide) ?_
  refine s_X9_letterLeft_18 ?_
  refine s_X9_letterLeft_19 hI rfl (by decide) (by decide) (rfl) (by have := ok.2.2.1; omega) ?_
  rw [hz.2.1.2.2.2.2.2.2.1 t (by have := ok.2.2.1; omega)]
  exact s_X9_letterLeft_20 (hΦ _ (RO.rfl))
theorem x1_letterBit {hi : am_HI} {g : am_G} (hI : am_Inv g) {z : Nat → Int32} (hz : ZB hi 2 z) (ok : OKz z) {x : Int32} (h0 : wi x 0 (nI (zbits z) - 1) = false) : am_Th M_X9_letterBit [.ref 0, .int x] hi g am_x0 (fun h => h = hi) := by
  refine am_thn (by decide) (Nat.le_of_ble_eq_true rfl) (fun Φ hΦ => ?_)
  show AP M_X9_letterBit _ 0 [.ref 0, .int x] [] _ g Φ
  refine s_X9_letterBit_0 ?_
  refine s_X9_letterBit_1 ?_
  refine s_X9_letterBit_2 ?_
  refine s_X9_letterBit_3 hI rfl (by decide) rfl (by decide) ?_
  refine s_X9_letterBit_6 hI rfl (by decide) rfl (by decide) ?_
  refine s_X9_letterBit_9 hI rfl (by decide) (Nat.le_of_ble_eq_true rfl) (c_countLB hI hz.2.1 ok) ?_
  intro h9 e9; rw [e9]; clear e9 h9
  refine s_X9_letterBit_12 ?_
  refine s_X9_letterBit_13 ?_
  refine s_X9_letterBit_14 hI (Nat.le_of_ble_eq_true rfl) (c_isWithin x _ _) ?_
  intro h9 e9; rw [e9]; clear e9 h9
  rw [h0]
  exact tx_X9_letterBit_17 hI (by decide) (by decide) (hΦ _ rfl)
theorem r_letterBit {hi : am_HI} {g : am_G} (hI : am_Inv g) {z : Nat → Int32} (hz : ZB hi 2 z) (ok : OKz z) {i : Nat} (hi' : i < zbits z) (h0 : wi (nI i) 0 (nI (zbits z) - 1) = true) : am_Cr M_X9_letterBit [.ref 0, .int (nI i)] hi g (some (.int (bI ((lbB z (zt z)).getD i false)))) (fun h => RO hi h) := by
  refine am_crn (by decide) (Nat.le_of_ble_eq_true rfl) (fun Φ hΦ => ?_)
  show AP M_X9_letterBit _ 0 [.ref 0, .int (nI i)] [] _ g Φ
  refine s_X9_letterBit_0 ?_
  refine s_X9_letterBit_1 ?_
  refine s_X9_letterBit_2 ?_
  refine s_X9_letterBit_3 hI rfl (by decide) rfl (by decide) ?_
  refine s_X9_letterBit_6 hI rfl (by decide) rfl (by decide) ?_
  refine s_X9_letterBit_9 hI rfl (by decide) (Nat.le_of_ble_eq_true rfl) (c_countLB hI hz.2.1 ok) ?_
  intro h9 e9; rw [e9]; clear e9 h9
  refine s_X9_letterBit_12 ?_
  refine s_X9_letterBit_13 ?_
  refine s_X9_letterBit_14 hI (Nat.le_of_ble_eq_true rfl) (c_isWithin (nI i) _ _) ?_
  intro h9 e9; rw [e9]; clear e9 h9
  rw [h0]
  refine s_X9_letterBit_17 hI (Nat.le_of_ble_eq_true rfl) (c_needI1) ?_
  intro h9 e9; rw [e9]; clear e9 h9
  refine s_X9_letterBit_20 ?_
  refine s_X9_letterBit_21 hI rfl (by decide) rfl (by decide) ?_
  refine s_X9_letterBit_24 ?_
  refine s_X9_letterBit_25 hI rfl (by decide) rfl (by decide) ?_
  refine s_X9_letterBit_28 hI rfl (by decide) rfl (by decide) ?_
  refine s_X9_letterBit_31 hI rfl (by decide) (Nat.le_of_ble_eq_true rfl) (c_write hI hz.2.1 ok) ?_
  intro h5 ⟨g1, pb, _⟩
  refine s_X9_letterBit_34 ?_
  refine s_X9_letterBit_35 hI rfl (by decide) rfl (by decide) ?_
  refine s_X9_letterBit_38 ?_
  refine s_X9_letterBit_39 hI rfl (by decide) (Nat.le_of_ble_eq_true rfl) (c_isOne hI pb (lbB_max ok ok.2.2.1) (i := i) (by have := lbB_zb z; have := lbB_max ok ok.2.2.1; omega)) ?_
  intro h9 e9; rw [e9]; clear e9 h9
  exact s_X9_letterBit_42 (by first | exact Or.inl rfl | exact Or.inr rfl | exact bI_01 _) (hΦ _ (RO.of g1 (by decide)))
theorem x1_heard {hi : am_HI} {g : am_G} (hI : am_Inv g) {z : Nat → Int32} (hz : ZB hi 2 z) (ok : OKz z) {x : Int32} (h0 : wi x 0 (nI (zt z) - 1) = false) : am_Th M_X9_heard [.ref 0, .int x] hi g am_x0 (fun h => h = hi) := by
  refine am_thn (by decide) (Nat.le_of_ble_eq_true rfl) (fun Φ hΦ => ?_)
  show AP M_X9_heard _ 0 [.ref 0, .int x] [] _ g Φ
  refine s_X9_heard_0 ?_
  refine s_X9_heard_1 ?_
  refine s_X9_heard_2 hI rfl (by decide) (Nat.le_of_ble_eq_true rfl) (c_isTold hI hz.2.1 ok x) ?_
  intro h9 e9; rw [e9]; clear e9 h9
  rw [h0]
  exact tx_X9_heard_5 hI (by decide) (by decide) (hΦ _ rfl)
theorem r_heard {hi : am_HI} {g : am_G} (hI : am_Inv g) {z : Nat → Int32} (hz : ZB hi 2 z) (ok : OKz z) {t : Nat} (ht : t < zt z) (h0 : wi (nI t) 0 (nI (zt z) - 1) = true) : am_Cr M_X9_heard [.ref 0, .int (nI t)] hi g (some (.int (ear z (-1) t))) (fun h => RO hi h) := by
  refine am_crn (by decide) (Nat.le_of_ble_eq_true rfl) (fun Φ hΦ => ?_)
  show AP M_X9_heard _ 0 [.ref 0, .int (nI t)] [] _ g Φ
  refine s_X9_heard_0 ?_
  refine s_X9_heard_1 ?_
  refine s_X9_heard_2 hI rfl (by decide) (Nat.le_of_ble_eq_true rfl) (c_isTold hI hz.2.1 ok (nI t)) ?_
  intro h9 e9; rw [e9]; clear e9 h9
  rw [h0]
  refine s_X9_heard_5 hI (Nat.le_of_ble_eq_true rfl) (c_needI1) ?_
  intro h9 e9; rw [e9]; clear e9 h9
  refine s_X9_heard_8 ?_
  refine s_X9_heard_9 hI rfl (by decide) rfl (by decide) ?_
  refine s_X9_heard_12 ?_
  refine s_X9_heard_13 hI rfl (by decide) rfl (by decide) ?_
  refine s_X9_heard_16 hI rfl (by decide) rfl (by decide) ?_
  refine s_X9_heard_19 ?_
  refine s_X9_heard_20 hI rfl (by decide) (Nat.le_of_ble_eq_true rfl) (c_read hI hz.2.1 ok (-1)) ?_
  intro h5 ⟨g1, hr⟩
  refine s_X9_heard_23 ?_
  refine s_X9_heard_24 hI rfl (by decide) rfl (by decide) ?_
  refine s_X9_heard_27 ?_
  have f5 : RO hi h5 := RO.of g1 (by decide)
  refine s_X9_heard_28 hI rfl (by decide) (Nat.le_of_ble_eq_true rfl) (c_heardAt hI hr ok.2.2.1 ht) ?_
  intro h9 e9; rw [e9]; clear e9 h9
  exact s_X9_heard_31 (hΦ _ (f5))
theorem x1_heardByBits {hi : am_HI} {g : am_G} (hI : am_Inv g) {z : Nat → Int32} (hz : ZB hi 2 z) (ok : OKz z) {x : Int32} (h0 : wi x 0 (nI (zt z) - 1) = false) : am_Th M_X9_heardByBits [.ref 0, .int x] hi g am_x0 (fun h => h = hi) := by
  refine am_thn (by decide) (Nat.le_of_ble_eq_true rfl) (fun Φ hΦ => ?_)
  show AP M_X9_heardByBits _ 0 [.ref 0, .int x] [] _ g Φ
  refine s_X9_heardByBits_0 ?_
  refine s_X9_heardByBits_1 ?_
  refine s_X9_heardByBits_2 hI rfl (by decide) (Nat.le_of_ble_eq_true rfl) (c_isTold hI hz.2.1 ok x) ?_
  intro h9 e9; rw [e9]; clear e9 h9
  rw [h0]
  exact tx_X9_heardByBits_5 hI (by decide) (by decide) (hΦ _ rfl)
theorem r_heardByBits {hi : am_HI} {g : am_G} (hI : am_Inv g) {z : Nat → Int32} (hz : ZB hi 2 z) (ok : OKz z) {t : Nat} (ht : t < zt z) (h0 : wi (nI t) 0 (nI (zt z) - 1) = true) : am_Cr M_X9_heardByBits [.ref 0, .int (nI t)] hi g (some (.int (ear z (-1) t))) (fun h => RO hi h) := by
  refine am_crn (by decide) (Nat.le_of_ble_eq_true rfl) (fun Φ hΦ => ?_)
  show AP M_X9_heardByBits _ 0 [.ref 0, .int (nI t)] [] _ g Φ
  refine s_X9_heardByBits_0 ?_
  refine s_X9_heardByBits_1 ?_
  refine s_X9_heardByBits_2 hI rfl (by decide) (Nat.le_of_ble_eq_true rfl) (c_isTold hI hz.2.1 ok (nI t)) ?_
  intro h9 e9; rw [e9]; clear e9 h9
  rw [h0]
  refine s_X9_heardByBits_5 hI (Nat.le_of_ble_eq_true rfl) (c_needI1) ?_
  intro h9 e9; rw [e9]; clear e9 h9
  refine s_X9_heardByBits_8 ?_
  refine s_X9_heardByBits_9 hI rfl (by decide) rfl (by decide) ?_
  refine s_X9_heardByBits_12 ?_
  refine s_X9_heardByBits_13 hI rfl (by decide) rfl (by decide) ?_
  refine s_X9_heardByBits_16 hI rfl (by decide) rfl (by decide) ?_
  refine s_X9_heardByBits_19 hI rfl (by decide) (Nat.le_of_ble_eq_true rfl) (c_write hI hz.2.1 ok) ?_
  intro h5 ⟨g1, pb, _⟩
  refine s_X9_heardByBits_22 ?_
  refine s_X9_heardByBits_23 hI rfl (by decide) rfl (by decide) ?_
  refine s_X9_heardByBits_26 ?_
  refine s_X9_heardByBits_27 hI rfl (by decide) rfl (by decide) ?_
  refine s_X9_heardByBits_30 hI rfl (by decide) rfl (by decide) ?_
  refine s_X9_heardByBits_33 ?_
  refine s_X9_heardByBits_34 hI rfl (by decide) rfl (by decide) ?_
  have f5 : RO hi h5 := RO.of g1 (by decide)
  refine s_X9_heardByBits_37 hI rfl (by decide) (Nat.le_of_ble_eq_true rfl) (c_readBits hI (hz.2.1.ro f5) ok pb) ?_
  intro h6 ⟨g2, hr⟩
  refine s_X9_heardByBits_40 ?_
  refine s_X9_heardByBits_41 hI rfl (by decide) rfl (by decide) ?_
  refine s_X9_heardByBits_44 ?_
  refine s_X9_heardByBits_45 hI rfl (by decide) (Nat.le_of_ble_eq_true rfl) (c_heardAt hI hr ok.2.2.1 ht) ?_
  intro h9 e9; rw [e9]; clear e9 h9
  exact s_X9_heardByBits_48 (hΦ _ (f5.tr (RO.of g2 (by decide))))
theorem r_unlike {hi : am_HI} {g : am_G} (hI : am_Inv g) {z : Nat → Int32} (hz : ZB hi 2 z) (ok : OKz z)  : am_Cr M_X9_unlike [.ref 0] hi g (some (.int (unl z (-1) (zt z)))) (fun h => RO hi h) := by
  refine am_crn (by decide) (Nat.le_of_ble_eq_true rfl) (fun Φ hΦ => ?_)
  show AP M_X9_unlike _ 0 [.ref 0] [] _ g Φ
  refine s_X9_unlike_0 ?_
  refine s_X9_unlike_1 hI rfl (by decide) rfl (by decide) ?_
  refine s_X9_unlike_4 ?_
  refine s_X9_unlike_5 hI rfl (by decide) rfl (by decide) ?_
  refine s_X9_unlike_8 hI rfl (by decide) rfl (by decide) ?_
  refine s_X9_unlike_11 ?_
  refine s_X9_unlike_12 hI rfl (by decide) (Nat.le_of_ble_eq_true rfl) (c_read hI hz.2.1 ok (-1)) ?_
  intro h5 ⟨g1, hr⟩
  refine s_X9_unlike_15 ?_
  refine s_X9_unlike_16 hI rfl (by decide) rfl (by decide) ?_
  refine s_X9_unlike_19 ?_
  refine s_X9_unlike_20 hI rfl (by decide) rfl (by decide) ?_
  refine s_X9_unlike_23 hI rfl (by decide) rfl (by decide) ?_
  have f5 : RO hi h5 := RO.of g1 (by decide)
  refine s_X9_unlike_26 hI rfl (by decide) (Nat.le_of_ble_eq_true rfl) (c_countUnlike hI (hz.2.1.ro f5) ok hr) ?_
  intro h9 e9; rw [e9]; clear e9 h9
  exact s_X9_unlike_29 (hΦ _ (f5))
theorem r_firstUnlike {hi : am_HI} {g : am_G} (hI : am_Inv g) {z : Nat → Int32} (hz : ZB hi 2 z) (ok : OKz z)  : am_Cr M_X9_firstUnlike [.ref 0] hi g (some (.int (zuf z))) (fun h => RO hi h) := by
  refine am_crn (by decide) (Nat.le_of_ble_eq_true rfl) (fun Φ hΦ => ?_)
  show AP M_X9_firstUnlike _ 0 [.ref 0] [] _ g Φ
  refine s_X9_firstUnlike_0 ?_
  refine s_X9_firstUnlike_1 hI rfl (by decide) rfl (by decide) ?_
  refine s_X9_firstUnlike_4 ?_
  refine s_X9_firstUnlike_5 hI rfl (by decide) rfl (by decide) ?_
  refine s_X9_firstUnlike_8 hI rfl (by decide) rfl (by decide) ?_
  refine s_X9_firstUnlike_11 ?_
  refine s_X9_firstUnlike_12 hI rfl (by decide) (Nat.le_of_ble_eq_true rfl) (c_read hI hz.2.1 ok (-1)) ?_
  intro h5 ⟨g1, hr⟩
  refine s_X9_firstUnlike_15 ?_
  refine s_X9_firstUnlike_16 hI rfl (by decide) rfl (by decide) ?_
  refine s_X9_firstUnlike_19 ?_
  refine s_X9_firstUnlike_20 hI rfl (by decide) rfl (by decide) ?_
  refine s_X9_firstUnlike_23 hI rfl (by decide) rfl (by decide) ?_
  have f5 : RO hi h5 := RO.of g1 (by decide)
  refine s_X9_firstUnlike_26 hI rfl (by decide) (Nat.le_of_ble_eq_true rfl) (c_findUnlike hI (hz.2.1.ro f5) ok hr) ?_
  intro h9 e9; rw [e9]; clear e9 h9
  exact s_X9_firstUnlike_29 (hΦ _ (f5))
theorem x1_harm {hi : am_HI} {g : am_G} (hI : am_Inv g) {z : Nat → Int32} (hz : ZB hi 2 z) (ok : OKz z) {x : Int32} (h0 : wi x 0 (nI (zt z) - 1) = false) : am_Th M_X9_harm [.ref 0, .int x] hi g am_x0 (fun h => h = hi) := by
  refine am_thn (by decide) (Nat.le_of_ble_eq_true rfl) (fun Φ hΦ => ?_)
  show AP M_X9_harm _ 0 [.ref 0, .int x] [] _ g Φ
  refine s_X9_harm_0 ?_
  refine s_X9_harm_1 ?_
  refine s_X9_harm_2 hI rfl (by decide) (Nat.le_of_ble_eq_true rfl) (c_isTold hI hz.2.1 ok x) ?_
  intro h9 e9; rw [e9]; clear e9 h9
  rw [h0]
  exact tx_X9_harm_5 hI (by decide) (by decide) (hΦ _ rfl)
theorem r_harm {hi : am_HI} {g : am_G} (hI : am_Inv g) {z : Nat → Int32} (hz : ZB hi 2 z) (ok : OKz z) {t : Nat} (ht : t < zt z) (h0 : wi (nI t) 0 (nI (zt z) - 1) = true) : am_Cr M_X9_harm [.ref 0, .int (nI t)] hi g (some (.int (unl z (nI t) (zt z)))) (fun h => RO hi h) := by
  refine am_crn (by decide) (Nat.le_of_ble_eq_true rfl) (fun Φ hΦ => ?_)
  show AP M_X9_harm _ 0 [.ref 0, .int (nI t)] [] _ g Φ
  refine s_X9_harm_0 ?_
  refine s_X9_harm_1 ?_
  refine s_X9_harm_2 hI rfl (by decide) (Nat.le_of_ble_eq_true rfl) (c_isTold hI hz.2.1 ok (nI t)) ?_
  intro h9 e9; rw [e9]; clear e9 h9
  rw [h0]
  refine s_X9_harm_5 hI (Nat.le_of_ble_eq_true rfl) (c_needI1) ?_
  intro h9 e9; rw [e9]; clear e9 h9
  refine s_X9_harm_8 ?_
  refine s_X9_harm_9 hI rfl (by decide) rfl (by decide) ?_
  refine s_X9_harm_12 ?_
  refine s_X9_harm_13 hI rfl (by decide) rfl (by decide) ?_
  refine s_X9_harm_16 hI rfl (by decide) rfl (by decide) ?_
  refine s_X9_harm_19 ?_
  refine s_X9_harm_20 hI rfl (by decide) (Nat.le_of_ble_eq_true rfl) (c_read hI hz.2.1 ok (nI t)) ?_
  intro h5 ⟨g1, hr⟩
  refine s_X9_harm_23 ?_
  refine s_X9_harm_24 hI rfl (by decide) rfl (by decide) ?_
  refine s_X9_harm_27 ?_
  refine s_X9_harm_28 hI rfl (by decide) rfl (by decide) ?_
  refine s_X9_harm_31 hI rfl (by decide) rfl (by decide) ?_
  have f5 : RO hi h5 := RO.of g1 (by decide)
  refine s_X9_harm_34 hI rfl (by decide) (Nat.le_of_ble_eq_true rfl) (c_countUnlike hI (hz.2.1.ro f5) ok hr) ?_
  intro h9 e9; rw [e9]; clear e9 h9
  exact s_X9_harm_37 (hΦ _ (f5))
/-- the sample of the greatest harm, as it is looked for -/
def wst (f : Nat → Int32) : Nat → Int32 × Int32
  | 0 => (-1, -1)
  | n + 1 => if (wst f n).2 < f n then (nI n, f n) else wst f n
def zharm (z : Nat → Int32) (t : Nat) : Int32 := unl z (nI t) (zt z)
theorem r_worst {hi : am_HI} {g : am_G} (hI : am_Inv g) {z : Nat → Int32} (hz : ZB hi 2 z) (ok : OKz z) : am_Cr M_X9_worst [.ref 0] hi g (some (.int (wst (zharm z) (zt z)).1)) (fun h => RO hi h) := by
  have h48 := ok.2.2.1
  refine am_crn (by decide) (Nat.le_of_ble_eq_true rfl) (fun Φ hΦ => ?_)
  show AP M_X9_worst _ 0 [.ref 0, jk, jk, jk, jk] [] _ g Φ
  refine s_X9_worst_0 ?_
  refine s_X9_worst_1 rfl ?_
  refine s_X9_worst_2 ?_
  refine s_X9_worst_3 rfl ?_
  refine s_X9_worst_4 ?_
  refine s_X9_worst_5 rfl ?_
  have key := am_for0 (n := zt z) (hi := hi) (fun _ h => RO hi h) (fun t h => ∀ e : Value, AP M_X9_worst (0, 0) 6 [.ref 0, .int (wst (zharm z) t).1, .int (wst (zharm z) t).2, .int (nI t), e] [] h g Φ) RO.rfl ?_ ?_
  · exact key _
  · intro h h1 e
    have hz1 := hz.ro h1
    refine s_X9_worst_6 ?_
    refine s_X9_worst_7 ?_
    refine s_X9_worst_8 hI rfl (by decide) rfl (by decide) ?_
    refine s_X9_worst_11 hI rfl (by decide) rfl (by decide) ?_
    refine s_X9_worst_14 hI rfl (by decide) ?_
    rw [hz1.2.1.1, ok.2.1]
    refine s_X9_worst_17 (fun _ => ?_) (fun h => absurd ((nI_le (Nat.le_refl _) (by omega))) h)
    refine s_X9_worst_68 ?_
    exact s_X9_worst_69 (hΦ _ (h1))
  · intro t h ht h1 ih e
    have hz1 := hz.ro h1
    refine s_X9_worst_6 ?_
    refine s_X9_worst_7 ?_
    refine s_X9_worst_8 hI rfl (by decide) rfl (by decide) ?_
    refine s_X9_worst_11 hI rfl (by decide) rfl (by decide) ?_
    refine s_X9_worst_14 hI rfl (by decide) ?_
    rw [hz1.2.1.1, ok.2.1]
    refine s_X9_worst_17 (fun h => absurd h ((nI_ge ht (by omega)))) (fun _ => ?_)
    refine s_X9_worst_20 ?_
    refine s_X9_worst_21 hI rfl (by decide) rfl (by decide) ?_
    refine s_X9_worst_24 ?_
    refine s_X9_worst_25 hI rfl (by decide) rfl (by decide) ?_
    refine s_X9_worst_28 hI rfl (by decide) rfl (by decide) ?_
    refine s_X9_worst_31 ?_
    refine s_X9_worst_32 hI rfl (by decide) (Nat.le_of_ble_eq_true rfl) (c_read hI hz1.2.1 ok (nI t)) ?_
    intro h5 ⟨g1, hr⟩
    refine s_X9_worst_35 ?_
    refine s_X9_worst_36 hI rfl (by decide) rfl (by decide) ?_
    refine s_X9_worst_39 ?_
    refine s_X9_worst_40 hI rfl (by decide) rfl (by decide) ?_
    refine s_X9_worst_43 hI rfl (by decide) rfl (by decide) ?_
    have f5 : RO hi h5 := h1.tr (RO.of g1 (by decide))
    refine s_X9_worst_46 hI rfl (by decide) (Nat.le_of_ble_eq_true rfl) (c_countUnlike hI (hz.ro f5).2.1 ok hr) ?_
    intro h9 e9; rw [e9]; clear e9 h9
    refine s_X9_worst_49 rfl ?_
    refine s_X9_worst_51 ?_
    refine s_X9_worst_53 ?_
    have ih' := ih h5 f5
    rw [wst] at ih'
    refine s_X9_worst_54 (fun hc => ?_) (fun hc => ?_)
    · refine s_X9_worst_62 rfl ?_
      refine s_X9_worst_65 ?_
      rw [if_neg (c := (wst (zharm z) t).2 < zharm z t) (Int32.not_lt.mpr hc)] at ih'
      rw [nI_1]
      exact ih' _
    · refine s_X9_worst_57 ?_
      refine s_X9_worst_59 rfl ?_
      refine s_X9_worst_60 ?_
      refine s_X9_worst_61 rfl ?_
      refine s_X9_worst_62 rfl ?_
      refine s_X9_worst_65 ?_
      rw [if_pos (c := (wst (zharm z) t).2 < zharm z t) (Int32.not_le.mp hc)] at ih'
      rw [nI_1]
      exact ih' _
theorem sWith_all {z : Nat → Int32} (n : Nat) : isum (fun kd => sWith z kd n) 5 = sAll z n := by
  induction n with
  | zero => show (0 + 0 + 0 + 0 + 0 + 0 : Int32) = 0; decide
  | succ n ih =>
    have e : ∀ kd, sWith z kd (n + 1) = sWith z kd n + (if zkf z n = kd then zfb z kd n else 0) := fun _ => Eq.refl _
    have e2 : sAll z (n + 1) = sAll z n + zfb z (zkf z n) n := Eq.refl _
    have e3 : ∀ f : Nat → Int32, isum f 5 = 0 + f 0 + f 1 + f 2 + f 3 + f 4 := fun _ => Eq.refl _
    rw [e2, ← ih, e3, e3, e, e, e, e, e]
    have hk := zkf_lt z n
    generalize zkf z n = k at hk ⊢
    rcases (show k = 0 ∨ k = 1 ∨ k = 2 ∨ k = 3 ∨ k = 4 by omega) with rfl | rfl | rfl | rfl | rfl
    · show 0 + (sWith z 0 n + zfb z 0 n) + (sWith z 1 n + 0) + (sWith z 2 n + 0) + (sWith z 3 n + 0) + (sWith z 4 n + 0) = 0 + sWith z 0 n + sWith z 1 n + sWith z 2 n + sWith z 3 n + sWith z 4 n + zfb z 0 n
      simp only [Int32.add_zero]
      ac_rfl
    · show 0 + (sWith z 0 n + 0) + (sWith z 1 n + zfb z 1 n) + (sWith z 2 n + 0) + (sWith z 3 n + 0) + (sWith z 4 n + 0) = 0 + sWith z 0 n + sWith z 1 n + sWith z 2 n + sWith z 3 n + sWith z 4 n + zfb z 1 n
      simp only [Int32.add_zero]
      ac_rfl
    · show 0 + (sWith z 0 n + 0) + (sWith z 1 n + 0) + (sWith z 2 n + zfb z 2 n) + (sWith z 3 n + 0) + (sWith z 4 n + 0) = 0 + sWith z 0 n + sWith z 1 n + sWith z 2 n + sWith z 3 n + sWith z 4 n + zfb z 2 n
      simp only [Int32.add_zero]
      ac_rfl
    · show 0 + (sWith z 0 n + 0) + (sWith z 1 n + 0) + (sWith z 2 n + 0) + (sWith z 3 n + zfb z 3 n) + (sWith z 4 n + 0) = 0 + sWith z 0 n + sWith z 1 n + sWith z 2 n + sWith z 3 n + sWith z 4 n + zfb z 3 n
      simp only [Int32.add_zero]
      ac_rfl
    · show 0 + (sWith z 0 n + 0) + (sWith z 1 n + 0) + (sWith z 2 n + 0) + (sWith z 3 n + 0) + (sWith z 4 n + zfb z 4 n) = 0 + sWith z 0 n + sWith z 1 n + sWith z 2 n + sWith z 3 n + sWith z 4 n + zfb z 4 n
      simp only [Int32.add_zero]
      ac_rfl
theorem r_bitsByKinds {hi : am_HI} {g : am_G} (hI : am_Inv g) {z : Nat → Int32} (hz : ZB hi 2 z) (ok : OKz z) : am_Cr M_X9_bitsByKinds [.ref 0] hi g (some (.int (sAll z (zn z)))) (fun h => RO hi h) := by
  rw [← sWith_all]
  refine am_crn (by decide) (Nat.le_of_ble_eq_true rfl) (fun Φ hΦ => ?_)
  show AP M_X9_bitsByKinds _ 0 [.ref 0, jk, jk] [] _ g Φ
  refine s_X9_bitsByKinds_0 ?_
  refine s_X9_bitsByKinds_1 hI rfl (by decide) rfl (by decide) ?_
  refine s_X9_bitsByKinds_4 hI rfl (by decide) (Nat.le_of_ble_eq_true rfl) (c_weighBlocks hI hz.1 ok) ?_
  intro h5 ⟨g1, fo, fp⟩
  refine s_X9_bitsByKinds_7 ?_
  refine s_X9_bitsByKinds_8 rfl ?_
  refine s_X9_bitsByKinds_9 ?_
  refine s_X9_bitsByKinds_10 rfl ?_
  have f5 : RO hi h5 := RO.of g1 (by decide)
  have key := am_for0 (n := 5) (hi := h5) (fun _ h => h = h5) (fun t h => AP M_X9_bitsByKinds (0, 0) 11 [.ref 0, .int (isum (fun kd => sWith z kd (zn z)) t), .int (nI t)] [] h g Φ) rfl ?_ ?_
  · exact key
  · intro h9 e9
    obtain rfl := e9.symm
    refine s_X9_bitsByKinds_11 ?_
    refine s_X9_bitsByKinds_12 ?_
    refine s_X9_bitsByKinds_13 (fun _ => ?_) (fun h => absurd ((nI_le (a := 5) (b := 5) (by decide) (by decide))) h)
    refine s_X9_bitsByKinds_33 ?_
    exact s_X9_bitsByKinds_34 (hΦ _ (f5))
  · intro t h9 ht e9 ih
    obtain rfl := e9.symm
    refine s_X9_bitsByKinds_11 ?_
    refine s_X9_bitsByKinds_12 ?_
    refine s_X9_bitsByKinds_13 (fun h => absurd h ((nI_ge (a := t) (b := 5) ht (by decide)))) (fun _ => ?_)
    refine s_X9_bitsByKinds_16 ?_
    refine s_X9_bitsByKinds_17 ?_
    refine s_X9_bitsByKinds_18 hI rfl (by decide) rfl (by decide) ?_
    refine s_X9_bitsByKinds_21 ?_
    refine s_X9_bitsByKinds_22 hI rfl (by decide) (Nat.le_of_ble_eq_true rfl) (c_sumOfBlocksWith hI (hz.1.ro f5) ok fp ht) ?_
    intro h9 e9; rw [e9]; clear e9 h9
    refine s_X9_bitsByKinds_25 ?_
    refine s_X9_bitsByKinds_26 rfl ?_
    refine s_X9_bitsByKinds_27 rfl ?_
    refine s_X9_bitsByKinds_30 ?_
    rw [nI_1]
    exact ih _ rfl
