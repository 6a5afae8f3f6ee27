/-! ===== the model: its answers ===== -/
theorem zlnI {z : Nat → Int32} (ok : OKz z) : (z 56 + 7) / 8 = nI (zln z) := by
  rw [ok.2.1, blk_nI7 (by have := ok.2.2.1; omega)]
  rfl
/-- the row z, behind what is thrown -/
theorem uz {hi : am_HI} {z : Nat → Int32} (hz : hi 124 = z) (x : Int32) : am_up hi 123 10 x 124 = z := (up_k (by decide)).trans hz
theorem MSt {S : List Nat} {hi h : am_HI} {x : Int32} (f : fr S (am_up hi 123 10 x) h) (hS : ∀ k ∈ S, k ∈ [128, 129, 130, 132]) : MS hi h ∧ h 123 10 = x := ⟨(MS.up (by decide) (by decide)).tr (MS.of f hS), by rw [f 123 (fun q => by have := hS 123 q; revert this; decide)]; exact u10⟩
theorem MSu {hi : am_HI} {x : Int32} : MS hi (am_up hi 123 10 x) ∧ am_up hi 123 10 x 123 10 = x := ⟨MS.up (by decide) (by decide), u10⟩
theorem MSs {hi h : am_HI} {x : Int32} (f : MS hi h) : MS hi (am_up h 123 10 x) ∧ am_up h 123 10 x 123 10 = x := ⟨f.tr (MS.up (by decide) (by decide)), u10⟩
theorem sm124 {z : Nat → Int32} : z 124 = z 124 := rfl
theorem q_samples {hi : am_HI} {g : am_G} (hI : am_Inv g) {z : Nat → Int32} (hz : hi 124 = z) (ok : OKz z) : am_Cr M_X10_samples [.ref 123] hi g (some (.int (z 48))) (fun h => MS hi h ∧ h 123 10 = 0) := by
  refine am_crn (by decide) (Nat.le_of_ble_eq_true rfl) (fun Φ hΦ => ?_)
  show AP M_X10_samples _ 0 [.ref 123] [] _ g Φ
  refine s_X10_samples_0 ?_
  refine s_X10_samples_1 ?_
  refine s_X10_samples_2 hI rfl (by decide) rfl (by decide) ?_
  refine s_X10_samples_5 ?_
  refine s_X10_samples_7 hI rfl (by decide) (by decide) (by decide : (_ : Int32) = nI 48) (by decide) ?_
  rw [hz]
  refine s_X10_samples_8 hI rfl (by decide) (Nat.le_of_ble_eq_true rfl) (m_says hI _) ?_
  intro h9 e9; rw [e9]; clear e9 h9
  exact s_X10_samples_11 (hΦ _ (MSs MS.rfl))
theorem q_delay {hi : am_HI} {g : am_G} (hI : am_Inv g) {z : Nat → Int32} (hz : hi 124 = z) (ok : OKz z) : am_Cr M_X10_delay [.ref 123] hi g (some (.int (z 49))) (fun h => MS hi h ∧ h 123 10 = 0) := by
  refine am_crn (by decide) (Nat.le_of_ble_eq_true rfl) (fun Φ hΦ => ?_)
  show AP M_X10_delay _ 0 [.ref 123] [] _ g Φ
  refine s_X10_delay_0 ?_
  refine s_X10_delay_1 ?_
  refine s_X10_delay_2 hI rfl (by decide) rfl (by decide) ?_
  refine s_X10_delay_5 ?_
  refine s_X10_delay_7 hI rfl (by decide) (by decide) (by decide : (_ : Int32) = nI 49) (by decide) ?_
  rw [hz]
  refine s_X10_delay_8 hI rfl (by decide) (Nat.le_of_ble_eq_true rfl) (m_says hI _) ?_
  intro h9 e9; rw [e9]; clear e9 h9
  exact s_X10_delay_11 (hΦ _ (MSs MS.rfl))
theorem q_speed {hi : am_HI} {g : am_G} (hI : am_Inv g) {z : Nat → Int32} (hz : hi 124 = z) (ok : OKz z) : am_Cr M_X10_speed [.ref 123] hi g (some (.int (z 50))) (fun h => MS hi h ∧ h 123 10 = 0) := by
  refine am_crn (by decide) (Nat.le_of_ble_eq_true rfl) (fun Φ hΦ => ?_)
  show AP M_X10_speed _ 0 [.ref 123] [] _ g Φ
  refine s_X10_speed_0 ?_
  refine s_X10_speed_1 ?_
  refine s_X10_speed_2 hI rfl (by decide) rfl (by decide) ?_
  refine s_X10_speed_5 ?_
  refine s_X10_speed_7 hI rfl (by decide) (by decide) (by decide : (_ : Int32) = nI 50) (by decide) ?_
  rw [hz]
  refine s_X10_speed_8 hI rfl (by decide) (Nat.le_of_ble_eq_true rfl) (m_says hI _) ?_
  intro h9 e9; rw [e9]; clear e9 h9
  exact s_X10_speed_11 (hΦ _ (MSs MS.rfl))
theorem q_allowed {hi : am_HI} {g : am_G} (hI : am_Inv g) {z : Nat → Int32} (hz : hi 124 = z) (ok : OKz z) : am_Cr M_X10_allowed [.ref 123] hi g (some (.int (z 55))) (fun h => MS hi h ∧ h 123 10 = 0) := by
  refine am_crn (by decide) (Nat.le_of_ble_eq_true rfl) (fun Φ hΦ => ?_)
  show AP M_X10_allowed _ 0 [.ref 123] [] _ g Φ
  refine s_X10_allowed_0 ?_
  refine s_X10_allowed_1 ?_
  refine s_X10_allowed_2 hI rfl (by decide) rfl (by decide) ?_
  refine s_X10_allowed_5 ?_
  refine s_X10_allowed_7 hI rfl (by decide) (by decide) (by decide : (_ : Int32) = nI 55) (by decide) ?_
  rw [hz]
  refine s_X10_allowed_8 hI rfl (by decide) (Nat.le_of_ble_eq_true rfl) (m_says hI _) ?_
  intro h9 e9; rw [e9]; clear e9 h9
  exact s_X10_allowed_11 (hΦ _ (MSs MS.rfl))
theorem q_told {hi : am_HI} {g : am_G} (hI : am_Inv g) {z : Nat → Int32} (hz : hi 124 = z) (ok : OKz z) : am_Cr M_X10_told [.ref 123] hi g (some (.int (z 56))) (fun h => MS hi h ∧ h 123 10 = 0) := by
  refine am_crn (by decide) (Nat.le_of_ble_eq_true rfl) (fun Φ hΦ => ?_)
  show AP M_X10_told _ 0 [.ref 123] [] _ g Φ
  refine s_X10_told_0 ?_
  refine s_X10_told_1 ?_
  refine s_X10_told_2 hI rfl (by decide) rfl (by decide) ?_
  refine s_X10_told_5 ?_
  refine s_X10_told_7 hI rfl (by decide) (by decide) (by decide : (_ : Int32) = nI 56) (by decide) ?_
  rw [hz]
  refine s_X10_told_8 hI rfl (by decide) (Nat.le_of_ble_eq_true rfl) (m_says hI _) ?_
  intro h9 e9; rw [e9]; clear e9 h9
  exact s_X10_told_11 (hΦ _ (MSs MS.rfl))
theorem q_sent {hi : am_HI} {g : am_G} (hI : am_Inv g) {z : Nat → Int32} (hz : hi 124 = z) (ok : OKz z) : am_Cr M_X10_sent [.ref 123] hi g (some (.int (z 171))) (fun h => MS hi h ∧ h 123 10 = 0) := by
  refine am_crn (by decide) (Nat.le_of_ble_eq_true rfl) (fun Φ hΦ => ?_)
  show AP M_X10_sent _ 0 [.ref 123] [] _ g Φ
  refine s_X10_sent_0 ?_
  refine s_X10_sent_1 ?_
  refine s_X10_sent_2 hI rfl (by decide) rfl (by decide) ?_
  refine s_X10_sent_5 ?_
  refine s_X10_sent_8 hI rfl (by decide) (by decide) (by decide : (_ : Int32) = nI 171) (by decide) ?_
  rw [hz]
  refine s_X10_sent_9 hI rfl (by decide) (Nat.le_of_ble_eq_true rfl) (m_says hI _) ?_
  intro h9 e9; rw [e9]; clear e9 h9
  exact s_X10_sent_12 (hΦ _ (MSs MS.rfl))
theorem q_blocks {hi : am_HI} {g : am_G} (hI : am_Inv g) {z : Nat → Int32} (hz : hi 124 = z) (ok : OKz z) : am_Cr M_X10_blocks [.ref 123] hi g (some (.int (nI (zn z)))) (fun h => MS hi h ∧ h 123 10 = 0) := by
  refine am_crn (by decide) (Nat.le_of_ble_eq_true rfl) (fun Φ hΦ => ?_)
  show AP M_X10_blocks _ 0 [.ref 123] [] _ g Φ
  refine s_X10_blocks_0 ?_
  refine s_X10_blocks_1 ?_
  refine s_X10_blocks_2 hI rfl (by decide) rfl (by decide) ?_
  refine s_X10_blocks_5 ?_
  refine s_X10_blocks_7 hI rfl (by decide) (by decide) (by decide : (_ : Int32) = nI 48) (by decide) ?_
  refine s_X10_blocks_8 hI (Nat.le_of_ble_eq_true rfl) (m_blocksOf _) ?_
  intro h9 e9; rw [e9]; clear e9 h9
  rw [hz, znI ok]
  refine s_X10_blocks_11 hI rfl (by decide) (Nat.le_of_ble_eq_true rfl) (m_says hI _) ?_
  intro h9 e9; rw [e9]; clear e9 h9
  exact s_X10_blocks_14 (hΦ _ (MSs MS.rfl))
theorem q_letterBits {hi : am_HI} {g : am_G} (hI : am_Inv g) {z : Nat → Int32} (hz : hi 124 = z) (ok : OKz z) : am_Cr M_X10_letterBits [.ref 123] hi g (some (.int (nI (zbits z)))) (fun h => MS hi h ∧ h 123 10 = 0) := by
  refine am_crn (by decide) (Nat.le_of_ble_eq_true rfl) (fun Φ hΦ => ?_)
  show AP M_X10_letterBits _ 0 [.ref 123] [] _ g Φ
  refine s_X10_letterBits_0 ?_
  refine s_X10_letterBits_1 ?_
  refine s_X10_letterBits_2 hI rfl (by decide) (Nat.le_of_ble_eq_true rfl) (m_letterLength hI hz ok) ?_
  intro h9 e9; rw [e9]; clear e9 h9
  refine s_X10_letterBits_5 hI rfl (by decide) (Nat.le_of_ble_eq_true rfl) (m_says hI _) ?_
  intro h9 e9; rw [e9]; clear e9 h9
  exact s_X10_letterBits_8 (hΦ _ (MSs MS.rfl))
theorem q_bits {hi : am_HI} {g : am_G} (hI : am_Inv g) {z : Nat → Int32} (hz : hi 124 = z) (ok : OKz z) : am_Cr M_X10_bits [.ref 123] hi g (some (.int (sAll z (zn z)))) (fun h => MS hi h ∧ h 123 10 = 0) := by
  refine am_crn (by decide) (Nat.le_of_ble_eq_true rfl) (fun Φ hΦ => ?_)
  show AP M_X10_bits _ 0 [.ref 123] [] _ g Φ
  refine s_X10_bits_0 ?_
  refine s_X10_bits_1 ?_
  refine s_X10_bits_2 hI rfl (by decide) (Nat.le_of_ble_eq_true rfl) (m_allBits hI hz ok) ?_
  intro h5 g1
  refine s_X10_bits_5 hI rfl (by decide) (Nat.le_of_ble_eq_true rfl) (m_says hI _) ?_
  intro h9 e9; rw [e9]; clear e9 h9
  exact s_X10_bits_8 (hΦ _ (MSs (MS.of g1 (by decide))))
theorem q_bitsByKinds {hi : am_HI} {g : am_G} (hI : am_Inv g) {z : Nat → Int32} (hz : hi 124 = z) (ok : OKz z) : am_Cr M_X10_bitsByKinds [.ref 123] hi g (some (.int (sAll z (zn z)))) (fun h => MS hi h ∧ h 123 10 = 0) := by
  refine am_crn (by decide) (Nat.le_of_ble_eq_true rfl) (fun Φ hΦ => ?_)
  show AP M_X10_bitsByKinds _ 0 [.ref 123] [] _ g Φ
  refine s_X10_bitsByKinds_0 ?_
  refine s_X10_bitsByKinds_1 ?_
  refine s_X10_bitsByKinds_2 hI rfl (by decide) (Nat.le_of_ble_eq_true rfl) (m_allBits hI hz ok) ?_
  intro h5 g1
  refine s_X10_bitsByKinds_5 hI rfl (by decide) (Nat.le_of_ble_eq_true rfl) (m_says hI _) ?_
  intro h9 e9; rw [e9]; clear e9 h9
  exact s_X10_bitsByKinds_8 (hΦ _ (MSs (MS.of g1 (by decide))))
theorem q_bestDelay {hi : am_HI} {g : am_G} (hI : am_Inv g) {z : Nat → Int32} (hz : hi 124 = z) (ok : OKz z) : am_Cr M_X10_bestDelay [.ref 123] hi g (some (.int (nI (amin (fD z) 11 + 1)))) (fun h => MS hi h ∧ h 123 10 = 0) := by
  refine am_crn (by decide) (Nat.le_of_ble_eq_true rfl) (fun Φ hΦ => ?_)
  show AP M_X10_bestDelay _ 0 [.ref 123] [] _ g Φ
  refine s_X10_bestDelay_0 ?_
  refine s_X10_bestDelay_1 ?_
  refine s_X10_bestDelay_2 hI rfl (by decide) (Nat.le_of_ble_eq_true rfl) (m_delayFor hI hz ok) ?_
  intro h5 g1
  refine s_X10_bestDelay_5 hI rfl (by decide) (Nat.le_of_ble_eq_true rfl) (m_says hI _) ?_
  intro h9 e9; rw [e9]; clear e9 h9
  exact s_X10_bestDelay_8 (hΦ _ (MSs (MS.of g1 (by decide))))
theorem q_bestSpeed {hi : am_HI} {g : am_G} (hI : am_Inv g) {z : Nat → Int32} (hz : hi 124 = z) (ok : OKz z) : am_Cr M_X10_bestSpeed [.ref 123] hi g (some (.int (nI (amin (fS z) 3)))) (fun h => MS hi h ∧ h 123 10 = 0) := by
  refine am_crn (by decide) (Nat.le_of_ble_eq_true rfl) (fun Φ hΦ => ?_)
  show AP M_X10_bestSpeed _ 0 [.ref 123] [] _ g Φ
  refine s_X10_bestSpeed_0 ?_
  refine s_X10_bestSpeed_1 ?_
  refine s_X10_bestSpeed_2 hI rfl (by decide) (Nat.le_of_ble_eq_true rfl) (m_speedFor hI hz ok) ?_
  intro h5 g1
  refine s_X10_bestSpeed_5 hI rfl (by decide) (Nat.le_of_ble_eq_true rfl) (m_says hI _) ?_
  intro h9 e9; rw [e9]; clear e9 h9
  exact s_X10_bestSpeed_8 (hΦ _ (MSs (MS.of g1 (by decide))))
theorem q_firstUnlike {hi : am_HI} {g : am_G} (hI : am_Inv g) {z : Nat → Int32} (hz : hi 124 = z) (ok : OKz z) : am_Cr M_X10_firstUnlike [.ref 123] hi g (some (.int (zuf z))) (fun h => MS hi h ∧ h 123 10 = 0) := by
  refine am_crn (by decide) (Nat.le_of_ble_eq_true rfl) (fun Φ hΦ => ?_)
  show AP M_X10_firstUnlike _ 0 [.ref 123] [] _ g Φ
  refine s_X10_firstUnlike_0 ?_
  refine s_X10_firstUnlike_1 ?_
  refine s_X10_firstUnlike_2 hI rfl (by decide) (Nat.le_of_ble_eq_true rfl) (m_firstOther hI hz ok) ?_
  intro h5 g1
  refine s_X10_firstUnlike_5 hI rfl (by decide) (Nat.le_of_ble_eq_true rfl) (m_says hI _) ?_
  intro h9 e9; rw [e9]; clear e9 h9
  exact s_X10_firstUnlike_8 (hΦ _ (MSs (MS.of g1 (by decide))))
theorem q_worst {hi : am_HI} {g : am_G} (hI : am_Inv g) {z : Nat → Int32} (hz : hi 124 = z) (ok : OKz z) : am_Cr M_X10_worst [.ref 123] hi g (some (.int (wst (zharm z) (zt z)).1)) (fun h => MS hi h ∧ h 123 10 = 0) := by
  refine am_crn (by decide) (Nat.le_of_ble_eq_true rfl) (fun Φ hΦ => ?_)
  show AP M_X10_worst _ 0 [.ref 123] [] _ g Φ
  refine s_X10_worst_0 ?_
  refine s_X10_worst_1 ?_
  refine s_X10_worst_2 hI rfl (by decide) (Nat.le_of_ble_eq_true rfl) (m_mostHarm hI hz ok) ?_
  intro h5 g1
  refine s_X10_worst_5 hI rfl (by decide) (Nat.le_of_ble_eq_true rfl) (m_says hI _) ?_
  intro h9 e9; rw [e9]; clear e9 h9
  exact s_X10_worst_8 (hΦ _ (MSs (MS.of g1 (by decide))))
theorem q_unlike {hi : am_HI} {g : am_G} (hI : am_Inv g) {z : Nat → Int32} (hz : hi 124 = z) (ok : OKz z) : am_Cr M_X10_unlike [.ref 123] hi g (some (.int (unl z (-1) (zt z)))) (fun h => MS hi h ∧ h 123 10 = 0) := by
  refine am_crn (by decide) (Nat.le_of_ble_eq_true rfl) (fun Φ hΦ => ?_)
  show AP M_X10_unlike _ 0 [.ref 123] [] _ g Φ
  refine s_X10_unlike_0 ?_
  refine s_X10_unlike_1 ?_
  refine s_X10_unlike_2 ?_
  refine s_X10_unlike_3 hI rfl (by decide) (Nat.le_of_ble_eq_true rfl) (m_hears hI hz ok (-1)) ?_
  intro h5 ⟨g1, g2⟩
  refine s_X10_unlike_6 hI rfl (by decide) (Nat.le_of_ble_eq_true rfl) (m_says hI _) ?_
  intro h9 e9; rw [e9]; clear e9 h9
  exact s_X10_unlike_9 (hΦ _ (MSs (MS.of g1 (by decide))))
theorem q1_sampleAt {hi : am_HI} {g : am_G} (hI : am_Inv g) {z : Nat → Int32} (hz : hi 124 = z) (ok : OKz z) {x : Int32} (h0 : wi x 0 (z 48 - 1) = false) : am_Cr M_X10_sampleAt [.ref 123, .int x] hi g (some (.int 0)) (fun h => MS hi h ∧ h 123 10 = 1) := by
  refine am_crn (by decide) (Nat.le_of_ble_eq_true rfl) (fun Φ hΦ => ?_)
  show AP M_X10_sampleAt _ 0 [.ref 123, .int x] [] _ g Φ
  refine s_X10_sampleAt_0 ?_
  refine s_X10_sampleAt_1 ?_
  refine s_X10_sampleAt_2 ?_
  refine s_X10_sampleAt_3 hI rfl (by decide) (Nat.le_of_ble_eq_true rfl) (m_isSample hI x) ?_
  intro h9 e9; rw [e9]; clear e9 h9
  rw [hz]
  rw [h0]
  refine s_X10_sampleAt_6 hI rfl (by decide) (Nat.le_of_ble_eq_true rfl) (m_asksF hI) ?_
  intro h9 e9; rw [e9]; clear e9 h9
  refine s_X10_sampleAt_9 (fun _ => ?_) (fun h => absurd (rfl) h)
  refine s_X10_sampleAt_21 ?_
  exact s_X10_sampleAt_22 (hΦ _ (MSu))
theorem q_sampleAt {hi : am_HI} {g : am_G} (hI : am_Inv g) {z : Nat → Int32} (hz : hi 124 = z) (ok : OKz z) {t : Nat} (ht : t < zc z) (h0 : wi (nI t) 0 (z 48 - 1) = true) : am_Cr M_X10_sampleAt [.ref 123, .int (nI t)] hi g (some (.int (z t))) (fun h => MS hi h ∧ h 123 10 = 0) := by
  refine am_crn (by decide) (Nat.le_of_ble_eq_true rfl) (fun Φ hΦ => ?_)
  show AP M_X10_sampleAt _ 0 [.ref 123, .int (nI t)] [] _ g Φ
  refine s_X10_sampleAt_0 ?_
  refine s_X10_sampleAt_1 ?_
  refine s_X10_sampleAt_2 ?_
  refine s_X10_sampleAt_3 hI rfl (by decide) (Nat.le_of_ble_eq_true rfl) (m_isSample hI (nI t)) ?_
  intro h9 e9; rw [e9]; clear e9 h9
  rw [hz]
  rw [h0]
  refine s_X10_sampleAt_6 hI rfl (by decide) (Nat.le_of_ble_eq_true rfl) (m_asksT hI) ?_
  intro h9 e9; rw [e9]; clear e9 h9
  refine s_X10_sampleAt_9 (fun h => absurd h (by decide)) (fun _ => ?_)
  refine s_X10_sampleAt_12 ?_
  refine s_X10_sampleAt_13 hI rfl (by decide) rfl (by decide) ?_
  refine s_X10_sampleAt_16 ?_
  have hz1 := uz hz 0
  refine s_X10_sampleAt_17 hI rfl (by decide) (by decide) (rfl) (by have := ok.1.2.1; omega) ?_
  refine s_X10_sampleAt_18 ?_
  rw [hz1]
  exact s_X10_sampleAt_22 (hΦ _ (MSu))
theorem q1_firstWeight {hi : am_HI} {g : am_G} (hI : am_Inv g) {z : Nat → Int32} (hz : hi 124 = z) (ok : OKz z) {x : Int32} (h0 : wi x 1 4 = false) : am_Cr M_X10_firstWeight [.ref 123, .int x] hi g (some (.int 0)) (fun h => MS hi h ∧ h 123 10 = 1) := by
  refine am_crn (by decide) (Nat.le_of_ble_eq_true rfl) (fun Φ hΦ => ?_)
  show AP M_X10_firstWeight _ 0 [.ref 123, .int x] [] _ g Φ
  refine s_X10_firstWeight_0 ?_
  refine s_X10_firstWeight_1 ?_
  refine s_X10_firstWeight_2 hI (Nat.le_of_ble_eq_true rfl) (m_isWeight hI x) ?_
  intro h9 e9; rw [e9]; clear e9 h9
  rw [h0]
  refine s_X10_firstWeight_5 hI rfl (by decide) (Nat.le_of_ble_eq_true rfl) (m_asksF hI) ?_
  intro h9 e9; rw [e9]; clear e9 h9
  refine s_X10_firstWeight_8 (fun _ => ?_) (fun h => absurd (rfl) h)
  refine s_X10_firstWeight_25 ?_
  exact s_X10_firstWeight_26 (hΦ _ (MSu))
theorem q_firstWeight {hi : am_HI} {g : am_G} (hI : am_Inv g) {z : Nat → Int32} (hz : hi 124 = z) (ok : OKz z) {k : Nat} (hk : k < 4) (h0 : wi (nI (k + 1)) 1 4 = true) : am_Cr M_X10_firstWeight [.ref 123, .int (nI (k + 1))] hi g (some (.int (z (51 + k)))) (fun h => MS hi h ∧ h 123 10 = 0) := by
  refine am_crn (by decide) (Nat.le_of_ble_eq_true rfl) (fun Φ hΦ => ?_)
  show AP M_X10_firstWeight _ 0 [.ref 123, .int (nI (k + 1))] [] _ g Φ
  refine s_X10_firstWeight_0 ?_
  refine s_X10_firstWeight_1 ?_
  refine s_X10_firstWeight_2 hI (Nat.le_of_ble_eq_true rfl) (m_isWeight hI (nI (k + 1))) ?_
  intro h9 e9; rw [e9]; clear e9 h9
  rw [h0]
  refine s_X10_firstWeight_5 hI rfl (by decide) (Nat.le_of_ble_eq_true rfl) (m_asksT hI) ?_
  intro h9 e9; rw [e9]; clear e9 h9
  refine s_X10_firstWeight_8 (fun h => absurd h (by decide)) (fun _ => ?_)
  refine s_X10_firstWeight_11 ?_
  refine s_X10_firstWeight_12 hI rfl (by decide) rfl (by decide) ?_
  refine s_X10_firstWeight_15 ?_
  refine s_X10_firstWeight_17 ?_
  refine s_X10_firstWeight_18 ?_
  refine s_X10_firstWeight_19 ?_
  refine s_X10_firstWeight_20 ?_
  have hz1 := uz hz 0
  rw [show 51 + nI (k + 1) = nI (51 + (k + 1)) from nI_add 51 _]
  refine s_X10_firstWeight_21 hI rfl (by decide) (by decide) (show nI (51 + k + 1) - 1 = nI (51 + k) from nI_i1 _) (by omega) ?_
  refine s_X10_firstWeight_22 ?_
  rw [hz1]
  exact s_X10_firstWeight_26 (hΦ _ (MSu))
theorem q1_sumOf {hi : am_HI} {g : am_G} (hI : am_Inv g) {z : Nat → Int32} (hz : hi 124 = z) (ok : OKz z) {w : Int32} (h0 : wi w 0 4 = false) : am_Cr M_X10_sumOf [.ref 123, .int w] hi g (some (.int 0)) (fun h => MS hi h ∧ h 123 10 = 1) := by
  refine am_crn (by decide) (Nat.le_of_ble_eq_true rfl) (fun Φ hΦ => ?_)
  show AP M_X10_sumOf _ 0 [.ref 123, .int w] [] _ g Φ
  refine s_X10_sumOf_0 ?_
  refine s_X10_sumOf_1 ?_
  refine s_X10_sumOf_2 hI (Nat.le_of_ble_eq_true rfl) (m_isKind hI w) ?_
  intro h9 e9; rw [e9]; clear e9 h9
  rw [h0]
  refine s_X10_sumOf_5 hI rfl (by decide) (Nat.le_of_ble_eq_true rfl) (m_asksF hI) ?_
  intro h9 e9; rw [e9]; clear e9 h9
  refine s_X10_sumOf_8 (fun _ => ?_) (fun h => absurd (rfl) h)
  refine s_X10_sumOf_19 ?_
  exact s_X10_sumOf_20 (hΦ _ (MSu))
theorem q_sumOf {hi : am_HI} {g : am_G} (hI : am_Inv g) {z : Nat → Int32} (hz : hi 124 = z) (ok : OKz z) {k : Nat} (hk : k < 5) (h0 : wi (nI k) 0 4 = true) : am_Cr M_X10_sumOf [.ref 123, .int (nI k)] hi g (some (.int (sumv k (zd z) (z0 z) z (z 50) (zc z)))) (fun h => MS hi h ∧ h 123 10 = 0) := by
  refine am_crn (by decide) (Nat.le_of_ble_eq_true rfl) (fun Φ hΦ => ?_)
  show AP M_X10_sumOf _ 0 [.ref 123, .int (nI k)] [] _ g Φ
  refine s_X10_sumOf_0 ?_
  refine s_X10_sumOf_1 ?_
  refine s_X10_sumOf_2 hI (Nat.le_of_ble_eq_true rfl) (m_isKind hI (nI k)) ?_
  intro h9 e9; rw [e9]; clear e9 h9
  rw [h0]
  refine s_X10_sumOf_5 hI rfl (by decide) (Nat.le_of_ble_eq_true rfl) (m_asksT hI) ?_
  intro h9 e9; rw [e9]; clear e9 h9
  refine s_X10_sumOf_8 (fun h => absurd h (by decide)) (fun _ => ?_)
  refine s_X10_sumOf_11 ?_
  refine s_X10_sumOf_12 ?_
  have hz1 := uz hz 0
  refine s_X10_sumOf_13 hI rfl (by decide) (Nat.le_of_ble_eq_true rfl) (m_leavesBy hI hz1 ok (kd := k) (by omega)) ?_
  intro h5 ⟨g1, g2⟩
  refine s_X10_sumOf_16 ?_
  exact s_X10_sumOf_20 (hΦ _ (MSt g1 (by decide)))
theorem q1_sumWithDelay {hi : am_HI} {g : am_G} (hI : am_Inv g) {z : Nat → Int32} (hz : hi 124 = z) (ok : OKz z) {w : Int32} (h0 : wi w (1) (12) = false) : am_Cr M_X10_sumWithDelay [.ref 123, .int w] hi g (some (.int 0)) (fun h => MS hi h ∧ h 123 10 = 1) := by
  refine am_crn (by decide) (Nat.le_of_ble_eq_true rfl) (fun Φ hΦ => ?_)
  show AP M_X10_sumWithDelay _ 0 [.ref 123, .int w] [] _ g Φ
  refine s_X10_sumWithDelay_0 ?_
  refine s_X10_sumWithDelay_1 ?_
  refine s_X10_sumWithDelay_2 ?_
  refine s_X10_sumWithDelay_3 ?_
  refine s_X10_sumWithDelay_5 hI (Nat.le_of_ble_eq_true rfl) (m_in w _ _) ?_
  intro h9 e9; rw [e9]; clear e9 h9
  rw [h0]
  refine s_X10_sumWithDelay_8 hI rfl (by decide) (Nat.le_of_ble_eq_true rfl) (m_asksF hI) ?_
  intro h9 e9; rw [e9]; clear e9 h9
  refine s_X10_sumWithDelay_11 (fun _ => ?_) (fun h => absurd (rfl) h)
  refine s_X10_sumWithDelay_22 ?_
  exact s_X10_sumWithDelay_23 (hΦ _ (MSu))
theorem q_sumWithDelay {hi : am_HI} {g : am_G} (hI : am_Inv g) {z : Nat → Int32} (hz : hi 124 = z) (ok : OKz z) {d : Nat} (hd : 1 ≤ d ∧ d ≤ 12) (h0 : wi (nI d) (1) (12) = true) : am_Cr M_X10_sumWithDelay [.ref 123, .int (nI d)] hi g (some (.int (sumv 3 d (z0 z) z (z 50) (zc z)))) (fun h => MS hi h ∧ h 123 10 = 0) := by
  refine am_crn (by decide) (Nat.le_of_ble_eq_true rfl) (fun Φ hΦ => ?_)
  show AP M_X10_sumWithDelay _ 0 [.ref 123, .int (nI d)] [] _ g Φ
  refine s_X10_sumWithDelay_0 ?_
  refine s_X10_sumWithDelay_1 ?_
  refine s_X10_sumWithDelay_2 ?_
  refine s_X10_sumWithDelay_3 ?_
  refine s_X10_sumWithDelay_5 hI (Nat.le_of_ble_eq_true rfl) (m_in (nI d) _ _) ?_
  intro h9 e9; rw [e9]; clear e9 h9
  rw [h0]
  refine s_X10_sumWithDelay_8 hI rfl (by decide) (Nat.le_of_ble_eq_true rfl) (m_asksT hI) ?_
  intro h9 e9; rw [e9]; clear e9 h9
  refine s_X10_sumWithDelay_11 (fun h => absurd h (by decide)) (fun _ => ?_)
  refine s_X10_sumWithDelay_14 ?_
  refine s_X10_sumWithDelay_15 ?_
  have hz1 := uz hz 0
  refine s_X10_sumWithDelay_16 hI rfl (by decide) (Nat.le_of_ble_eq_true rfl) (m_sumBehind hI hz1 ok hd) ?_
  intro h5 g1
  refine s_X10_sumWithDelay_19 ?_
  exact s_X10_sumWithDelay_23 (hΦ _ (MSt g1 (by decide)))
theorem q1_bestFirst {hi : am_HI} {g : am_G} (hI : am_Inv g) {z : Nat → Int32} (hz : hi 124 = z) (ok : OKz z) {w : Int32} (h0 : wi w 1 4 = false) : am_Cr M_X10_bestFirst [.ref 123, .int w] hi g (some (.int 0)) (fun h => MS hi h ∧ h 123 10 = 1) := by
  refine am_crn (by decide) (Nat.le_of_ble_eq_true rfl) (fun Φ hΦ => ?_)
  show AP M_X10_bestFirst _ 0 [.ref 123, .int w] [] _ g Φ
  refine s_X10_bestFirst_0 ?_
  refine s_X10_bestFirst_1 ?_
  refine s_X10_bestFirst_2 hI (Nat.le_of_ble_eq_true rfl) (m_isWeight hI w) ?_
  intro h9 e9; rw [e9]; clear e9 h9
  rw [h0]
  refine s_X10_bestFirst_5 hI rfl (by decide) (Nat.le_of_ble_eq_true rfl) (m_asksF hI) ?_
  intro h9 e9; rw [e9]; clear e9 h9
  refine s_X10_bestFirst_8 (fun _ => ?_) (fun h => absurd (rfl) h)
  refine s_X10_bestFirst_19 ?_
  exact s_X10_bestFirst_20 (hΦ _ (MSu))
theorem q_bestFirst {hi : am_HI} {g : am_G} (hI : am_Inv g) {z : Nat → Int32} (hz : hi 124 = z) (ok : OKz z) {k : Nat} (hk : k < 4) (h0 : wi (nI (k + 1)) 1 4 = true) : am_Cr M_X10_bestFirst [.ref 123, .int (nI (k + 1))] hi g (some (.int (e8 (amin (fW z k) 16)))) (fun h => MS hi h ∧ h 123 10 = 0) := by
  refine am_crn (by decide) (Nat.le_of_ble_eq_true rfl) (fun Φ hΦ => ?_)
  show AP M_X10_bestFirst _ 0 [.ref 123, .int (nI (k + 1))] [] _ g Φ
  refine s_X10_bestFirst_0 ?_
  refine s_X10_bestFirst_1 ?_
  refine s_X10_bestFirst_2 hI (Nat.le_of_ble_eq_true rfl) (m_isWeight hI (nI (k + 1))) ?_
  intro h9 e9; rw [e9]; clear e9 h9
  rw [h0]
  refine s_X10_bestFirst_5 hI rfl (by decide) (Nat.le_of_ble_eq_true rfl) (m_asksT hI) ?_
  intro h9 e9; rw [e9]; clear e9 h9
  refine s_X10_bestFirst_8 (fun h => absurd h (by decide)) (fun _ => ?_)
  refine s_X10_bestFirst_11 ?_
  refine s_X10_bestFirst_12 ?_
  have hz1 := uz hz 0
  refine s_X10_bestFirst_13 hI rfl (by decide) (Nat.le_of_ble_eq_true rfl) (m_firstFor hI hz1 ok hk) ?_
  intro h5 g1
  refine s_X10_bestFirst_16 ?_
  exact s_X10_bestFirst_20 (hΦ _ (MSt g1 (by decide)))
theorem q1_bestKind {hi : am_HI} {g : am_G} (hI : am_Inv g) {z : Nat → Int32} (hz : hi 124 = z) (ok : OKz z) {b : Int32} (h0 : wi b 0 (nI (zn z) - 1) = false) : am_Cr M_X10_bestKind [.ref 123, .int b] hi g (some (.int 0)) (fun h => MS hi h ∧ h 123 10 = 1) := by
  refine am_crn (by decide) (Nat.le_of_ble_eq_true rfl) (fun Φ hΦ => ?_)
  show AP M_X10_bestKind _ 0 [.ref 123, .int b] [] _ g Φ
  refine s_X10_bestKind_0 ?_
  refine s_X10_bestKind_1 ?_
  refine s_X10_bestKind_2 ?_
  refine s_X10_bestKind_3 hI rfl (by decide) (Nat.le_of_ble_eq_true rfl) (m_isBlock hI b) ?_
  intro h9 e9; rw [e9]; clear e9 h9
  rw [hz, znI ok]
  rw [h0]
  refine s_X10_bestKind_6 hI rfl (by decide) (Nat.le_of_ble_eq_true rfl) (m_asksF hI) ?_
  intro h9 e9; rw [e9]; clear e9 h9
  refine s_X10_bestKind_9 (fun _ => ?_) (fun h => absurd (rfl) h)
  refine s_X10_bestKind_20 ?_
  exact s_X10_bestKind_21 (hΦ _ (MSu))
theorem q_bestKind {hi : am_HI} {g : am_G} (hI : am_Inv g) {z : Nat → Int32} (hz : hi 124 = z) (ok : OKz z) {j : Nat} (hj : j < zn z) (h0 : wi (nI j) 0 (nI (zn z) - 1) = true) : am_Cr M_X10_bestKind [.ref 123, .int (nI j)] hi g (some (.int (nI (zkf z j)))) (fun h => MS hi h ∧ h 123 10 = 0) := by
  refine am_crn (by decide) (Nat.le_of_ble_eq_true rfl) (fun Φ hΦ => ?_)
  show AP M_X10_bestKind _ 0 [.ref 123, .int (nI j)] [] _ g Φ
  refine s_X10_bestKind_0 ?_
  refine s_X10_bestKind_1 ?_
  refine s_X10_bestKind_2 ?_
  refine s_X10_bestKind_3 hI rfl (by decide) (Nat.le_of_ble_eq_true rfl) (m_isBlock hI (nI j)) ?_
  intro h9 e9; rw [e9]; clear e9 h9
  rw [hz, znI ok]
  rw [h0]
  refine s_X10_bestKind_6 hI rfl (by decide) (Nat.le_of_ble_eq_true rfl) (m_asksT hI) ?_
  intro h9 e9; rw [e9]; clear e9 h9
  refine s_X10_bestKind_9 (fun h => absurd h (by decide)) (fun _ => ?_)
  refine s_X10_bestKind_12 ?_
  refine s_X10_bestKind_13 ?_
  have hz1 := uz hz 0
  refine s_X10_bestKind_14 hI rfl (by decide) (Nat.le_of_ble_eq_true rfl) (m_kindFor hI hz1 ok (zn_b ok hj)) ?_
  intro h5 g1
  refine s_X10_bestKind_17 ?_
  exact s_X10_bestKind_21 (hΦ _ (MSt g1 (by decide)))
theorem q1_whyBest {hi : am_HI} {g : am_G} (hI : am_Inv g) {z : Nat → Int32} (hz : hi 124 = z) (ok : OKz z) {b : Int32} (h0 : wi b 0 (nI (zn z) - 1) = false) : am_Cr M_X10_whyBest [.ref 123, .int b] hi g (some (.int 0)) (fun h => MS hi h ∧ h 123 10 = 1) := by
  refine am_crn (by decide) (Nat.le_of_ble_eq_true rfl) (fun Φ hΦ => ?_)
  show AP M_X10_whyBest _ 0 [.ref 123, .int b] [] _ g Φ
  refine s_X10_whyBest_0 ?_
  refine s_X10_whyBest_1 ?_
  refine s_X10_whyBest_2 ?_
  refine s_X10_whyBest_3 hI rfl (by decide) (Nat.le_of_ble_eq_true rfl) (m_isBlock hI b) ?_
  intro h9 e9; rw [e9]; clear e9 h9
  rw [hz, znI ok]
  rw [h0]
  refine s_X10_whyBest_6 hI rfl (by decide) (Nat.le_of_ble_eq_true rfl) (m_asksF hI) ?_
  intro h9 e9; rw [e9]; clear e9 h9
  refine s_X10_whyBest_9 (fun _ => ?_) (fun h => absurd (rfl) h)
  refine s_X10_whyBest_20 ?_
  exact s_X10_whyBest_21 (hΦ _ (MSu))
theorem q_whyBest {hi : am_HI} {g : am_G} (hI : am_Inv g) {z : Nat → Int32} (hz : hi 124 = z) (ok : OKz z) {j : Nat} (hj : j < zn z) (h0 : wi (nI j) 0 (nI (zn z) - 1) = true) : am_Cr M_X10_whyBest [.ref 123, .int (nI j)] hi g (some (.int (zwhy z j))) (fun h => MS hi h ∧ h 123 10 = 0) := by
  refine am_crn (by decide) (Nat.le_of_ble_eq_true rfl) (fun Φ hΦ => ?_)
  show AP M_X10_whyBest _ 0 [.ref 123, .int (nI j)] [] _ g Φ
  refine s_X10_whyBest_0 ?_
  refine s_X10_whyBest_1 ?_
  refine s_X10_whyBest_2 ?_
  refine s_X10_whyBest_3 hI rfl (by decide) (Nat.le_of_ble_eq_true rfl) (m_isBlock hI (nI j)) ?_
  intro h9 e9; rw [e9]; clear e9 h9
  rw [hz, znI ok]
  rw [h0]
  refine s_X10_whyBest_6 hI rfl (by decide) (Nat.le_of_ble_eq_true rfl) (m_asksT hI) ?_
  intro h9 e9; rw [e9]; clear e9 h9
  refine s_X10_whyBest_9 (fun h => absurd h (by decide)) (fun _ => ?_)
  refine s_X10_whyBest_12 ?_
  refine s_X10_whyBest_13 ?_
  have hz1 := uz hz 0
  refine s_X10_whyBest_14 hI rfl (by decide) (Nat.le_of_ble_eq_true rfl) (m_whyFor hI hz1 ok (zn_b ok hj)) ?_
  intro h5 g1
  refine s_X10_whyBest_17 ?_
  exact s_X10_whyBest_21 (hΦ _ (MSt g1 (by decide)))
theorem q1_blocksWith {hi : am_HI} {g : am_G} (hI : am_Inv g) {z : Nat → Int32} (hz : hi 124 = z) (ok : OKz z) {w : Int32} (h0 : wi w 0 4 = false) : am_Cr M_X10_blocksWith [.ref 123, .int w] hi g (some (.int 0)) (fun h => MS hi h ∧ h 123 10 = 1) := by
  refine am_crn (by decide) (Nat.le_of_ble_eq_true rfl) (fun Φ hΦ => ?_)
  show AP M_X10_blocksWith _ 0 [.ref 123, .int w] [] _ g Φ
  refine s_X10_blocksWith_0 ?_
  refine s_X10_blocksWith_1 ?_
  refine s_X10_blocksWith_2 hI (Nat.le_of_ble_eq_true rfl) (m_isKind hI w) ?_
  intro h9 e9; rw [e9]; clear e9 h9
  rw [h0]
  refine s_X10_blocksWith_5 hI rfl (by decide) (Nat.le_of_ble_eq_true rfl) (m_asksF hI) ?_
  intro h9 e9; rw [e9]; clear e9 h9
  refine s_X10_blocksWith_8 (fun _ => ?_) (fun h => absurd (rfl) h)
  refine s_X10_blocksWith_19 ?_
  exact s_X10_blocksWith_20 (hΦ _ (MSu))
theorem q_blocksWith {hi : am_HI} {g : am_G} (hI : am_Inv g) {z : Nat → Int32} (hz : hi 124 = z) (ok : OKz z) {k : Nat} (hk : k < 5) (h0 : wi (nI k) 0 4 = true) : am_Cr M_X10_blocksWith [.ref 123, .int (nI k)] hi g (some (.int (sMany z k (zn z)))) (fun h => MS hi h ∧ h 123 10 = 0) := by
  refine am_crn (by decide) (Nat.le_of_ble_eq_true rfl) (fun Φ hΦ => ?_)
  show AP M_X10_blocksWith _ 0 [.ref 123, .int (nI k)] [] _ g Φ
  refine s_X10_blocksWith_0 ?_
  refine s_X10_blocksWith_1 ?_
  refine s_X10_blocksWith_2 hI (Nat.le_of_ble_eq_true rfl) (m_isKind hI (nI k)) ?_
  intro h9 e9; rw [e9]; clear e9 h9
  rw [h0]
  refine s_X10_blocksWith_5 hI rfl (by decide) (Nat.le_of_ble_eq_true rfl) (m_asksT hI) ?_
  intro h9 e9; rw [e9]; clear e9 h9
  refine s_X10_blocksWith_8 (fun h => absurd h (by decide)) (fun _ => ?_)
  refine s_X10_blocksWith_11 ?_
  refine s_X10_blocksWith_12 ?_
  have hz1 := uz hz 0
  refine s_X10_blocksWith_13 hI rfl (by decide) (Nat.le_of_ble_eq_true rfl) (m_blocksBy hI hz1 ok (kd := k) (by omega)) ?_
  intro h5 g1
  refine s_X10_blocksWith_16 ?_
  exact s_X10_blocksWith_20 (hΦ _ (MSt g1 (by decide)))
theorem q1_bitsIfOnly {hi : am_HI} {g : am_G} (hI : am_Inv g) {z : Nat → Int32} (hz : hi 124 = z) (ok : OKz z) {w : Int32} (h0 : wi w 0 4 = false) : am_Cr M_X10_bitsIfOnly [.ref 123, .int w] hi g (some (.int 0)) (fun h => MS hi h ∧ h 123 10 = 1) := by
  refine am_crn (by decide) (Nat.le_of_ble_eq_true rfl) (fun Φ hΦ => ?_)
  show AP M_X10_bitsIfOnly _ 0 [.ref 123, .int w] [] _ g Φ
  refine s_X10_bitsIfOnly_0 ?_
  refine s_X10_bitsIfOnly_1 ?_
  refine s_X10_bitsIfOnly_2 hI (Nat.le_of_ble_eq_true rfl) (m_isKind hI w) ?_
  intro h9 e9; rw [e9]; clear e9 h9
  rw [h0]
  refine s_X10_bitsIfOnly_5 hI rfl (by decide) (Nat.le_of_ble_eq_true rfl) (m_asksF hI) ?_
  intro h9 e9; rw [e9]; clear e9 h9
  refine s_X10_bitsIfOnly_8 (fun _ => ?_) (fun h => absurd (rfl) h)
  refine s_X10_bitsIfOnly_19 ?_
  exact s_X10_bitsIfOnly_20 (hΦ _ (MSu))
theorem q_bitsIfOnly {hi : am_HI} {g : am_G} (hI : am_Inv g) {z : Nat → Int32} (hz : hi 124 = z) (ok : OKz z) {k : Nat} (hk : k < 5) (h0 : wi (nI k) 0 4 = true) : am_Cr M_X10_bitsIfOnly [.ref 123, .int (nI k)] hi g (some (.int (sOnly z k (zn z)))) (fun h => MS hi h ∧ h 123 10 = 0) := by
  refine am_crn (by decide) (Nat.le_of_ble_eq_true rfl) (fun Φ hΦ => ?_)
  show AP M_X10_bitsIfOnly _ 0 [.ref 123, .int (nI k)] [] _ g Φ
  refine s_X10_bitsIfOnly_0 ?_
  refine s_X10_bitsIfOnly_1 ?_
  refine s_X10_bitsIfOnly_2 hI (Nat.le_of_ble_eq_true rfl) (m_isKind hI (nI k)) ?_
  intro h9 e9; rw [e9]; clear e9 h9
  rw [h0]
  refine s_X10_bitsIfOnly_5 hI rfl (by decide) (Nat.le_of_ble_eq_true rfl) (m_asksT hI) ?_
  intro h9 e9; rw [e9]; clear e9 h9
  refine s_X10_bitsIfOnly_8 (fun h => absurd h (by decide)) (fun _ => ?_)
  refine s_X10_bitsIfOnly_11 ?_
  refine s_X10_bitsIfOnly_12 ?_
  have hz1 := uz hz 0
  refine s_X10_bitsIfOnly_13 hI rfl (by decide) (Nat.le_of_ble_eq_true rfl) (m_bitsOnly hI hz1 ok (kd := k) (by omega)) ?_
  intro h5 g1
  refine s_X10_bitsIfOnly_16 ?_
  exact s_X10_bitsIfOnly_20 (hΦ _ (MSt g1 (by decide)))
theorem q1_letterKind {hi : am_HI} {g : am_G} (hI : am_Inv g) {z : Nat → Int32} (hz : hi 124 = z) (ok : OKz z) {b : Int32} (h0 : wi b 0 (nI (zln z) - 1) = false) : am_Cr M_X10_letterKind [.ref 123, .int b] hi g (some (.int 0)) (fun h => MS hi h ∧ h 123 10 = 1) := by
  refine am_crn (by decide) (Nat.le_of_ble_eq_true rfl) (fun Φ hΦ => ?_)
  show AP M_X10_letterKind _ 0 [.ref 123, .int b] [] _ g Φ
  refine s_X10_letterKind_0 ?_
  refine s_X10_letterKind_1 ?_
  refine s_X10_letterKind_2 ?_
  refine s_X10_letterKind_3 hI rfl (by decide) (Nat.le_of_ble_eq_true rfl) (m_isLetterBlock hI b) ?_
  intro h9 e9; rw [e9]; clear e9 h9
  rw [hz, zlnI ok]
  rw [h0]
  refine s_X10_letterKind_6 hI rfl (by decide) (Nat.le_of_ble_eq_true rfl) (m_asksF hI) ?_
  intro h9 e9; rw [e9]; clear e9 h9
  refine s_X10_letterKind_9 (fun _ => ?_) (fun h => absurd (rfl) h)
  refine s_X10_letterKind_24 ?_
  exact s_X10_letterKind_25 (hΦ _ (MSu))
theorem q_letterKind {hi : am_HI} {g : am_G} (hI : am_Inv g) {z : Nat → Int32} (hz : hi 124 = z) (ok : OKz z) {j : Nat} (hj : j < zln z) (h0 : wi (nI j) 0 (nI (zln z) - 1) = true) : am_Cr M_X10_letterKind [.ref 123, .int (nI j)] hi g (some (.int (z (63 + j)))) (fun h => MS hi h ∧ h 123 10 = 0) := by
  refine am_crn (by decide) (Nat.le_of_ble_eq_true rfl) (fun Φ hΦ => ?_)
  show AP M_X10_letterKind _ 0 [.ref 123, .int (nI j)] [] _ g Φ
  refine s_X10_letterKind_0 ?_
  refine s_X10_letterKind_1 ?_
  refine s_X10_letterKind_2 ?_
  refine s_X10_letterKind_3 hI rfl (by decide) (Nat.le_of_ble_eq_true rfl) (m_isLetterBlock hI (nI j)) ?_
  intro h9 e9; rw [e9]; clear e9 h9
  rw [hz, zlnI ok]
  rw [h0]
  refine s_X10_letterKind_6 hI rfl (by decide) (Nat.le_of_ble_eq_true rfl) (m_asksT hI) ?_
  intro h9 e9; rw [e9]; clear e9 h9
  refine s_X10_letterKind_9 (fun h => absurd h (by decide)) (fun _ => ?_)
  refine s_X10_letterKind_12 ?_
  refine s_X10_letterKind_13 hI rfl (by decide) rfl (by decide) ?_
  refine s_X10_letterKind_16 ?_
  refine s_X10_letterKind_18 ?_
  refine s_X10_letterKind_19 ?_
  have hz1 := uz hz 0
  rw [show 63 + nI j = nI (63 + j) from nI_add 63 _]
  refine s_X10_letterKind_20 hI rfl (by decide) (by decide) (rfl) (by have := zln_lt ok; omega) ?_
  refine s_X10_letterKind_21 ?_
  rw [hz1]
  exact s_X10_letterKind_25 (hΦ _ (MSu))
theorem q1_letterParameter {hi : am_HI} {g : am_G} (hI : am_Inv g) {z : Nat → Int32} (hz : hi 124 = z) (ok : OKz z) {b : Int32} (h0 : wi b 0 (nI (zln z) - 1) = false) : am_Cr M_X10_letterParameter [.ref 123, .int b] hi g (some (.int 0)) (fun h => MS hi h ∧ h 123 10 = 1) := by
  refine am_crn (by decide) (Nat.le_of_ble_eq_true rfl) (fun Φ hΦ => ?_)
  show AP M_X10_letterParameter _ 0 [.ref 123, .int b] [] _ g Φ
  refine s_X10_letterParameter_0 ?_
  refine s_X10_letterParameter_1 ?_
  refine s_X10_letterParameter_2 ?_
  refine s_X10_letterParameter_3 hI rfl (by decide) (Nat.le_of_ble_eq_true rfl) (m_isLetterBlock hI b) ?_
  intro h9 e9; rw [e9]; clear e9 h9
  rw [hz, zlnI ok]
  rw [h0]
  refine s_X10_letterParameter_6 hI rfl (by decide) (Nat.le_of_ble_eq_true rfl) (m_asksF hI) ?_
  intro h9 e9; rw [e9]; clear e9 h9
  refine s_X10_letterParameter_9 (fun _ => ?_) (fun h => absurd (rfl) h)
  refine s_X10_letterParameter_24 ?_
  exact s_X10_letterParameter_25 (hΦ _ (MSu))
theorem q_letterParameter {hi : am_HI} {g : am_G} (hI : am_Inv g) {z : Nat → Int32} (hz : hi 124 = z) (ok : OKz z) {j : Nat} (hj : j < zln z) (h0 : wi (nI j) 0 (nI (zln z) - 1) = true) : am_Cr M_X10_letterParameter [.ref 123, .int (nI j)] hi g (some (.int (z (69 + j)))) (fun h => MS hi h ∧ h 123 10 = 0) := by
  refine am_crn (by decide) (Nat.le_of_ble_eq_true rfl) (fun Φ hΦ => ?_)
  show AP M_X10_letterParameter _ 0 [.ref 123, .int (nI j)] [] _ g Φ
  refine s_X10_letterParameter_0 ?_
  refine s_X10_letterParameter_1 ?_
  refine s_X10_letterParameter_2 ?_
  refine s_X10_letterParameter_3 hI rfl (by decide) (Nat.le_of_ble_eq_true rfl) (m_isLetterBlock hI (nI j)) ?_
  intro h9 e9; rw [e9]; clear e9 h9
  rw [hz, zlnI ok]
  rw [h0]
  refine s_X10_letterParameter_6 hI rfl (by decide) (Nat.le_of_ble_eq_true rfl) (m_asksT hI) ?_
  intro h9 e9; rw [e9]; clear e9 h9
  refine s_X10_letterParameter_9 (fun h => absurd h (by decide)) (fun _ => ?_)
  refine s_X10_letterParameter_12 ?_
  refine s_X10_letterParameter_13 hI rfl (by decide) rfl (by decide) ?_
  refine s_X10_letterParameter_16 ?_
  refine s_X10_letterParameter_18 ?_
  refine s_X10_letterParameter_19 ?_
  have hz1 := uz hz 0
  rw [show 69 + nI j = nI (69 + j) from nI_add 69 _]
  refine s_X10_letterParameter_20 hI rfl (by decide) (by decide) (rfl) (by have := zln_lt ok; omega) ?_
  refine s_X10_letterParameter_21 ?_
  rw [hz1]
  exact s_X10_letterParameter_25 (hΦ _ (MSu))
theorem q1_letterLeft {hi : am_HI} {g : am_G} (hI : am_Inv g) {z : Nat → Int32} (hz : hi 124 = z) (ok : OKz z) {x : Int32} (h0 : wi x 0 (nI (zt z) - 1) = false) : am_Cr M_X10_letterLeft [.ref 123, .int x] hi g (some (.int 0)) (fun h => MS hi h ∧ h 123 10 = 1) := by
  refine am_crn (by decide) (Nat.le_of_ble_eq_true rfl) (fun Φ hΦ => ?_)
  show AP M_X10_letterLeft _ 0 [.ref 123, .int x] [] _ g Φ
  refine s_X10_letterLeft_0 ?_
  refine s_X10_letterLeft_1 ?_
  refine s_X10_letterLeft_2 ?_
  refine s_X10_letterLeft_3 hI rfl (by decide) (Nat.le_of_ble_eq_true rfl) (m_isTold hI x) ?_
  intro h9 e9; rw [e9]; clear e9 h9
  rw [hz, ok.2.1]
  rw [h0]
  refine s_X10_letterLeft_6 hI rfl (by decide) (Nat.le_of_ble_eq_true rfl) (m_asksF hI) ?_
  intro h9 e9; rw [e9]; clear e9 h9
  refine s_X10_letterLeft_9 (fun _ => ?_) (fun h => absurd (rfl) h)
  refine s_X10_letterLeft_24 ?_
  exact s_X10_letterLeft_25 (hΦ _ (MSu))
theorem q_letterLeft {hi : am_HI} {g : am_G} (hI : am_Inv g) {z : Nat → Int32} (hz : hi 124 = z) (ok : OKz z) {t : Nat} (ht : t < zt z) (h0 : wi (nI t) 0 (nI (zt z) - 1) = true) : am_Cr M_X10_letterLeft [.ref 123, .int (nI t)] hi g (some (.int (z (75 + t)))) (fun h => MS hi h ∧ h 123 10 = 0) := by
  refine am_crn (by decide) (Nat.le_of_ble_eq_true rfl) (fun Φ hΦ => ?_)
  show AP M_X10_letterLeft _ 0 [.ref 123, .int (nI t)] [] _ g Φ
  refine s_X10_letterLeft_0 ?_
  refine s_X10_letterLeft_1 ?_
  refine s_X10_letterLeft_2 ?_
  refine s_X10_letterLeft_3 hI rfl (by decide) (Nat.le_of_ble_eq_true rfl) (m_isTold hI (nI t)) ?_
  intro h9 e9; rw [e9]; clear e9 h9
  rw [hz, ok.2.1]
  rw [h0]
  refine s_X10_letterLeft_6 hI rfl (by decide) (Nat.le_of_ble_eq_true rfl) (m_asksT hI) ?_
  intro h9 e9; rw [e9]; clear e9 h9
  refine s_X10_letterLeft_9 (fun h => absurd h (by decide)) (fun _ => ?_)
  refine s_X10_letterLeft_12 ?_
  refine s_X10_letterLeft_13 hI rfl (by decide) rfl (by decide) ?_
  refine s_X10_letterLeft_16 ?_
  refine s_X10_letterLeft_18 ?_
  refine s_X10_letterLeft_19 ?_
  have hz1 := uz hz 0
  rw [show 75 + nI t = nI (75 + t) from nI_add 75 _]
  refine s_X10_letterLeft_20 hI rfl (by decide) (by decide) (rfl) (by have := ok.2.2.1; omega) ?_
  refine s_X10_letterLeft_21 ?_
  rw [hz1]
  exact s_X10_letterLeft_25 (hΦ _ (MSu))
theorem q1_harm {hi : am_HI} {g : am_G} (hI : am_Inv g) {z : Nat → Int32} (hz : hi 124 = z) (ok : OKz z) {x : Int32} (h0 : wi x 0 (nI (zt z) - 1) = false) : am_Cr M_X10_harm [.ref 123, .int x] hi g (some (.int 0)) (fun h => MS hi h ∧ h 123 10 = 1) := by
  refine am_crn (by decide) (Nat.le_of_ble_eq_true rfl) (fun Φ hΦ => ?_)
  show AP M_X10_harm _ 0 [.ref 123, .int x] [] _ g Φ
  refine s_X10_harm_0 ?_
  refine s_X10_harm_1 ?_
  refine s_X10_harm_2 ?_
  refine s_X10_harm_3 hI rfl (by decide) (Nat.le_of_ble_eq_true rfl) (m_isTold hI x) ?_
  intro h9 e9; rw [e9]; clear e9 h9
  rw [hz, ok.2.1]
  rw [h0]
  refine s_X10_harm_6 hI rfl (by decide) (Nat.le_of_ble_eq_true rfl) (m_asksF hI) ?_
  intro h9 e9; rw [e9]; clear e9 h9
  refine s_X10_harm_9 (fun _ => ?_) (fun h => absurd (rfl) h)
  refine s_X10_harm_20 ?_
  exact s_X10_harm_21 (hΦ _ (MSu))
theorem q_harm {hi : am_HI} {g : am_G} (hI : am_Inv g) {z : Nat → Int32} (hz : hi 124 = z) (ok : OKz z) {t : Nat} (ht : t < zt z) (h0 : wi (nI t) 0 (nI (zt z) - 1) = true) : am_Cr M_X10_harm [.ref 123, .int (nI t)] hi g (some (.int (unl z (nI t) (zt z)))) (fun h => MS hi h ∧ h 123 10 = 0) := by
  refine am_crn (by decide) (Nat.le_of_ble_eq_true rfl) (fun Φ hΦ => ?_)
  show AP M_X10_harm _ 0 [.ref 123, .int (nI t)] [] _ g Φ
  refine s_X10_harm_0 ?_
  refine s_X10_harm_1 ?_
  refine s_X10_harm_2 ?_
  refine s_X10_harm_3 hI rfl (by decide) (Nat.le_of_ble_eq_true rfl) (m_isTold hI (nI t)) ?_
  intro h9 e9; rw [e9]; clear e9 h9
  rw [hz, ok.2.1]
  rw [h0]
  refine s_X10_harm_6 hI rfl (by decide) (Nat.le_of_ble_eq_true rfl) (m_asksT hI) ?_
  intro h9 e9; rw [e9]; clear e9 h9
  refine s_X10_harm_9 (fun h => absurd h (by decide)) (fun _ => ?_)
  refine s_X10_harm_12 ?_
  refine s_X10_harm_13 ?_
  have hz1 := uz hz 0
  refine s_X10_harm_14 hI rfl (by decide) (Nat.le_of_ble_eq_true rfl) (m_hears hI hz1 ok (nI t)) ?_
  intro h5 ⟨g1, g2⟩
  refine s_X10_harm_17 ?_
  exact s_X10_harm_21 (hΦ _ (MSt g1 (by decide)))
theorem q1_heardOf {hi : am_HI} {g : am_G} (hI : am_Inv g) {z : Nat → Int32} (hz : hi 124 = z) (ok : OKz z) {x : Int32} (h0 : wi x 0 (nI (zt z) - 1) = false) : am_Cr M_X10_heardOf [.ref 123, .int x] hi g (some (.int 0)) (fun h => MS hi h ∧ h 123 10 = 1) := by
  refine am_crn (by decide) (Nat.le_of_ble_eq_true rfl) (fun Φ hΦ => ?_)
  show AP M_X10_heardOf _ 0 [.ref 123, .int x] [] _ g Φ
  refine s_X10_heardOf_0 ?_
  refine s_X10_heardOf_1 ?_
  refine s_X10_heardOf_2 ?_
  refine s_X10_heardOf_3 hI rfl (by decide) (Nat.le_of_ble_eq_true rfl) (m_isTold hI x) ?_
  intro h9 e9; rw [e9]; clear e9 h9
  rw [hz, ok.2.1]
  rw [h0]
  refine s_X10_heardOf_6 hI rfl (by decide) (Nat.le_of_ble_eq_true rfl) (m_asksF hI) ?_
  intro h9 e9; rw [e9]; clear e9 h9
  refine s_X10_heardOf_9 (fun h => absurd (Eq.refl (0 : Int32)) h) (fun _ => ?_)
  refine s_X10_heardOf_12 ?_
  exact s_X10_heardOf_13 (hΦ _ (MSu))
theorem q_heardOf {hi : am_HI} {g : am_G} (hI : am_Inv g) {z : Nat → Int32} (hz : hi 124 = z) (ok : OKz z) {t : Nat} (ht : t < zt z) (h0 : wi (nI t) 0 (nI (zt z) - 1) = true) : am_Cr M_X10_heardOf [.ref 123, .int (nI t)] hi g (some (.int (ear z (-1) t))) (fun h => MS hi h ∧ h 123 10 = 0) := by
  refine am_crn (by decide) (Nat.le_of_ble_eq_true rfl) (fun Φ hΦ => ?_)
  show AP M_X10_heardOf _ 0 [.ref 123, .int (nI t)] [] _ g Φ
  refine s_X10_heardOf_0 ?_
  refine s_X10_heardOf_1 ?_
  refine s_X10_heardOf_2 ?_
  refine s_X10_heardOf_3 hI rfl (by decide) (Nat.le_of_ble_eq_true rfl) (m_isTold hI (nI t)) ?_
  intro h9 e9; rw [e9]; clear e9 h9
  rw [hz, ok.2.1]
  rw [h0]
  refine s_X10_heardOf_6 hI rfl (by decide) (Nat.le_of_ble_eq_true rfl) (m_asksT hI) ?_
  intro h9 e9; rw [e9]; clear e9 h9
  refine s_X10_heardOf_9 (fun _ => ?_) (fun h => absurd h (by decide))
  refine s_X10_heardOf_14 ?_
  refine s_X10_heardOf_15 ?_
  have hz1 := uz hz 0
  refine s_X10_heardOf_16 hI rfl (by decide) (Nat.le_of_ble_eq_true rfl) (m_hears hI hz1 ok (-1)) ?_
  intro h5 ⟨g1, g2⟩
  refine s_X10_heardOf_19 rfl ?_
  refine s_X10_heardOf_20 ?_
  refine s_X10_heardOf_21 hI rfl (by decide) rfl (by decide) ?_
  refine s_X10_heardOf_24 ?_
  refine s_X10_heardOf_25 hI rfl (by decide) (by decide) (rfl) (by have := ok.2.2.1; omega) ?_
  rw [g2 t ht]
  exact s_X10_heardOf_26 (hΦ _ (MSt g1 (by decide)))
theorem q1_heard {hi : am_HI} {g : am_G} (hI : am_Inv g) {z : Nat → Int32} (hz : hi 124 = z) (ok : OKz z) {x : Int32} (h0 : wi x 0 (nI (zt z) - 1) = false) : am_Cr M_X10_heard [.ref 123, .int x] hi g (some (.int 0)) (fun h => MS hi h ∧ h 123 10 = 1) := by
  refine am_crn (by decide) (Nat.le_of_ble_eq_true rfl) (fun Φ hΦ => ?_)
  show AP M_X10_heard _ 0 [.ref 123, .int x] [] _ g Φ
  refine s_X10_heard_0 ?_
  refine s_X10_heard_1 ?_
  refine s_X10_heard_2 hI rfl (by decide) (Nat.le_of_ble_eq_true rfl) (q1_heardOf hI hz ok h0) ?_
  intro h5 g1
  exact s_X10_heard_5 (hΦ _ (g1))
theorem q_heard {hi : am_HI} {g : am_G} (hI : am_Inv g) {z : Nat → Int32} (hz : hi 124 = z) (ok : OKz z) {t : Nat} (ht : t < zt z) (h0 : wi (nI t) 0 (nI (zt z) - 1) = true) : am_Cr M_X10_heard [.ref 123, .int (nI t)] hi g (some (.int (ear z (-1) t))) (fun h => MS hi h ∧ h 123 10 = 0) := by
  refine am_crn (by decide) (Nat.le_of_ble_eq_true rfl) (fun Φ hΦ => ?_)
  show AP M_X10_heard _ 0 [.ref 123, .int (nI t)] [] _ g Φ
  refine s_X10_heard_0 ?_
  refine s_X10_heard_1 ?_
  refine s_X10_heard_2 hI rfl (by decide) (Nat.le_of_ble_eq_true rfl) (q_heardOf hI hz ok ht h0) ?_
  intro h5 g1
  exact s_X10_heard_5 (hΦ _ (g1))
theorem q1_heardByBits {hi : am_HI} {g : am_G} (hI : am_Inv g) {z : Nat → Int32} (hz : hi 124 = z) (ok : OKz z) {x : Int32} (h0 : wi x 0 (nI (zt z) - 1) = false) : am_Cr M_X10_heardByBits [.ref 123, .int x] hi g (some (.int 0)) (fun h => MS hi h ∧ h 123 10 = 1) := by
  refine am_crn (by decide) (Nat.le_of_ble_eq_true rfl) (fun Φ hΦ => ?_)
  show AP M_X10_heardByBits _ 0 [.ref 123, .int x] [] _ g Φ
  refine s_X10_heardByBits_0 ?_
  refine s_X10_heardByBits_1 ?_
  refine s_X10_heardByBits_2 hI rfl (by decide) (Nat.le_of_ble_eq_true rfl) (q1_heardOf hI hz ok h0) ?_
  intro h5 g1
  exact s_X10_heardByBits_5 (hΦ _ (g1))
theorem q_heardByBits {hi : am_HI} {g : am_G} (hI : am_Inv g) {z : Nat → Int32} (hz : hi 124 = z) (ok : OKz z) {t : Nat} (ht : t < zt z) (h0 : wi (nI t) 0 (nI (zt z) - 1) = true) : am_Cr M_X10_heardByBits [.ref 123, .int (nI t)] hi g (some (.int (ear z (-1) t))) (fun h => MS hi h ∧ h 123 10 = 0) := by
  refine am_crn (by decide) (Nat.le_of_ble_eq_true rfl) (fun Φ hΦ => ?_)
  show AP M_X10_heardByBits _ 0 [.ref 123, .int (nI t)] [] _ g Φ
  refine s_X10_heardByBits_0 ?_
  refine s_X10_heardByBits_1 ?_
  refine s_X10_heardByBits_2 hI rfl (by decide) (Nat.le_of_ble_eq_true rfl) (q_heardOf hI hz ok ht h0) ?_
  intro h5 g1
  exact s_X10_heardByBits_5 (hΦ _ (g1))
theorem q1_letterBit {hi : am_HI} {g : am_G} (hI : am_Inv g) {z : Nat → Int32} (hz : hi 124 = z) (ok : OKz z) {x : Int32} (h0 : wi x 0 (nI (zbits z) - 1) = false) : am_Cr M_X10_letterBit [.ref 123, .int x] hi g (some (.int 0)) (fun h => MS hi h ∧ h 123 10 = 1) := by
  refine am_crn (by decide) (Nat.le_of_ble_eq_true rfl) (fun Φ hΦ => ?_)
  show AP M_X10_letterBit _ 0 [.ref 123, .int x] [] _ g Φ
  refine s_X10_letterBit_0 ?_
  refine s_X10_letterBit_1 ?_
  refine s_X10_letterBit_2 ?_
  refine s_X10_letterBit_3 ?_
  refine s_X10_letterBit_4 hI rfl (by decide) (Nat.le_of_ble_eq_true rfl) (m_letterLength hI hz ok) ?_
  intro h9 e9; rw [e9]; clear e9 h9
  refine s_X10_letterBit_7 ?_
  refine s_X10_letterBit_8 ?_
  refine s_X10_letterBit_9 hI (Nat.le_of_ble_eq_true rfl) (m_in x 0 _) ?_
  intro h9 e9; rw [e9]; clear e9 h9
  rw [h0]
  refine s_X10_letterBit_12 hI rfl (by decide) (Nat.le_of_ble_eq_true rfl) (m_asksF hI) ?_
  intro h9 e9; rw [e9]; clear e9 h9
  refine s_X10_letterBit_15 (fun _ => ?_) (fun h => absurd (rfl) h)
  refine s_X10_letterBit_31 ?_
  exact s_X10_letterBit_32 (by first | exact Or.inl rfl | exact Or.inr rfl | exact bI_01 _) (hΦ _ (MSu))
theorem q_letterBit {hi : am_HI} {g : am_G} (hI : am_Inv g) {z : Nat → Int32} (hz : hi 124 = z) (ok : OKz z) {i : Nat} (hi' : i < zbits z) (h0 : wi (nI i) 0 (nI (zbits z) - 1) = true) : am_Cr M_X10_letterBit [.ref 123, .int (nI i)] hi g (some (.int (bI ((lbB z (zt z)).getD i false)))) (fun h => MS hi h ∧ h 123 10 = 0) := by
  refine am_crn (by decide) (Nat.le_of_ble_eq_true rfl) (fun Φ hΦ => ?_)
  show AP M_X10_letterBit _ 0 [.ref 123, .int (nI i)] [] _ g Φ
  refine s_X10_letterBit_0 ?_
  refine s_X10_letterBit_1 ?_
  refine s_X10_letterBit_2 ?_
  refine s_X10_letterBit_3 ?_
  refine s_X10_letterBit_4 hI rfl (by decide) (Nat.le_of_ble_eq_true rfl) (m_letterLength hI hz ok) ?_
  intro h9 e9; rw [e9]; clear e9 h9
  refine s_X10_letterBit_7 ?_
  refine s_X10_letterBit_8 ?_
  refine s_X10_letterBit_9 hI (Nat.le_of_ble_eq_true rfl) (m_in (nI i) 0 _) ?_
  intro h9 e9; rw [e9]; clear e9 h9
  rw [h0]
  refine s_X10_letterBit_12 hI rfl (by decide) (Nat.le_of_ble_eq_true rfl) (m_asksT hI) ?_
  intro h9 e9; rw [e9]; clear e9 h9
  refine s_X10_letterBit_15 (fun h => absurd h (by decide)) (fun _ => ?_)
  refine s_X10_letterBit_18 ?_
  refine s_X10_letterBit_19 ?_
  have hz1 := uz hz 0
  refine s_X10_letterBit_20 hI rfl (by decide) (Nat.le_of_ble_eq_true rfl) (m_bitAt hI hz1 ok hi') ?_
  intro h9 e9; rw [e9]; clear e9 h9
  refine s_X10_letterBit_23 ?_
  refine s_X10_letterBit_24 (fun hb => ?_) (fun hb => ?_)
  · refine s_X10_letterBit_31 ?_
    refine s_X10_letterBit_32 (by first | exact Or.inl rfl | exact Or.inr rfl | exact bI_01 _) ?_
    cases hq : (lbB z (zt z)).getD i false with
    | true => rw [hq] at hb; exact absurd rfl hb
    | false =>
      rw [hq] at hΦ
      exact hΦ _ MSu
  · refine s_X10_letterBit_27 ?_
    refine s_X10_letterBit_28 ?_
    refine s_X10_letterBit_32 (by first | exact Or.inl rfl | exact Or.inr rfl | exact bI_01 _) ?_
    cases hq : (lbB z (zt z)).getD i false with
    | false => rw [hq] at hb; exact absurd hb (by decide)
    | true =>
      rw [hq] at hΦ
      exact hΦ _ MSu
theorem q1_weightAsked {hi : am_HI} {g : am_G} (hI : am_Inv g) {z : Nat → Int32} (hz : hi 124 = z) (ok : OKz z) {w x : Int32} (h0 : wi x 0 (z 48) = false) : am_Cr M_X10_weightAsked [.ref 123, .int w, .int x] hi g (some (.int 0)) (fun h => MS hi h ∧ h 123 10 = 1) := by
  refine am_crn (by decide) (Nat.le_of_ble_eq_true rfl) (fun Φ hΦ => ?_)
  show AP M_X10_weightAsked _ 0 [.ref 123, .int w, .int x] [] _ g Φ
  refine s_X10_weightAsked_0 ?_
  refine s_X10_weightAsked_1 ?_
  refine s_X10_weightAsked_2 ?_
  refine s_X10_weightAsked_3 ?_
  refine s_X10_weightAsked_4 hI rfl (by decide) rfl (by decide) ?_
  refine s_X10_weightAsked_7 ?_
  refine s_X10_weightAsked_9 hI rfl (by decide) (by decide) (by decide : (_ : Int32) = nI 48) (by decide) ?_
  rw [hz]
  refine s_X10_weightAsked_10 hI (Nat.le_of_ble_eq_true rfl) (m_in x _ _) ?_
  intro h9 e9; rw [e9]; clear e9 h9
  rw [h0]
  refine s_X10_weightAsked_13 hI rfl (by decide) (Nat.le_of_ble_eq_true rfl) (m_asksF hI) ?_
  intro h9 e9; rw [e9]; clear e9 h9
  refine s_X10_weightAsked_16 rfl ?_
  refine s_X10_weightAsked_17 ?_
  refine s_X10_weightAsked_18 ?_
  refine s_X10_weightAsked_19 hI (Nat.le_of_ble_eq_true rfl) (m_isWeight hI w) ?_
  intro h9 e9; rw [e9]; clear e9 h9
  refine s_X10_weightAsked_22 ?_
  refine s_X10_weightAsked_23 hI rfl (by decide) (Nat.le_of_ble_eq_true rfl) (m_thenX hI u10 _) ?_
  intro h9 e9; rw [e9]; clear e9 h9
  refine s_X10_weightAsked_26 (fun h => absurd (Eq.refl (0 : Int32)) h) (fun _ => ?_)
  refine s_X10_weightAsked_29 ?_
  exact s_X10_weightAsked_30 (hΦ _ (MSu))
theorem q2_weightAsked {hi : am_HI} {g : am_G} (hI : am_Inv g) {z : Nat → Int32} (hz : hi 124 = z) (ok : OKz z) {w x : Int32} (h0 : wi x 0 (z 48) = true) (h1 : wi w 1 4 = false) : am_Cr M_X10_weightAsked [.ref 123, .int w, .int x] hi g (some (.int 0)) (fun h => MS hi h ∧ h 123 10 = 2) := by
  refine am_crn (by decide) (Nat.le_of_ble_eq_true rfl) (fun Φ hΦ => ?_)
  show AP M_X10_weightAsked _ 0 [.ref 123, .int w, .int x] [] _ g Φ
  refine s_X10_weightAsked_0 ?_
  refine s_X10_weightAsked_1 ?_
  refine s_X10_weightAsked_2 ?_
  refine s_X10_weightAsked_3 ?_
  refine s_X10_weightAsked_4 hI rfl (by decide) rfl (by decide) ?_
  refine s_X10_weightAsked_7 ?_
  refine s_X10_weightAsked_9 hI rfl (by decide) (by decide) (by decide : (_ : Int32) = nI 48) (by decide) ?_
  rw [hz]
  refine s_X10_weightAsked_10 hI (Nat.le_of_ble_eq_true rfl) (m_in x _ _) ?_
  intro h9 e9; rw [e9]; clear e9 h9
  rw [h0]
  refine s_X10_weightAsked_13 hI rfl (by decide) (Nat.le_of_ble_eq_true rfl) (m_asksT hI) ?_
  intro h9 e9; rw [e9]; clear e9 h9
  refine s_X10_weightAsked_16 rfl ?_
  refine s_X10_weightAsked_17 ?_
  refine s_X10_weightAsked_18 ?_
  refine s_X10_weightAsked_19 hI (Nat.le_of_ble_eq_true rfl) (m_isWeight hI w) ?_
  intro h9 e9; rw [e9]; clear e9 h9
  refine s_X10_weightAsked_22 ?_
  rw [h1]
  refine s_X10_weightAsked_23 hI rfl (by decide) (Nat.le_of_ble_eq_true rfl) (m_thenF hI u10) ?_
  intro h9 e9; rw [e9]; clear e9 h9
  refine s_X10_weightAsked_26 (fun h => absurd (Eq.refl (0 : Int32)) h) (fun _ => ?_)
  refine s_X10_weightAsked_29 ?_
  exact s_X10_weightAsked_30 (hΦ _ (MSs (MS.up (by decide) (by decide))))
theorem q_weightAsked {hi : am_HI} {g : am_G} (hI : am_Inv g) {z : Nat → Int32} (hz : hi 124 = z) (ok : OKz z) {k t : Nat} (hk : k < 4) (ht : t ≤ zc z) (h0 : wi (nI t) 0 (z 48) = true) (h1 : wi (nI (k + 1)) 1 4 = true) : am_Cr M_X10_weightAsked [.ref 123, .int (nI (k + 1)), .int (nI t)] hi g (some (.int (zW z t k))) (fun h => MS hi h ∧ h 123 10 = 0) := by
  refine am_crn (by decide) (Nat.le_of_ble_eq_true rfl) (fun Φ hΦ => ?_)
  show AP M_X10_weightAsked _ 0 [.ref 123, .int (nI (k + 1)), .int (nI t)] [] _ g Φ
  refine s_X10_weightAsked_0 ?_
  refine s_X10_weightAsked_1 ?_
  refine s_X10_weightAsked_2 ?_
  refine s_X10_weightAsked_3 ?_
  refine s_X10_weightAsked_4 hI rfl (by decide) rfl (by decide) ?_
  refine s_X10_weightAsked_7 ?_
  refine s_X10_weightAsked_9 hI rfl (by decide) (by decide) (by decide : (_ : Int32) = nI 48) (by decide) ?_
  rw [hz]
  refine s_X10_weightAsked_10 hI (Nat.le_of_ble_eq_true rfl) (m_in (nI t) _ _) ?_
  intro h9 e9; rw [e9]; clear e9 h9
  rw [h0]
  refine s_X10_weightAsked_13 hI rfl (by decide) (Nat.le_of_ble_eq_true rfl) (m_asksT hI) ?_
  intro h9 e9; rw [e9]; clear e9 h9
  refine s_X10_weightAsked_16 rfl ?_
  refine s_X10_weightAsked_17 ?_
  refine s_X10_weightAsked_18 ?_
  refine s_X10_weightAsked_19 hI (Nat.le_of_ble_eq_true rfl) (m_isWeight hI (nI (k + 1))) ?_
  intro h9 e9; rw [e9]; clear e9 h9
  refine s_X10_weightAsked_22 ?_
  rw [h1]
  refine s_X10_weightAsked_23 hI rfl (by decide) (Nat.le_of_ble_eq_true rfl) (m_thenT hI u10) ?_
  intro h9 e9; rw [e9]; clear e9 h9
  refine s_X10_weightAsked_26 (fun _ => ?_) (fun h => absurd h (by decide))
  refine s_X10_weightAsked_31 ?_
  refine s_X10_weightAsked_32 ?_
  have hz1 := uz hz 0
  refine s_X10_weightAsked_33 hI rfl (by decide) (Nat.le_of_ble_eq_true rfl) (m_weightsAhead hI hz1 (n := t) (by have := ok.1.2.1; omega)) ?_
  intro h5 ⟨g1, g2⟩
  refine s_X10_weightAsked_36 ?_
  refine s_X10_weightAsked_37 hI rfl (by decide) rfl (by decide) ?_
  refine s_X10_weightAsked_40 ?_
  refine s_X10_weightAsked_41 ?_
  refine s_X10_weightAsked_42 ?_
  refine s_X10_weightAsked_43 hI rfl (by decide) (by decide) (nI_i1 k) (hk) ?_
  rw [g2 k hk]
  exact s_X10_weightAsked_44 (hΦ _ (MSt g1 (by decide)))
theorem q1_weightAt {hi : am_HI} {g : am_G} (hI : am_Inv g) {z : Nat → Int32} (hz : hi 124 = z) (ok : OKz z) {w x : Int32} (h0 : wi x 0 (z 48) = false) : am_Cr M_X10_weightAt [.ref 123, .int w, .int x] hi g (some (.int 0)) (fun h => MS hi h ∧ h 123 10 = 1) := by
  refine am_crn (by decide) (Nat.le_of_ble_eq_true rfl) (fun Φ hΦ => ?_)
  show AP M_X10_weightAt _ 0 [.ref 123, .int w, .int x] [] _ g Φ
  refine s_X10_weightAt_0 ?_
  refine s_X10_weightAt_1 ?_
  refine s_X10_weightAt_2 ?_
  refine s_X10_weightAt_3 hI rfl (by decide) (Nat.le_of_ble_eq_true rfl) (q1_weightAsked hI hz ok h0) ?_
  intro h5 g1
  exact s_X10_weightAt_6 (hΦ _ (g1))
theorem q2_weightAt {hi : am_HI} {g : am_G} (hI : am_Inv g) {z : Nat → Int32} (hz : hi 124 = z) (ok : OKz z) {w x : Int32} (h0 : wi x 0 (z 48) = true) (h1 : wi w 1 4 = false) : am_Cr M_X10_weightAt [.ref 123, .int w, .int x] hi g (some (.int 0)) (fun h => MS hi h ∧ h 123 10 = 2) := by
  refine am_crn (by decide) (Nat.le_of_ble_eq_true rfl) (fun Φ hΦ => ?_)
  show AP M_X10_weightAt _ 0 [.ref 123, .int w, .int x] [] _ g Φ
  refine s_X10_weightAt_0 ?_
  refine s_X10_weightAt_1 ?_
  refine s_X10_weightAt_2 ?_
  refine s_X10_weightAt_3 hI rfl (by decide) (Nat.le_of_ble_eq_true rfl) (q2_weightAsked hI hz ok h0 h1) ?_
  intro h5 g1
  exact s_X10_weightAt_6 (hΦ _ (g1))
theorem q_weightAt {hi : am_HI} {g : am_G} (hI : am_Inv g) {z : Nat → Int32} (hz : hi 124 = z) (ok : OKz z) {k t : Nat} (hk : k < 4) (ht : t ≤ zc z) (h0 : wi (nI t) 0 (z 48) = true) (h1 : wi (nI (k + 1)) 1 4 = true) : am_Cr M_X10_weightAt [.ref 123, .int (nI (k + 1)), .int (nI t)] hi g (some (.int (zW z t k))) (fun h => MS hi h ∧ h 123 10 = 0) := by
  refine am_crn (by decide) (Nat.le_of_ble_eq_true rfl) (fun Φ hΦ => ?_)
  show AP M_X10_weightAt _ 0 [.ref 123, .int (nI (k + 1)), .int (nI t)] [] _ g Φ
  refine s_X10_weightAt_0 ?_
  refine s_X10_weightAt_1 ?_
  refine s_X10_weightAt_2 ?_
  refine s_X10_weightAt_3 hI rfl (by decide) (Nat.le_of_ble_eq_true rfl) (q_weightAsked hI hz ok hk ht h0 h1) ?_
  intro h5 g1
  exact s_X10_weightAt_6 (hΦ _ (g1))
theorem q1_weightByCounting {hi : am_HI} {g : am_G} (hI : am_Inv g) {z : Nat → Int32} (hz : hi 124 = z) (ok : OKz z) {w x : Int32} (h0 : wi x 0 (z 48) = false) : am_Cr M_X10_weightByCounting [.ref 123, .int w, .int x] hi g (some (.int 0)) (fun h => MS hi h ∧ h 123 10 = 1) := by
  refine am_crn (by decide) (Nat.le_of_ble_eq_true rfl) (fun Φ hΦ => ?_)
  show AP M_X10_weightByCounting _ 0 [.ref 123, .int w, .int x] [] _ g Φ
  refine s_X10_weightByCounting_0 ?_
  refine s_X10_weightByCounting_1 ?_
  refine s_X10_weightByCounting_2 ?_
  refine s_X10_weightByCounting_3 hI rfl (by decide) (Nat.le_of_ble_eq_true rfl) (q1_weightAsked hI hz ok h0) ?_
  intro h5 g1
  exact s_X10_weightByCounting_6 (hΦ _ (g1))
theorem q2_weightByCounting {hi : am_HI} {g : am_G} (hI : am_Inv g) {z : Nat → Int32} (hz : hi 124 = z) (ok : OKz z) {w x : Int32} (h0 : wi x 0 (z 48) = true) (h1 : wi w 1 4 = false) : am_Cr M_X10_weightByCounting [.ref 123, .int w, .int x] hi g (some (.int 0)) (fun h => MS hi h ∧ h 123 10 = 2) := by
  refine am_crn (by decide) (Nat.le_of_ble_eq_true rfl) (fun Φ hΦ => ?_)
  show AP M_X10_weightByCounting _ 0 [.ref 123, .int w, .int x] [] _ g Φ
  refine s_X10_weightByCounting_0 ?_
  refine s_X10_weightByCounting_1 ?_
  refine s_X10_weightByCounting_2 ?_
  refine s_X10_weightByCounting_3 hI rfl (by decide) (Nat.le_of_ble_eq_true rfl) (q2_weightAsked hI hz ok h0 h1) ?_
  intro h5 g1
  exact s_X10_weightByCounting_6 (hΦ _ (g1))
theorem q_weightByCounting {hi : am_HI} {g : am_G} (hI : am_Inv g) {z : Nat → Int32} (hz : hi 124 = z) (ok : OKz z) {k t : Nat} (hk : k < 4) (ht : t ≤ zc z) (h0 : wi (nI t) 0 (z 48) = true) (h1 : wi (nI (k + 1)) 1 4 = true) : am_Cr M_X10_weightByCounting [.ref 123, .int (nI (k + 1)), .int (nI t)] hi g (some (.int (zW z t k))) (fun h => MS hi h ∧ h 123 10 = 0) := by
  refine am_crn (by decide) (Nat.le_of_ble_eq_true rfl) (fun Φ hΦ => ?_)
  show AP M_X10_weightByCounting _ 0 [.ref 123, .int (nI (k + 1)), .int (nI t)] [] _ g Φ
  refine s_X10_weightByCounting_0 ?_
  refine s_X10_weightByCounting_1 ?_
  refine s_X10_weightByCounting_2 ?_
  refine s_X10_weightByCounting_3 hI rfl (by decide) (Nat.le_of_ble_eq_true rfl) (q_weightAsked hI hz ok hk ht h0 h1) ?_
  intro h5 g1
  exact s_X10_weightByCounting_6 (hΦ _ (g1))
theorem q1_foretold {hi : am_HI} {g : am_G} (hI : am_Inv g) {z : Nat → Int32} (hz : hi 124 = z) (ok : OKz z) {w x : Int32} (h0 : wi x 0 (z 48) = false) : am_Cr M_X10_foretold [.ref 123, .int w, .int x] hi g (some (.int 0)) (fun h => MS hi h ∧ h 123 10 = 1) := by
  refine am_crn (by decide) (Nat.le_of_ble_eq_true rfl) (fun Φ hΦ => ?_)
  show AP M_X10_foretold _ 0 [.ref 123, .int w, .int x] [] _ g Φ
  refine s_X10_foretold_0 ?_
  refine s_X10_foretold_1 ?_
  refine s_X10_foretold_2 ?_
  refine s_X10_foretold_3 ?_
  refine s_X10_foretold_4 hI rfl (by decide) rfl (by decide) ?_
  refine s_X10_foretold_7 ?_
  refine s_X10_foretold_9 hI rfl (by decide) (by decide) (by decide : (_ : Int32) = nI 48) (by decide) ?_
  rw [hz]
  refine s_X10_foretold_10 hI (Nat.le_of_ble_eq_true rfl) (m_in x _ _) ?_
  intro h9 e9; rw [e9]; clear e9 h9
  rw [h0]
  refine s_X10_foretold_13 hI rfl (by decide) (Nat.le_of_ble_eq_true rfl) (m_asksF hI) ?_
  intro h9 e9; rw [e9]; clear e9 h9
  refine s_X10_foretold_16 rfl ?_
  refine s_X10_foretold_17 ?_
  refine s_X10_foretold_18 ?_
  refine s_X10_foretold_19 hI (Nat.le_of_ble_eq_true rfl) (m_isKind hI w) ?_
  intro h9 e9; rw [e9]; clear e9 h9
  refine s_X10_foretold_22 ?_
  refine s_X10_foretold_23 hI rfl (by decide) (Nat.le_of_ble_eq_true rfl) (m_thenX hI u10 _) ?_
  intro h9 e9; rw [e9]; clear e9 h9
  refine s_X10_foretold_26 (fun _ => ?_) (fun h => absurd (rfl) h)
  refine s_X10_foretold_38 ?_
  exact s_X10_foretold_39 (hΦ _ (MSu))
theorem q2_foretold {hi : am_HI} {g : am_G} (hI : am_Inv g) {z : Nat → Int32} (hz : hi 124 = z) (ok : OKz z) {w x : Int32} (h0 : wi x 0 (z 48) = true) (h1 : wi w 0 4 = false) : am_Cr M_X10_foretold [.ref 123, .int w, .int x] hi g (some (.int 0)) (fun h => MS hi h ∧ h 123 10 = 2) := by
  refine am_crn (by decide) (Nat.le_of_ble_eq_true rfl) (fun Φ hΦ => ?_)
  show AP M_X10_foretold _ 0 [.ref 123, .int w, .int x] [] _ g Φ
  refine s_X10_foretold_0 ?_
  refine s_X10_foretold_1 ?_
  refine s_X10_foretold_2 ?_
  refine s_X10_foretold_3 ?_
  refine s_X10_foretold_4 hI rfl (by decide) rfl (by decide) ?_
  refine s_X10_foretold_7 ?_
  refine s_X10_foretold_9 hI rfl (by decide) (by decide) (by decide : (_ : Int32) = nI 48) (by decide) ?_
  rw [hz]
  refine s_X10_foretold_10 hI (Nat.le_of_ble_eq_true rfl) (m_in x _ _) ?_
  intro h9 e9; rw [e9]; clear e9 h9
  rw [h0]
  refine s_X10_foretold_13 hI rfl (by decide) (Nat.le_of_ble_eq_true rfl) (m_asksT hI) ?_
  intro h9 e9; rw [e9]; clear e9 h9
  refine s_X10_foretold_16 rfl ?_
  refine s_X10_foretold_17 ?_
  refine s_X10_foretold_18 ?_
  refine s_X10_foretold_19 hI (Nat.le_of_ble_eq_true rfl) (m_isKind hI w) ?_
  intro h9 e9; rw [e9]; clear e9 h9
  refine s_X10_foretold_22 ?_
  rw [h1]
  refine s_X10_foretold_23 hI rfl (by decide) (Nat.le_of_ble_eq_true rfl) (m_thenF hI u10) ?_
  intro h9 e9; rw [e9]; clear e9 h9
  refine s_X10_foretold_26 (fun _ => ?_) (fun h => absurd (rfl) h)
  refine s_X10_foretold_38 ?_
  exact s_X10_foretold_39 (hΦ _ (MSs (MS.up (by decide) (by decide))))
theorem q_foretold {hi : am_HI} {g : am_G} (hI : am_Inv g) {z : Nat → Int32} (hz : hi 124 = z) (ok : OKz z) {k t : Nat} (hk : k < 5) (ht : t ≤ zc z) (h0 : wi (nI t) 0 (z 48) = true) (h1 : wi (nI k) 0 4 = true) : am_Cr M_X10_foretold [.ref 123, .int (nI k), .int (nI t)] hi g (some (.int (zF z k t))) (fun h => MS hi h ∧ h 123 10 = 0) := by
  refine am_crn (by decide) (Nat.le_of_ble_eq_true rfl) (fun Φ hΦ => ?_)
  show AP M_X10_foretold _ 0 [.ref 123, .int (nI k), .int (nI t)] [] _ g Φ
  refine s_X10_foretold_0 ?_
  refine s_X10_foretold_1 ?_
  refine s_X10_foretold_2 ?_
  refine s_X10_foretold_3 ?_
  refine s_X10_foretold_4 hI rfl (by decide) rfl (by decide) ?_
  refine s_X10_foretold_7 ?_
  refine s_X10_foretold_9 hI rfl (by decide) (by decide) (by decide : (_ : Int32) = nI 48) (by decide) ?_
  rw [hz]
  refine s_X10_foretold_10 hI (Nat.le_of_ble_eq_true rfl) (m_in (nI t) _ _) ?_
  intro h9 e9; rw [e9]; clear e9 h9
  rw [h0]
  refine s_X10_foretold_13 hI rfl (by decide) (Nat.le_of_ble_eq_true rfl) (m_asksT hI) ?_
  intro h9 e9; rw [e9]; clear e9 h9
  refine s_X10_foretold_16 rfl ?_
  refine s_X10_foretold_17 ?_
  refine s_X10_foretold_18 ?_
  refine s_X10_foretold_19 hI (Nat.le_of_ble_eq_true rfl) (m_isKind hI (nI k)) ?_
  intro h9 e9; rw [e9]; clear e9 h9
  refine s_X10_foretold_22 ?_
  rw [h1]
  refine s_X10_foretold_23 hI rfl (by decide) (Nat.le_of_ble_eq_true rfl) (m_thenT hI u10) ?_
  intro h9 e9; rw [e9]; clear e9 h9
  refine s_X10_foretold_26 (fun h => absurd h (by decide)) (fun _ => ?_)
  refine s_X10_foretold_29 ?_
  refine s_X10_foretold_30 ?_
  refine s_X10_foretold_31 ?_
  have hz1 := uz hz 0
  refine s_X10_foretold_32 hI rfl (by decide) (Nat.le_of_ble_eq_true rfl) (m_foretoldOf hI hz1 ok (kd := k) (n := t) (by omega) (by have := ok.1.2.1; omega)) ?_
  intro h5 g1
  refine s_X10_foretold_35 ?_
  exact s_X10_foretold_39 (hΦ _ (MSt g1 (by decide)))
theorem q1_leftOver {hi : am_HI} {g : am_G} (hI : am_Inv g) {z : Nat → Int32} (hz : hi 124 = z) (ok : OKz z) {w x : Int32} (h0 : wi x 0 (z 48 - 1) = false) : am_Cr M_X10_leftOver [.ref 123, .int w, .int x] hi g (some (.int 0)) (fun h => MS hi h ∧ h 123 10 = 1) := by
  refine am_crn (by decide) (Nat.le_of_ble_eq_true rfl) (fun Φ hΦ => ?_)
  show AP M_X10_leftOver _ 0 [.ref 123, .int w, .int x] [] _ g Φ
  refine s_X10_leftOver_0 ?_
  refine s_X10_leftOver_1 ?_
  refine s_X10_leftOver_2 ?_
  refine s_X10_leftOver_3 hI rfl (by decide) (Nat.le_of_ble_eq_true rfl) (m_isSample hI x) ?_
  intro h9 e9; rw [e9]; clear e9 h9
  rw [hz]
  rw [h0]
  refine s_X10_leftOver_6 hI rfl (by decide) (Nat.le_of_ble_eq_true rfl) (m_asksF hI) ?_
  intro h9 e9; rw [e9]; clear e9 h9
  refine s_X10_leftOver_9 rfl ?_
  refine s_X10_leftOver_10 ?_
  refine s_X10_leftOver_11 ?_
  refine s_X10_leftOver_12 hI (Nat.le_of_ble_eq_true rfl) (m_isKind hI w) ?_
  intro h9 e9; rw [e9]; clear e9 h9
  refine s_X10_leftOver_15 ?_
  refine s_X10_leftOver_16 hI rfl (by decide) (Nat.le_of_ble_eq_true rfl) (m_thenX hI u10 _) ?_
  intro h9 e9; rw [e9]; clear e9 h9
  refine s_X10_leftOver_19 (fun _ => ?_) (fun h => absurd (rfl) h)
  refine s_X10_leftOver_38 ?_
  exact s_X10_leftOver_39 (hΦ _ (MSu))
theorem q2_leftOver {hi : am_HI} {g : am_G} (hI : am_Inv g) {z : Nat → Int32} (hz : hi 124 = z) (ok : OKz z) {w x : Int32} (h0 : wi x 0 (z 48 - 1) = true) (h1 : wi w 0 4 = false) : am_Cr M_X10_leftOver [.ref 123, .int w, .int x] hi g (some (.int 0)) (fun h => MS hi h ∧ h 123 10 = 2) := by
  refine am_crn (by decide) (Nat.le_of_ble_eq_true rfl) (fun Φ hΦ => ?_)
  show AP M_X10_leftOver _ 0 [.ref 123, .int w, .int x] [] _ g Φ
  refine s_X10_leftOver_0 ?_
  refine s_X10_leftOver_1 ?_
  refine s_X10_leftOver_2 ?_
  refine s_X10_leftOver_3 hI rfl (by decide) (Nat.le_of_ble_eq_true rfl) (m_isSample hI x) ?_
  intro h9 e9; rw [e9]; clear e9 h9
  rw [hz]
  rw [h0]
  refine s_X10_leftOver_6 hI rfl (by decide) (Nat.le_of_ble_eq_true rfl) (m_asksT hI) ?_
  intro h9 e9; rw [e9]; clear e9 h9
  refine s_X10_leftOver_9 rfl ?_
  refine s_X10_leftOver_10 ?_
  refine s_X10_leftOver_11 ?_
  refine s_X10_leftOver_12 hI (Nat.le_of_ble_eq_true rfl) (m_isKind hI w) ?_
  intro h9 e9; rw [e9]; clear e9 h9
  refine s_X10_leftOver_15 ?_
  rw [h1]
  refine s_X10_leftOver_16 hI rfl (by decide) (Nat.le_of_ble_eq_true rfl) (m_thenF hI u10) ?_
  intro h9 e9; rw [e9]; clear e9 h9
  refine s_X10_leftOver_19 (fun _ => ?_) (fun h => absurd (rfl) h)
  refine s_X10_leftOver_38 ?_
  exact s_X10_leftOver_39 (hΦ _ (MSs (MS.up (by decide) (by decide))))
theorem q_leftOver {hi : am_HI} {g : am_G} (hI : am_Inv g) {z : Nat → Int32} (hz : hi 124 = z) (ok : OKz z) {k t : Nat} (hk : k < 5) (ht : t < zc z) (h0 : wi (nI t) 0 (z 48 - 1) = true) (h1 : wi (nI k) 0 4 = true) : am_Cr M_X10_leftOver [.ref 123, .int (nI k), .int (nI t)] hi g (some (.int (zL z k t))) (fun h => MS hi h ∧ h 123 10 = 0) := by
  refine am_crn (by decide) (Nat.le_of_ble_eq_true rfl) (fun Φ hΦ => ?_)
  show AP M_X10_leftOver _ 0 [.ref 123, .int (nI k), .int (nI t)] [] _ g Φ
  refine s_X10_leftOver_0 ?_
  refine s_X10_leftOver_1 ?_
  refine s_X10_leftOver_2 ?_
  refine s_X10_leftOver_3 hI rfl (by decide) (Nat.le_of_ble_eq_true rfl) (m_isSample hI (nI t)) ?_
  intro h9 e9; rw [e9]; clear e9 h9
  rw [hz]
  rw [h0]
  refine s_X10_leftOver_6 hI rfl (by decide) (Nat.le_of_ble_eq_true rfl) (m_asksT hI) ?_
  intro h9 e9; rw [e9]; clear e9 h9
  refine s_X10_leftOver_9 rfl ?_
  refine s_X10_leftOver_10 ?_
  refine s_X10_leftOver_11 ?_
  refine s_X10_leftOver_12 hI (Nat.le_of_ble_eq_true rfl) (m_isKind hI (nI k)) ?_
  intro h9 e9; rw [e9]; clear e9 h9
  refine s_X10_leftOver_15 ?_
  rw [h1]
  refine s_X10_leftOver_16 hI rfl (by decide) (Nat.le_of_ble_eq_true rfl) (m_thenT hI u10) ?_
  intro h9 e9; rw [e9]; clear e9 h9
  refine s_X10_leftOver_19 (fun h => absurd h (by decide)) (fun _ => ?_)
  refine s_X10_leftOver_22 ?_
  refine s_X10_leftOver_23 hI rfl (by decide) rfl (by decide) ?_
  refine s_X10_leftOver_26 ?_
  have hz1 := uz hz 0
  refine s_X10_leftOver_27 hI rfl (by decide) (by decide) (rfl) (by have := ok.1.2.1; omega) ?_
  refine s_X10_leftOver_28 ?_
  refine s_X10_leftOver_29 ?_
  refine s_X10_leftOver_30 ?_
  refine s_X10_leftOver_31 hI rfl (by decide) (Nat.le_of_ble_eq_true rfl) (m_foretoldOf hI hz1 ok (kd := k) (n := t) (by omega) (by have := ok.1.2.1; omega)) ?_
  intro h5 g1
  refine s_X10_leftOver_34 ?_
  refine s_X10_leftOver_35 ?_
  rw [hz1]
  exact s_X10_leftOver_39 (hΦ _ (MSt g1 (by decide)))
theorem m_parameterBy {hi : am_HI} {g : am_G} (hI : am_Inv g) {z : Nat → Int32} (hz : hi 124 = z) (ok : OKz z) {b kd : Nat} (hkd : kd ≤ 4) (hb : b < 6) : am_Cr M_X10_parameterBy [.ref 123, .int (nI b), .int (nI kd)] hi g (some (.int (nI (zpb z kd b)))) (fun h => fr [128, 129] hi h) := by
  refine am_crn (by decide) (Nat.le_of_ble_eq_true rfl) (fun Φ hΦ => ?_)
  show AP M_X10_parameterBy _ 0 [.ref 123, .int (nI b), .int (nI kd)] [] _ g Φ
  refine s_X10_parameterBy_0 ?_
  refine s_X10_parameterBy_1 ?_
  refine s_X10_parameterBy_2 hI rfl (by decide) (Nat.le_of_ble_eq_true rfl) (m_leavesBy hI hz ok hkd) ?_
  intro h5 ⟨g1, g2⟩
  refine s_X10_parameterBy_5 rfl ?_
  refine s_X10_parameterBy_6 ?_
  refine s_X10_parameterBy_7 ?_
  refine s_X10_parameterBy_8 hI rfl (by decide) (Nat.le_of_ble_eq_true rfl) (m_parameterFor hI ((g1 124 (by decide)).trans hz) ok g2 hb) ?_
  intro h9 e9; rw [e9]; clear e9 h9
  exact s_X10_parameterBy_11 (hΦ _ (g1))
theorem q1_bestParameter {hi : am_HI} {g : am_G} (hI : am_Inv g) {z : Nat → Int32} (hz : hi 124 = z) (ok : OKz z) {b w : Int32} (h0 : wi b 0 (nI (zn z) - 1) = false) : am_Cr M_X10_bestParameter [.ref 123, .int b, .int w] hi g (some (.int 0)) (fun h => MS hi h ∧ h 123 10 = 1) := by
  refine am_crn (by decide) (Nat.le_of_ble_eq_true rfl) (fun Φ hΦ => ?_)
  show AP M_X10_bestParameter _ 0 [.ref 123, .int b, .int w] [] _ g Φ
  refine s_X10_bestParameter_0 ?_
  refine s_X10_bestParameter_1 ?_
  refine s_X10_bestParameter_2 ?_
  refine s_X10_bestParameter_3 hI rfl (by decide) (Nat.le_of_ble_eq_true rfl) (m_isBlock hI b) ?_
  intro h9 e9; rw [e9]; clear e9 h9
  rw [hz, znI ok]
  rw [h0]
  refine s_X10_bestParameter_6 hI rfl (by decide) (Nat.le_of_ble_eq_true rfl) (m_asksF hI) ?_
  intro h9 e9; rw [e9]; clear e9 h9
  refine s_X10_bestParameter_9 rfl ?_
  refine s_X10_bestParameter_10 ?_
  refine s_X10_bestParameter_11 ?_
  refine s_X10_bestParameter_12 hI (Nat.le_of_ble_eq_true rfl) (m_isKind hI w) ?_
  intro h9 e9; rw [e9]; clear e9 h9
  refine s_X10_bestParameter_15 ?_
  refine s_X10_bestParameter_16 hI rfl (by decide) (Nat.le_of_ble_eq_true rfl) (m_thenX hI u10 _) ?_
  intro h9 e9; rw [e9]; clear e9 h9
  refine s_X10_bestParameter_19 (fun _ => ?_) (fun h => absurd (rfl) h)
  refine s_X10_bestParameter_31 ?_
  exact s_X10_bestParameter_32 (hΦ _ (MSu))
theorem q2_bestParameter {hi : am_HI} {g : am_G} (hI : am_Inv g) {z : Nat → Int32} (hz : hi 124 = z) (ok : OKz z) {b w : Int32} (h0 : wi b 0 (nI (zn z) - 1) = true) (h1 : wi w 0 4 = false) : am_Cr M_X10_bestParameter [.ref 123, .int b, .int w] hi g (some (.int 0)) (fun h => MS hi h ∧ h 123 10 = 2) := by
  refine am_crn (by decide) (Nat.le_of_ble_eq_true rfl) (fun Φ hΦ => ?_)
  show AP M_X10_bestParameter _ 0 [.ref 123, .int b, .int w] [] _ g Φ
  refine s_X10_bestParameter_0 ?_
  refine s_X10_bestParameter_1 ?_
  refine s_X10_bestParameter_2 ?_
  refine s_X10_bestParameter_3 hI rfl (by decide) (Nat.le_of_ble_eq_true rfl) (m_isBlock hI b) ?_
  intro h9 e9; rw [e9]; clear e9 h9
  rw [hz, znI ok]
  rw [h0]
  refine s_X10_bestParameter_6 hI rfl (by decide) (Nat.le_of_ble_eq_true rfl) (m_asksT hI) ?_
  intro h9 e9; rw [e9]; clear e9 h9
  refine s_X10_bestParameter_9 rfl ?_
  refine s_X10_bestParameter_10 ?_
  refine s_X10_bestParameter_11 ?_
  refine s_X10_bestParameter_12 hI (Nat.le_of_ble_eq_true rfl) (m_isKind hI w) ?_
  intro h9 e9; rw [e9]; clear e9 h9
  refine s_X10_bestParameter_15 ?_
  rw [h1]
  refine s_X10_bestParameter_16 hI rfl (by decide) (Nat.le_of_ble_eq_true rfl) (m_thenF hI u10) ?_
  intro h9 e9; rw [e9]; clear e9 h9
  refine s_X10_bestParameter_19 (fun _ => ?_) (fun h => absurd (rfl) h)
  refine s_X10_bestParameter_31 ?_
  exact s_X10_bestParameter_32 (hΦ _ (MSs (MS.up (by decide) (by decide))))
theorem q_bestParameter {hi : am_HI} {g : am_G} (hI : am_Inv g) {z : Nat → Int32} (hz : hi 124 = z) (ok : OKz z) {j k : Nat} (hj : j < zn z) (hk : k < 5) (h0 : wi (nI j) 0 (nI (zn z) - 1) = true) (h1 : wi (nI k) 0 4 = true) : am_Cr M_X10_bestParameter [.ref 123, .int (nI j), .int (nI k)] hi g (some (.int (nI (zpb z k j)))) (fun h => MS hi h ∧ h 123 10 = 0) := by
  refine am_crn (by decide) (Nat.le_of_ble_eq_true rfl) (fun Φ hΦ => ?_)
  show AP M_X10_bestParameter _ 0 [.ref 123, .int (nI j), .int (nI k)] [] _ g Φ
  refine s_X10_bestParameter_0 ?_
  refine s_X10_bestParameter_1 ?_
  refine s_X10_bestParameter_2 ?_
  refine s_X10_bestParameter_3 hI rfl (by decide) (Nat.le_of_ble_eq_true rfl) (m_isBlock hI (nI j)) ?_
  intro h9 e9; rw [e9]; clear e9 h9
  rw [hz, znI ok]
  rw [h0]
  refine s_X10_bestParameter_6 hI rfl (by decide) (Nat.le_of_ble_eq_true rfl) (m_asksT hI) ?_
  intro h9 e9; rw [e9]; clear e9 h9
  refine s_X10_bestParameter_9 rfl ?_
  refine s_X10_bestParameter_10 ?_
  refine s_X10_bestParameter_11 ?_
  refine s_X10_bestParameter_12 hI (Nat.le_of_ble_eq_true rfl) (m_isKind hI (nI k)) ?_
  intro h9 e9; rw [e9]; clear e9 h9
  refine s_X10_bestParameter_15 ?_
  rw [h1]
  refine s_X10_bestParameter_16 hI rfl (by decide) (Nat.le_of_ble_eq_true rfl) (m_thenT hI u10) ?_
  intro h9 e9; rw [e9]; clear e9 h9
  refine s_X10_bestParameter_19 (fun h => absurd h (by decide)) (fun _ => ?_)
  refine s_X10_bestParameter_22 ?_
  refine s_X10_bestParameter_23 ?_
  refine s_X10_bestParameter_24 ?_
  have hz1 := uz hz 0
  refine s_X10_bestParameter_25 hI rfl (by decide) (Nat.le_of_ble_eq_true rfl) (m_parameterBy hI hz1 ok (kd := k) (by omega) (zn_b ok hj)) ?_
  intro h5 g1
  refine s_X10_bestParameter_28 ?_
  exact s_X10_bestParameter_32 (hΦ _ (MSt g1 (by decide)))
theorem q1_bitsWith {hi : am_HI} {g : am_G} (hI : am_Inv g) {z : Nat → Int32} (hz : hi 124 = z) (ok : OKz z) {b w p : Int32} (h0 : wi b 0 (nI (zn z) - 1) = false) : am_Cr M_X10_bitsWith [.ref 123, .int b, .int w, .int p] hi g (some (.int 0)) (fun h => MS hi h ∧ h 123 10 = 1) := by
  have fin : ∀ (f : Bool) (Φ : am_P), (∀ h, MS hi h ∧ h 123 10 = 1 → Φ (.ok (some (.int 0))) h g) → AP M_X10_bitsWith (0, 0) 33 [.ref 123, .int b, .int w, .int p] [.int (bI f), .ref 123] (am_up hi 123 10 1) g Φ := by
    intro f Φ hΦ
    refine s_X10_bitsWith_33 ?_
    refine s_X10_bitsWith_34 hI rfl (by decide) (Nat.le_of_ble_eq_true rfl) (m_thenX hI u10 f) ?_
    intro h9 e9; rw [e9]; clear e9 h9
    refine s_X10_bitsWith_37 (fun h => absurd (Eq.refl (0 : Int32)) h) (fun _ => ?_)
    refine s_X10_bitsWith_40 ?_
    exact s_X10_bitsWith_41 (hΦ _ (MSu))
  refine am_crn (by decide) (Nat.le_of_ble_eq_true rfl) (fun Φ hΦ => ?_)
  show AP M_X10_bitsWith _ 0 [.ref 123, .int b, .int w, .int p] [] _ g Φ
  refine s_X10_bitsWith_0 ?_
  refine s_X10_bitsWith_1 ?_
  refine s_X10_bitsWith_2 ?_
  refine s_X10_bitsWith_3 hI rfl (by decide) (Nat.le_of_ble_eq_true rfl) (m_isBlock hI b) ?_
  intro h9 e9; rw [e9]; clear e9 h9
  rw [hz, znI ok, h0]
  refine s_X10_bitsWith_6 hI rfl (by decide) (Nat.le_of_ble_eq_true rfl) (m_asksF hI) ?_
  intro h9 e9; rw [e9]; clear e9 h9
  refine s_X10_bitsWith_9 rfl ?_
  refine s_X10_bitsWith_10 ?_
  refine s_X10_bitsWith_11 ?_
  refine s_X10_bitsWith_12 hI (Nat.le_of_ble_eq_true rfl) (m_isKind hI w) ?_
  intro h9 e9; rw [e9]; clear e9 h9
  refine s_X10_bitsWith_15 (fun h1 => ?_) (fun h1 => ?_)
  · refine s_X10_bitsWith_32 ?_
    exact fin false Φ hΦ
  · refine s_X10_bitsWith_18 ?_
    refine s_X10_bitsWith_19 ?_
    refine s_X10_bitsWith_20 ?_
    refine s_X10_bitsWith_22 hI (Nat.le_of_ble_eq_true rfl) (m_in p _ _) ?_
    intro h9 e9; rw [e9]; clear e9 h9
    refine s_X10_bitsWith_25 (fun h2 => ?_) (fun h2 => ?_)
    · refine s_X10_bitsWith_32 ?_
      exact fin false Φ hΦ
    · refine s_X10_bitsWith_28 ?_
      refine s_X10_bitsWith_29 ?_
      exact fin true Φ hΦ
theorem q2_bitsWith {hi : am_HI} {g : am_G} (hI : am_Inv g) {z : Nat → Int32} (hz : hi 124 = z) (ok : OKz z) {b w p : Int32} (h0 : wi b 0 (nI (zn z) - 1) = true) (h1 : (wi w 0 4 && wi p 0 7) = false) : am_Cr M_X10_bitsWith [.ref 123, .int b, .int w, .int p] hi g (some (.int 0)) (fun h => MS hi h ∧ h 123 10 = 2) := by
  refine am_crn (by decide) (Nat.le_of_ble_eq_true rfl) (fun Φ hΦ => ?_)
  show AP M_X10_bitsWith _ 0 [.ref 123, .int b, .int w, .int p] [] _ g Φ
  refine s_X10_bitsWith_0 ?_
  refine s_X10_bitsWith_1 ?_
  refine s_X10_bitsWith_2 ?_
  refine s_X10_bitsWith_3 hI rfl (by decide) (Nat.le_of_ble_eq_true rfl) (m_isBlock hI b) ?_
  intro h9 e9; rw [e9]; clear e9 h9
  rw [hz, znI ok, h0]
  refine s_X10_bitsWith_6 hI rfl (by decide) (Nat.le_of_ble_eq_true rfl) (m_asksT hI) ?_
  intro h9 e9; rw [e9]; clear e9 h9
  refine s_X10_bitsWith_9 rfl ?_
  refine s_X10_bitsWith_10 ?_
  refine s_X10_bitsWith_11 ?_
  refine s_X10_bitsWith_12 hI (Nat.le_of_ble_eq_true rfl) (m_isKind hI w) ?_
  intro h9 e9; rw [e9]; clear e9 h9
  have fin : AP M_X10_bitsWith (0, 0) 33 [.ref 123, .int b, .int w, .int p] [.int (bI false), .ref 123] (am_up hi 123 10 0) g Φ := ?_
  refine s_X10_bitsWith_15 (fun h2 => ?_) (fun h2 => ?_)
  · refine s_X10_bitsWith_32 ?_
    exact fin
  · refine s_X10_bitsWith_18 ?_
    refine s_X10_bitsWith_19 ?_
    refine s_X10_bitsWith_20 ?_
    refine s_X10_bitsWith_22 hI (Nat.le_of_ble_eq_true rfl) (m_in p _ _) ?_
    intro h9 e9; rw [e9]; clear e9 h9
    refine s_X10_bitsWith_25 (fun h3 => ?_) (fun h3 => ?_)
    · refine s_X10_bitsWith_32 ?_
      exact fin
    · refine s_X10_bitsWith_28 ?_
      refine s_X10_bitsWith_29 ?_
      refine s_X10_bitsWith_33 ?_
      rw [bI_n0] at h2 h3
      rw [h2, h3] at h1
      cases h1
  refine s_X10_bitsWith_33 ?_
  refine s_X10_bitsWith_34 hI rfl (by decide) (Nat.le_of_ble_eq_true rfl) (m_thenF hI u10) ?_
  intro h9 e9; rw [e9]; clear e9 h9
  refine s_X10_bitsWith_37 (fun h => absurd (Eq.refl (0 : Int32)) h) (fun _ => ?_)
  refine s_X10_bitsWith_40 ?_
  exact s_X10_bitsWith_41 (hΦ _ (MSs (MS.up (by decide) (by decide))))
theorem q_bitsWith {hi : am_HI} {g : am_G} (hI : am_Inv g) {z : Nat → Int32} (hz : hi 124 = z) (ok : OKz z) {j k q : Nat} (hj : j < zn z) (hk : k < 5) (hq : q ≤ 7) (h0 : wi (nI j) 0 (nI (zn z) - 1) = true) (h1 : wi (nI k) 0 4 = true) (h2 : wi (nI q) 0 7 = true) : am_Cr M_X10_bitsWith [.ref 123, .int (nI j), .int (nI k), .int (nI q)] hi g (some (.int (zbb z k j q))) (fun h => MS hi h ∧ h 123 10 = 0) := by
  refine am_crn (by decide) (Nat.le_of_ble_eq_true rfl) (fun Φ hΦ => ?_)
  show AP M_X10_bitsWith _ 0 [.ref 123, .int (nI j), .int (nI k), .int (nI q)] [] _ g Φ
  refine s_X10_bitsWith_0 ?_
  refine s_X10_bitsWith_1 ?_
  refine s_X10_bitsWith_2 ?_
  refine s_X10_bitsWith_3 hI rfl (by decide) (Nat.le_of_ble_eq_true rfl) (m_isBlock hI (nI j)) ?_
  intro h9 e9; rw [e9]; clear e9 h9
  rw [hz, znI ok, h0]
  refine s_X10_bitsWith_6 hI rfl (by decide) (Nat.le_of_ble_eq_true rfl) (m_asksT hI) ?_
  intro h9 e9; rw [e9]; clear e9 h9
  refine s_X10_bitsWith_9 rfl ?_
  refine s_X10_bitsWith_10 ?_
  refine s_X10_bitsWith_11 ?_
  refine s_X10_bitsWith_12 hI (Nat.le_of_ble_eq_true rfl) (m_isKind hI (nI k)) ?_
  intro h9 e9; rw [e9]; clear e9 h9
  rw [h1]
  refine s_X10_bitsWith_15 (fun h => absurd h (by decide)) (fun _ => ?_)
  refine s_X10_bitsWith_18 ?_
  refine s_X10_bitsWith_19 ?_
  refine s_X10_bitsWith_20 ?_
  refine s_X10_bitsWith_22 hI (Nat.le_of_ble_eq_true rfl) (m_in (nI q) _ _) ?_
  intro h9 e9; rw [e9]; clear e9 h9
  rw [h2]
  refine s_X10_bitsWith_25 (fun h => absurd h (by decide)) (fun _ => ?_)
  refine s_X10_bitsWith_28 ?_
  refine s_X10_bitsWith_29 ?_
  refine s_X10_bitsWith_33 ?_
  refine s_X10_bitsWith_34 hI rfl (by decide) (Nat.le_of_ble_eq_true rfl) (m_thenT hI u10) ?_
  intro h9 e9; rw [e9]; clear e9 h9
  refine s_X10_bitsWith_37 (fun _ => ?_) (fun h => absurd h (by decide))
  refine s_X10_bitsWith_42 ?_
  refine s_X10_bitsWith_43 ?_
  refine s_X10_bitsWith_44 hI rfl (by decide) (Nat.le_of_ble_eq_true rfl) (m_leavesBy hI (uz hz 0) ok (kd := k) (by omega)) ?_
  intro h5 ⟨g1, g2⟩
  refine s_X10_bitsWith_47 rfl ?_
  refine s_X10_bitsWith_48 ?_
  refine s_X10_bitsWith_49 ?_
  refine s_X10_bitsWith_50 ?_
  refine s_X10_bitsWith_51 hI rfl (by decide) (Nat.le_of_ble_eq_true rfl) (m_blockBits hI ((g1 124 (by decide)).trans (uz hz 0)) ok g2 (zn_b ok hj) hq) ?_
  intro h9 e9; rw [e9]; clear e9 h9
  exact s_X10_bitsWith_54 (hΦ _ (MSt g1 (by decide)))
