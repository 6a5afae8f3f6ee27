/-! ===== the Study, its last: why, and sums of blocks ===== -/
/-- no other kind than the best is allowed, below n -/
def alr (al : Nat → Bool) (best : Nat) : Nat → Bool
  | 0 => true
  | n + 1 => if n ≠ best ∧ al n = true then false else alr al best n
/-- every other one that is allowed wants more -/
def ahr (al : Nat → Bool) (f : Nat → Int32) (best : Nat) : Nat → Bool
  | 0 => true
  | n + 1 => if n ≠ best ∧ al n = true then ahr al f best n && decide (f best < f n) else ahr al f best n
def zwhy (z : Nat → Int32) (b : Nat) : Int32 := if alr (zal z) (zkf z b) 5 = true then 1 else if ahr (zal z) (fun kd => zfb z kd b) (zkf z b) 5 = true then 2 else 3
theorem zkf_lt (z : Nat → Int32) (b : Nat) : zkf z b < 5 := by
  have := kbl_le (zal z) (fun kd => zfb z kd b) 5
  unfold zkf
  omega
theorem c_reasonFor {hi : am_HI} {g : am_G} (hI : am_Inv g) {z : Nat → Int32} (hz : ZS hi 2 z) (ok : OKz z) (fp : FP hi z (zn z)) {b : Nat} (hb : b < zn z) : am_Cr M_X7_reasonFor [.ref 1, .int (nI b)] hi g (some (.int (zwhy z b))) (fun h => h = hi) := by
  have h6 := zn_lt ok
  have hk5 := zkf_lt z b
  obtain ⟨w1, w2, w3⟩ := hr32 hk5
  refine am_crn (by decide) (Nat.le_of_ble_eq_true rfl) (fun Φ hΦ => ?_)
  show AP M_X7_reasonFor _ 0 [.ref 1, .int (nI b), jk, jk, jk, jk] [] _ g Φ
  refine s_X7_reasonFor_0 ?_
  refine s_X7_reasonFor_1 ?_
  refine s_X7_reasonFor_2 hI rfl (by decide) (Nat.le_of_ble_eq_true rfl) (c_kindFor hI hz ok fp hb) ?_
  intro h9 e9; rw [e9]; clear e9 h9
  refine s_X7_reasonFor_5 rfl ?_
  refine s_X7_reasonFor_6 ?_
  refine s_X7_reasonFor_7 rfl ?_
  refine s_X7_reasonFor_8 ?_
  refine s_X7_reasonFor_9 rfl ?_
  refine s_X7_reasonFor_11 ?_
  refine s_X7_reasonFor_12 rfl ?_
  have key := am_for0 (n := 5) (hi := hi) (fun _ h => h = hi) (fun t h => AP M_X7_reasonFor (0, 0) 14 [.ref 1, .int (nI b), .int (nI (zkf z b)), .int (bI (alr (zal z) (zkf z b) t)), .int (bI (ahr (zal z) (fun kd => zfb z kd b) (zkf z b) t)), .int (nI t)] [] h g Φ) rfl ?_ ?_
  · exact key
  · intro h9 e9
    obtain rfl := e9.symm
    refine s_X7_reasonFor_14 ?_
    refine s_X7_reasonFor_16 ?_
    refine s_X7_reasonFor_17 (fun _ => ?_) (fun h => absurd ((nI_le (a := 5) (b := 5) (by decide) (by decide))) h)
    refine s_X7_reasonFor_78 ?_
    refine s_X7_reasonFor_79 (fun h1 => ?_) (fun h1 => ?_)
    · refine s_X7_reasonFor_86 ?_
      refine s_X7_reasonFor_88 (fun h2 => ?_) (fun h2 => ?_)
      · refine s_X7_reasonFor_95 ?_
        refine s_X7_reasonFor_96 ?_
        rw [zwhy, if_neg (by rw [bI_e0.mp h1]; decide), if_neg (by rw [bI_e0.mp h2]; decide)] at hΦ
        exact hΦ _ rfl
      · refine s_X7_reasonFor_91 ?_
        refine s_X7_reasonFor_92 ?_
        refine s_X7_reasonFor_96 ?_
        rw [zwhy, if_neg (by rw [bI_e0.mp h1]; decide), if_pos (bI_n0.mp h2)] at hΦ
        exact hΦ _ rfl
    · refine s_X7_reasonFor_82 ?_
      refine s_X7_reasonFor_83 ?_
      refine s_X7_reasonFor_96 ?_
      rw [zwhy, if_pos (bI_n0.mp h1)] at hΦ
      exact hΦ _ rfl
  · intro t h9 ht e9 ih
    obtain rfl := e9.symm
    obtain ⟨u1, u2, u3⟩ := hr32 ht
    have ih' := ih _ rfl
    have ea := alr.eq_2 (zal z) (zkf z b) t
    have eh := ahr.eq_2 (zal z) (fun kd => zfb z kd b) (zkf z b) t
    refine s_X7_reasonFor_14 ?_
    refine s_X7_reasonFor_16 ?_
    refine s_X7_reasonFor_17 (fun h => absurd h ((nI_ge (a := t) (b := 5) (by omega) (by decide)))) (fun _ => ?_)
    refine s_X7_reasonFor_20 ?_
    refine s_X7_reasonFor_22 ?_
    refine s_X7_reasonFor_23 (fun hn => ?_) (fun hn => ?_)
    · refine s_X7_reasonFor_72 (by first | assumption | rfl | decide | omega) ?_
      refine s_X7_reasonFor_75 ?_
      rw [nI_eq (by omega) (by omega)] at hn
      rw [if_neg (fun q => q.1 hn)] at ea eh
      rw [ea, eh] at ih'
      rw [nI_1]
      exact ih'
    · refine s_X7_reasonFor_26 ?_
      refine s_X7_reasonFor_27 hI (by first | assumption | rfl | decide | omega) (by first | assumption | rfl | decide | omega) (by first | assumption | rfl | decide | omega) (by first | assumption | rfl | decide | omega) ?_
      refine s_X7_reasonFor_30 ?_
      rw [nI_eq (by omega) (by omega)] at hn
      refine s_X7_reasonFor_32 hI (by first | assumption | rfl | decide | omega) (by first | assumption | rfl | decide | omega) (Nat.le_of_ble_eq_true rfl) (c_allZ hI hz t) ?_
      intro h9 e9; rw [e9]; clear e9 h9
      refine s_X7_reasonFor_35 (fun ha => ?_) (fun ha => ?_)
      · refine s_X7_reasonFor_72 (by first | assumption | rfl | decide | omega) ?_
        refine s_X7_reasonFor_75 ?_
        rw [if_neg (fun q => by rw [bI_e0.mp ha] at q; cases q.2)] at ea eh
        rw [ea, eh] at ih'
        rw [nI_1]
        exact ih'
      · refine s_X7_reasonFor_38 ?_
        refine s_X7_reasonFor_39 (by first | assumption | rfl | decide | omega) ?_
        refine s_X7_reasonFor_40 ?_
        rw [if_pos ⟨hn, bI_n0.mp ha⟩] at ea eh
        rw [ea, eh] at ih'
        refine s_X7_reasonFor_42 (fun hc => ?_) (fun hc => ?_)
        · refine s_X7_reasonFor_69 ?_
          refine s_X7_reasonFor_70 (by first | assumption | rfl | decide | omega) ?_
          refine s_X7_reasonFor_72 (by first | assumption | rfl | decide | omega) ?_
          refine s_X7_reasonFor_75 ?_
          rw [bI_e0.mp hc] at ih'
          rw [nI_1]
          exact ih'
        · refine s_X7_reasonFor_45 ?_
          refine s_X7_reasonFor_46 hI (by first | assumption | rfl | decide | omega) (by first | assumption | rfl | decide | omega) (by first | assumption | rfl | decide | omega) (by first | assumption | rfl | decide | omega) ?_
          refine s_X7_reasonFor_49 ?_
          refine s_X7_reasonFor_51 hI (by first | assumption | rfl | decide | omega) (by first | assumption | rfl | decide | omega) (by first | assumption | rfl | decide | omega) (rfl) (ht) ((hI.2 32 t (by decide)).trans u1) ?_
          refine s_X7_reasonFor_52 ?_
          refine s_X7_reasonFor_53 hI (by first | assumption | rfl | decide | omega) (by first | assumption | rfl | decide | omega) (by first | assumption | rfl | decide | omega) (rfl) (by omega) ?_
          refine s_X7_reasonFor_54 ?_
          refine s_X7_reasonFor_55 hI (by first | assumption | rfl | decide | omega) (by first | assumption | rfl | decide | omega) (by first | assumption | rfl | decide | omega) (by first | assumption | rfl | decide | omega) ?_
          refine s_X7_reasonFor_58 ?_
          refine s_X7_reasonFor_59 hI (by first | assumption | rfl | decide | omega) (by first | assumption | rfl | decide | omega) (by first | assumption | rfl | decide | omega) (rfl) (hk5) ((hI.2 32 _ (by decide)).trans w1) ?_
          refine s_X7_reasonFor_60 ?_
          refine s_X7_reasonFor_61 hI (by first | assumption | rfl | decide | omega) (by first | assumption | rfl | decide | omega) (by first | assumption | rfl | decide | omega) (rfl) (by omega) ?_
          rw [(fp b hb t ht).2, (fp b hb _ hk5).2]
          refine s_X7_reasonFor_62 (fun hd => ?_) (fun hd => ?_)
          · refine s_X7_reasonFor_69 ?_
            refine s_X7_reasonFor_70 (by first | assumption | rfl | decide | omega) ?_
            refine s_X7_reasonFor_72 (by first | assumption | rfl | decide | omega) ?_
            refine s_X7_reasonFor_75 ?_
            rw [decide_eq_false (Int32.not_lt.mpr hd), Bool.and_false] at ih'
            rw [nI_1]
            exact ih'
          · refine s_X7_reasonFor_65 ?_
            refine s_X7_reasonFor_66 ?_
            refine s_X7_reasonFor_70 (by first | assumption | rfl | decide | omega) ?_
            refine s_X7_reasonFor_72 (by first | assumption | rfl | decide | omega) ?_
            refine s_X7_reasonFor_75 ?_
            rw [bI_n0.mp hc, decide_eq_true (Int32.not_le.mp hd)] at ih'
            rw [nI_1]
            exact ih'
def sAll (z : Nat → Int32) (n : Nat) : Int32 := isum (fun b => zfb z (zkf z b) b) n
def sWith (z : Nat → Int32) (kd n : Nat) : Int32 := isum (fun b => if zkf z b = kd then zfb z kd b else 0) n
def sMany (z : Nat → Int32) (kd n : Nat) : Int32 := isum (fun b => if zkf z b = kd then 1 else 0) n
def sOnly (z : Nat → Int32) (kd n : Nat) : Int32 := isum (fun b => zfb z kd b) n
theorem c_sumOfBlocks {hi : am_HI} {g : am_G} (hI : am_Inv g) {z : Nat → Int32} (hz : ZS hi 2 z) (ok : OKz z) (fp : FP hi z (zn z)) : am_Cr M_X7_sumOfBlocks [.ref 1] hi g (some (.int (sAll z (zn z)))) (fun h => h = hi) := by
  have h6 := zn_lt ok
  refine am_crn (by decide) (Nat.le_of_ble_eq_true rfl) (fun Φ hΦ => ?_)
  show AP M_X7_sumOfBlocks _ 0 [.ref 1, jk, jk] [] _ g Φ
  refine s_X7_sumOfBlocks_0 ?_
  refine s_X7_sumOfBlocks_1 rfl ?_
  refine s_X7_sumOfBlocks_2 ?_
  refine s_X7_sumOfBlocks_3 rfl ?_
  have key := am_for0 (n := zn z) (hi := hi) (fun _ h => h = hi) (fun t h => AP M_X7_sumOfBlocks (0, 0) 4 [.ref 1, .int (sAll z t), .int (nI t)] [] h g Φ) rfl ?_ ?_
  · exact key
  · intro h9 e9
    obtain rfl := e9.symm
    refine s_X7_sumOfBlocks_4 ?_
    refine s_X7_sumOfBlocks_5 ?_
    refine s_X7_sumOfBlocks_6 hI rfl (by decide) rfl (by decide) ?_
    refine s_X7_sumOfBlocks_9 hI rfl (by decide) ?_
    refine s_X7_sumOfBlocks_12 hI (Nat.le_of_ble_eq_true rfl) (c_blocks hz ok) ?_
    intro h9 e9; rw [e9]; clear e9 h9
    refine s_X7_sumOfBlocks_15 (fun _ => ?_) (fun h => absurd ((nI_le (Nat.le_refl _) (by omega))) h)
    refine s_X7_sumOfBlocks_39 ?_
    exact s_X7_sumOfBlocks_40 (hΦ _ rfl)
  · intro t h9 ht e9 ih
    obtain rfl := e9.symm
    have hk5 := zkf_lt z t
    obtain ⟨w1, w2, w3⟩ := hr32 hk5
    refine s_X7_sumOfBlocks_4 ?_
    refine s_X7_sumOfBlocks_5 ?_
    refine s_X7_sumOfBlocks_6 hI (by first | assumption | rfl | decide | omega) (by first | assumption | rfl | decide | omega) (by first | assumption | rfl | decide | omega) (by first | assumption | rfl | decide | omega) ?_
    refine s_X7_sumOfBlocks_9 hI (by first | assumption | rfl | decide | omega) (by first | assumption | rfl | decide | omega) ?_
    refine s_X7_sumOfBlocks_12 hI (Nat.le_of_ble_eq_true rfl) (c_blocks hz ok) ?_
    intro h9 e9; rw [e9]; clear e9 h9
    refine s_X7_sumOfBlocks_15 (fun h => absurd h ((nI_ge ht (by omega)))) (fun _ => ?_)
    refine s_X7_sumOfBlocks_18 ?_
    refine s_X7_sumOfBlocks_19 ?_
    refine s_X7_sumOfBlocks_20 hI (by first | assumption | rfl | decide | omega) (by first | assumption | rfl | decide | omega) (by first | assumption | rfl | decide | omega) (by first | assumption | rfl | decide | omega) ?_
    refine s_X7_sumOfBlocks_23 ?_
    refine s_X7_sumOfBlocks_24 ?_
    refine s_X7_sumOfBlocks_25 hI (by first | assumption | rfl | decide | omega) (by first | assumption | rfl | decide | omega) (Nat.le_of_ble_eq_true rfl) (c_kindFor hI hz ok fp ht) ?_
    intro h9 e9; rw [e9]; clear e9 h9
    refine s_X7_sumOfBlocks_28 hI (by first | assumption | rfl | decide | omega) (by first | assumption | rfl | decide | omega) (by first | assumption | rfl | decide | omega) (rfl) (hk5) ((hI.2 32 _ (by decide)).trans w1) ?_
    refine s_X7_sumOfBlocks_29 ?_
    refine s_X7_sumOfBlocks_30 hI (by first | assumption | rfl | decide | omega) (by first | assumption | rfl | decide | omega) (by first | assumption | rfl | decide | omega) (rfl) (by omega) ?_
    refine s_X7_sumOfBlocks_31 ?_
    refine s_X7_sumOfBlocks_32 (by first | assumption | rfl | decide | omega) ?_
    refine s_X7_sumOfBlocks_33 (by first | assumption | rfl | decide | omega) ?_
    refine s_X7_sumOfBlocks_36 ?_
    rw [(fp t ht _ hk5).2, nI_1]
    exact ih _ rfl
theorem c_sumOfBlocksWith {hi : am_HI} {g : am_G} (hI : am_Inv g) {z : Nat → Int32} (hz : ZS hi 2 z) (ok : OKz z) (fp : FP hi z (zn z)) {kd : Nat} (hk : kd < 5) : am_Cr M_X7_sumOfBlocksWith [.ref 1, .int (nI kd)] hi g (some (.int (sWith z kd (zn z)))) (fun h => h = hi) := by
  have h6 := zn_lt ok
  obtain ⟨w1, w2, w3⟩ := hr32 hk
  refine am_crn (by decide) (Nat.le_of_ble_eq_true rfl) (fun Φ hΦ => ?_)
  show AP M_X7_sumOfBlocksWith _ 0 [.ref 1, .int (nI kd), jk, jk] [] _ g Φ
  refine s_X7_sumOfBlocksWith_0 ?_
  refine s_X7_sumOfBlocksWith_1 rfl ?_
  refine s_X7_sumOfBlocksWith_2 ?_
  refine s_X7_sumOfBlocksWith_3 rfl ?_
  have key := am_for0 (n := zn z) (hi := hi) (fun _ h => h = hi) (fun t h => AP M_X7_sumOfBlocksWith (0, 0) 4 [.ref 1, .int (nI kd), .int (sWith z kd t), .int (nI t)] [] h g Φ) rfl ?_ ?_
  · exact key
  · intro h9 e9
    obtain rfl := e9.symm
    refine s_X7_sumOfBlocksWith_4 ?_
    refine s_X7_sumOfBlocksWith_5 ?_
    refine s_X7_sumOfBlocksWith_6 hI rfl (by decide) rfl (by decide) ?_
    refine s_X7_sumOfBlocksWith_9 hI rfl (by decide) ?_
    refine s_X7_sumOfBlocksWith_12 hI (Nat.le_of_ble_eq_true rfl) (c_blocks hz ok) ?_
    intro h9 e9; rw [e9]; clear e9 h9
    refine s_X7_sumOfBlocksWith_15 (fun _ => ?_) (fun h => absurd ((nI_le (Nat.le_refl _) (by omega))) h)
    refine s_X7_sumOfBlocksWith_48 ?_
    exact s_X7_sumOfBlocksWith_49 (hΦ _ rfl)
  · intro t h9 ht e9 ih
    obtain rfl := e9.symm
    have hk5 := zkf_lt z t
    have ih' := ih _ rfl
    have es : sWith z kd (t + 1) = sWith z kd t + if zkf z t = kd then zfb z kd t else 0 := rfl
    refine s_X7_sumOfBlocksWith_4 ?_
    refine s_X7_sumOfBlocksWith_5 ?_
    refine s_X7_sumOfBlocksWith_6 hI (by first | assumption | rfl | decide | omega) (by first | assumption | rfl | decide | omega) (by first | assumption | rfl | decide | omega) (by first | assumption | rfl | decide | omega) ?_
    refine s_X7_sumOfBlocksWith_9 hI (by first | assumption | rfl | decide | omega) (by first | assumption | rfl | decide | omega) ?_
    refine s_X7_sumOfBlocksWith_12 hI (Nat.le_of_ble_eq_true rfl) (c_blocks hz ok) ?_
    intro h9 e9; rw [e9]; clear e9 h9
    refine s_X7_sumOfBlocksWith_15 (fun h => absurd h ((nI_ge ht (by omega)))) (fun _ => ?_)
    refine s_X7_sumOfBlocksWith_18 ?_
    refine s_X7_sumOfBlocksWith_19 ?_
    refine s_X7_sumOfBlocksWith_20 ?_
    refine s_X7_sumOfBlocksWith_21 hI (by first | assumption | rfl | decide | omega) (by first | assumption | rfl | decide | omega) (Nat.le_of_ble_eq_true rfl) (c_kindFor hI hz ok fp ht) ?_
    intro h9 e9; rw [e9]; clear e9 h9
    refine s_X7_sumOfBlocksWith_24 ?_
    refine s_X7_sumOfBlocksWith_25 (fun hh => ?_) (fun hh => ?_)
    · refine s_X7_sumOfBlocksWith_39 ?_
      refine s_X7_sumOfBlocksWith_40 ?_
      refine s_X7_sumOfBlocksWith_41 (by first | assumption | rfl | decide | omega) ?_
      refine s_X7_sumOfBlocksWith_42 (by first | assumption | rfl | decide | omega) ?_
      refine s_X7_sumOfBlocksWith_45 ?_
      rw [nI_eq (by omega) (by omega)] at hh
      rw [es, if_neg hh] at ih'
      rw [nI_1]
      exact ih'
    · refine s_X7_sumOfBlocksWith_28 ?_
      refine s_X7_sumOfBlocksWith_29 hI (by first | assumption | rfl | decide | omega) (by first | assumption | rfl | decide | omega) (by first | assumption | rfl | decide | omega) (by first | assumption | rfl | decide | omega) ?_
      refine s_X7_sumOfBlocksWith_32 ?_
      rw [nI_eq (by omega) (by omega)] at hh
      rw [es, if_pos hh] at ih'
      refine s_X7_sumOfBlocksWith_33 hI (by first | assumption | rfl | decide | omega) (by first | assumption | rfl | decide | omega) (by first | assumption | rfl | decide | omega) (rfl) (hk) ((hI.2 32 _ (by decide)).trans w1) ?_
      refine s_X7_sumOfBlocksWith_34 ?_
      refine s_X7_sumOfBlocksWith_35 hI (by first | assumption | rfl | decide | omega) (by first | assumption | rfl | decide | omega) (by first | assumption | rfl | decide | omega) (rfl) (by omega) ?_
      refine s_X7_sumOfBlocksWith_36 ?_
      refine s_X7_sumOfBlocksWith_40 ?_
      refine s_X7_sumOfBlocksWith_41 (by first | assumption | rfl | decide | omega) ?_
      refine s_X7_sumOfBlocksWith_42 (by first | assumption | rfl | decide | omega) ?_
      refine s_X7_sumOfBlocksWith_45 ?_
      rw [(fp t ht _ hk).2, nI_1]
      exact ih'
theorem c_countBlocksWith {hi : am_HI} {g : am_G} (hI : am_Inv g) {z : Nat → Int32} (hz : ZS hi 2 z) (ok : OKz z) (fp : FP hi z (zn z)) {kd : Nat} (hk : kd < 5) : am_Cr M_X7_countBlocksWith [.ref 1, .int (nI kd)] hi g (some (.int (sMany z kd (zn z)))) (fun h => h = hi) := by
  have h6 := zn_lt ok
  refine am_crn (by decide) (Nat.le_of_ble_eq_true rfl) (fun Φ hΦ => ?_)
  show AP M_X7_countBlocksWith _ 0 [.ref 1, .int (nI kd), jk, jk] [] _ g Φ
  refine s_X7_countBlocksWith_0 ?_
  refine s_X7_countBlocksWith_1 rfl ?_
  refine s_X7_countBlocksWith_2 ?_
  refine s_X7_countBlocksWith_3 rfl ?_
  have key := am_for0 (n := zn z) (hi := hi) (fun _ h => h = hi) (fun t h => AP M_X7_countBlocksWith (0, 0) 4 [.ref 1, .int (nI kd), .int (sMany z kd t), .int (nI t)] [] h g Φ) rfl ?_ ?_
  · exact key
  · intro h9 e9
    obtain rfl := e9.symm
    refine s_X7_countBlocksWith_4 ?_
    refine s_X7_countBlocksWith_5 ?_
    refine s_X7_countBlocksWith_6 hI rfl (by decide) rfl (by decide) ?_
    refine s_X7_countBlocksWith_9 hI rfl (by decide) ?_
    refine s_X7_countBlocksWith_12 hI (Nat.le_of_ble_eq_true rfl) (c_blocks hz ok) ?_
    intro h9 e9; rw [e9]; clear e9 h9
    refine s_X7_countBlocksWith_15 (fun _ => ?_) (fun h => absurd ((nI_le (Nat.le_refl _) (by omega))) h)
    refine s_X7_countBlocksWith_41 ?_
    exact s_X7_countBlocksWith_42 (hΦ _ rfl)
  · intro t h9 ht e9 ih
    obtain rfl := e9.symm
    have hk5 := zkf_lt z t
    have ih' := ih _ rfl
    have es : sMany z kd (t + 1) = sMany z kd t + if zkf z t = kd then 1 else 0 := rfl
    refine s_X7_countBlocksWith_4 ?_
    refine s_X7_countBlocksWith_5 ?_
    refine s_X7_countBlocksWith_6 hI rfl (by decide) rfl (by decide) ?_
    refine s_X7_countBlocksWith_9 hI rfl (by decide) ?_
    refine s_X7_countBlocksWith_12 hI (Nat.le_of_ble_eq_true rfl) (c_blocks hz ok) ?_
    intro h9 e9; rw [e9]; clear e9 h9
    refine s_X7_countBlocksWith_15 (fun h => absurd h ((nI_ge ht (by omega)))) (fun _ => ?_)
    refine s_X7_countBlocksWith_18 ?_
    refine s_X7_countBlocksWith_19 ?_
    refine s_X7_countBlocksWith_20 ?_
    refine s_X7_countBlocksWith_21 hI rfl (by decide) (Nat.le_of_ble_eq_true rfl) (c_kindFor hI hz ok fp ht) ?_
    intro h9 e9; rw [e9]; clear e9 h9
    refine s_X7_countBlocksWith_24 ?_
    refine s_X7_countBlocksWith_25 (fun hh => ?_) (fun hh => ?_)
    · refine s_X7_countBlocksWith_32 ?_
      refine s_X7_countBlocksWith_33 ?_
      refine s_X7_countBlocksWith_34 rfl ?_
      refine s_X7_countBlocksWith_35 rfl ?_
      refine s_X7_countBlocksWith_38 ?_
      rw [nI_eq (by omega) (by omega)] at hh
      rw [es, if_neg hh] at ih'
      rw [nI_1]
      exact ih'
    · refine s_X7_countBlocksWith_28 ?_
      refine s_X7_countBlocksWith_29 ?_
      refine s_X7_countBlocksWith_33 ?_
      refine s_X7_countBlocksWith_34 rfl ?_
      refine s_X7_countBlocksWith_35 rfl ?_
      refine s_X7_countBlocksWith_38 ?_
      rw [nI_eq (by omega) (by omega)] at hh
      rw [es, if_pos hh] at ih'
      rw [nI_1]
      exact ih'
theorem c_sumIfOnly {hi : am_HI} {g : am_G} (hI : am_Inv g) {z : Nat → Int32} (hz : ZS hi 2 z) (ok : OKz z) (fp : FP hi z (zn z)) {kd : Nat} (hk : kd < 5) : am_Cr M_X7_sumIfOnly [.ref 1, .int (nI kd)] hi g (some (.int (sOnly z kd (zn z)))) (fun h => h = hi) := by
  have h6 := zn_lt ok
  obtain ⟨w1, w2, w3⟩ := hr32 hk
  refine am_crn (by decide) (Nat.le_of_ble_eq_true rfl) (fun Φ hΦ => ?_)
  show AP M_X7_sumIfOnly _ 0 [.ref 1, .int (nI kd), jk, jk] [] _ g Φ
  refine s_X7_sumIfOnly_0 ?_
  refine s_X7_sumIfOnly_1 rfl ?_
  refine s_X7_sumIfOnly_2 ?_
  refine s_X7_sumIfOnly_3 rfl ?_
  have key := am_for0 (n := zn z) (hi := hi) (fun _ h => h = hi) (fun t h => AP M_X7_sumIfOnly (0, 0) 4 [.ref 1, .int (nI kd), .int (sOnly z kd t), .int (nI t)] [] h g Φ) rfl ?_ ?_
  · exact key
  · intro h9 e9
    obtain rfl := e9.symm
    refine s_X7_sumIfOnly_4 ?_
    refine s_X7_sumIfOnly_5 ?_
    refine s_X7_sumIfOnly_6 hI rfl (by decide) rfl (by decide) ?_
    refine s_X7_sumIfOnly_9 hI rfl (by decide) ?_
    refine s_X7_sumIfOnly_12 hI (Nat.le_of_ble_eq_true rfl) (c_blocks hz ok) ?_
    intro h9 e9; rw [e9]; clear e9 h9
    refine s_X7_sumIfOnly_15 (fun _ => ?_) (fun h => absurd ((nI_le (Nat.le_refl _) (by omega))) h)
    refine s_X7_sumIfOnly_35 ?_
    exact s_X7_sumIfOnly_36 (hΦ _ rfl)
  · intro t h9 ht e9 ih
    obtain rfl := e9.symm
    refine s_X7_sumIfOnly_4 ?_
    refine s_X7_sumIfOnly_5 ?_
    refine s_X7_sumIfOnly_6 hI (by first | assumption | rfl | decide | omega) (by first | assumption | rfl | decide | omega) (by first | assumption | rfl | decide | omega) (by first | assumption | rfl | decide | omega) ?_
    refine s_X7_sumIfOnly_9 hI (by first | assumption | rfl | decide | omega) (by first | assumption | rfl | decide | omega) ?_
    refine s_X7_sumIfOnly_12 hI (Nat.le_of_ble_eq_true rfl) (c_blocks hz ok) ?_
    intro h9 e9; rw [e9]; clear e9 h9
    refine s_X7_sumIfOnly_15 (fun h => absurd h ((nI_ge ht (by omega)))) (fun _ => ?_)
    refine s_X7_sumIfOnly_18 ?_
    refine s_X7_sumIfOnly_19 ?_
    refine s_X7_sumIfOnly_20 hI (by first | assumption | rfl | decide | omega) (by first | assumption | rfl | decide | omega) (by first | assumption | rfl | decide | omega) (by first | assumption | rfl | decide | omega) ?_
    refine s_X7_sumIfOnly_23 ?_
    refine s_X7_sumIfOnly_24 hI (by first | assumption | rfl | decide | omega) (by first | assumption | rfl | decide | omega) (by first | assumption | rfl | decide | omega) (rfl) (hk) ((hI.2 32 _ (by decide)).trans w1) ?_
    refine s_X7_sumIfOnly_25 ?_
    refine s_X7_sumIfOnly_26 hI (by first | assumption | rfl | decide | omega) (by first | assumption | rfl | decide | omega) (by first | assumption | rfl | decide | omega) (rfl) (by omega) ?_
    refine s_X7_sumIfOnly_27 ?_
    refine s_X7_sumIfOnly_28 (by first | assumption | rfl | decide | omega) ?_
    refine s_X7_sumIfOnly_29 (by first | assumption | rfl | decide | omega) ?_
    refine s_X7_sumIfOnly_32 ?_
    rw [(fp t ht _ hk).2, nI_1]
    exact ih _ rfl
