/-! ===== loudness, mean, their bits: the methods ===== -/
theorem dcmp_0 {c : Nat} {q : Int} (h : nrm c q) : FP.dcmp (uD c q) FP.dconst0 = some .gt := by
  show FP.Core.order (FP.Core.decode fb (uD c q).toNat) (FP.Core.decode fb 0) = _
  rw [uD_n h, dec_D h, show FP.Core.decode fb 0 = .fin false 0 (-1074) from by decide +kernel, ord_fin]
  have h2 : 0 < c * 2 ^ (q - min q (-1074)).toNat := Nat.mul_pos (by have := h.1; omega) (Nat.two_pow_pos _)
  rw [Nat.zero_mul, if_neg (by omega), if_neg (by omega)]
theorem dcmp_eq {c : Nat} {q : Int} (h : nrm c q) : FP.dcmp (uD c q) (uD c q) = some .eq := by
  rw [dcmp_uD h h, ord_fin, if_neg (by omega), if_pos rfl]
theorem c_isNaN {hi : am_HI} {g : am_G} {x : UInt64} (hx : okd x) : am_Cr M_Jxe99ae_isNaN_b9ae7 [.double x] hi g (some (.int 0)) (fun h => h = hi) := by
  have e : FP.dcmp x x = some .eq := by
    rcases hx with rfl | ⟨c, r, h1, -, -, rfl⟩
    · decide +kernel
    · exact dcmp_eq h1
  refine am_crn (by decide +kernel) (Nat.le_of_ble_eq_true rfl) (fun Φ hΦ => ?_)
  show AP M_Jxe99ae_isNaN_b9ae7 _ 0 [.double x, jk] [] _ g Φ
  refine s_Jxe99ae_isNaN_b9ae7_0 ?_
  refine s_Jxe99ae_isNaN_b9ae7_1 ?_
  refine s_Jxe99ae_isNaN_b9ae7_2 ?_
  rw [e]
  refine s_Jxe99ae_isNaN_b9ae7_3 (fun _ => ?_) (fun h => absurd (by decide) h)
  refine s_Jxe99ae_isNaN_b9ae7_10 ?_
  exact s_Jxe99ae_isNaN_b9ae7_11 (by first | exact Or.inl rfl | exact Or.inr rfl | exact bI_01 _) (hΦ _ (rfl))
theorem c_d2lb {hi : am_HI} {g : am_G} (hI : am_Inv g) {x : UInt64} (hx : okd x) : am_Cr M_Jxe99ae_doubleToLongBits_ccdee [.double x] hi g (some (.long x.toInt64)) (fun h => h = hi) := by
  refine am_crn (by decide +kernel) (Nat.le_of_ble_eq_true rfl) (fun Φ hΦ => ?_)
  show AP M_Jxe99ae_doubleToLongBits_ccdee _ 0 [.double x, jk] [] _ g Φ
  refine s_Jxe99ae_doubleToLongBits_ccdee_0 ?_
  refine s_Jxe99ae_doubleToLongBits_ccdee_1 hI (Nat.le_of_ble_eq_true rfl) (c_isNaN hx) ?_
  intro h9 e9; rw [e9]; clear e9 h9
  refine s_Jxe99ae_doubleToLongBits_ccdee_4 (fun h => absurd (Eq.refl (0 : Int32)) h) (fun _ => ?_)
  refine s_Jxe99ae_doubleToLongBits_ccdee_7 ?_
  refine s_Jxe99ae_doubleToLongBits_ccdee_8 ?_
  exact s_Jxe99ae_doubleToLongBits_ccdee_11 (hΦ _ (rfl))
theorem c_bitsOfDouble {hi : am_HI} {g : am_G} {x : UInt64} (hx : okd x) : am_Cr M_X9_bitsOfDouble [.double x] hi g (some (.long x.toInt64)) (fun h => h = hi) := by
  rcases hx with rfl | ⟨c, q, h, q1, q2, rfl⟩
  · refine am_crn (by decide) (Nat.le_of_ble_eq_true rfl) (fun Φ hΦ => ?_)
    show AP M_X9_bitsOfDouble _ 0 [.double 0, jk, jk, jk, jk, jk] [] _ g Φ
    refine s_X9_bitsOfDouble_0 ?_
    refine s_X9_bitsOfDouble_1 ?_
    refine s_X9_bitsOfDouble_2 ?_
    rw [show FP.dcmp 0 FP.dconst0 = some .eq from by decide +kernel]
    refine s_X9_bitsOfDouble_3 (fun h => absurd h (by decide)) (fun _ => ?_)
    refine s_X9_bitsOfDouble_6 ?_
    exact s_X9_bitsOfDouble_7 (hΦ _ (rfl))
  have h1 := h.1
  have h2 := h.2.1
  have nq : ∀ r : Int, -100 ≤ r → r ≤ 100 → nrm c r := fun r a b => ⟨h1, h2, by omega, by omega⟩
  obtain ⟨E, hE⟩ : ∃ E : Nat, (q + 1075).toNat = E := ⟨_, rfl⟩
  have hEq : (E : Int) = q + 1075 := by omega
  have fin : ∀ Φ : am_P, Φ (.ok (some (.long (uD c q).toInt64))) hi g → AP M_X9_bitsOfDouble (0, 0) 75 [.double (uD c q), jk, .double (uD c (-52)), jk, .long (lE E), jk] [] hi g Φ := by
    intro Φ hΦ
    obtain ⟨n1, n2, n3⟩ := frac_uD (nq (-52) (by omega) (by omega))
    have e1 := (lE_ok (n := E) (by omega) (by omega)).2.2.2.2
    have e2 : lE (E * 4503599627370496) ||| Int64.ofInt ((c - 4503599627370496 : Nat) : Int) = (uD c q).toInt64 := by
      rw [lE_or (by omega)]
      unfold uD
      rw [fD_val h, hE]
    refine s_X9_bitsOfDouble_75 ?_
    refine s_X9_bitsOfDouble_77 ?_
    refine s_X9_bitsOfDouble_79 ?_
    refine s_X9_bitsOfDouble_80 ?_
    refine s_X9_bitsOfDouble_81 ?_
    refine s_X9_bitsOfDouble_82 (n1) ?_
    refine s_X9_bitsOfDouble_83 ?_
    refine s_X9_bitsOfDouble_86 (n2) ?_
    refine s_X9_bitsOfDouble_87 ?_
    refine s_X9_bitsOfDouble_88 ?_
    refine s_X9_bitsOfDouble_89 ?_
    rw [n3, e1, e2]
    exact hΦ
  have L2 : ∀ (j : Nat) (Φ : am_P), j ≤ 30 → Φ (.ok (some (.long (uD c q).toInt64))) hi g → AP M_X9_bitsOfDouble (0, 0) 47 [.double (uD c q), jk, .double (uD c (-52 - j)), jk, .long (lE (E + j)), jk] [] hi g Φ := by
    intro j
    induction j with
    | zero =>
      intro Φ hj hΦ
      rw [show (-52 - ((0 : Nat) : Int)) = -52 from rfl, Nat.add_zero]
      have hc := dcmp_ge (nq (-52) (by omega) (by omega)) (nrm_2 (r := -52) (by decide)) (Int.le_refl _)
      refine s_X9_bitsOfDouble_47 ?_
      refine s_X9_bitsOfDouble_48 ?_
      refine s_X9_bitsOfDouble_49 ?_
      rw [one_uD]
      refine s_X9_bitsOfDouble_50 (fun _ => ?_) (fun h => absurd (by (rcases hc with e | e <;> rw [e] <;> decide)) h)
      exact fin Φ hΦ
    | succ j ih =>
      intro Φ hj hΦ
      have hn := nq (-52 - ((j + 1 : Nat) : Int)) (by omega) (by omega)
      have hc := dcmp_lt hn (nrm_2 (r := -52) (by decide)) (by omega)
      have le := lE_ok (n := E + j) (by omega) (by omega)
      have le2 := lE_ok (n := E + (j + 1)) (by omega) (by omega)
      have et := twice_uD hn (by omega)
      refine s_X9_bitsOfDouble_47 ?_
      refine s_X9_bitsOfDouble_48 ?_
      refine s_X9_bitsOfDouble_49 ?_
      rw [one_uD, hc]
      refine s_X9_bitsOfDouble_50 (fun h => absurd h (by decide)) (fun _ => ?_)
      refine s_X9_bitsOfDouble_53 ?_
      refine s_X9_bitsOfDouble_55 ?_
      refine s_X9_bitsOfDouble_56 ?_
      refine s_X9_bitsOfDouble_57 (fun h => absurd h (le2.2.1)) (fun _ => ?_)
      refine s_X9_bitsOfDouble_60 ?_
      refine s_X9_bitsOfDouble_61 ?_
      refine s_X9_bitsOfDouble_64 ((by rw [et]; exact n64_uD (nq _ (by omega) (by omega)))) ?_
      refine s_X9_bitsOfDouble_65 rfl ?_
      refine s_X9_bitsOfDouble_66 ?_
      refine s_X9_bitsOfDouble_68 ?_
      refine s_X9_bitsOfDouble_69 ?_
      refine s_X9_bitsOfDouble_70 rfl ?_
      refine s_X9_bitsOfDouble_72 ?_
      rw [et, show E + (j + 1) = E + j + 1 from rfl, le.2.2.2.1, show (-52 - ((j + 1 : Nat) : Int)) + 1 = -52 - (j : Int) by omega]
      exact ih Φ (by omega) hΦ
  have L1 : ∀ (j e : Nat) (Φ : am_P), j ≤ 30 → 900 ≤ e → e + j = E → Φ (.ok (some (.long (uD c q).toInt64))) hi g → AP M_X9_bitsOfDouble (0, 0) 15 [.double (uD c q), jk, .double (uD c (-52 + j)), jk, .long (lE e), jk] [] hi g Φ := by
    intro j
    induction j with
    | zero =>
      intro e Φ hj he hej hΦ
      have hc := dcmp_lt (nq (-52) (by omega) (by omega)) (nrm_2 (r := -51) (by decide)) (by omega)
      rw [show (-52 + ((0 : Nat) : Int)) = -52 from rfl]
      refine s_X9_bitsOfDouble_15 ?_
      refine s_X9_bitsOfDouble_16 ?_
      refine s_X9_bitsOfDouble_19 ?_
      rw [two_uD, hc]
      refine s_X9_bitsOfDouble_20 (fun _ => ?_) (fun h => absurd (by decide) h)
      have := L2 0 Φ (by omega) hΦ
      rw [show E + 0 = e by omega] at this
      exact this
    | succ j ih =>
      intro e Φ hj he hej hΦ
      have hn := nq (-52 + ((j + 1 : Nat) : Int)) (by omega) (by omega)
      have hc := dcmp_ge hn (nrm_2 (r := -51) (by decide)) (by omega)
      have le := lE_ok (n := e) (by omega) (by omega)
      have et := half_uD hn (by omega)
      refine s_X9_bitsOfDouble_15 ?_
      refine s_X9_bitsOfDouble_16 ?_
      refine s_X9_bitsOfDouble_19 ?_
      refine s_X9_bitsOfDouble_20 (fun h => absurd h (by (rw [two_uD]; rcases hc with e | e <;> rw [e] <;> decide))) (fun _ => ?_)
      refine s_X9_bitsOfDouble_23 ?_
      refine s_X9_bitsOfDouble_25 ?_
      refine s_X9_bitsOfDouble_28 ?_
      refine s_X9_bitsOfDouble_29 (fun h => absurd h (le.1)) (fun _ => ?_)
      refine s_X9_bitsOfDouble_32 ?_
      refine s_X9_bitsOfDouble_33 ?_
      refine s_X9_bitsOfDouble_36 ((by rw [et]; exact n64_uD (nq _ (by omega) (by omega)))) ?_
      refine s_X9_bitsOfDouble_37 rfl ?_
      refine s_X9_bitsOfDouble_38 ?_
      refine s_X9_bitsOfDouble_40 ?_
      refine s_X9_bitsOfDouble_41 ?_
      refine s_X9_bitsOfDouble_42 rfl ?_
      refine s_X9_bitsOfDouble_44 ?_
      rw [et, le.2.2.1, show (-52 + ((j + 1 : Nat) : Int)) - 1 = -52 + (j : Int) by omega]
      exact ih (e + 1) Φ (by omega) (by omega) (by omega) hΦ
  refine am_crn (by decide) (Nat.le_of_ble_eq_true rfl) (fun Φ hΦ => ?_)
  show AP M_X9_bitsOfDouble _ 0 [.double (uD c q), jk, jk, jk, jk, jk] [] _ g Φ
  refine s_X9_bitsOfDouble_0 ?_
  refine s_X9_bitsOfDouble_1 ?_
  refine s_X9_bitsOfDouble_2 ?_
  rw [dcmp_0 h]
  refine s_X9_bitsOfDouble_3 (fun _ => ?_) (fun h => absurd (by decide) h)
  refine s_X9_bitsOfDouble_8 ?_
  refine s_X9_bitsOfDouble_9 rfl ?_
  refine s_X9_bitsOfDouble_10 ?_
  refine s_X9_bitsOfDouble_13 rfl ?_
  by_cases hq : -52 ≤ q
  · obtain ⟨j, hj⟩ : ∃ j : Nat, q = -52 + (j : Int) := ⟨(q + 52).toNat, by omega⟩
    have := L1 j 1023 Φ (by omega) (by omega) (by omega) (hΦ _ rfl)
    rw [← hj] at this
    exact this
  · obtain ⟨j, hj⟩ : ∃ j : Nat, q = -52 - (j : Int) := ⟨(-52 - q).toNat, by omega⟩
    have hc := dcmp_lt h (nrm_2 (r := -51) (by decide)) (by omega)
    have := L2 j Φ (by omega) (hΦ _ rfl)
    rw [← hj, show E + j = 1023 by omega] at this
    refine s_X9_bitsOfDouble_15 ?_
    refine s_X9_bitsOfDouble_16 ?_
    refine s_X9_bitsOfDouble_19 ?_
    rw [two_uD, hc]
    exact s_X9_bitsOfDouble_20 (fun _ => this) (fun e => absurd (by decide) e)
/-- the loudness -/
def lsum (z : Nat → Int32) (n : Nat) : Int32 := isum (fun t => absI (z t)) n
def lou (z : Nat → Int32) : UInt64 := if zc z = 0 then FP.dconst0 else FP.ddiv (FP.i2d (lsum z (zc z))) (FP.i2d (nI (zc z)))
theorem lsum_ok {z : Nat → Int32} (ok : OKz z) : ∃ a : Nat, a ≤ 4752 ∧ lsum z (zc z) = nI a := by
  have := isum_rng (f := fun t => absI (z t)) (B := 99) (zc z) (fun i hi => by
    have hr := ok.1.2.2.2.2.2.1 i (by have := ok.1.2.1; omega)
    exact absI_rng (by decide) hr.1 hr.2) (by have := ok.1.2.1; omega)
  have h48 := ok.1.2.1
  unfold lsum
  exact ⟨(isum (fun t => absI (z t)) (zc z)).toInt.toNat, by omega, am_ofInt this.1⟩
theorem lou_ok {z : Nat → Int32} (ok : OKz z) : okd (lou z) := by
  unfold lou
  split
  · exact Or.inl rfl
  · rename_i h
    obtain ⟨a, a1, a2⟩ := lsum_ok ok
    rw [a2]
    exact mean_ok a1 (by omega) ok.1.2.1
theorem lou_div {z : Nat → Int32} (ok : OKz z) (h : ¬ zc z = 0) : okd (FP.ddiv (FP.i2d (lsum z (zc z))) (FP.i2d (nI (zc z)))) := by
  have := lou_ok ok
  unfold lou at this
  rw [if_neg h] at this
  exact this
theorem r_loudness {hi : am_HI} {g : am_G} (hI : am_Inv g) {z : Nat → Int32} (hz : ZB hi 2 z) (ok : OKz z) : am_Cr M_X9_loudness [.ref 0] hi g (some (.double (lou z))) (fun h => RO hi h) := by
  have hc := (hz.1.so ok).1
  have h48 := ok.1.2.1
  unfold lou
  by_cases h0 : zc z = 0
  · rw [if_pos h0]
    refine am_crn (by decide) (Nat.le_of_ble_eq_true rfl) (fun Φ hΦ => ?_)
    show AP M_X9_loudness _ 0 [.ref 0, jk, jk] [] _ g Φ
    refine s_X9_loudness_0 ?_
    refine s_X9_loudness_1 hI rfl (by decide) rfl (by decide) ?_
    refine s_X9_loudness_4 hI rfl (by decide) ?_
    rw [hc, h0]
    refine s_X9_loudness_7 (fun h => absurd h (by decide)) (fun _ => ?_)
    refine s_X9_loudness_10 ?_
    exact s_X9_loudness_11 (hΦ _ (RO.rfl))
  · rw [if_neg h0]
    refine am_crn (by decide) (Nat.le_of_ble_eq_true rfl) (fun Φ hΦ => ?_)
    show AP M_X9_loudness _ 0 [.ref 0, jk, jk] [] _ g Φ
    refine s_X9_loudness_0 ?_
    refine s_X9_loudness_1 hI rfl (by decide) rfl (by decide) ?_
    refine s_X9_loudness_4 hI rfl (by decide) ?_
    rw [hc]
    refine s_X9_loudness_7 (fun _ => ?_) (fun h => absurd (nI_lt (a := 0) (b := zc z) (by omega) (by omega)) h)
    refine s_X9_loudness_12 ?_
    refine s_X9_loudness_13 rfl ?_
    refine s_X9_loudness_14 ?_
    refine s_X9_loudness_15 rfl ?_
    have key := am_for0 (n := zc z) (hi := hi) (fun _ h => h = hi) (fun t h => AP M_X9_loudness (0, 0) 16 [.ref 0, .int (lsum z t), .int (nI t)] [] h g Φ) rfl ?_ ?_
    · exact key
    · intro h9 e9
      obtain rfl := e9.symm
      refine s_X9_loudness_16 ?_
      refine s_X9_loudness_17 ?_
      refine s_X9_loudness_18 hI rfl (by decide) rfl (by decide) ?_
      refine s_X9_loudness_21 hI rfl (by decide) ?_
      rw [hc]
      refine s_X9_loudness_24 (fun _ => ?_) (fun h => absurd (nI_le (Nat.le_refl _) (by omega)) h)
      refine s_X9_loudness_47 ?_
      refine s_X9_loudness_48 ?_
      refine s_X9_loudness_49 ?_
      refine s_X9_loudness_50 hI rfl (by decide) rfl (by decide) ?_
      refine s_X9_loudness_53 hI rfl (by decide) ?_
      refine s_X9_loudness_56 ?_
      rw [hc]
      refine s_X9_loudness_57 (n64_ok (lou_div ok h0)) ?_
      exact s_X9_loudness_58 (hΦ _ (RO.rfl))
    · intro t h9 ht e9 ih
      obtain rfl := e9.symm
      refine s_X9_loudness_16 ?_
      refine s_X9_loudness_17 ?_
      refine s_X9_loudness_18 hI rfl (by decide) rfl (by decide) ?_
      refine s_X9_loudness_21 hI rfl (by decide) ?_
      rw [hc]
      refine s_X9_loudness_24 (fun h => absurd h (nI_ge ht (by omega))) (fun _ => ?_)
      refine s_X9_loudness_27 ?_
      refine s_X9_loudness_28 ?_
      refine s_X9_loudness_29 hI rfl (by decide) rfl (by decide) ?_
      refine s_X9_loudness_32 ?_
      refine s_X9_loudness_33 hI rfl (by decide) (Nat.le_of_ble_eq_true rfl) (c_soundAt hI (z := z) (t := t) (c := zc z) hz.1.1 hc h48 (by omega)) ?_
      intro h9 e9; rw [e9]; clear e9 h9
      rw [if_pos ht]
      refine s_X9_loudness_36 hI (Nat.le_of_ble_eq_true rfl) (c_abs _) ?_
      intro h9 e9; rw [e9]; clear e9 h9
      refine s_X9_loudness_39 ?_
      refine s_X9_loudness_40 rfl ?_
      refine s_X9_loudness_41 rfl ?_
      refine s_X9_loudness_44 ?_
      rw [nI_1]
      exact ih _ rfl
theorem m_mean {hi : am_HI} {g : am_G} (hI : am_Inv g) {z : Nat → Int32} (hz : hi 124 = z) (ok : OKz z) : am_Cr M_X10_mean [.ref 123] hi g (some (.double (lou z))) (fun h => h = hi) := by
  have h48 := ok.1.2.1
  unfold lou
  refine am_crn (by decide) (Nat.le_of_ble_eq_true rfl) (fun Φ hΦ => ?_)
  show AP M_X10_mean _ 0 [.ref 123, jk, jk] [] _ g Φ
  refine s_X10_mean_0 ?_
  refine s_X10_mean_1 rfl ?_
  refine s_X10_mean_2 ?_
  refine s_X10_mean_3 rfl ?_
  have key := am_for0 (n := zc z) (hi := hi) (fun _ h => h = hi) (fun t h => AP M_X10_mean (0, 0) 4 [.ref 123, .int (lsum z t), .int (nI t)] [] h g Φ) rfl ?_ ?_
  · exact key
  · intro h9 e9
    obtain rfl := e9.symm
    by_cases h0 : zc z = 0
    · rw [if_pos h0] at hΦ
      refine s_X10_mean_4 ?_
      refine s_X10_mean_5 ?_
      refine s_X10_mean_6 hI rfl (by decide) rfl (by decide) ?_
      refine s_X10_mean_9 ?_
      refine s_X10_mean_11 hI rfl (by decide) (by decide) (by decide : (_ : Int32) = nI 48) (by decide) ?_
      rw [hz, ok.1.1]
      refine s_X10_mean_12 (fun _ => ?_) (fun h => absurd (nI_le (Nat.le_refl _) (by omega)) h)
      refine s_X10_mean_33 ?_
      refine s_X10_mean_34 hI rfl (by decide) rfl (by decide) ?_
      refine s_X10_mean_37 ?_
      refine s_X10_mean_39 hI rfl (by decide) (by decide) (by decide : (_ : Int32) = nI 48) (by decide) ?_
      rw [hz, ok.1.1, h0]
      refine s_X10_mean_40 (fun h => absurd (Eq.refl (0 : Int32)) h) (fun _ => ?_)
      refine s_X10_mean_43 ?_
      refine s_X10_mean_44 ?_
      exact s_X10_mean_58 (hΦ _ (rfl))
    · rw [if_neg h0] at hΦ
      refine s_X10_mean_4 ?_
      refine s_X10_mean_5 ?_
      refine s_X10_mean_6 hI rfl (by decide) rfl (by decide) ?_
      refine s_X10_mean_9 ?_
      refine s_X10_mean_11 hI rfl (by decide) (by decide) (by decide : (_ : Int32) = nI 48) (by decide) ?_
      rw [hz, ok.1.1]
      refine s_X10_mean_12 (fun _ => ?_) (fun h => absurd (nI_le (Nat.le_refl _) (by omega)) h)
      refine s_X10_mean_33 ?_
      refine s_X10_mean_34 hI rfl (by decide) rfl (by decide) ?_
      refine s_X10_mean_37 ?_
      refine s_X10_mean_39 hI rfl (by decide) (by decide) (by decide : (_ : Int32) = nI 48) (by decide) ?_
      rw [hz, ok.1.1]
      refine s_X10_mean_40 (fun _ => ?_) (fun h => absurd h (nI_ne0 (by omega) (by omega)))
      refine s_X10_mean_47 ?_
      refine s_X10_mean_48 ?_
      refine s_X10_mean_49 ?_
      refine s_X10_mean_50 hI rfl (by decide) rfl (by decide) ?_
      refine s_X10_mean_53 ?_
      refine s_X10_mean_55 hI rfl (by decide) (by decide) (by decide : (_ : Int32) = nI 48) (by decide) ?_
      refine s_X10_mean_56 ?_
      rw [hz, ok.1.1]
      refine s_X10_mean_57 (n64_ok (lou_div ok h0)) ?_
      exact s_X10_mean_58 (hΦ _ (rfl))
  · intro t h9 ht e9 ih
    obtain rfl := e9.symm
    refine s_X10_mean_4 ?_
    refine s_X10_mean_5 ?_
    refine s_X10_mean_6 hI rfl (by decide) rfl (by decide) ?_
    refine s_X10_mean_9 ?_
    refine s_X10_mean_11 hI rfl (by decide) (by decide) (by decide : (_ : Int32) = nI 48) (by decide) ?_
    rw [hz, ok.1.1]
    refine s_X10_mean_12 (fun h => absurd h (nI_ge ht (by omega))) (fun _ => ?_)
    refine s_X10_mean_15 ?_
    refine s_X10_mean_16 ?_
    refine s_X10_mean_17 hI rfl (by decide) rfl (by decide) ?_
    refine s_X10_mean_20 ?_
    refine s_X10_mean_21 hI rfl (by decide) (by decide) (rfl) (by omega) ?_
    rw [hz]
    refine s_X10_mean_22 hI (Nat.le_of_ble_eq_true rfl) (m_size _) ?_
    intro h9 e9; rw [e9]; clear e9 h9
    refine s_X10_mean_25 ?_
    refine s_X10_mean_26 rfl ?_
    refine s_X10_mean_27 rfl ?_
    refine s_X10_mean_30 ?_
    rw [nI_1]
    exact ih _ rfl
theorem q_loudness {hi : am_HI} {g : am_G} (hI : am_Inv g) {z : Nat → Int32} (hz : hi 124 = z) (ok : OKz z) : am_Cr M_X10_loudness [.ref 123] hi g (some (.double (lou z))) (fun h => MS hi h ∧ h 123 10 = 0) := by
  refine am_crn (by decide) (Nat.le_of_ble_eq_true rfl) (fun Φ hΦ => ?_)
  show AP M_X10_loudness _ 0 [.ref 123] [] _ g Φ
  refine s_X10_loudness_0 ?_
  refine s_X10_loudness_1 ?_
  refine s_X10_loudness_2 hI rfl (by decide) ?_
  refine s_X10_loudness_5 ?_
  refine s_X10_loudness_6 hI rfl (by decide) (Nat.le_of_ble_eq_true rfl) (m_mean hI (uz hz 0) ok) ?_
  intro h9 e9; rw [e9]; clear e9 h9
  exact s_X10_loudness_9 (hΦ _ (MSu))
