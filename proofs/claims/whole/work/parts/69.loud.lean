/-! ===== loudness and its bits ===== -/
theorem ord_fin {c d : Nat} {q r : Int} : FP.Core.order (.fin false c q) (.fin false d r) = some (if ((c * 2 ^ (q - min q r).toNat : Nat) : Int) < ((d * 2 ^ (r - min q r).toNat : Nat) : Int) then .lt else if ((c * 2 ^ (q - min q r).toNat : Nat) : Int) = ((d * 2 ^ (r - min q r).toNat : Nat) : Int) then .eq else .gt) := rfl
theorem dcmp_uD {c d : Nat} {q r : Int} (h : nrm c q) (h' : nrm d r) : FP.dcmp (uD c q) (uD d r) = FP.Core.order (.fin false c q) (.fin false d r) := by
  show FP.Core.order (FP.Core.decode fb (uD c q).toNat) (FP.Core.decode fb (uD d r).toNat) = _
  rw [uD_n h, uD_n h', dec_D h, dec_D h']
theorem dcmp_lt {c d : Nat} {q r : Int} (h : nrm c q) (h' : nrm d r) (hq : q < r) : FP.dcmp (uD c q) (uD d r) = some .lt := by
  rw [dcmp_uD h h', ord_fin, show min q r = q by omega, show (q - q).toNat = 0 by omega]
  obtain ⟨k, hk⟩ : ∃ k, (r - q).toNat = k + 1 := ⟨(r - q).toNat - 1, by omega⟩
  have h2 : 1 ≤ 2 ^ k := Nat.one_le_two_pow
  have h3 : d * 1 ≤ d * 2 ^ k := Nat.mul_le_mul_left d h2
  have h4 : d * 2 ^ (k + 1) = 2 * (d * 2 ^ k) := by rw [Nat.pow_succ, ← Nat.mul_assoc, Nat.mul_comm]
  have h5 := h.2.1
  have h6 := h'.1
  rw [hk, if_pos (by rw [Nat.pow_zero, h4]; omega)]
theorem dcmp_ge {c : Nat} {q r : Int} (h : nrm c q) (h' : nrm 4503599627370496 r) (hq : r ≤ q) : FP.dcmp (uD c q) (uD 4503599627370496 r) = some .eq ∨ FP.dcmp (uD c q) (uD 4503599627370496 r) = some .gt := by
  rw [dcmp_uD h h', ord_fin, show min q r = r by omega, show (r - r).toNat = 0 by omega]
  have h2 : 1 ≤ 2 ^ (q - r).toNat := Nat.one_le_two_pow
  have h3 : c * 1 ≤ c * 2 ^ (q - r).toNat := Nat.mul_le_mul_left c h2
  have h5 := h.1
  rw [if_neg (by rw [Nat.pow_zero]; omega)]
  split
  · exact Or.inl rfl
  · exact Or.inr rfl
theorem two_uD : (4611686018427387904 : UInt64) = uD 4503599627370496 (-51) := by decide +kernel
theorem one_uD : FP.dconst1 = uD 4503599627370496 (-52) := by decide +kernel
theorem big_uD : (4841369599423283200 : UInt64) = uD 4503599627370496 0 := by decide +kernel
theorem nrm_2 {r : Int} (h : -900 ≤ r ∧ r ≤ 900) : nrm 4503599627370496 r := ⟨by decide, by decide, h.1, h.2⟩
theorem half_uD {c : Nat} {q : Int} (h : nrm c q) (h2 : -100 ≤ q ∧ q ≤ 100) : FP.ddiv (uD c q) 4611686018427387904 = uD c (q - 1) := by
  have h' : nrm c (q - (-51) - 52) := ⟨h.1, h.2.1, by omega, by omega⟩
  rw [two_uD, ddiv_uD h (nrm_2 (by decide)), quo_D h (by decide) h', show q - (-51) - 52 = q - 1 by omega]
  rfl
theorem dmul_uD {A B : Nat} {p q : Int} (hA : nrm A p) (hB : nrm B q) : FP.dmul (uD A p) (uD B q) = .ofNat (FP.Core.encode fb (FP.Core.round fb (FP.Core.exactProduct (.fin false A p) (.fin false B q)))) := by
  show UInt64.ofNat (FP.Core.encode fb (FP.Core.round fb (FP.Core.exactProduct (FP.Core.decode fb (uD A p).toNat) (FP.Core.decode fb (uD B q).toNat)))) = _
  rw [uD_n hA, uD_n hB, dec_D hA, dec_D hB]
theorem twice_uD {c : Nat} {q : Int} (h : nrm c q) (h2 : -100 ≤ q ∧ q ≤ 100) : FP.dmul (uD c q) 4611686018427387904 = uD c (q + 1) := by
  have h' : nrm c (q + (-51) + 52) := ⟨h.1, h.2.1, by omega, by omega⟩
  rw [two_uD, dmul_uD h (nrm_2 (by decide)), mul_D h (by decide) h', show q + (-51) + 52 = q + 1 by omega]
  rfl
/-- what is left above 1, as a whole number of its places -/
theorem frac_uD {c : Nat} (h : nrm c (-52)) : vf_n64 (FP.dsub (uD c (-52)) FP.dconst1) ∧ vf_n64 (FP.dmul (FP.dsub (uD c (-52)) FP.dconst1) 4841369599423283200) ∧ FP.d2l (FP.dmul (FP.dsub (uD c (-52)) FP.dconst1) 4841369599423283200) = Int64.ofInt ((c - 4503599627370496 : Nat) : Int) := by
  have h1 := h.1
  have h2 := h.2.1
  have e : FP.dsub (uD c (-52)) FP.dconst1 = .ofNat (FP.Core.encode fb (FP.Core.roundRatio fb false (c - 4503599627370496) 1 (-52))) := by
    rw [one_uD]
    show UInt64.ofNat (FP.Core.encode fb (FP.Core.round fb (FP.Core.exactSum (FP.Core.decode fb (uD c (-52)).toNat) (FP.Core.negate (FP.Core.decode fb (uD 4503599627370496 (-52)).toNat))))) = _
    rw [uD_n h, uD_n (nrm_2 (by decide)), dec_D h, dec_D (nrm_2 (by decide))]
    have ev : FP.Core.sumUnits false c (-52) true 4503599627370496 (-52) (-52) = ((c - 4503599627370496 : Nat) : Int) := by
      show ((c * 1 : Nat) : Int) + -((4503599627370496 * 1 : Nat) : Int) = _
      omega
    have es : FP.Core.sumSign false true ((c - 4503599627370496 : Nat) : Int) = false := by
      unfold FP.Core.sumSign
      split
      · rfl
      · exact decide_eq_false (by omega)
    show UInt64.ofNat (FP.Core.encode fb (FP.Core.round fb (.fin (FP.Core.sumSign false true (FP.Core.sumUnits false c (-52) true 4503599627370496 (-52) (-52))) (FP.Core.sumUnits false c (-52) true 4503599627370496 (-52) (-52)).natAbs (-52)))) = _
    rw [ev, es, Int.natAbs_natCast]
    rfl
  rw [e]
  generalize hm : c - 4503599627370496 = m at *
  by_cases h0 : m = 0
  · rw [h0]
    refine ⟨?_, ?_, ?_⟩
    · unfold vf_n64; decide +kernel
    · unfold vf_n64; decide +kernel
    · decide +kernel
  · obtain ⟨k, k1, k2, k3, k4, k5⟩ := rnd_D (m := m) (e := -52) (by omega) (by omega) (by decide)
    have hn' : nrm (m * 2 ^ (52 - k)) ((k : Int) + -52 - 52 + 0 + 52) := ⟨k4.1, k4.2.1, by omega, by omega⟩
    have e2 : UInt64.ofNat (FP.Core.encode fb (FP.Core.roundRatio fb false m 1 (-52))) = uD (m * 2 ^ (52 - k)) ((k : Int) + -52 - 52) := by rw [k5]; rfl
    have e3 : FP.dmul (uD (m * 2 ^ (52 - k)) ((k : Int) + -52 - 52)) 4841369599423283200 = uD (m * 2 ^ (52 - k)) ((k : Int) + -52 - 52 + 0 + 52) := by
      rw [big_uD, dmul_uD k4 (nrm_2 (by decide)), mul_D k4 (by decide) hn']
      rfl
    rw [e2, e3]
    refine ⟨n64_uD k4, n64_uD hn', ?_⟩
    show Int64.ofInt (FP.Core.toInt (-2 ^ 63) (2 ^ 63 - 1) (FP.Core.decode fb (uD (m * 2 ^ (52 - k)) ((k : Int) + -52 - 52 + 0 + 52)).toNat)) = _
    rw [uD_n hn', dec_D hn']
    have hk51 : k ≤ 51 := by
      by_cases hq : k ≤ 51
      · exact hq
      · exfalso
        have : k = 52 := by omega
        rw [this] at k2
        have e52 : (2 : Nat) ^ 52 = 4503599627370496 := by decide
        omega
    have et : FP.Core.truncate false (m * 2 ^ (52 - k)) ((k : Int) + -52 - 52 + 0 + 52) = (m : Int) := by
      unfold FP.Core.truncate
      rw [show ((k : Int) + -52 - 52 + 0 + 52).toNat = 0 by omega, show (-((k : Int) + -52 - 52 + 0 + 52)).toNat = 52 - k by omega, Nat.pow_zero, Nat.mul_one, Nat.mul_div_cancel _ (Nat.two_pow_pos _)]
      rfl
    show Int64.ofInt (max (-2 ^ 63) (min (2 ^ 63 - 1) (FP.Core.truncate false (m * 2 ^ (52 - k)) ((k : Int) + -52 - 52 + 0 + 52)))) = _
    have e63 : (2 : Int) ^ 63 = 9223372036854775808 := by decide
    have ex : max (-2 ^ 63) (min (2 ^ 63 - 1) (m : Int)) = m := by rw [e63]; omega
    rw [et, ex]
def lE (n : Nat) : Int64 := Int64.ofNat n
theorem lE_all : ∀ k : Fin 200, (¬ 0 ≤ lg_cmp (lE (900 + k.val)) 2046) ∧ (¬ lg_cmp (lE (900 + k.val)) 1 ≤ 0) ∧ lE (900 + k.val) + 1 = lE (900 + k.val + 1) ∧ lE (900 + k.val + 1) - 1 = lE (900 + k.val) ∧ (lE (900 + k.val)) <<< ((52 : Int32).toInt64 &&& 63) = lE ((900 + k.val) * 4503599627370496) := by decide +kernel
theorem lE_ok {n : Nat} (h : 900 ≤ n) (h2 : n < 1100) : (¬ 0 ≤ lg_cmp (lE n) 2046) ∧ (¬ lg_cmp (lE n) 1 ≤ 0) ∧ lE n + 1 = lE (n + 1) ∧ lE (n + 1) - 1 = lE n ∧ (lE n) <<< ((52 : Int32).toInt64 &&& 63) = lE (n * 4503599627370496) := by
  have := lE_all ⟨n - 900, by omega⟩
  dsimp only at this
  rw [show 900 + (n - 900) = n by omega] at this
  exact this
theorem lE_or {E m : Nat} (hm : m < 4503599627370496) : lE (E * 4503599627370496) ||| Int64.ofInt (m : Int) = (UInt64.ofNat (E * 4503599627370496 + m)).toInt64 := by
  have h1 : E * 4503599627370496 + m = E * 4503599627370496 ||| m := by
    have := Nat.shiftLeft_add_eq_or_of_lt (b := m) (i := 52) (by exact hm) E
    rw [Nat.shiftLeft_eq] at this
    exact this
  rw [h1]
  apply Int64.toBitVec_inj.mp
  rw [Int64.toBitVec_or]
  show BitVec.ofNat 64 (E * 4503599627370496) ||| BitVec.ofInt 64 (m : Int) = BitVec.ofNat 64 (E * 4503599627370496 ||| m)
  rw [BitVec.ofNat_or, BitVec.ofInt_natCast]
