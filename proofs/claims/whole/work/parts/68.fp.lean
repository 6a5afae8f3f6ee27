/-! ===== doubles: the few that are met here ===== -/
abbrev fb : FP.Core.Fmt := FP.Core.b64
theorem fb_t : fb.tails = 4503599627370496 := by decide
theorem fb_e : fb.exps = 2048 := by decide
theorem fb_q : fb.qmin = -1074 := by decide
theorem fb_m : fb.qmax = 971 := by decide
theorem fb_p : (2 : Nat) ^ fb.p = 9007199254740992 := by decide
def fD9 (c : Nat) (q : Int) : Nat := FP.Core.encode fb (.fin false c q)
/-- a normal number that isn't below 0 -/
def nrm (c : Nat) (q : Int) : Prop := 4503599627370496 ≤ c ∧ c < 9007199254740992 ∧ -900 ≤ q ∧ q ≤ 900
theorem fD_val {c : Nat} {q : Int} (h : nrm c q) : fD9 c q = (q + 1075).toNat * 4503599627370496 + (c - 4503599627370496) := by
  unfold fD9 FP.Core.encode
  dsimp only
  rw [fb_t, if_neg (by have := h.1; omega), fb_q]
  unfold FP.Core.assemble
  rw [fb_t, fb_e]
  have h3 := h.2.2
  have e : (q - -1074).toNat + 1 = (q + 1075).toNat := by omega
  rw [e]
  show (0 * 2048 + _) * _ + _ = _
  rw [Nat.zero_mul, Nat.zero_add]
theorem fD_lt {c : Nat} {q : Int} (h : nrm c q) : fD9 c q < 9218868437227405312 := by
  have h1 := h.2.1
  have h3 := h.2.2
  rw [fD_val h]
  omega
theorem dec_D {c : Nat} {q : Int} (h : nrm c q) : FP.Core.decode fb (fD9 c q) = .fin false c q := by
  obtain ⟨h1, h2, h3, h4⟩ := h
  rw [fD_val ⟨h1, h2, h3, h4⟩]
  obtain ⟨E, hE⟩ : ∃ E : Nat, (q + 1075).toNat = E := ⟨_, rfl⟩
  rw [hE]
  have hE1 : 1 ≤ E ∧ E ≤ 2000 := by omega
  have eE : FP.Core.fieldE fb (E * 4503599627370496 + (c - 4503599627370496)) = E := by
    unfold FP.Core.fieldE
    rw [fb_t, fb_e]
    omega
  have eT : FP.Core.fieldT fb (E * 4503599627370496 + (c - 4503599627370496)) = c - 4503599627370496 := by
    unfold FP.Core.fieldT
    rw [fb_t]
    omega
  have eS : FP.Core.fieldS fb (E * 4503599627370496 + (c - 4503599627370496)) = false := by
    unfold FP.Core.fieldS
    rw [fb_t, fb_e, show (E * 4503599627370496 + (c - 4503599627370496)) / 4503599627370496 / 2048 = 0 by omega]
    rfl
  unfold FP.Core.decode
  rw [eE, eT, eS, fb_e, fb_t, fb_q, if_neg (by omega), if_neg (by omega), show 4503599627370496 + (c - 4503599627370496) = c by omega, show (-1074 : Int) + ((E : Int) - 1) = q by omega]
abbrev uD (c : Nat) (q : Int) : UInt64 := .ofNat (fD9 c q)
theorem uD_n {c : Nat} {q : Int} (h : nrm c q) : (uD c q).toNat = fD9 c q := by
  have := fD_lt h
  exact UInt64.toNat_ofNat_of_lt' (by show fD9 c q < 18446744073709551616; omega)
theorem near_mul {c k : Nat} (hk : 0 < k) : FP.Core.nearest (c * k) k = c := by
  unfold FP.Core.nearest
  rw [Nat.mul_mod_left, if_pos (by omega), Nat.mul_div_cancel _ hk]
theorem log_52 {c : Nat} (h1 : 4503599627370496 ≤ c) (h2 : c < 9007199254740992) : c.log2 = 52 := (Nat.log2_eq_iff (by omega)).mpr ⟨h1, h2⟩
theorem settle_n {c : Nat} {q : Int} (h : nrm c q) : FP.Core.settle fb false c q = .fin false c q := by
  unfold FP.Core.settle FP.Core.bound
  rw [fb_p, if_pos h.2.1, fb_m, if_pos (by have := h.2.2; omega)]
theorem quo_fin {s t : Bool} {c d : Nat} {q r : Int} (h : ¬ d = 0) : FP.Core.quotient fb (.fin s c q) (.fin t d r) = FP.Core.roundRatio fb (s != t) c d (q - r) := by
  unfold FP.Core.quotient
  dsimp only
  rw [if_neg h]
/-- by a power of 2 -/
theorem quo_D {c : Nat} {q r : Int} (h : nrm c q) (hr : -60 ≤ r ∧ r ≤ 60) (h' : nrm c (q - r - 52)) : FP.Core.quotient fb (.fin false c q) (.fin false 4503599627370496 r) = .fin false c (q - r - 52) := by
  obtain ⟨h1, h2, h3, h4⟩ := id h
  rw [quo_fin (by decide)]
  show FP.Core.roundRatio fb false c 4503599627370496 (q - r) = _
  unfold FP.Core.roundRatio
  rw [if_neg (by omega)]
  have el : FP.Core.leading c 4503599627370496 = 0 := by
    unfold FP.Core.leading
    rw [log_52 h1 h2, log_52 (c := 4503599627370496) (by decide) (by decide)]
    dsimp only
    rw [if_pos (by show 4503599627370496 * 2 ^ 0 ≤ c * 2 ^ 0; omega)]
    rfl
  have eq : FP.Core.quantum fb c 4503599627370496 (q - r) = q - r - 52 := by
    have h9 := h'.2.2
    unfold FP.Core.quantum
    rw [el, fb_q]
    show max (-1074) (0 + (q - r) - ((53 : Int) - 1)) = _
    omega
  rw [eq]
  unfold FP.Core.roundAt FP.Core.unitsNum FP.Core.unitsDen
  rw [show (q - r - (q - r - 52)).toNat = 52 by omega, show (q - r - 52 - (q - r)).toNat = 0 by omega, show 4503599627370496 * 2 ^ 0 = 2 ^ 52 from rfl, near_mul (by decide)]
  exact settle_n h'
theorem log_104 {c : Nat} (h1 : 4503599627370496 ≤ c) (h2 : c < 9007199254740992) : (c * 4503599627370496).log2 = 104 := (Nat.log2_eq_iff (by omega)).mpr ⟨by show 20282409603651670423947251286016 ≤ _; omega, by show _ < 40564819207303340847894502572032; omega⟩
theorem mul_D {c : Nat} {q r : Int} (h : nrm c q) (hr : -60 ≤ r ∧ r ≤ 60) (h' : nrm c (q + r + 52)) : FP.Core.round fb (FP.Core.exactProduct (.fin false c q) (.fin false 4503599627370496 r)) = .fin false c (q + r + 52) := by
  obtain ⟨h1, h2, h3, h4⟩ := id h
  unfold FP.Core.exactProduct FP.Core.round
  show FP.Core.roundRatio fb false (c * 4503599627370496) 1 (q + r) = _
  unfold FP.Core.roundRatio
  rw [if_neg (by omega)]
  have el : FP.Core.leading (c * 4503599627370496) 1 = 104 := by
    unfold FP.Core.leading
    rw [log_104 h1 h2, show Nat.log2 1 = 0 from by decide]
    dsimp only
    rw [if_pos (by show 1 * 20282409603651670423947251286016 ≤ c * 4503599627370496 * 2 ^ 0; omega)]
    rfl
  have eq : FP.Core.quantum fb (c * 4503599627370496) 1 (q + r) = q + r + 52 := by
    have h9 := h'.2.2
    unfold FP.Core.quantum
    rw [el, fb_q]
    show max (-1074) (104 + (q + r) - ((53 : Int) - 1)) = _
    omega
  rw [eq]
  unfold FP.Core.roundAt FP.Core.unitsNum FP.Core.unitsDen
  rw [show (q + r - (q + r + 52)).toNat = 0 by omega, show (q + r + 52 - (q + r)).toNat = 52 by omega, show c * 4503599627370496 * 2 ^ 0 = c * 2 ^ 52 from by rw [Nat.pow_zero, Nat.mul_one, show (2 : Nat) ^ 52 = 4503599627370496 from by decide], show 1 * 2 ^ 52 = 2 ^ 52 from rfl, near_mul (by decide)]
  exact settle_n h'
/-- a whole number, as a double -/
theorem rnd_D {m : Nat} {e : Int} (h0 : 0 < m) (hm : m < 9007199254740992) (he : -200 ≤ e ∧ e ≤ 200) : ∃ k : Nat, k ≤ 52 ∧ 2 ^ k ≤ m ∧ m < 2 ^ (k + 1) ∧ nrm (m * 2 ^ (52 - k)) ((k : Int) + e - 52) ∧ FP.Core.roundRatio fb false m 1 e = .fin false (m * 2 ^ (52 - k)) ((k : Int) + e - 52) := by
  have hl := (Nat.log2_eq_iff (n := m) (k := m.log2) (by omega)).mp rfl
  obtain ⟨k, hk⟩ : ∃ k, m.log2 = k := ⟨_, rfl⟩
  rw [hk] at hl
  have hk52 : k ≤ 52 := by
    by_cases h : k ≤ 52
    · exact h
    · exfalso
      have : 2 ^ 53 ≤ 2 ^ k := Nat.pow_le_pow_right (by decide) (by omega)
      have e53 : (2 : Nat) ^ 53 = 9007199254740992 := by decide
      omega
  have p1 : 2 ^ k * 2 ^ (52 - k) = 4503599627370496 := by rw [← Nat.pow_add, show k + (52 - k) = 52 by omega]
  have p2 : 2 ^ (k + 1) * 2 ^ (52 - k) = 9007199254740992 := by rw [← Nat.pow_add, show k + 1 + (52 - k) = 53 by omega]
  have hn : nrm (m * 2 ^ (52 - k)) ((k : Int) + e - 52) := ⟨by rw [← p1]; exact Nat.mul_le_mul_right _ hl.1, by rw [← p2]; exact Nat.mul_lt_mul_of_pos_right hl.2 (Nat.two_pow_pos _), by omega, by omega⟩
  refine ⟨k, hk52, hl.1, hl.2, hn, ?_⟩
  unfold FP.Core.roundRatio
  rw [if_neg (by omega)]
  have el : FP.Core.leading m 1 = k := by
    unfold FP.Core.leading
    rw [hk, show Nat.log2 1 = 0 from by decide]
    dsimp only
    rw [if_pos (by rw [show ((k : Int) - ((0 : Nat) : Int)).toNat = k by omega, show (-((k : Int) - ((0 : Nat) : Int))).toNat = 0 by omega, Nat.one_mul, Nat.pow_zero, Nat.mul_one]; exact hl.1)]
    omega
  have eq : FP.Core.quantum fb m 1 e = (k : Int) + e - 52 := by
    unfold FP.Core.quantum
    rw [el, fb_q]
    show max (-1074) ((k : Int) + e - ((53 : Int) - 1)) = _
    omega
  rw [eq]
  unfold FP.Core.roundAt FP.Core.unitsNum FP.Core.unitsDen
  rw [show (e - ((k : Int) + e - 52)).toNat = 52 - k by omega, show ((k : Int) + e - 52 - e).toNat = 0 by omega, Nat.one_mul, Nat.pow_zero]
  have e1 : FP.Core.nearest (m * 2 ^ (52 - k)) 1 = m * 2 ^ (52 - k) := by
    have := near_mul (c := m * 2 ^ (52 - k)) (k := 1) (by decide)
    rw [Nat.mul_one] at this
    exact this
  rw [e1]
  exact settle_n hn
theorem i2d_D {a : Nat} (h0 : 0 < a) (ha : a ≤ 4752) : ∃ A q, nrm A q ∧ -52 ≤ q ∧ q ≤ -39 ∧ FP.i2d (nI a) = uD A q := by
  obtain ⟨k, k1, k2, k3, k4, k5⟩ := rnd_D (m := a) (e := 0) h0 (by omega) (by decide)
  have hk : k ≤ 12 := by
    by_cases h : k ≤ 12
    · exact h
    · exfalso
      have : 2 ^ 13 ≤ 2 ^ k := Nat.pow_le_pow_right (by decide) (by omega)
      have e13 : (2 : Nat) ^ 13 = 8192 := by decide
      omega
  refine ⟨_, _, k4, by omega, by omega, ?_⟩
  show UInt64.ofNat (FP.Core.encode fb (FP.Core.round fb (FP.Core.ofInt (nI a).toInt))) = _
  rw [am_nI (by omega)]
  unfold FP.Core.ofInt FP.Core.round
  rw [show decide ((a : Int) < 0) = false from decide_eq_false (by omega), Int.natAbs_natCast]
  show UInt64.ofNat (FP.Core.encode fb (FP.Core.roundRatio fb false a 1 0)) = _
  rw [k5]
  rfl
theorem i2d_0 : FP.i2d (nI 0) = 0 := by decide +kernel
/-- a quotient of two of them -/
theorem div_D {A B : Nat} {p q : Int} (hA : nrm A p) (hB : nrm B q) (hp : -52 ≤ p ∧ p ≤ -39) (hq : -52 ≤ q ∧ q ≤ -39) : ∃ c r, nrm c r ∧ -70 ≤ r ∧ r ≤ -30 ∧ FP.Core.quotient fb (.fin false A p) (.fin false B q) = .fin false c r := by
  obtain ⟨a1, a2, a3, a4⟩ := hA
  obtain ⟨b1, b2, b3, b4⟩ := hB
  have set : ∀ (c : Nat) (r : Int), 4503599627370496 ≤ c → c ≤ 9007199254740992 → -70 ≤ r → r ≤ -31 → ∃ c' r', nrm c' r' ∧ -70 ≤ r' ∧ r' ≤ -30 ∧ FP.Core.settle fb false c r = .fin false c' r' := by
    intro c r h1 h2 h3 h4
    by_cases hc : c < 9007199254740992
    · exact ⟨c, r, ⟨h1, hc, by omega, by omega⟩, h3, by omega, settle_n ⟨h1, hc, by omega, by omega⟩⟩
    · refine ⟨4503599627370496, r + 1, ⟨by decide, by decide, by omega, by omega⟩, by omega, by omega, ?_⟩
      unfold FP.Core.settle FP.Core.bound
      rw [fb_p, if_neg hc, fb_m, if_pos (by omega), fb_t]
  have near : ∀ (n d : Nat), 0 < d → 4503599627370496 * d ≤ n → n < 9007199254740992 * d → 4503599627370496 ≤ FP.Core.nearest n d ∧ FP.Core.nearest n d ≤ 9007199254740992 := by
    intro n d hd h1 h2
    have q1 : 4503599627370496 ≤ n / d := (Nat.le_div_iff_mul_le hd).mpr h1
    have q2 : n / d < 9007199254740992 := (Nat.div_lt_iff_lt_mul hd).mpr h2
    unfold FP.Core.nearest
    split
    · omega
    · split
      · omega
      · omega
  rw [quo_fin (by omega)]
  show ∃ c r, nrm c r ∧ -70 ≤ r ∧ r ≤ -30 ∧ FP.Core.roundRatio fb false A B (p - q) = .fin false c r
  unfold FP.Core.roundRatio
  rw [if_neg (by omega)]
  by_cases hAB : B ≤ A
  · have el : FP.Core.leading A B = 0 := by
      unfold FP.Core.leading
      rw [log_52 a1 a2, log_52 b1 b2]
      dsimp only
      rw [if_pos (by show B * 2 ^ 0 ≤ A * 2 ^ 0; omega)]
      rfl
    have eq : FP.Core.quantum fb A B (p - q) = p - q - 52 := by
      unfold FP.Core.quantum
      rw [el, fb_q]
      show max (-1074) (0 + (p - q) - ((53 : Int) - 1)) = _
      omega
    rw [eq]
    unfold FP.Core.roundAt FP.Core.unitsNum FP.Core.unitsDen
    rw [show (p - q - (p - q - 52)).toNat = 52 by omega, show (p - q - 52 - (p - q)).toNat = 0 by omega]
    obtain ⟨n1, n2⟩ := near (A * 2 ^ 52) (B * 2 ^ 0) (by omega) (by show _ ≤ A * 4503599627370496; omega) (by show A * 4503599627370496 < _; omega)
    exact set _ _ n1 n2 (by omega) (by omega)
  · have el : FP.Core.leading A B = -1 := by
      unfold FP.Core.leading
      rw [log_52 a1 a2, log_52 b1 b2]
      dsimp only
      rw [if_neg (by show ¬ B * 2 ^ 0 ≤ A * 2 ^ 0; omega)]
      rfl
    have eq : FP.Core.quantum fb A B (p - q) = p - q - 53 := by
      unfold FP.Core.quantum
      rw [el, fb_q]
      show max (-1074) (-1 + (p - q) - ((53 : Int) - 1)) = _
      omega
    rw [eq]
    unfold FP.Core.roundAt FP.Core.unitsNum FP.Core.unitsDen
    rw [show (p - q - (p - q - 53)).toNat = 53 by omega, show (p - q - 53 - (p - q)).toNat = 0 by omega]
    obtain ⟨n1, n2⟩ := near (A * 2 ^ 53) (B * 2 ^ 0) (by omega) (by show _ ≤ A * 9007199254740992; omega) (by show A * 9007199254740992 < _; omega)
    exact set _ _ n1 n2 (by omega) (by omega)
theorem ddiv_uD {A B : Nat} {p q : Int} (hA : nrm A p) (hB : nrm B q) : FP.ddiv (uD A p) (uD B q) = .ofNat (FP.Core.encode fb (FP.Core.quotient fb (.fin false A p) (.fin false B q))) := by
  show UInt64.ofNat (FP.Core.encode fb (FP.Core.quotient fb (FP.Core.decode fb (uD A p).toNat) (FP.Core.decode fb (uD B q).toNat))) = _
  rw [uD_n hA, uD_n hB, dec_D hA, dec_D hB]
/-- the mean of sizes: 0, or a normal number -/
def okd (x : UInt64) : Prop := x = 0 ∨ ∃ c r, nrm c r ∧ -70 ≤ r ∧ r ≤ -30 ∧ x = uD c r
theorem mean_ok {a b : Nat} (ha : a ≤ 4752) (hb0 : 0 < b) (hb : b ≤ 48) : okd (FP.ddiv (FP.i2d (nI a)) (FP.i2d (nI b))) := by
  obtain ⟨B, q, hB, q1, q2, eB⟩ := i2d_D hb0 (by omega)
  by_cases h0 : a = 0
  · left
    rw [h0, i2d_0, eB]
    show UInt64.ofNat (FP.Core.encode fb (FP.Core.quotient fb (FP.Core.decode fb 0) (FP.Core.decode fb (uD B q).toNat))) = _
    rw [uD_n hB, dec_D hB, show FP.Core.decode fb 0 = .fin false 0 (-1074) from by decide +kernel]
    rw [quo_fin (by have := hB.1; omega)]
    unfold FP.Core.roundRatio
    rw [if_pos rfl]
    decide +kernel
  · right
    obtain ⟨A, p, hA, p1, p2, eA⟩ := i2d_D (a := a) (by omega) ha
    obtain ⟨c, r, n1, n2, n3, n4⟩ := div_D hA hB ⟨p1, p2⟩ ⟨q1, q2⟩
    exact ⟨c, r, n1, n2, n3, by rw [eA, eB, ddiv_uD hA hB, n4]; rfl⟩
theorem n64_uD {c : Nat} {q : Int} (h : nrm c q) : vf_n64 (uD c q) := by
  unfold vf_n64
  rw [UInt64.le_iff_toNat_le, UInt64.toNat_and, uD_n h]
  have h1 := fD_lt h
  have h2 : fD9 c q &&& (0x7fffffffffffffff : UInt64).toNat ≤ fD9 c q := Nat.and_le_left
  show _ ≤ 9218868437227405312
  omega
theorem n64_ok {x : UInt64} (h : okd x) : vf_n64 x := by
  rcases h with rfl | ⟨c, r, h1, -, -, rfl⟩
  · unfold vf_n64; decide +kernel
  · exact n64_uD h1
