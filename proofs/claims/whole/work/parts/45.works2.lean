/-! ===== the text: a work, and the first fault ===== -/
def fq (J : List Nat) (hi h : am_HI) : Prop := ∀ k j, ¬(k = 115 ∧ j ∈ J) → h k j = hi k j
theorem fq.rfl {J : List Nat} {h : am_HI} : fq J h h := fun _ _ _ => Eq.refl _
theorem fq.tr {J : List Nat} {h h1 h2 : am_HI} (a : fq J h h1) (b : fq J h1 h2) : fq J h h2 := fun k j hk => (b k j hk).trans (a k j hk)
theorem fq.mono {J J' : List Nat} {h h1 : am_HI} (a : fq J h h1) (hS : ∀ k ∈ J, k ∈ J') : fq J' h h1 := fun k j hk => a k j (fun z => hk ⟨z.1, hS _ z.2⟩)
theorem fq.up {J : List Nat} {h h1 : am_HI} {j : Nat} {x : Int32} (a : fq J h h1) (hj : j ∈ J) : fq J h (am_up h1 115 j x) := fun k i hk => by
  rw [up_r, if_neg (fun e => hk ⟨e.1, by rw [e.2]; exact hj⟩)]
  exact a k i hk
theorem fq.row {J : List Nat} {h h1 : am_HI} (a : fq J h h1) {k : Nat} (hk : k ≠ 115) : h1 k = h k := funext (fun j => a k j (fun z => hk z.1))
theorem TX.fq {J : List Nat} {hi h : am_HI} {cd : Nat → Nat} {n : Nat} (t : TX hi cd n) (a : fq J hi h) (hJ : 1 ∉ J) : TX h cd n := by
  unfold TX
  rw [a 115 1 (fun z => hJ z.2), a.row (k := 116) (by decide)]
  exact t
theorem c_takeT {hi : am_HI} {g : am_G} (hI : am_Inv g) {cd : Nat → Nat} {n a k : Nat} (h : TX hi cd n) (ha : hi 115 2 = nI a) (ha' : a ≤ 80) (hk : k < 1000) (hc : chr cd n a = k) : am_Cr M_X8_take [.ref 115, .int (nI k)] hi g (some (.int 1)) (fun h => h = atI hi (a + 1)) := by
  have := c_take hI h ha ha' hk
  rw [decide_eq_true hc, tk, if_pos hc] at this
  exact this
theorem c_takeF {hi : am_HI} {g : am_G} (hI : am_Inv g) {cd : Nat → Nat} {n a k : Nat} (h : TX hi cd n) (ha : hi 115 2 = nI a) (ha' : a ≤ 80) (hk : k < 1000) (hc : ¬ chr cd n a = k) : am_Cr M_X8_take [.ref 115, .int (nI k)] hi g (some (.int 0)) (fun h => h = hi) := by
  have := c_take hI h ha ha' hk
  rw [decide_eq_false hc, tk, if_neg hc, show atI hi a = hi from up_sf ha] at this
  exact this
theorem num_n1 {cd : Nat → Nat} {n least most a : Nat} (hm : most ≤ 198) {q : Nat × Nat} (h : cnum cd n least most a = some q) : ¬ nI q.1 = -1 := ne_m1 (by have := cnum_v h; omega)
theorem c_readValue {hi : am_HI} {g : am_G} (hI : am_Inv g) {cd : Nat → Nat} {n a least most : Nat} (h : TX hi cd n) (ha : hi 115 2 = nI a) (ha' : a ≤ 80) (hl : least ≤ 9) (hm : most ≤ 198) : am_Cr M_X8_readValue [.ref 115, .int (nI least), .int (nI most)] hi g (some (.int (bI (cnum cd n least most a).isSome))) (fun h => fq [2, 5] hi h ∧ h 115 2 = nI (numA a (cnum cd n least most a)) ∧ h 115 5 = numI (cnum cd n least most a)) := by
  refine am_crn (by decide) (Nat.le_of_ble_eq_true rfl) (fun Φ hΦ => ?_)
  show AP M_X8_readValue _ 0 [.ref 115, .int (nI least), .int (nI most)] [] _ g Φ
  refine s_X8_readValue_0 ?_
  refine s_X8_readValue_1 ?_
  refine s_X8_readValue_2 ?_
  refine s_X8_readValue_3 ?_
  refine s_X8_readValue_4 hI rfl (by decide) (Nat.le_of_ble_eq_true rfl) (c_readNum hI h ha ha' hl hm) ?_
  intro h9 e9; rw [e9]; clear e9 h9
  refine s_X8_readValue_7 hI rfl (by decide) ?_
  refine s_X8_readValue_10 ?_
  refine s_X8_readValue_11 hI rfl (by decide) ?_
  refine s_X8_readValue_14 ?_
  have post : fq [2, 5] hi (am_up (atI hi (numA a (cnum cd n least most a))) 115 5 (numI (cnum cd n least most a))) ∧ am_up (atI hi (numA a (cnum cd n least most a))) 115 5 (numI (cnum cd n least most a)) 115 2 = nI (numA a (cnum cd n least most a)) ∧ am_up (atI hi (numA a (cnum cd n least most a))) 115 5 (numI (cnum cd n least most a)) 115 5 = numI (cnum cd n least most a) := ⟨(fq.rfl.up (by decide)).up (by decide), by rw [up_c, up_n (by decide)]; exact at_2, by rw [up_c, up_f]⟩
  rw [up_c, up_f]
  refine s_X8_readValue_15 (fun hh => ?_) (fun hh => ?_)
  · refine s_X8_readValue_22 ?_
    refine s_X8_readValue_23 (by first | exact Or.inl rfl | exact Or.inr rfl | exact bI_01 _) ?_
    have hn : cnum cd n least most a = none := by
      cases hq : cnum cd n least most a with
      | none => rfl
      | some q => rw [hq] at hh; exact absurd hh (num_n1 hm hq)
    have hΦ' := hΦ _ post
    rw [hn] at hΦ' ⊢
    exact hΦ'
  · refine s_X8_readValue_18 ?_
    refine s_X8_readValue_19 ?_
    refine s_X8_readValue_23 (by first | exact Or.inl rfl | exact Or.inr rfl | exact bI_01 _) ?_
    have hΦ' := hΦ _ post
    cases hq : cnum cd n least most a with
    | none => rw [hq] at hh; exact absurd rfl hh
    | some q =>
      rw [hq] at hΦ'
      exact hΦ'
/-- a place and a colon: whether they are there, and how far -/
def plO (cd : Nat → Nat) (n a : Nat) : Option (Nat × Nat) → Bool × Nat
  | none => (false, a)
  | some q => (decide (chr cd n q.2 = 58), tk cd n q.2 58)
theorem c_readPlace {hi : am_HI} {g : am_G} (hI : am_Inv g) {cd : Nat → Nat} {n a least most : Nat} (h : TX hi cd n) (ha : hi 115 2 = nI a) (ha' : a ≤ 80) (hl : least ≤ 9) (hm : most ≤ 198) : am_Cr M_X8_readPlace [.ref 115, .int (nI least), .int (nI most)] hi g (some (.int (bI (plO cd n a (cnum cd n least most a)).1))) (fun h => fq [2, 4] hi h ∧ h 115 2 = nI (plO cd n a (cnum cd n least most a)).2 ∧ h 115 4 = numI (cnum cd n least most a)) := by
  refine am_crn (by decide) (Nat.le_of_ble_eq_true rfl) (fun Φ hΦ => ?_)
  show AP M_X8_readPlace _ 0 [.ref 115, .int (nI least), .int (nI most)] [] _ g Φ
  refine s_X8_readPlace_0 ?_
  refine s_X8_readPlace_1 ?_
  refine s_X8_readPlace_2 ?_
  refine s_X8_readPlace_3 ?_
  refine s_X8_readPlace_4 hI rfl (by decide) (Nat.le_of_ble_eq_true rfl) (c_readNum hI h ha ha' hl hm) ?_
  intro h9 e9; rw [e9]; clear e9 h9
  refine s_X8_readPlace_7 hI rfl (by decide) ?_
  refine s_X8_readPlace_10 ?_
  refine s_X8_readPlace_11 hI rfl (by decide) ?_
  refine s_X8_readPlace_14 ?_
  rw [up_c, up_f]
  cases hq : cnum cd n least most a with
  | none =>
    rw [hq] at hΦ
    refine s_X8_readPlace_15 (fun _ => ?_) (fun h => absurd rfl h)
    refine s_X8_readPlace_31 (s_X8_readPlace_32 (Or.inl rfl) (hΦ _ ⟨(fq.rfl.up (by decide)).up (by decide), ?_, ?_⟩))
    · rw [up_c, up_n (by decide)]; exact at_2
    · rw [up_c, up_f]
  | some q =>
    rw [hq] at hΦ
    have hle := cnum_le hq
    have f0 : fq [2, 4] hi (am_up (atI hi q.2) 115 4 (nI q.1)) := (fq.rfl.up (by decide)).up (by decide)
    have t0 : TX (am_up (atI hi q.2) 115 4 (nI q.1)) cd n := h.fq f0 (by decide)
    have a0 : am_up (atI hi q.2) 115 4 (nI q.1) 115 2 = nI q.2 := by rw [up_c, up_n (by decide)]; exact at_2
    show AP M_X8_readPlace _ 15 _ _ (am_up (atI hi q.2) 115 4 (nI q.1)) g Φ
    refine s_X8_readPlace_15 (fun h => absurd h (num_n1 hm hq)) (fun _ => ?_)
    refine s_X8_readPlace_18 ?_
    refine s_X8_readPlace_19 ?_
    refine s_X8_readPlace_21 hI rfl (by decide) (Nat.le_of_ble_eq_true rfl) (c_take hI (k := 58) t0 a0 (by have := h.2.1; omega) (by decide)) ?_
    intro h9 e9; rw [e9]; clear e9 h9
    have p9 : fq [2, 4] hi (atI (am_up (atI hi q.2) 115 4 (nI q.1)) (tk cd n q.2 58)) ∧ atI (am_up (atI hi q.2) 115 4 (nI q.1)) (tk cd n q.2 58) 115 2 = nI (tk cd n q.2 58) ∧ atI (am_up (atI hi q.2) 115 4 (nI q.1)) (tk cd n q.2 58) 115 4 = nI q.1 := ⟨f0.up (by decide), at_2, by unfold atI; rw [up_c, up_n (by decide), up_c, up_f]⟩
    refine s_X8_readPlace_24 (fun hh => ?_) (fun hh => ?_)
    · refine s_X8_readPlace_31 ?_
      simp only [plO, decide_eq_false (bI_d0.mp hh)] at hΦ
      exact s_X8_readPlace_32 (by first | exact Or.inl rfl | exact Or.inr rfl | exact bI_01 _) (hΦ _ (p9))
    · refine s_X8_readPlace_27 ?_
      refine s_X8_readPlace_28 ?_
      simp only [plO, decide_eq_true (Decidable.not_not.mp (fun e => hh (bI_d0.mpr e)))] at hΦ
      exact s_X8_readPlace_32 (by first | exact Or.inl rfl | exact Or.inr rfl | exact bI_01 _) (hΦ _ (p9))
def sgn (cd : Nat → Nat) (n most a : Nat) : Bool × Nat × Int32 := match cnum cd n 0 most (tk cd n a 45) with
  | none => (false, tk cd n a 45, 0)
  | some q => (true, q.2, if chr cd n a = 45 then -nI q.1 else nI q.1)
theorem fq_at {hi h : am_HI} (a : fq [2] hi h) {x : Nat} (hx : h 115 2 = nI x) : h = atI hi x := by
  funext k j
  unfold atI
  rw [up_r]
  by_cases hk : k = 115 ∧ j = 2
  · rw [if_pos hk, hk.1, hk.2, hx]
  · rw [if_neg hk]
    exact a k j (fun z => hk ⟨z.1, by simpa using z.2⟩)
theorem tk_le {cd : Nat → Nat} {n a k : Nat} (hk : 0 < k) (ha : a ≤ n) : tk cd n a k ≤ n ∧ a ≤ tk cd n a k := by
  unfold tk
  by_cases h : chr cd n a = k
  · rw [if_pos h]
    unfold chr at h
    split at h
    · omega
    · omega
  · rw [if_neg h]
    omega
theorem c_readSigned {hi : am_HI} {g : am_G} (hI : am_Inv g) {cd : Nat → Nat} {n a most : Nat} (h : TX hi cd n) (ha : hi 115 2 = nI a) (ha' : a ≤ n) (hm : most ≤ 198) : am_Cr M_X8_readSigned [.ref 115, .int (nI most)] hi g (some (.int (bI (sgn cd n most a).1))) (fun h => fq [2, 5] hi h ∧ h 115 2 = nI (sgn cd n most a).2.1 ∧ ((sgn cd n most a).1 = true → h 115 5 = (sgn cd n most a).2.2)) := by
  have hn80 := h.2.1
  have htk := tk_le (cd := cd) (k := 45) (by decide) ha'
  unfold sgn
  refine am_crn (by decide) (Nat.le_of_ble_eq_true rfl) (fun Φ hΦ => ?_)
  show AP M_X8_readSigned _ 0 [.ref 115, .int (nI most), jk, jk] [] _ g Φ
  refine s_X8_readSigned_0 ?_
  refine s_X8_readSigned_1 ?_
  refine s_X8_readSigned_3 hI rfl (by decide) (Nat.le_of_ble_eq_true rfl) (c_take hI (k := 45) h ha (by omega) (by decide)) ?_
  intro h9 e9; rw [e9]; clear e9 h9
  refine s_X8_readSigned_6 rfl ?_
  refine s_X8_readSigned_7 ?_
  refine s_X8_readSigned_8 ?_
  refine s_X8_readSigned_9 ?_
  refine s_X8_readSigned_10 hI rfl (by decide) (Nat.le_of_ble_eq_true rfl) (c_readNum hI (least := 0) (most := most) (h.at _) at_2 (by omega) (by decide) hm) ?_
  intro h9 e9; rw [e9]; clear e9 h9
  refine s_X8_readSigned_13 rfl ?_
  refine s_X8_readSigned_14 ?_
  refine s_X8_readSigned_15 ?_
  rw [at_at]
  have st : ∀ x : Int32, x = (if chr cd n a = 45 then -numI (cnum cd n 0 most (tk cd n a 45)) else numI (cnum cd n 0 most (tk cd n a 45))) → AP M_X8_readSigned (0, 0) 25 [.ref 115, .int (nI most), .int (bI (decide (chr cd n a = 45))), .int (numI (cnum cd n 0 most (tk cd n a 45)))] [.int x, .ref 115] (atI hi (numA (tk cd n a 45) (cnum cd n 0 most (tk cd n a 45)))) g Φ := ?_
  refine s_X8_readSigned_16 (fun hb => ?_) (fun hb => ?_)
  · refine s_X8_readSigned_24 ?_
    exact st _ (by rw [if_neg (bI_d0.mp hb)])
  · refine s_X8_readSigned_19 ?_
    refine s_X8_readSigned_20 ?_
    refine s_X8_readSigned_21 ?_
    exact st _ (by rw [if_pos (Decidable.not_not.mp (fun e => hb (bI_d0.mpr e)))])
  intro x hx
  cases hq : cnum cd n 0 most (tk cd n a 45) with
  | none =>
    rw [hq] at hΦ
    refine s_X8_readSigned_25 hI rfl (by decide) ?_
    refine s_X8_readSigned_28 ?_
    refine s_X8_readSigned_29 ?_
    refine s_X8_readSigned_30 (fun _ => ?_) (fun h => absurd (rfl) h)
    refine s_X8_readSigned_37 ?_
    exact s_X8_readSigned_38 (by first | exact Or.inl rfl | exact Or.inr rfl | exact bI_01 _) (hΦ _ (⟨(fq.rfl.up (by decide)).up (by decide), by rw [up_c, up_n (by decide)]; exact at_2, fun e => by cases e⟩))
  | some q =>
    rw [hq] at hΦ hx
    refine s_X8_readSigned_25 hI rfl (by decide) ?_
    refine s_X8_readSigned_28 ?_
    refine s_X8_readSigned_29 ?_
    refine s_X8_readSigned_30 (fun h => absurd h (num_n1 hm hq)) (fun _ => ?_)
    refine s_X8_readSigned_33 ?_
    refine s_X8_readSigned_34 ?_
    exact s_X8_readSigned_38 (by first | exact Or.inl rfl | exact Or.inr rfl | exact bI_01 _) (hΦ _ (⟨(fq.rfl.up (by decide)).up (by decide), by rw [up_c, up_n (by decide)]; exact at_2, fun _ => by rw [up_c, up_f]; exact hx⟩))
/-- a work: whether it is one, how far it goes, or where it ends to be one; its place, its value -/
def wk1 (cd : Nat → Nat) (n least most a : Nat) : Bool × Nat × Int32 × Int32 := match cnum cd n least most (a + 1) with
  | none => (false, a + 1, 0, 0)
  | some q => (true, q.2, 0, nI q.1)
def wk2 (cd : Nat → Nat) (n least most size a : Nat) : Bool × Nat × Int32 × Int32 := match cnum cd n least most (a + 1) with
  | none => (false, a + 1, 0, 0)
  | some q => if chr cd n q.2 = 58 then ((sgn cd n size (q.2 + 1)).1, (sgn cd n size (q.2 + 1)).2.1, nI q.1, (sgn cd n size (q.2 + 1)).2.2) else (false, q.2, 0, 0)
def wk (cd : Nat → Nat) (n a : Nat) : Bool × Nat × Int32 × Int32 := match chr cd n a with
  | 43 => wk1 cd n 0 99 a
  | 45 => wk1 cd n 0 99 a
  | 100 => wk1 cd n 1 12 a
  | 118 => wk1 cd n 0 3 a
  | 107 => wk1 cd n 0 4 a
  | 119 => wk2 cd n 1 4 64 a
  | 116 => wk2 cd n 0 47 198 a
  | 115 => (true, a + 1, 0, 0)
  | 120 => (true, a + 1, 0, 0)
  | _ => (false, a, 0, 0)
def is2 (c : Nat) : Bool := c == 119 || c == 116
def is0 (c : Nat) : Bool := c == 115 || c == 120
/-- what readWork() leaves -/
def WR (hi h : am_HI) (cd : Nat → Nat) (n a : Nat) : Prop := fq [2, 3, 4, 5] hi h ∧ h 115 2 = nI (wk cd n a).2.1 ∧ h 115 3 = nI (chr cd n a) ∧ ((wk cd n a).1 = true → (is2 (chr cd n a) = true → h 115 4 = (wk cd n a).2.2.1) ∧ (is0 (chr cd n a) = false → h 115 5 = (wk cd n a).2.2.2))
theorem chr_lt {cd : Nat → Nat} {n a : Nat} (h : chr cd n a ≠ 0) : a < n := by
  unfold chr at h
  split at h
  · assumption
  · exact absurd rfl h
theorem c_readWork {hi : am_HI} {g : am_G} (hI : am_Inv g) {cd : Nat → Nat} {n a : Nat} (h : TX hi cd n) (ha : hi 115 2 = nI a) (ha' : a ≤ n) : am_Cr M_X8_readWork [.ref 115] hi g (some (.int (bI (wk cd n a).1))) (fun h => WR hi h cd n a) := by
  have hn80 := h.2.1
  have hc126 := h.chr a
  have f1 : fq [3] hi (am_up hi 115 3 (nI (chr cd n a))) := fq.rfl.up (by decide)
  have t1 : TX (am_up hi 115 3 (nI (chr cd n a))) cd n := h.fq f1 (by decide)
  have a1 : am_up hi 115 3 (nI (chr cd n a)) 115 2 = nI a := by rw [up_c, up_n (by decide)]; exact ha
  have w1 : am_up hi 115 3 (nI (chr cd n a)) 115 3 = nI (chr cd n a) := by rw [up_c, up_f]
  refine am_crn (by decide) (Nat.le_of_ble_eq_true rfl) (fun Φ hΦ => ?_)
  show AP M_X8_readWork _ 0 [.ref 115] [] _ g Φ
  refine s_X8_readWork_0 ?_
  refine s_X8_readWork_1 ?_
  refine s_X8_readWork_2 hI rfl (by decide) (Nat.le_of_ble_eq_true rfl) (c_codeHere hI h ha (by omega)) ?_
  intro h9 e9; rw [e9]; clear e9 h9
  refine s_X8_readWork_5 hI rfl (by decide) ?_
  refine s_X8_readWork_8 ?_
  refine s_X8_readWork_9 hI rfl (by decide) ?_
  rw [w1]
  by_cases h0 : wk cd n a = (false, a, 0, 0) ∧ ¬ chr cd n a = 43 ∧ ¬ chr cd n a = 45 ∧ ¬ chr cd n a = 100 ∧ ¬ chr cd n a = 107 ∧ ¬ chr cd n a = 115 ∧ ¬ chr cd n a = 116 ∧ ¬ chr cd n a = 118 ∧ ¬ chr cd n a = 119 ∧ ¬ chr cd n a = 120
  · obtain ⟨e0, k1, k2, k3, k4, k5, k6, k7, k8, k9⟩ := h0
    have nn : ∀ m : Nat, ¬ chr cd n a = m → ¬ (nI (chr cd n a)).toInt = (m : Int) := fun m hm e => hm (by rw [am_nI (by omega)] at e; omega)
    unfold WR at hΦ
    rw [e0] at hΦ
    refine s_X8_readWork_12_d (⟨nn 43 k1, nn 45 k2, nn 100 k3, nn 107 k4, nn 115 k5, nn 116 k6, nn 118 k7, nn 119 k8, nn 120 k9⟩) ?_
    refine s_X8_readWork_283 ?_
    exact s_X8_readWork_284 (by first | exact Or.inl rfl | exact Or.inr rfl | exact bI_01 _) (hΦ _ (⟨f1.mono (by decide), a1, w1, fun e => by cases e⟩))
  have hcs : chr cd n a = 43 ∨ chr cd n a = 45 ∨ chr cd n a = 100 ∨ chr cd n a = 107 ∨ chr cd n a = 118 ∨ chr cd n a = 115 ∨ chr cd n a = 120 ∨ chr cd n a = 116 ∨ chr cd n a = 119 := by
    by_cases hh : chr cd n a = 43 ∨ chr cd n a = 45 ∨ chr cd n a = 100 ∨ chr cd n a = 107 ∨ chr cd n a = 118 ∨ chr cd n a = 115 ∨ chr cd n a = 120 ∨ chr cd n a = 116 ∨ chr cd n a = 119
    · exact hh
    · simp only [not_or] at hh
      obtain ⟨k1, k2, k3, k4, k5, k6, k7, k8, k9⟩ := hh
      refine absurd ⟨?_, k1, k2, k3, k4, k6, k8, k5, k9, k7⟩ h0
      unfold wk
      split <;> first | rfl | (rename_i hh; exact absurd hh (by assumption))
  rcases hcs with hc | hc | hc | hc | hc | hc | hc | hc | hc
  · have han := chr_lt (cd := cd) (n := n) (a := a) (by rw [hc]; decide)
    have ew : wk cd n a = wk1 cd n 0 99 a := by unfold wk; simp only [hc]
    unfold WR at hΦ
    rw [ew, hc] at hΦ
    rw [hc] at f1 t1 a1 w1 ⊢
    refine s_X8_readWork_12_43 ?_
    refine s_X8_readWork_96 ?_
    refine s_X8_readWork_97 ?_
    refine s_X8_readWork_98 hI rfl (by decide) ?_
    rw [w1]
    refine s_X8_readWork_101 hI rfl (by decide) (Nat.le_of_ble_eq_true rfl) (c_takeT hI (k := 43) t1 a1 (by omega) (by decide) hc) ?_
    intro h9 e9; rw [e9]; clear e9 h9
    refine s_X8_readWork_104 (fun h => absurd h (by decide)) (fun _ => ?_)
    refine s_X8_readWork_107 ?_
    refine s_X8_readWork_108 ?_
    refine s_X8_readWork_109 ?_
    refine s_X8_readWork_111 hI rfl (by decide) (Nat.le_of_ble_eq_true rfl) (c_readValue hI (least := 0) (most := 99) (t1.at _) at_2 (by omega) (by decide) (by decide)) ?_
    intro h5 ⟨g1, g2, g3⟩
    have g3' : h5 115 3 = nI 43 := by rw [g1 115 3 (by decide)]; unfold atI; rw [up_c, up_n (by decide)]; exact w1
    have g1' : fq [2, 3, 4, 5] hi h5 := ((f1.mono (by decide)).tr (fq.up fq.rfl (by decide))).tr (g1.mono (by decide))
    cases hq : cnum cd n 0 99 (a + 1) with
    | none =>
      rw [hq] at g2 g3
      simp only [wk1, hq] at hΦ
      exact s_X8_readWork_114 (fun _ => s_X8_readWork_121 (s_X8_readWork_122 (Or.inl rfl) (hΦ _ ⟨g1', g2, g3', fun e => by cases e⟩))) (fun e => absurd rfl e)
    | some q =>
      rw [hq] at g2 g3
      simp only [wk1, hq] at hΦ
      exact s_X8_readWork_114 (fun e => absurd e (show ¬ (1 : Int32) = 0 by decide)) (fun _ => s_X8_readWork_117 (s_X8_readWork_118 (s_X8_readWork_122 (Or.inr rfl) (hΦ _ ⟨g1', g2, g3', fun _ => ⟨fun e => absurd e (by decide), fun _ => g3⟩⟩))))
  · have han := chr_lt (cd := cd) (n := n) (a := a) (by rw [hc]; decide)
    have ew : wk cd n a = wk1 cd n 0 99 a := by unfold wk; simp only [hc]
    unfold WR at hΦ
    rw [ew, hc] at hΦ
    rw [hc] at f1 t1 a1 w1 ⊢
    refine s_X8_readWork_12_45 ?_
    refine s_X8_readWork_96 ?_
    refine s_X8_readWork_97 ?_
    refine s_X8_readWork_98 hI rfl (by decide) ?_
    rw [w1]
    refine s_X8_readWork_101 hI rfl (by decide) (Nat.le_of_ble_eq_true rfl) (c_takeT hI (k := 45) t1 a1 (by omega) (by decide) hc) ?_
    intro h9 e9; rw [e9]; clear e9 h9
    refine s_X8_readWork_104 (fun h => absurd h (by decide)) (fun _ => ?_)
    refine s_X8_readWork_107 ?_
    refine s_X8_readWork_108 ?_
    refine s_X8_readWork_109 ?_
    refine s_X8_readWork_111 hI rfl (by decide) (Nat.le_of_ble_eq_true rfl) (c_readValue hI (least := 0) (most := 99) (t1.at _) at_2 (by omega) (by decide) (by decide)) ?_
    intro h5 ⟨g1, g2, g3⟩
    have g3' : h5 115 3 = nI 45 := by rw [g1 115 3 (by decide)]; unfold atI; rw [up_c, up_n (by decide)]; exact w1
    have g1' : fq [2, 3, 4, 5] hi h5 := ((f1.mono (by decide)).tr (fq.up fq.rfl (by decide))).tr (g1.mono (by decide))
    cases hq : cnum cd n 0 99 (a + 1) with
    | none =>
      rw [hq] at g2 g3
      simp only [wk1, hq] at hΦ
      exact s_X8_readWork_114 (fun _ => s_X8_readWork_121 (s_X8_readWork_122 (Or.inl rfl) (hΦ _ ⟨g1', g2, g3', fun e => by cases e⟩))) (fun e => absurd rfl e)
    | some q =>
      rw [hq] at g2 g3
      simp only [wk1, hq] at hΦ
      exact s_X8_readWork_114 (fun e => absurd e (show ¬ (1 : Int32) = 0 by decide)) (fun _ => s_X8_readWork_117 (s_X8_readWork_118 (s_X8_readWork_122 (Or.inr rfl) (hΦ _ ⟨g1', g2, g3', fun _ => ⟨fun e => absurd e (by decide), fun _ => g3⟩⟩))))
  · have han := chr_lt (cd := cd) (n := n) (a := a) (by rw [hc]; decide)
    have ew : wk cd n a = wk1 cd n 1 12 a := by unfold wk; simp only [hc]
    unfold WR at hΦ
    rw [ew, hc] at hΦ
    rw [hc] at f1 t1 a1 w1 ⊢
    refine s_X8_readWork_12_100 ?_
    refine s_X8_readWork_123 ?_
    refine s_X8_readWork_124 ?_
    refine s_X8_readWork_125 hI rfl (by decide) ?_
    rw [w1]
    refine s_X8_readWork_128 hI rfl (by decide) (Nat.le_of_ble_eq_true rfl) (c_takeT hI (k := 100) t1 a1 (by omega) (by decide) hc) ?_
    intro h9 e9; rw [e9]; clear e9 h9
    refine s_X8_readWork_131 (fun h => absurd h (by decide)) (fun _ => ?_)
    refine s_X8_readWork_134 ?_
    refine s_X8_readWork_135 ?_
    refine s_X8_readWork_136 ?_
    refine s_X8_readWork_138 hI rfl (by decide) (Nat.le_of_ble_eq_true rfl) (c_readValue hI (least := 1) (most := 12) (t1.at _) at_2 (by omega) (by decide) (by decide)) ?_
    intro h5 ⟨g1, g2, g3⟩
    have g3' : h5 115 3 = nI 100 := by rw [g1 115 3 (by decide)]; unfold atI; rw [up_c, up_n (by decide)]; exact w1
    have g1' : fq [2, 3, 4, 5] hi h5 := ((f1.mono (by decide)).tr (fq.up fq.rfl (by decide))).tr (g1.mono (by decide))
    cases hq : cnum cd n 1 12 (a + 1) with
    | none =>
      rw [hq] at g2 g3
      simp only [wk1, hq] at hΦ
      exact s_X8_readWork_141 (fun _ => s_X8_readWork_148 (s_X8_readWork_149 (Or.inl rfl) (hΦ _ ⟨g1', g2, g3', fun e => by cases e⟩))) (fun e => absurd rfl e)
    | some q =>
      rw [hq] at g2 g3
      simp only [wk1, hq] at hΦ
      exact s_X8_readWork_141 (fun e => absurd e (show ¬ (1 : Int32) = 0 by decide)) (fun _ => s_X8_readWork_144 (s_X8_readWork_145 (s_X8_readWork_149 (Or.inr rfl) (hΦ _ ⟨g1', g2, g3', fun _ => ⟨fun e => absurd e (by decide), fun _ => g3⟩⟩))))
  · have han := chr_lt (cd := cd) (n := n) (a := a) (by rw [hc]; decide)
    have ew : wk cd n a = wk1 cd n 0 4 a := by unfold wk; simp only [hc]
    unfold WR at hΦ
    rw [ew, hc] at hΦ
    rw [hc] at f1 t1 a1 w1 ⊢
    refine s_X8_readWork_12_107 ?_
    refine s_X8_readWork_176 ?_
    refine s_X8_readWork_177 ?_
    refine s_X8_readWork_178 hI rfl (by decide) ?_
    rw [w1]
    refine s_X8_readWork_181 hI rfl (by decide) (Nat.le_of_ble_eq_true rfl) (c_takeT hI (k := 107) t1 a1 (by omega) (by decide) hc) ?_
    intro h9 e9; rw [e9]; clear e9 h9
    refine s_X8_readWork_184 (fun h => absurd h (by decide)) (fun _ => ?_)
    refine s_X8_readWork_187 ?_
    refine s_X8_readWork_188 ?_
    refine s_X8_readWork_189 ?_
    refine s_X8_readWork_190 hI rfl (by decide) (Nat.le_of_ble_eq_true rfl) (c_readValue hI (least := 0) (most := 4) (t1.at _) at_2 (by omega) (by decide) (by decide)) ?_
    intro h5 ⟨g1, g2, g3⟩
    have g3' : h5 115 3 = nI 107 := by rw [g1 115 3 (by decide)]; unfold atI; rw [up_c, up_n (by decide)]; exact w1
    have g1' : fq [2, 3, 4, 5] hi h5 := ((f1.mono (by decide)).tr (fq.up fq.rfl (by decide))).tr (g1.mono (by decide))
    cases hq : cnum cd n 0 4 (a + 1) with
    | none =>
      rw [hq] at g2 g3
      simp only [wk1, hq] at hΦ
      exact s_X8_readWork_193 (fun _ => s_X8_readWork_200 (s_X8_readWork_201 (Or.inl rfl) (hΦ _ ⟨g1', g2, g3', fun e => by cases e⟩))) (fun e => absurd rfl e)
    | some q =>
      rw [hq] at g2 g3
      simp only [wk1, hq] at hΦ
      exact s_X8_readWork_193 (fun e => absurd e (show ¬ (1 : Int32) = 0 by decide)) (fun _ => s_X8_readWork_196 (s_X8_readWork_197 (s_X8_readWork_201 (Or.inr rfl) (hΦ _ ⟨g1', g2, g3', fun _ => ⟨fun e => absurd e (by decide), fun _ => g3⟩⟩))))
  · have han := chr_lt (cd := cd) (n := n) (a := a) (by rw [hc]; decide)
    have ew : wk cd n a = wk1 cd n 0 3 a := by unfold wk; simp only [hc]
    unfold WR at hΦ
    rw [ew, hc] at hΦ
    rw [hc] at f1 t1 a1 w1 ⊢
    refine s_X8_readWork_12_118 ?_
    refine s_X8_readWork_150 ?_
    refine s_X8_readWork_151 ?_
    refine s_X8_readWork_152 hI rfl (by decide) ?_
    rw [w1]
    refine s_X8_readWork_155 hI rfl (by decide) (Nat.le_of_ble_eq_true rfl) (c_takeT hI (k := 118) t1 a1 (by omega) (by decide) hc) ?_
    intro h9 e9; rw [e9]; clear e9 h9
    refine s_X8_readWork_158 (fun h => absurd h (by decide)) (fun _ => ?_)
    refine s_X8_readWork_161 ?_
    refine s_X8_readWork_162 ?_
    refine s_X8_readWork_163 ?_
    refine s_X8_readWork_164 hI rfl (by decide) (Nat.le_of_ble_eq_true rfl) (c_readValue hI (least := 0) (most := 3) (t1.at _) at_2 (by omega) (by decide) (by decide)) ?_
    intro h5 ⟨g1, g2, g3⟩
    have g3' : h5 115 3 = nI 118 := by rw [g1 115 3 (by decide)]; unfold atI; rw [up_c, up_n (by decide)]; exact w1
    have g1' : fq [2, 3, 4, 5] hi h5 := ((f1.mono (by decide)).tr (fq.up fq.rfl (by decide))).tr (g1.mono (by decide))
    cases hq : cnum cd n 0 3 (a + 1) with
    | none =>
      rw [hq] at g2 g3
      simp only [wk1, hq] at hΦ
      exact s_X8_readWork_167 (fun _ => s_X8_readWork_174 (s_X8_readWork_175 (Or.inl rfl) (hΦ _ ⟨g1', g2, g3', fun e => by cases e⟩))) (fun e => absurd rfl e)
    | some q =>
      rw [hq] at g2 g3
      simp only [wk1, hq] at hΦ
      exact s_X8_readWork_167 (fun e => absurd e (show ¬ (1 : Int32) = 0 by decide)) (fun _ => s_X8_readWork_170 (s_X8_readWork_171 (s_X8_readWork_175 (Or.inr rfl) (hΦ _ ⟨g1', g2, g3', fun _ => ⟨fun e => absurd e (by decide), fun _ => g3⟩⟩))))
  · have han := chr_lt (cd := cd) (n := n) (a := a) (by rw [hc]; decide)
    have ew : wk cd n a = (true, a + 1, 0, 0) := by unfold wk; simp only [hc]
    unfold WR at hΦ
    rw [ew, hc] at hΦ
    rw [hc] at f1 t1 a1 w1 ⊢
    refine s_X8_readWork_12_115 ?_
    refine s_X8_readWork_274 ?_
    refine s_X8_readWork_275 ?_
    refine s_X8_readWork_276 hI rfl (by decide) ?_
    rw [w1]
    refine s_X8_readWork_279 hI rfl (by decide) (Nat.le_of_ble_eq_true rfl) (c_takeT hI (k := 115) t1 a1 (by omega) (by decide) hc) ?_
    intro h9 e9; rw [e9]; clear e9 h9
    exact s_X8_readWork_282 (by first | exact Or.inl rfl | exact Or.inr rfl | exact bI_01 _) (hΦ _ (⟨(f1.mono (by decide)).tr (fq.up fq.rfl (by decide)), at_2, by unfold atI; rw [up_c, up_n (by decide)]; exact w1, fun _ => ⟨fun e => absurd e (by decide), fun e => absurd e (by decide)⟩⟩))
  · have han := chr_lt (cd := cd) (n := n) (a := a) (by rw [hc]; decide)
    have ew : wk cd n a = (true, a + 1, 0, 0) := by unfold wk; simp only [hc]
    unfold WR at hΦ
    rw [ew, hc] at hΦ
    rw [hc] at f1 t1 a1 w1 ⊢
    refine s_X8_readWork_12_120 ?_
    refine s_X8_readWork_274 ?_
    refine s_X8_readWork_275 ?_
    refine s_X8_readWork_276 hI rfl (by decide) ?_
    rw [w1]
    refine s_X8_readWork_279 hI rfl (by decide) (Nat.le_of_ble_eq_true rfl) (c_takeT hI (k := 120) t1 a1 (by omega) (by decide) hc) ?_
    intro h9 e9; rw [e9]; clear e9 h9
    exact s_X8_readWork_282 (by first | exact Or.inl rfl | exact Or.inr rfl | exact bI_01 _) (hΦ _ (⟨(f1.mono (by decide)).tr (fq.up fq.rfl (by decide)), at_2, by unfold atI; rw [up_c, up_n (by decide)]; exact w1, fun _ => ⟨fun e => absurd e (by decide), fun e => absurd e (by decide)⟩⟩))
  · have han := chr_lt (cd := cd) (n := n) (a := a) (by rw [hc]; decide)
    have ew : wk cd n a = wk2 cd n 0 47 198 a := by unfold wk; simp only [hc]
    unfold WR at hΦ
    rw [ew, hc] at hΦ
    rw [hc] at f1 t1 a1 w1 ⊢
    refine s_X8_readWork_12_116 ?_
    refine s_X8_readWork_237 ?_
    refine s_X8_readWork_238 ?_
    refine s_X8_readWork_239 hI rfl (by decide) ?_
    rw [w1]
    refine s_X8_readWork_242 hI rfl (by decide) (Nat.le_of_ble_eq_true rfl) (c_takeT hI (k := 116) t1 a1 (by omega) (by decide) hc) ?_
    intro h9 e9; rw [e9]; clear e9 h9
    refine s_X8_readWork_245 (fun h => absurd h (by decide)) (fun _ => ?_)
    refine s_X8_readWork_248 ?_
    refine s_X8_readWork_249 ?_
    refine s_X8_readWork_250 ?_
    refine s_X8_readWork_252 hI rfl (by decide) (Nat.le_of_ble_eq_true rfl) (c_readPlace hI (least := 0) (most := 47) (t1.at _) at_2 (by omega) (by decide) (by decide)) ?_
    intro h5 ⟨g1, g2, g3⟩
    have g3' : h5 115 3 = nI 116 := by rw [g1 115 3 (by decide)]; unfold atI; rw [up_c, up_n (by decide)]; exact w1
    have g1' : fq [2, 3, 4, 5] hi h5 := ((f1.mono (by decide)).tr (fq.up fq.rfl (by decide))).tr (g1.mono (by decide))
    have t5 : TX h5 cd n := (t1.at (a + 1)).fq g1 (by decide)
    cases hq : cnum cd n 0 47 (a + 1) with
    | none =>
      rw [hq] at g2 g3
      simp only [wk2, hq] at hΦ
      exact s_X8_readWork_255 (fun _ => s_X8_readWork_272 (s_X8_readWork_273 (Or.inl rfl) (hΦ _ ⟨g1', g2, g3', fun e => by cases e⟩))) (fun e => absurd rfl e)
    | some q =>
      rw [hq] at g2 g3
      simp only [wk2, hq] at hΦ
      have hle := cnum_le hq
      by_cases h58 : chr cd n q.2 = 58
      · have hq2 := chr_lt (cd := cd) (n := n) (a := q.2) (by rw [h58]; decide)
        simp only [if_pos h58] at hΦ
        simp only [plO, decide_eq_true h58, tk, if_pos h58] at g2 ⊢
        refine s_X8_readWork_255 (fun h => absurd h (by decide)) (fun _ => ?_)
        refine s_X8_readWork_258 ?_
        refine s_X8_readWork_259 ?_
        refine s_X8_readWork_262 hI rfl (by decide) (Nat.le_of_ble_eq_true rfl) (c_readSigned hI (most := 198) t5 g2 (by omega) (by decide)) ?_
        intro h6 ⟨k1, k2, k3⟩
        have p6 : fq [2, 3, 4, 5] hi h6 := g1'.tr (k1.mono (by decide))
        have c6 : h6 115 3 = nI 116 := (k1 115 3 (by decide)).trans g3'
        have v6 : h6 115 4 = nI q.1 := (k1 115 4 (by decide)).trans g3
        refine s_X8_readWork_265 (fun hs => ?_) (fun hs => ?_)
        · refine s_X8_readWork_272 ?_
          have hs' : (sgn cd n 198 (q.2 + 1)).1 = false := bI_e0.mp hs
          rw [hs'] at hΦ
          exact s_X8_readWork_273 (by first | exact Or.inl rfl | exact Or.inr rfl | exact bI_01 _) (hΦ _ (⟨p6, k2, c6, fun e => by cases e⟩))
        · refine s_X8_readWork_268 ?_
          refine s_X8_readWork_269 ?_
          have hs' : (sgn cd n 198 (q.2 + 1)).1 = true := bI_n0.mp hs
          rw [hs'] at hΦ
          exact s_X8_readWork_273 (by first | exact Or.inl rfl | exact Or.inr rfl | exact bI_01 _) (hΦ _ (⟨p6, k2, c6, fun _ => ⟨fun _ => v6, fun _ => k3 hs'⟩⟩))
      · simp only [if_neg h58] at hΦ
        simp only [plO, decide_eq_false h58, tk, if_neg h58] at g2 ⊢
        exact s_X8_readWork_255 (fun _ => s_X8_readWork_272 (s_X8_readWork_273 (Or.inl rfl) (hΦ _ ⟨g1', g2, g3', fun e => by cases e⟩))) (fun e => absurd rfl e)
  · have han := chr_lt (cd := cd) (n := n) (a := a) (by rw [hc]; decide)
    have ew : wk cd n a = wk2 cd n 1 4 64 a := by unfold wk; simp only [hc]
    unfold WR at hΦ
    rw [ew, hc] at hΦ
    rw [hc] at f1 t1 a1 w1 ⊢
    refine s_X8_readWork_12_119 ?_
    refine s_X8_readWork_202 ?_
    refine s_X8_readWork_203 ?_
    refine s_X8_readWork_204 hI rfl (by decide) ?_
    rw [w1]
    refine s_X8_readWork_207 hI rfl (by decide) (Nat.le_of_ble_eq_true rfl) (c_takeT hI (k := 119) t1 a1 (by omega) (by decide) hc) ?_
    intro h9 e9; rw [e9]; clear e9 h9
    refine s_X8_readWork_210 (fun h => absurd h (by decide)) (fun _ => ?_)
    refine s_X8_readWork_213 ?_
    refine s_X8_readWork_214 ?_
    refine s_X8_readWork_215 ?_
    refine s_X8_readWork_216 hI rfl (by decide) (Nat.le_of_ble_eq_true rfl) (c_readPlace hI (least := 1) (most := 4) (t1.at _) at_2 (by omega) (by decide) (by decide)) ?_
    intro h5 ⟨g1, g2, g3⟩
    have g3' : h5 115 3 = nI 119 := by rw [g1 115 3 (by decide)]; unfold atI; rw [up_c, up_n (by decide)]; exact w1
    have g1' : fq [2, 3, 4, 5] hi h5 := ((f1.mono (by decide)).tr (fq.up fq.rfl (by decide))).tr (g1.mono (by decide))
    have t5 : TX h5 cd n := (t1.at (a + 1)).fq g1 (by decide)
    cases hq : cnum cd n 1 4 (a + 1) with
    | none =>
      rw [hq] at g2 g3
      simp only [wk2, hq] at hΦ
      exact s_X8_readWork_219 (fun _ => s_X8_readWork_235 (s_X8_readWork_236 (Or.inl rfl) (hΦ _ ⟨g1', g2, g3', fun e => by cases e⟩))) (fun e => absurd rfl e)
    | some q =>
      rw [hq] at g2 g3
      simp only [wk2, hq] at hΦ
      have hle := cnum_le hq
      by_cases h58 : chr cd n q.2 = 58
      · have hq2 := chr_lt (cd := cd) (n := n) (a := q.2) (by rw [h58]; decide)
        simp only [if_pos h58] at hΦ
        simp only [plO, decide_eq_true h58, tk, if_pos h58] at g2 ⊢
        refine s_X8_readWork_219 (fun h => absurd h (by decide)) (fun _ => ?_)
        refine s_X8_readWork_222 ?_
        refine s_X8_readWork_223 ?_
        refine s_X8_readWork_225 hI rfl (by decide) (Nat.le_of_ble_eq_true rfl) (c_readSigned hI (most := 64) t5 g2 (by omega) (by decide)) ?_
        intro h6 ⟨k1, k2, k3⟩
        have p6 : fq [2, 3, 4, 5] hi h6 := g1'.tr (k1.mono (by decide))
        have c6 : h6 115 3 = nI 119 := (k1 115 3 (by decide)).trans g3'
        have v6 : h6 115 4 = nI q.1 := (k1 115 4 (by decide)).trans g3
        refine s_X8_readWork_228 (fun hs => ?_) (fun hs => ?_)
        · refine s_X8_readWork_235 ?_
          have hs' : (sgn cd n 64 (q.2 + 1)).1 = false := bI_e0.mp hs
          rw [hs'] at hΦ
          exact s_X8_readWork_236 (by first | exact Or.inl rfl | exact Or.inr rfl | exact bI_01 _) (hΦ _ (⟨p6, k2, c6, fun e => by cases e⟩))
        · refine s_X8_readWork_231 ?_
          refine s_X8_readWork_232 ?_
          have hs' : (sgn cd n 64 (q.2 + 1)).1 = true := bI_n0.mp hs
          rw [hs'] at hΦ
          exact s_X8_readWork_236 (by first | exact Or.inl rfl | exact Or.inr rfl | exact bI_01 _) (hΦ _ (⟨p6, k2, c6, fun _ => ⟨fun _ => v6, fun _ => k3 hs'⟩⟩))
      · simp only [if_neg h58] at hΦ
        simp only [plO, decide_eq_false h58, tk, if_neg h58] at g2 ⊢
        exact s_X8_readWork_219 (fun _ => s_X8_readWork_235 (s_X8_readWork_236 (Or.inl rfl) (hΦ _ ⟨g1', g2, g3', fun e => by cases e⟩))) (fun e => absurd rfl e)
