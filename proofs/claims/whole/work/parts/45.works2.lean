/-! ===== the text: a work, and the first fault ===== -/
def fq (J : List Nat) (hi h : am_HI) : Prop := ∀ k j, ¬(k = 115 ∧ j ∈ J) → h k j = hi k j
theorem fq.rfl {J : List Nat} {h : am_HI} : fq J h h := fun _ _ _ => Eq.refl _
theorem fq.tr {J : List Nat} {h h1 h2 : am_HI} (a : fq J h h1) (b : fq J h1 h2) : fq J h h2 := fun k j hk => (b k j hk).trans (a k j hk)
theorem fq.mono {J J' : List Nat} {h h1 : am_HI} (a : fq J h h1) (hS : ∀ k ∈ J, k ∈ J') : fq J' h h1 := fun k j hk => a k j (fun z => hk ⟨z.1, hS _ z.2⟩)
theorem fq.up {J : List Nat} {h h1 : am_HI} {j : Nat} {x : Int32} (a : fq J h h1) (hj : j ∈ J) : fq J h (am_up h1 115 j x) := fun k i hk => by
  rw [up_r, if_neg (fun e => hk ⟨e.1, by rw [e.2]; exact hj⟩)]
  exact a k i hk
theorem fq.row {J : List Nat} {h h1 : am_HI} (a : fq J h h1) {k : Nat} (hk : k ≠ 115) : h1 k = h k := funext (fun j => a k j (fun z => hk z.1))
theorem TX.fq {J : List Nat} {hi h : am_HI} {cd : Nat → Nat} {n : Nat} (t : TX hi cd n) (a : fq J hi h) (hJ : 1 ∉ J) : TX h cd n := by
  unfold TX
  rw [a 115 1 (fun z => hJ z.2), a.row (k := 116) (by decide)]
  exact t
theorem c_takeT {hi : am_HI} {g : am_G} (hI : am_Inv g) {cd : Nat → Nat} {n a k : Nat} (h : TX hi cd n) (ha : hi 115 2 = nI a) (ha' : a ≤ 80) (hk : k < 1000) (hc : chr cd n a = k) : am_Cr M_X8_take [.ref 115, .int (nI k)] hi g (some (.int 1)) (fun h => h = atI hi (a + 1)) := by
  have := c_take hI h ha ha' hk
  rw [decide_eq_true hc, tk, if_pos hc] at this
  exact this
theorem c_takeF {hi : am_HI} {g : am_G} (hI : am_Inv g) {cd : Nat → Nat} {n a k : Nat} (h : TX hi cd n) (ha : hi 115 2 = nI a) (ha' : a ≤ 80) (hk : k < 1000) (hc : ¬ chr cd n a = k) : am_Cr M_X8_take [.ref 115, .int (nI k)] hi g (some (.int 0)) (fun h => h = hi) := by
  have := c_take hI h ha ha' hk
  rw [decide_eq_false hc, tk, if_neg hc, show atI hi a = hi from up_sf ha] at this
  exact this
theorem num_n1 {cd : Nat → Nat} {n least most a : Nat} (hm : most ≤ 198) {q : Nat × Nat} (h : cnum cd n least most a = some q) : ¬ nI q.1 = -1 := ne_m1 (by have := cnum_v h; omega)
theorem c_readValue {hi : am_HI} {g : am_G} (hI : am_Inv g) {cd : Nat → Nat} {n a least most : Nat} (h : TX hi cd n) (ha : hi 115 2 = nI a) (ha' : a ≤ 80) (hl : least ≤ 9) (hm : most ≤ 198) : am_Cr M_X8_readValue [.ref 115, .int (nI least), .int (nI most)] hi g (some (.int (bI (cnum cd n least most a).isSome))) (fun h => fq [2, 5] hi h ∧ h 115 2 = nI (numA a (cnum cd n least most a)) ∧ h 115 5 = numI (cnum cd n least most a)) := by
  refine am_crn (by decide) (Nat.le_of_ble_eq_true rfl) (fun Φ hΦ => ?_)
  show AP M_X8_readValue _ 0 [.ref 115, .int (nI least), .int (nI most)] [] _ g Φ
  refine s_X8_readValue_0 ?_
  refine s_X8_readValue_1 ?_
  refine s_X8_readValue_2 ?_
  refine s_X8_readValue_3 ?_
  refine s_X8_readValue_4 hI rfl (by decide) (Nat.le_of_ble_eq_true rfl) (c_readNum hI h ha ha' hl hm) ?_
  intro h9 e9; rw [e9]; clear e9 h9
  refine s_X8_readValue_7 hI rfl (by decide) ?_
  refine s_X8_readValue_10 ?_
  refine s_X8_readValue_11 hI rfl (by decide) ?_
  refine s_X8_readValue_14 ?_
  have post : fq [2, 5] hi (am_up (atI hi (numA a (cnum cd n least most a))) 115 5 (numI (cnum cd n least most a))) ∧ am_up (atI hi (numA a (cnum cd n least most a))) 115 5 (numI (cnum cd n least most a)) 115 2 = nI (numA a (cnum cd n least most a)) ∧ am_up (atI hi (numA a (cnum cd n least most a))) 115 5 (numI (cnum cd n least most a)) 115 5 = numI (cnum cd n least most a) := ⟨(fq.rfl.up (by decide)).up (by decide), by rw [up_c, up_n (by decide)]; exact at_2, by rw [up_c, up_f]⟩
  rw [up_c, up_f]
  refine s_X8_readValue_15 (fun hh => ?_) (fun hh => ?_)
  · refine s_X8_readValue_22 ?_
    refine s_X8_readValue_23 (by first | exact Or.inl rfl | exact Or.inr rfl | exact bI_01 _) ?_
    have hn : cnum cd n least most a = none := by
      cases hq : cnum cd n least most a with
      | none => rfl
      | some q => rw [hq] at hh; exact absurd hh (num_n1 hm hq)
    have hΦ' := hΦ _ post
    rw [hn] at hΦ' ⊢
    exact hΦ'
  · refine s_X8_readValue_18 ?_
    refine s_X8_readValue_19 ?_
    refine s_X8_readValue_23 (by first | exact Or.inl rfl | exact Or.inr rfl | exact bI_01 _) ?_
    have hΦ' := hΦ _ post
    cases hq : cnum cd n least most a with
    | none => rw [hq] at hh; exact absurd rfl hh
    | some q =>
      rw [hq] at hΦ' ⊢
      exact hΦ'
/-- a place and a colon: whether they are there, and how far -/
def plO (cd : Nat → Nat) (n a : Nat) : Option (Nat × Nat) → Bool × Nat
  | none => (false, a)
  | some q => (decide (chr cd n q.2 = 58), tk cd n q.2 58)
theorem c_readPlace {hi : am_HI} {g : am_G} (hI : am_Inv g) {cd : Nat → Nat} {n a least most : Nat} (h : TX hi cd n) (ha : hi 115 2 = nI a) (ha' : a ≤ 80) (hl : least ≤ 9) (hm : most ≤ 198) : am_Cr M_X8_readPlace [.ref 115, .int (nI least), .int (nI most)] hi g (some (.int (bI (plO cd n a (cnum cd n least most a)).1))) (fun h => fq [2, 4] hi h ∧ h 115 2 = nI (plO cd n a (cnum cd n least most a)).2 ∧ h 115 4 = numI (cnum cd n least most a)) := by
  refine am_crn (by decide) (Nat.le_of_ble_eq_true rfl) (fun Φ hΦ => ?_)
  show AP M_X8_readPlace _ 0 [.ref 115, .int (nI least), .int (nI most)] [] _ g Φ
  refine s_X8_readPlace_0 ?_
  refine s_X8_readPlace_1 ?_
  refine s_X8_readPlace_2 ?_
  refine s_X8_readPlace_3 ?_
  refine s_X8_readPlace_4 hI rfl (by decide) (Nat.le_of_ble_eq_true rfl) (c_readNum hI h ha ha' hl hm) ?_
  intro h9 e9; rw [e9]; clear e9 h9
  refine s_X8_readPlace_7 hI rfl (by decide) ?_
  refine s_X8_readPlace_10 ?_
  refine s_X8_readPlace_11 hI rfl (by decide) ?_
  refine s_X8_readPlace_14 ?_
  rw [up_c, up_f]
  cases hq : cnum cd n least most a with
  | none =>
    rw [hq] at hΦ
    refine s_X8_readPlace_15 (fun _ => ?_) (fun h => absurd rfl h)
    refine s_X8_readPlace_31 (s_X8_readPlace_32 (Or.inl rfl) (hΦ _ ⟨(fq.rfl.up (by decide)).up (by decide), ?_, ?_⟩))
    · rw [up_c, up_n (by decide)]; exact at_2
    · rw [up_c, up_f]
  | some q =>
    rw [hq] at hΦ
    have hle := cnum_le hq
    have f0 : fq [2, 4] hi (am_up (atI hi q.2) 115 4 (nI q.1)) := (fq.rfl.up (by decide)).up (by decide)
    have t0 : TX (am_up (atI hi q.2) 115 4 (nI q.1)) cd n := h.fq f0 (by decide)
    have a0 : am_up (atI hi q.2) 115 4 (nI q.1) 115 2 = nI q.2 := by rw [up_c, up_n (by decide)]; exact at_2
    show AP M_X8_readPlace _ 15 _ _ (am_up (atI hi q.2) 115 4 (nI q.1)) g Φ
    refine s_X8_readPlace_15 (fun h => absurd h (num_n1 hm hq)) (fun _ => ?_)
    refine s_X8_readPlace_18 ?_
    refine s_X8_readPlace_19 ?_
    refine s_X8_readPlace_21 hI rfl (by decide) (Nat.le_of_ble_eq_true rfl) (c_take hI (k := 58) t0 a0 (by have := h.2.1; omega) (by decide)) ?_
    intro h9 e9; rw [e9]; clear e9 h9
    refine s_X8_readPlace_24 (fun hh => ?_) (fun hh => ?_)
    · refine s_X8_readPlace_31 ?_
      refine s_X8_readPlace_32 (by first | exact Or.inl rfl | exact Or.inr rfl | exact bI_01 _) ?_
      have hc := bI_d0.mp hh
      exact s_X8_readPlace_32 (Or.inl rfl) (hΦ _ rfl)
    · refine s_X8_readPlace_27 ?_
      refine s_X8_readPlace_28 ?_
      refine s_X8_readPlace_32 (by first | exact Or.inl rfl | exact Or.inr rfl | exact bI_01 _) ?_
      have hc := Decidable.not_not.mp (fun e => hh (bI_d0.mpr e))
      exact s_X8_readPlace_32 (Or.inr rfl) (hΦ _ rfl)
def sgn (cd : Nat → Nat) (n most a : Nat) : Bool × Nat × Int32 := match cnum cd n 0 most (tk cd n a 45) with
  | none => (false, tk cd n a 45, 0)
  | some q => (true, q.2, if chr cd n a = 45 then -nI q.1 else nI q.1)
