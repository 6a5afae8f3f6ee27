/-! ===== the model reads the text ===== -/
def sg (cd : Nat → Nat) (n s : Nat) : Int32 := if s < n then nI (cd s) else -1
/-- the text is read at s, no fault so far -/
def RA (hi : am_HI) (s : Nat) : Prop := hi 123 14 = -1 ∧ hi 123 13 = nI s
def spt (hi : am_HI) (s : Nat) : am_HI := am_up hi 123 13 (nI s)
def ded (hi : am_HI) (s : Nat) : am_HI := am_up (am_up hi 123 14 (nI s)) 123 13 (nI (s + 1))
def nst (hi : am_HI) (b : Bool) (s : Nat) : am_HI := if b = true then spt hi s else ded hi s
theorem MT.sp {hi : am_HI} {cd : Nat → Nat} {n : Nat} (a : MT hi cd n) (s : Nat) : MT (spt hi s) cd n := by
  unfold MT spt at *
  rw [up_c, up_n (by decide), up_k (by decide)]
  exact a
theorem MT.de {hi : am_HI} {cd : Nat → Nat} {n : Nat} (a : MT hi cd n) (s : Nat) : MT (ded hi s) cd n := by
  unfold MT ded at *
  rw [up_c, up_n (by decide), up_c, up_n (by decide), up_k (by decide), up_k (by decide)]
  exact a
theorem MT.ns {hi : am_HI} {cd : Nat → Nat} {n : Nat} (a : MT hi cd n) (b : Bool) (s : Nat) : MT (nst hi b s) cd n := by
  unfold nst
  split
  · exact a.sp s
  · exact a.de s
theorem RA.sp {hi : am_HI} {s : Nat} (a : RA hi s) (s' : Nat) : RA (spt hi s') s' := ⟨by unfold spt; rw [up_c, up_n (by decide)]; exact a.1, by unfold spt; rw [up_c, up_f]⟩
theorem sp_sp {hi : am_HI} {s s' : Nat} : spt (spt hi s) s' = spt hi s' := up_up
theorem sp_de {hi : am_HI} {s s' : Nat} : ded (spt hi s) s' = ded hi s' := by
  unfold ded spt
  funext k i
  simp only [up_r]
  by_cases h : k = 123 ∧ i = 13
  · rw [if_pos h, if_pos h]
  · rw [if_neg h, if_neg h, if_neg h]
theorem sp_ns {hi : am_HI} {s s' : Nat} {b : Bool} : nst (spt hi s) b s' = nst hi b s' := by
  unfold nst
  rw [sp_sp, sp_de]
theorem de_w {hi : am_HI} {s : Nat} (hs : s < 1000) : ¬ ded hi s 123 14 = -1 ∧ ded hi s 123 13 = nI (s + 1) ∧ ded hi s 123 14 = nI s := by
  have e : ded hi s 123 14 = nI s := by unfold ded; rw [up_c, up_n (by decide), up_c, up_f]
  exact ⟨by rw [e]; exact ne_m1 (by omega), by unfold ded; rw [up_c, up_f], e⟩
theorem m_sign {hi : am_HI} {g : am_G} (hI : am_Inv g) {cd : Nat → Nat} {n s : Nat} (mt : MT hi cd n) (hs : hi 123 13 = nI s) (h2 : s < 1000) : am_Cr M_X10_sign [.ref 123] hi g (some (.int (sg cd n s))) (fun h => h = hi) := by
  have h80 := mt.2.1
  unfold sg
  refine am_crn (by decide) (Nat.le_of_ble_eq_true rfl) (fun Φ hΦ => ?_)
  show AP M_X10_sign _ 0 [.ref 123] [] _ g Φ
  refine s_X10_sign_0 ?_
  refine s_X10_sign_1 hI rfl (by decide) ?_
  refine s_X10_sign_4 ?_
  refine s_X10_sign_5 hI rfl (by decide) ?_
  rw [hs, mt.1]
  refine s_X10_sign_8 (fun hh => ?_) (fun hh => ?_)
  · refine s_X10_sign_23 ?_
    refine s_X10_sign_24 ?_
    rw [if_neg (by have := (nI_leI (a := n) (b := s) (by omega) (by omega)).mp hh; omega)] at hΦ
    exact hΦ _ rfl
  · refine s_X10_sign_11 ?_
    refine s_X10_sign_12 hI rfl (by decide) rfl (by decide) ?_
    refine s_X10_sign_15 ?_
    refine s_X10_sign_16 hI rfl (by decide) ?_
    have hs' : s < n := Nat.lt_of_not_le (fun e => hh (nI_le e (by omega)))
    rw [if_pos hs'] at hΦ
    rw [hs]
    refine s_X10_sign_19 hI rfl (by decide) (by decide) (rfl) (by omega) ?_
    refine s_X10_sign_20 ?_
    refine s_X10_sign_24 ?_
    rw [(mt.2.2 s hs').1]
    exact hΦ _ rfl
theorem m_needsT {hi : am_HI} {g : am_G} (hI : am_Inv g) {s : Nat} (a : RA hi s) : am_Cr M_X10_needs [.ref 123, .int (bI true)] hi g none (fun h => h = spt hi (s + 1)) := by
  refine am_crn (by decide) (Nat.le_of_ble_eq_true rfl) (fun Φ hΦ => ?_)
  show AP M_X10_needs _ 0 [.ref 123, .int (bI true)] [] _ g Φ
  refine s_X10_needs_0 ?_
  refine s_X10_needs_1 hI rfl (by decide) ?_
  refine s_X10_needs_4 ?_
  rw [a.1]
  refine s_X10_needs_5 (fun h => absurd (Eq.refl (-1 : Int32)) h) (fun _ => ?_)
  refine s_X10_needs_8 ?_
  refine s_X10_needs_9 ?_
  refine s_X10_needs_10 (fun h => absurd h (by decide)) (fun _ => ?_)
  refine s_X10_needs_13 ?_
  refine s_X10_needs_14 ?_
  refine s_X10_needs_21 hI rfl (by decide) ?_
  refine s_X10_needs_24 ?_
  refine s_X10_needs_25 rfl ?_
  refine s_X10_needs_26 hI rfl (by decide) ?_
  refine s_X10_needs_29 ?_
  refine s_X10_needs_30 ?_
  refine s_X10_needs_31 hI rfl (by decide) ?_
  refine s_X10_needs_34 ?_
  rw [up_c, up_n (by decide), a.2, nI_1, up_sf a.1]
  exact hΦ _ rfl
theorem m_needsF {hi : am_HI} {g : am_G} (hI : am_Inv g) {s : Nat} (a : RA hi s) : am_Cr M_X10_needs [.ref 123, .int (bI false)] hi g none (fun h => h = ded hi s) := by
  refine am_crn (by decide) (Nat.le_of_ble_eq_true rfl) (fun Φ hΦ => ?_)
  show AP M_X10_needs _ 0 [.ref 123, .int (bI false)] [] _ g Φ
  refine s_X10_needs_0 ?_
  refine s_X10_needs_1 hI rfl (by decide) ?_
  refine s_X10_needs_4 ?_
  rw [a.1]
  refine s_X10_needs_5 (fun h => absurd (Eq.refl (-1 : Int32)) h) (fun _ => ?_)
  refine s_X10_needs_8 ?_
  refine s_X10_needs_9 ?_
  refine s_X10_needs_10 (fun _ => ?_) (fun h => absurd (by decide) h)
  refine s_X10_needs_17 ?_
  refine s_X10_needs_18 hI rfl (by decide) ?_
  refine s_X10_needs_21 hI rfl (by decide) ?_
  refine s_X10_needs_24 ?_
  refine s_X10_needs_25 rfl ?_
  refine s_X10_needs_26 hI rfl (by decide) ?_
  refine s_X10_needs_29 ?_
  refine s_X10_needs_30 ?_
  refine s_X10_needs_31 hI rfl (by decide) ?_
  refine s_X10_needs_34 ?_
  rw [up_c, up_n (by decide), a.2, nI_1]
  exact hΦ _ rfl
theorem m_needsX {hi : am_HI} {g : am_G} (hI : am_Inv g) (f : Bool) (a : ¬ hi 123 14 = -1) : am_Cr M_X10_needs [.ref 123, .int (bI f)] hi g none (fun h => h = hi) := by
  refine am_crn (by decide) (Nat.le_of_ble_eq_true rfl) (fun Φ hΦ => ?_)
  show AP M_X10_needs _ 0 [.ref 123, .int (bI f)] [] _ g Φ
  refine s_X10_needs_0 ?_
  refine s_X10_needs_1 hI rfl (by decide) ?_
  refine s_X10_needs_4 ?_
  refine s_X10_needs_5 (fun _ => ?_) (fun h => absurd h (a))
  exact s_X10_needs_34 (hΦ _ rfl)
theorem m_needs {hi : am_HI} {g : am_G} (hI : am_Inv g) {s : Nat} (a : RA hi s) (f : Bool) : am_Cr M_X10_needs [.ref 123, .int (bI f)] hi g none (fun h => h = nst hi f (if f = true then s + 1 else s)) := by
  cases f with
  | true => exact m_needsT hI a
  | false => exact m_needsF hI a
theorem dig_wi {cd : Nat → Nat} {n s least most : Nat} (hcd : ∀ i, i < n → 33 ≤ cd i ∧ cd i ≤ 126) (hl : least ≤ 9) (hm : most ≤ 9) : wi (sg cd n s - 48) (nI least) (nI most) = true ↔ ∃ d, dgt (chr cd n s) = some d ∧ least ≤ d ∧ d ≤ most := by
  have el : (nI least).toInt = least := am_nI (by omega)
  have em : (nI most).toInt = most := am_nI (by omega)
  have e48 : (48 : Int32).toInt = 48 := rfl
  rw [wi_t, am_le, am_le, el, em]
  unfold sg chr dgt
  by_cases h : s < n
  · have hc := hcd s h
    have ec : (nI (cd s)).toInt = cd s := am_nI (by omega)
    rw [if_pos h, if_pos h, i_sub (by rw [ec, e48]; omega) (by rw [ec, e48]; omega), ec, e48]
    constructor
    · intro q
      exact ⟨cd s - 48, by rw [if_pos (by omega)], by omega, by omega⟩
    · rintro ⟨d, q1, q2, q3⟩
      split at q1
      · cases q1; omega
      · cases q1
  · rw [if_neg h, if_neg h]
    constructor
    · intro q
      have : ((-1 : Int32) - 48).toInt = -49 := by decide
      omega
    · rintro ⟨d, q1, q2, q3⟩
      cases q1
theorem dig_v {cd : Nat → Nat} {n s d : Nat} (h : dgt (chr cd n s) = some d) : sg cd n s - 48 = nI d ∧ s < n := by
  unfold chr at h
  by_cases hs : s < n
  · rw [if_pos hs] at h
    unfold dgt at h
    split at h
    · cases h
      unfold sg
      rw [if_pos hs, show nI (cd s) - 48 = nI (cd s - 48) from pk_sub (b := 48) (by omega)]
      exact ⟨rfl, hs⟩
    · cases h
  · rw [if_neg hs] at h
    cases h
/-- a digit in its range is read, or the first fault is told: whether, where, and what is answered -/
def mdi (cd : Nat → Nat) (n least most s : Nat) : Bool × Nat × Int32 := (wi (sg cd n s - 48) (nI least) (nI most), if wi (sg cd n s - 48) (nI least) (nI most) = true then s + 1 else s, sg cd n s - 48)
theorem m_digit {hi : am_HI} {g : am_G} (hI : am_Inv g) {cd : Nat → Nat} {n s least most : Nat} (mt : MT hi cd n) (a : RA hi s) (h2 : s < 1000) : am_Cr M_X10_digit [.ref 123, .int (nI least), .int (nI most)] hi g (some (.int (mdi cd n least most s).2.2)) (fun h => h = nst hi (mdi cd n least most s).1 (mdi cd n least most s).2.1) := by
  refine am_crn (by decide) (Nat.le_of_ble_eq_true rfl) (fun Φ hΦ => ?_)
  show AP M_X10_digit _ 0 [.ref 123, .int (nI least), .int (nI most), jk] [] _ g Φ
  refine s_X10_digit_0 ?_
  refine s_X10_digit_1 hI rfl (by decide) (Nat.le_of_ble_eq_true rfl) (m_sign hI mt a.2 h2) ?_
  intro h9 e9; rw [e9]; clear e9 h9
  refine s_X10_digit_4 ?_
  refine s_X10_digit_6 ?_
  refine s_X10_digit_7 rfl ?_
  refine s_X10_digit_8 ?_
  refine s_X10_digit_9 ?_
  refine s_X10_digit_10 ?_
  refine s_X10_digit_11 ?_
  refine s_X10_digit_12 hI (Nat.le_of_ble_eq_true rfl) (m_in _ _ _) ?_
  intro h9 e9; rw [e9]; clear e9 h9
  refine s_X10_digit_15 hI rfl (by decide) (Nat.le_of_ble_eq_true rfl) (m_needs hI a _) ?_
  intro h9 e9; rw [e9]; clear e9 h9
  refine s_X10_digit_18 ?_
  exact s_X10_digit_19 (hΦ _ rfl)
theorem m_digitX {hi : am_HI} {g : am_G} (hI : am_Inv g) {cd : Nat → Nat} {n s : Nat} (mt : MT hi cd n) (hs : hi 123 13 = nI s) (h2 : s < 1000) (a : ¬ hi 123 14 = -1) (x y : Int32) : am_Cr M_X10_digit [.ref 123, .int x, .int y] hi g (some (.int (sg cd n s - 48))) (fun h => h = hi) := by
  refine am_crn (by decide) (Nat.le_of_ble_eq_true rfl) (fun Φ hΦ => ?_)
  show AP M_X10_digit _ 0 [.ref 123, .int x, .int y, jk] [] _ g Φ
  refine s_X10_digit_0 ?_
  refine s_X10_digit_1 hI rfl (by decide) (Nat.le_of_ble_eq_true rfl) (m_sign hI mt hs h2) ?_
  intro h9 e9; rw [e9]; clear e9 h9
  refine s_X10_digit_4 ?_
  refine s_X10_digit_6 ?_
  refine s_X10_digit_7 rfl ?_
  refine s_X10_digit_8 ?_
  refine s_X10_digit_9 ?_
  refine s_X10_digit_10 ?_
  refine s_X10_digit_11 ?_
  refine s_X10_digit_12 hI (Nat.le_of_ble_eq_true rfl) (m_in _ _ _) ?_
  intro h9 e9; rw [e9]; clear e9 h9
  refine s_X10_digit_15 hI rfl (by decide) (Nat.le_of_ble_eq_true rfl) (m_needsX hI _ a) ?_
  intro h9 e9; rw [e9]; clear e9 h9
  refine s_X10_digit_18 ?_
  exact s_X10_digit_19 (hΦ _ rfl)
/-- on with a number, as the model reads it: whether no fault was found, the number, where -/
def mext (cd : Nat → Nat) (n most : Nat) : Nat → Nat → Nat → Bool × Nat × Nat
  | 0, v, a => (true, v, a)
  | k + 1, v, a => match dgt (chr cd n a) with
    | none => (true, v, a)
    | some d => if 0 < v ∧ 10 * v ≤ most then (if 10 * v + d ≤ most then mext cd n most k (10 * v + d) (a + 1) else (false, 10 * v + d, a)) else (true, v, a)
theorem mext_ext {cd : Nat → Nat} {n most : Nat} : ∀ k v a, (v = 0 ∨ most < v * 10 ^ (k + 1)) → (ext cd n most (k + 1) v a).2 = (mext cd n most k v a).2.2 ∧ ((mext cd n most k v a).1 = true → (ext cd n most (k + 1) v a).1 = (mext cd n most k v a).2.1) ∧ ((mext cd n most k v a).1 = false → ∃ d, dgt (chr cd n (mext cd n most k v a).2.2) = some d) := by
  intro k
  induction k with
  | zero =>
    intro v a h
    have e : ext cd n most 1 v a = (v, a) := by
      rw [ext]
      split
      · rfl
      · rw [if_neg (by omega)]
    rw [e, mext]
    exact ⟨rfl, fun _ => rfl, fun q => by cases q⟩
  | succ k ih =>
    intro v a h
    rw [ext, mext]
    cases hd : dgt (chr cd n a) with
    | none => exact ⟨rfl, fun _ => rfl, fun q => by cases q⟩
    | some d =>
      dsimp only
      by_cases h1 : 0 < v ∧ 10 * v ≤ most
      · rw [if_pos h1]
        by_cases h2 : 10 * v + d ≤ most
        · rw [if_pos h2, if_pos ⟨h1.1, h2⟩]
          refine ih _ _ (Or.inr ?_)
          have hp : v * 10 ^ (k + 1 + 1) = 10 * v * 10 ^ (k + 1) := by rw [Nat.pow_succ, Nat.mul_comm (10 ^ (k + 1)), ← Nat.mul_assoc, Nat.mul_comm v]
          have hq : 10 * v * 10 ^ (k + 1) ≤ (10 * v + d) * 10 ^ (k + 1) := Nat.mul_le_mul_right _ (by omega)
          omega
        · rw [if_neg h2, if_neg (fun q => h2 q.2)]
          exact ⟨rfl, fun q => (by cases q), fun _ => ⟨d, hd⟩⟩
      · rw [if_neg h1, if_neg (fun q => h1 ⟨q.1, by omega⟩)]
        exact ⟨rfl, fun _ => rfl, fun q => by cases q⟩
theorem mext_mono {cd : Nat → Nat} {n most : Nat} : ∀ k v a, a ≤ (mext cd n most k v a).2.2 := by
  intro k
  induction k with
  | zero => intro v a; exact Nat.le_refl _
  | succ k ih =>
    intro v a
    rw [mext]
    split
    · exact Nat.le_refl _
    · split
      · split
        · exact Nat.le_trans (Nat.le_succ a) (ih _ _)
        · exact Nat.le_refl _
      · exact Nat.le_refl _
theorem wi_48 {cd : Nat → Nat} {n s : Nat} (hcd : ∀ i, i < n → 33 ≤ cd i ∧ cd i ≤ 126) : wi (sg cd n s) 48 57 = wi (sg cd n s - 48) (nI 0) (nI 9) := by
  have e48 : (48 : Int32).toInt = 48 := rfl
  have e57 : (57 : Int32).toInt = 57 := rfl
  have e0 : (nI 0).toInt = 0 := rfl
  have e9 : (nI 9).toInt = 9 := by decide
  unfold sg
  by_cases h : s < n
  · have hc := hcd s h
    have ec : (nI (cd s)).toInt = cd s := am_nI (by omega)
    have es : (nI (cd s) - 48).toInt = (cd s : Int) - 48 := by rw [i_sub (by rw [ec, e48]; omega) (by rw [ec, e48]; omega), ec, e48]
    rw [if_pos h]
    unfold wi
    congr 1
    · rw [decide_eq_decide, am_le, am_le, es, ec, e48, e0]; omega
    · rw [decide_eq_decide, am_le, am_le, es, ec, e57, e9]; omega
  · rw [if_neg h]
    decide
theorem mext_le {cd : Nat → Nat} {n most : Nat} : ∀ k v a, v ≤ 1000 → most ≤ 198 → a ≤ n → (mext cd n most k v a).2.1 ≤ 2000 ∧ (mext cd n most k v a).2.2 ≤ n := by
  intro k
  induction k with
  | zero => intro v a h1 h2 h3; exact ⟨by show v ≤ 2000; omega, h3⟩
  | succ k ih =>
    intro v a h1 h2 h3
    rw [mext]
    split
    · exact ⟨by show v ≤ 2000; omega, h3⟩
    · rename_i d hd
      have h9 := dgt_lt hd
      have ha : a < n := (dig_v hd).2
      split
      · split
        · exact ih _ _ (by omega) h2 (by omega)
        · exact ⟨by show 10 * v + d ≤ 2000; omega, h3⟩
      · exact ⟨by show v ≤ 2000; omega, h3⟩
def mno (cd : Nat → Nat) (n least most s : Nat) : Bool × Nat × Int32 := match dgt (chr cd n s) with
  | some d => if least ≤ d then ((mext cd n most 2 d (s + 1)).1, (mext cd n most 2 d (s + 1)).2.2, nI (mext cd n most 2 d (s + 1)).2.1) else (false, s, sg cd n s - 48)
  | none => (false, s, sg cd n s - 48)
theorem m_number {hi : am_HI} {g : am_G} (hI : am_Inv g) {cd : Nat → Nat} {n s least most : Nat} (mt : MT hi cd n) (a : RA hi s) (hs : s ≤ n) (hl : least ≤ 9) (hm : 9 ≤ most) (hm2 : most ≤ 198) : am_Cr M_X10_number [.ref 123, .int (nI least), .int (nI most)] hi g (some (.int (mno cd n least most s).2.2)) (fun h => h = nst hi (mno cd n least most s).1 (mno cd n least most s).2.1) := by
  have hn80 := mt.2.1
  have hcd : ∀ i, i < n → 33 ≤ cd i ∧ cd i ≤ 126 := fun i hi' => (mt.2.2 i hi').2
  have dead : ∀ k i (h : am_HI) (r : Int32) (Φ : am_P), i + k = 2 → ¬ h 123 14 = -1 → Φ (.ok (some (.int r))) h g → AP M_X10_number (0, 0) 21 [.ref 123, .int (nI least), .int (nI most), .int r, .int (nI i)] [] h g Φ := by
    intro k
    induction k with
    | zero =>
      intro i h r Φ hik hw hΦ
      refine s_X10_number_21 ?_
      refine s_X10_number_23 ?_
      refine s_X10_number_24 (fun _ => ?_) (fun h => absurd (nI_le (a := 2) (b := i) (by omega) (by omega)) h)
      refine s_X10_number_94 ?_
      refine s_X10_number_95 ?_
      exact hΦ
    | succ k ih =>
      intro i h r Φ hik hw hΦ
      refine s_X10_number_21 ?_
      refine s_X10_number_23 ?_
      refine s_X10_number_24 (fun h => absurd h (nI_ge (a := i) (b := 2) (by omega) (by decide))) (fun _ => ?_)
      refine s_X10_number_27 ?_
      refine s_X10_number_28 hI rfl (by decide) ?_
      refine s_X10_number_31 ?_
      refine s_X10_number_32 (fun _ => ?_) (fun h => absurd h (hw))
      refine s_X10_number_88 rfl ?_
      refine s_X10_number_91 ?_
      rw [nI_1]
      exact ih (i + 1) h r Φ (by omega) hw hΦ
  have fin : ∀ i v e (Φ : am_P), i = 2 → Φ (.ok (some (.int (nI v)))) (spt hi e) g → AP M_X10_number (0, 0) 21 [.ref 123, .int (nI least), .int (nI most), .int (nI v), .int (nI i)] [] (spt hi e) g Φ := by
    intro i v e Φ hi2 hΦ
    refine s_X10_number_21 ?_
    refine s_X10_number_23 ?_
    refine s_X10_number_24 (fun _ => ?_) (fun h => absurd (nI_le (a := 2) (b := i) (by omega) (by omega)) h)
    refine s_X10_number_94 ?_
    refine s_X10_number_95 ?_
    exact hΦ
  have loop : ∀ k i v e (Φ : am_P), i + k = 2 → v ≤ 198 → e ≤ n → Φ (.ok (some (.int (nI (mext cd n most k v e).2.1)))) (nst hi (mext cd n most k v e).1 (mext cd n most k v e).2.2) g → AP M_X10_number (0, 0) 21 [.ref 123, .int (nI least), .int (nI most), .int (nI v), .int (nI i)] [] (spt hi e) g Φ := by
    intro k
    induction k with
    | zero =>
      intro i v e Φ hik hv he hΦ
      refine s_X10_number_21 ?_
      refine s_X10_number_23 ?_
      refine s_X10_number_24 (fun _ => ?_) (fun h => absurd (nI_le (a := 2) (b := i) (by omega) (by omega)) h)
      refine s_X10_number_94 ?_
      refine s_X10_number_95 ?_
      exact hΦ
    | succ k ih =>
      intro i v e Φ hik hv he hΦ
      have ra := a.sp e
      have mt' := mt.sp e
      have again : ((mext cd n most (k + 1) v e) = (true, v, e)) → AP M_X10_number (0, 0) 88 [.ref 123, .int (nI least), .int (nI most), .int (nI v), .int (nI i)] [] (spt hi e) g Φ := by
        intro hm9
        have e9 : mext cd n most k v e = (true, v, e) := by
          cases k with
          | zero => rfl
          | succ k =>
            rw [mext] at hm9 ⊢
            cases hd : dgt (chr cd n e) with
            | none => rfl
            | some d =>
              rw [hd] at hm9
              dsimp only at hm9 ⊢
              by_cases h1 : 0 < v ∧ 10 * v ≤ most
              · rw [if_pos h1] at hm9
                by_cases h2 : 10 * v + d ≤ most
                · rw [if_pos h2] at hm9
                  exfalso
                  have := mext_mono (cd := cd) (n := n) (most := most) (k + 1) (10 * v + d) (e + 1)
                  rw [hm9] at this
                  have : e + 1 ≤ e := this
                  omega
                · rw [if_neg h2] at hm9
                  cases hm9
              · rw [if_neg h1]
        rw [hm9] at hΦ
        refine s_X10_number_88 rfl ?_
        refine s_X10_number_91 ?_
        rw [nI_1]
        exact ih (i + 1) v e Φ (by omega) hv he (by rw [e9]; exact hΦ)
      refine s_X10_number_21 ?_
      refine s_X10_number_23 ?_
      refine s_X10_number_24 (fun h => absurd h (nI_ge (a := i) (b := 2) (by omega) (by decide))) (fun _ => ?_)
      refine s_X10_number_27 ?_
      refine s_X10_number_28 hI rfl (by decide) ?_
      refine s_X10_number_31 ?_
      rw [ra.1]
      refine s_X10_number_32 (fun h => absurd (Eq.refl (-1 : Int32)) h) (fun _ => ?_)
      refine s_X10_number_35 ?_
      refine s_X10_number_36 (fun h1 => ?_) (fun h1 => ?_)
      · have hv0 : v = 0 := by by_cases q : v = 0; exact q; exact absurd h1 (nI_nle (by omega) (by omega))
        refine again ?_
        rw [mext]
        split
        · rfl
        · rw [if_neg (by omega)]
      · refine s_X10_number_39 ?_
        refine s_X10_number_41 ?_
        refine s_X10_number_42 ?_
        refine s_X10_number_43 ?_
        have hv0 : 0 < v := Nat.pos_of_ne_zero (fun q => h1 (by rw [q]; decide))
        rw [show 10 * nI v = nI (10 * v) from pk_mul 10 v]
        refine s_X10_number_44 (fun h2 => ?_) (fun h2 => ?_)
        · have h2' : most < 10 * v := (nI_ltI (by omega) (by omega)).mp h2
          refine again ?_
          rw [mext]
          split
          · rfl
          · rw [if_neg (by omega)]
        · refine s_X10_number_47 ?_
          have h2' : 10 * v ≤ most := Nat.le_of_not_lt (fun q => h2 (nI_lt q (by omega)))
          refine s_X10_number_48 hI rfl (by decide) (Nat.le_of_ble_eq_true rfl) (m_sign hI mt' ra.2 (by omega)) ?_
          intro h9 e9; rw [e9]; clear e9 h9
          refine s_X10_number_51 ?_
          refine s_X10_number_53 ?_
          refine s_X10_number_55 hI (Nat.le_of_ble_eq_true rfl) (m_in _ _ _) ?_
          intro h9 e9; rw [e9]; clear e9 h9
          have hw9 := dig_wi (cd := cd) (n := n) (s := e) (least := 0) (most := 9) hcd (by decide) (by decide)
          have hw8 : wi (sg cd n e) 48 57 = wi (sg cd n e - 48) (nI 0) (nI 9) := wi_48 hcd
          rw [hw8]
          refine s_X10_number_58 (fun h3 => ?_) (fun h3 => ?_)
          · refine again ?_
            rw [mext]
            cases hd : dgt (chr cd n e) with
            | none => rfl
            | some d => exact absurd (hw9.mpr ⟨d, hd, Nat.zero_le _, dgt_lt hd⟩) (by rw [bI_e0.mp h3]; exact fun q => by cases q)
          · refine s_X10_number_61 ?_
            refine s_X10_number_63 ?_
            refine s_X10_number_64 ?_
            refine s_X10_number_65 ?_
            obtain ⟨d, hd, -, -⟩ := hw9.mp (bI_n0.mp h3)
            have hd9 := dgt_lt hd
            obtain ⟨dv1, dv2⟩ := dig_v hd
            refine s_X10_number_66 hI rfl (by decide) (Nat.le_of_ble_eq_true rfl) (m_sign hI mt' ra.2 (by omega)) ?_
            intro h9 e9; rw [e9]; clear e9 h9
            refine s_X10_number_69 ?_
            refine s_X10_number_70 ?_
            refine s_X10_number_72 ?_
            refine s_X10_number_73 rfl ?_
            refine s_X10_number_74 ?_
            refine s_X10_number_75 ?_
            refine s_X10_number_76 ?_
            rw [show 10 * nI v = nI (10 * v) from pk_mul 10 v, show nI (10 * v) + sg cd n e - 48 = nI (10 * v + d) by rw [← nI_add, ← dv1, Int32.sub_eq_add_neg, Int32.sub_eq_add_neg, Int32.add_assoc]]
            rw [mext, hd] at hΦ
            dsimp only at hΦ
            rw [if_pos ⟨hv0, h2'⟩] at hΦ
            refine s_X10_number_77 (fun h4 => ?_) (fun h4 => ?_)
            · refine s_X10_number_84 ?_
              have h4' : most < 10 * v + d := (nI_ltI (by omega) (by omega)).mp h4
              rw [if_neg (by omega)] at hΦ
              refine s_X10_number_85 hI rfl (by decide) (Nat.le_of_ble_eq_true rfl) (m_needsF hI ra) ?_
              intro h9 e9; rw [e9]; clear e9 h9
              refine s_X10_number_88 rfl ?_
              refine s_X10_number_91 ?_
              rw [nI_1]
              exact dead k (i + 1) _ _ Φ (by omega) (de_w (by omega)).1 (by rw [sp_de]; exact hΦ)
            · refine s_X10_number_80 ?_
              refine s_X10_number_81 ?_
              have h4' : 10 * v + d ≤ most := Nat.le_of_not_lt (fun q => h4 (nI_lt q (by omega)))
              rw [if_pos h4'] at hΦ
              refine s_X10_number_85 hI rfl (by decide) (Nat.le_of_ble_eq_true rfl) (m_needsT hI ra) ?_
              intro h9 e9; rw [e9]; clear e9 h9
              refine s_X10_number_88 rfl ?_
              refine s_X10_number_91 ?_
              rw [nI_1, sp_sp]
              by_cases hk0 : k = 0
              · subst hk0
                exact fin (i + 1) (10 * v + d) (e + 1) Φ (by omega) hΦ
              · exact ih (i + 1) (10 * v + d) (e + 1) Φ (by omega) (by omega) (by omega) hΦ
  have h9 : ¬ nI most < 9 := nI_nlt (a := most) (b := 9) hm (by omega)
  unfold mno at *
  refine am_crn (by decide) (Nat.le_of_ble_eq_true rfl) (fun Φ hΦ => ?_)
  show AP M_X10_number _ 0 [.ref 123, .int (nI least), .int (nI most), jk, jk] [] _ g Φ
  refine s_X10_number_0 ?_
  refine s_X10_number_1 ?_
  refine s_X10_number_2 ?_
  refine s_X10_number_3 ?_
  refine s_X10_number_5 (fun _ => ?_) (fun h => absurd (nI_le (a := 9) (b := most) hm (by omega)) h)
  refine s_X10_number_12 ?_
  refine s_X10_number_14 hI rfl (by decide) (Nat.le_of_ble_eq_true rfl) (m_digit hI (least := least) (most := 9) mt a (by omega)) ?_
  intro h9 e9; rw [e9]; clear e9 h9
  refine s_X10_number_17 rfl ?_
  refine s_X10_number_18 ?_
  refine s_X10_number_19 rfl ?_
  have hw := dig_wi (cd := cd) (n := n) (s := s) (least := least) (most := 9) hcd hl (by decide)
  unfold mdi
  cases hwb : wi (sg cd n s - 48) (nI least) (nI 9) with
  | true =>
    obtain ⟨d, hd, hd1, hd2⟩ := hw.mp hwb
    rw [hd] at hΦ
    dsimp only at hΦ
    rw [if_pos hd1] at hΦ
    rw [(dig_v hd).1]
    exact loop 2 0 d (s + 1) Φ (by omega) (by omega) (by have := (dig_v hd).2; omega) (hΦ _ rfl)
  | false =>
    have hΦ' : ∀ h', h' = ded hi s → Φ (.ok (some (.int (sg cd n s - 48)))) h' g := by
      cases hd : dgt (chr cd n s) with
      | none => rw [hd] at hΦ; exact hΦ
      | some d =>
        rw [hd] at hΦ
        dsimp only at hΦ
        rw [if_neg (fun q => by rw [hw.mpr ⟨d, hd, q, dgt_lt hd⟩] at hwb; cases hwb)] at hΦ
        exact hΦ
    exact dead 2 0 (ded hi s) _ Φ (by omega) (de_w (by omega)).1 (hΦ' _ rfl)
