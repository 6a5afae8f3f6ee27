/-! ===== the rest of State and Works; what a first look finds ===== -/
theorem c_hasRoom {hi : am_HI} {g : am_G} (hI : am_Inv g) {c m : Nat} (hc : hi 2 3 = nI c) (h48 : c ≤ 48) (hm : m ≤ 1000) : am_Cr M_X6_hasRoomFor [.ref 2, .int (nI m)] hi g (some (.int (bI (decide (c + m ≤ 48))))) (fun h => h = hi) := by
  refine am_crn (by decide) (Nat.le_of_ble_eq_true rfl) (fun Φ hΦ => ?_)
  show AP M_X6_hasRoomFor _ 0 [.ref 2, .int (nI m)] [] _ g Φ
  refine s_X6_hasRoomFor_0 ?_
  refine s_X6_hasRoomFor_1 hI rfl (by decide) ?_
  refine s_X6_hasRoomFor_4 ?_
  refine s_X6_hasRoomFor_5 ?_
  refine s_X6_hasRoomFor_6 ?_
  rw [hc, nI_add]
  refine s_X6_hasRoomFor_8 (fun hh => ?_) (fun hh => ?_)
  · refine s_X6_hasRoomFor_15 ?_
    refine s_X6_hasRoomFor_16 (by first | exact Or.inl rfl | exact Or.inr rfl | exact bI_01 _) ?_
    have hh' : 48 < c + m := (nI_ltI (a := 48) (b := c + m) (by decide) (by omega)).mp hh
    rw [decide_eq_false (by omega)] at hΦ
    exact hΦ _ rfl
  · refine s_X6_hasRoomFor_11 ?_
    refine s_X6_hasRoomFor_12 ?_
    refine s_X6_hasRoomFor_16 (by first | exact Or.inl rfl | exact Or.inr rfl | exact bI_01 _) ?_
    have hh' : ¬ 48 < c + m := fun e => hh (nI_lt (by omega) (by omega))
    rw [decide_eq_true (by omega)] at hΦ
    exact hΦ _ rfl
theorem c_put {hi : am_HI} {g : am_G} (hI : am_Inv g) {c : Nat} {v : Int32} (hc : hi 2 3 = nI c) (h48 : c < 48) : am_Cr M_X6_put [.ref 2, .int v] hi g none (fun h => h = am_up (am_up hi 3 c v) 2 3 (nI (c + 1))) := by
  refine am_crn (by decide) (Nat.le_of_ble_eq_true rfl) (fun Φ hΦ => ?_)
  show AP M_X6_put _ 0 [.ref 2, .int v] [] _ g Φ
  refine s_X6_put_0 ?_
  refine s_X6_put_1 ?_
  refine s_X6_put_2 hI rfl (by decide) (Nat.le_of_ble_eq_true rfl) (c_hasRoom hI (m := 1) hc (by omega) (by decide)) ?_
  intro h9 e9; rw [e9]; clear e9 h9
  refine s_X6_put_5 (fun h => absurd h (by rw [decide_eq_true (by omega)]; decide)) (fun _ => ?_)
  refine s_X6_put_8 ?_
  refine s_X6_put_9 hI rfl (by decide) rfl (by decide) ?_
  refine s_X6_put_12 ?_
  refine s_X6_put_13 hI rfl (by decide) ?_
  refine s_X6_put_16 ?_
  refine s_X6_put_17 hI rfl (by decide) (by decide) (hc) (h48) ?_
  refine s_X6_put_18 ?_
  refine s_X6_put_19 rfl ?_
  refine s_X6_put_20 hI rfl (by decide) ?_
  refine s_X6_put_23 ?_
  refine s_X6_put_24 ?_
  refine s_X6_put_25 hI rfl (by decide) ?_
  refine s_X6_put_28 ?_
  rw [up_k (by decide), hc, nI_1]
  exact hΦ _ rfl
theorem c_canTurn {hi : am_HI} {g : am_G} (hI : am_Inv g) (x : Int32) : am_Cr M_X6_canTurn [.ref 2, .int x] hi g (some (.int (bI (decide (¬ hi 2 6 = 1 <<< (x &&& 31)))))) (fun h => h = hi) := by
  refine am_crn (by decide) (Nat.le_of_ble_eq_true rfl) (fun Φ hΦ => ?_)
  show AP M_X6_canTurn _ 0 [.ref 2, .int x] [] _ g Φ
  refine s_X6_canTurn_0 ?_
  refine s_X6_canTurn_1 hI rfl (by decide) ?_
  refine s_X6_canTurn_4 ?_
  refine s_X6_canTurn_5 ?_
  refine s_X6_canTurn_6 ?_
  refine s_X6_canTurn_7 (fun hh => ?_) (fun hh => ?_)
  · refine s_X6_canTurn_14 ?_
    refine s_X6_canTurn_15 (by first | exact Or.inl rfl | exact Or.inr rfl | exact bI_01 _) ?_
    rw [decide_eq_false (fun e => e hh)] at hΦ
    exact hΦ _ rfl
  · refine s_X6_canTurn_10 ?_
    refine s_X6_canTurn_11 ?_
    refine s_X6_canTurn_15 (by first | exact Or.inl rfl | exact Or.inr rfl | exact bI_01 _) ?_
    rw [decide_eq_true hh] at hΦ
    exact hΦ _ rfl
theorem c_turn {hi : am_HI} {g : am_G} (hI : am_Inv g) (x : Int32) : am_Cr M_X6_turn [.ref 2, .int x] hi g none (fun h => h = am_up hi 2 6 (hi 2 6 ^^^ 1 <<< (x &&& 31))) := by
  refine am_crn (by decide) (Nat.le_of_ble_eq_true rfl) (fun Φ hΦ => ?_)
  show AP M_X6_turn _ 0 [.ref 2, .int x] [] _ g Φ
  refine s_X6_turn_0 ?_
  refine s_X6_turn_1 rfl ?_
  refine s_X6_turn_2 hI rfl (by decide) ?_
  refine s_X6_turn_5 ?_
  refine s_X6_turn_6 ?_
  refine s_X6_turn_7 ?_
  refine s_X6_turn_8 ?_
  refine s_X6_turn_9 hI rfl (by decide) ?_
  exact s_X6_turn_12 (hΦ _ rfl)
theorem c_wput {hi : am_HI} {g : am_G} (hI : am_Inv g) {n : Nat} {x : Int32} (hn : hi 115 1 = nI n) (h80 : n < 80) : am_Cr M_X8_put [.ref 115, .int x] hi g none (fun h => h = am_up (am_up hi 116 n x) 115 1 (nI (n + 1))) := by
  refine am_crn (by decide) (Nat.le_of_ble_eq_true rfl) (fun Φ hΦ => ?_)
  show AP M_X8_put _ 0 [.ref 115, .int x] [] _ g Φ
  refine s_X8_put_0 ?_
  refine s_X8_put_1 hI rfl (by decide) ?_
  refine s_X8_put_4 ?_
  rw [hn]
  refine s_X8_put_6 (fun h => absurd h ((nI_ge (a := n) (b := 80) (by omega) (by decide)))) (fun _ => ?_)
  refine s_X8_put_9 ?_
  refine s_X8_put_10 hI rfl (by decide) rfl (by decide) ?_
  refine s_X8_put_13 ?_
  refine s_X8_put_14 hI rfl (by decide) ?_
  refine s_X8_put_17 ?_
  refine s_X8_put_18 hI rfl (by decide) (by decide) (hn) (h80) ?_
  refine s_X8_put_19 ?_
  refine s_X8_put_20 rfl ?_
  refine s_X8_put_21 hI rfl (by decide) ?_
  refine s_X8_put_24 ?_
  refine s_X8_put_25 ?_
  refine s_X8_put_26 hI rfl (by decide) ?_
  refine s_X8_put_29 ?_
  rw [up_k (by decide), hn, nI_1]
  exact hΦ _ rfl
theorem wk1_le {cd : Nat → Nat} {n least most a : Nat} (h : a < n) : (wk1 cd n least most a).2.1 ≤ n ∧ a < (wk1 cd n least most a).2.1 := by
  unfold wk1
  cases hq : cnum cd n least most (a + 1) with
  | none => exact ⟨h, Nat.lt_succ_self a⟩
  | some q =>
    have := cnum_le hq
    exact ⟨this.2, by show a < q.2; omega⟩
theorem sgn_le {cd : Nat → Nat} {n most a : Nat} (h : a ≤ n) : (sgn cd n most a).2.1 ≤ n ∧ a ≤ (sgn cd n most a).2.1 := by
  have htk := tk_le (cd := cd) (k := 45) (by decide) h
  unfold sgn
  cases hq : cnum cd n 0 most (tk cd n a 45) with
  | none => exact htk
  | some q =>
    have := cnum_le hq
    exact ⟨this.2, by show a ≤ q.2; omega⟩
theorem wk2_le {cd : Nat → Nat} {n least most size a : Nat} (h : a < n) : (wk2 cd n least most size a).2.1 ≤ n ∧ a < (wk2 cd n least most size a).2.1 := by
  unfold wk2
  cases hq : cnum cd n least most (a + 1) with
  | none => exact ⟨h, Nat.lt_succ_self a⟩
  | some q =>
    have h1 := cnum_le hq
    by_cases hc : chr cd n q.2 = 58
    · have h2 : q.2 < n := chr_lt (by rw [hc]; decide)
      have h3 := sgn_le (cd := cd) (most := size) (a := q.2 + 1) (n := n) (by omega)
      simp only [if_pos hc]
      exact ⟨h3.1, by omega⟩
    · simp only [if_neg hc]
      exact ⟨h1.2, by omega⟩
theorem wk_le {cd : Nat → Nat} {n a : Nat} (h : a ≤ n) : (wk cd n a).2.1 ≤ n ∧ a ≤ (wk cd n a).2.1 ∧ ((wk cd n a).1 = true → a < (wk cd n a).2.1) := by
  by_cases hc : chr cd n a = 0
  · rw [show wk cd n a = (false, a, 0, 0) by unfold wk; simp only [hc]]
    exact ⟨h, Nat.le_refl _, fun e => by cases e⟩
  · have ha := chr_lt hc
    have f : ∀ {x : Bool × Nat × Int32 × Int32}, (x.2.1 ≤ n ∧ a < x.2.1) → x.2.1 ≤ n ∧ a ≤ x.2.1 ∧ (x.1 = true → a < x.2.1) := fun h => ⟨h.1, Nat.le_of_lt h.2, fun _ => h.2⟩
    unfold wk
    split
    · exact f (wk1_le ha)
    · exact f (wk1_le ha)
    · exact f (wk1_le ha)
    · exact f (wk1_le ha)
    · exact f (wk1_le ha)
    · exact f (wk2_le ha)
    · exact f (wk2_le ha)
    · exact f ⟨ha, Nat.lt_succ_self a⟩
    · exact f ⟨ha, Nat.lt_succ_self a⟩
    · exact ⟨h, Nat.le_refl _, fun e => by cases e⟩
/-- the first fault of a text of n codes, from a on -/
def tl (cd : Nat → Nat) (n : Nat) : Nat → Nat → Int32
  | 0, a => nI a
  | k + 1, a => if (wk cd n a).1 = true then (if chr cd n (wk cd n a).2.1 = 59 then tl cd n k ((wk cd n a).2.1 + 1) else if (wk cd n a).2.1 = n then -1 else nI (wk cd n a).2.1) else nI (wk cd n a).2.1
theorem c_findFault {hi : am_HI} {g : am_G} (hI : am_Inv g) {cd : Nat → Nat} {n : Nat} (h : TX hi cd n) : am_Cr M_X8_findFault [.ref 115] hi g (some (.int (tl cd n 81 0))) (fun h => fq [2, 3, 4, 5] hi h) := by
  have hn80 := h.2.1
  have fin : ∀ (h5 : am_HI) (Φ : am_P) (e w : Nat), e ≤ n → n ≤ 80 → fq [2, 3, 4, 5] hi h5 → h5 115 2 = nI e → h5 115 1 = nI n → (∀ h', fq [2, 3, 4, 5] hi h' → Φ (.ok (some (.int (if e = n then -1 else nI e)))) h' g) → AP M_X8_findFault (0, 0) 31 [.ref 115, .int (nI w)] [.int 0] h5 g Φ := by
    intro h5 Φ e w he hn f5 e2 e1 hΦ
    refine s_X8_findFault_31 (fun h => absurd (Eq.refl (0 : Int32)) h) (fun _ => ?_)
    refine s_X8_findFault_34 ?_
    refine s_X8_findFault_35 hI rfl (by decide) ?_
    refine s_X8_findFault_38 ?_
    refine s_X8_findFault_39 hI rfl (by decide) ?_
    rw [e2, e1]
    refine s_X8_findFault_42 (fun hh => ?_) (fun hh => ?_)
    · refine s_X8_findFault_49 ?_
      refine s_X8_findFault_50 hI rfl (by decide) ?_
      rw [if_neg (fun q => hh (by rw [q]))] at hΦ
      rw [e2]
      exact s_X8_findFault_53 (hΦ _ (f5))
    · refine s_X8_findFault_45 ?_
      refine s_X8_findFault_46 ?_
      rw [if_pos ((nI_eq (by omega) (by omega)).mp hh)] at hΦ
      exact s_X8_findFault_53 (hΦ _ (f5))
  have nxt : ∀ (h5 : am_HI) (Φ : am_P) (w : Nat), AP M_X8_findFault (0, 0) 7 [.ref 115, .int (nI (w + 1))] [] h5 g Φ → AP M_X8_findFault (0, 0) 31 [.ref 115, .int (nI w)] [.int 1] h5 g Φ := by
    intro h5 Φ w hk
    refine s_X8_findFault_31 (fun _ => ?_) (fun h => absurd h (by decide))
    refine s_X8_findFault_54 rfl ?_
    refine s_X8_findFault_57 ?_
    rw [show nI w + 1 = nI (w + 1) from nI_add w 1]
    exact hk
  have loop : ∀ k a w (h9 : am_HI) (Φ : am_P), a ≤ n → 81 ≤ k + w → 2 * w ≤ a → fq [2, 3, 4, 5] hi h9 → h9 115 2 = nI a → (∀ h', fq [2, 3, 4, 5] hi h' → Φ (.ok (some (.int (tl cd n k a)))) h' g) → AP M_X8_findFault (0, 0) 7 [.ref 115, .int (nI w)] [] h9 g Φ := by
    intro k
    induction k with
    | zero => intro a w h9 Φ h1 h2 h3; omega
    | succ k ih =>
      intro a w h9 Φ h1 h2 h3 f9 a9 hΦ
      rw [tl] at hΦ
      have t9 : TX h9 cd n := h.fq f9 (by decide)
      have hle := wk_le (cd := cd) h1
      refine s_X8_findFault_7 ?_
      refine s_X8_findFault_8 ?_
      refine s_X8_findFault_10 (fun h => absurd h ((nI_ge (a := w) (b := 80) (by omega) (by decide)))) (fun _ => ?_)
      refine s_X8_findFault_13 ?_
      refine s_X8_findFault_14 hI rfl (by decide) (Nat.le_of_ble_eq_true rfl) (c_readWork hI t9 a9 h1) ?_
      intro h5 ⟨g1, g2, g3, g4⟩
      have f5 : fq [2, 3, 4, 5] hi h5 := f9.tr g1
      have t5 : TX h5 cd n := h.fq f5 (by decide)
      refine s_X8_findFault_17 (fun hh => ?_) (fun hh => ?_)
      · refine s_X8_findFault_25 ?_
        refine s_X8_findFault_26 ?_
        rw [bI_n0] at hh
        rw [if_pos hh] at hΦ
        refine s_X8_findFault_28 hI rfl (by decide) (Nat.le_of_ble_eq_true rfl) (c_take hI (k := 59) t5 g2 (by omega) (by decide)) ?_
        intro h9 e9; rw [e9]; clear e9 h9
        by_cases hs : chr cd n (wk cd n a).2.1 = 59
        · rw [decide_eq_true hs, tk, if_pos hs]
          rw [if_pos hs] at hΦ
          have hsl := chr_lt (cd := cd) (n := n) (a := (wk cd n a).2.1) (by rw [hs]; decide)
          exact nxt _ Φ w (ih _ (w + 1) _ Φ (by omega) (by omega) (by have := hle.2.2 hh; omega) (f5.up (by decide)) at_2 hΦ)
        rw [decide_eq_false hs, tk, if_neg hs, show atI h5 (wk cd n a).2.1 = h5 from up_sf g2]
        rw [if_neg hs] at hΦ
        exact fin h5 Φ _ w hle.1 (by omega) f5 g2 t5.1 hΦ
      · refine s_X8_findFault_20 ?_
        refine s_X8_findFault_21 hI rfl (by decide) ?_
        have hh' : (wk cd n a).1 = false := bI_e0.mp hh
        rw [hh', if_neg (fun z => by cases z)] at hΦ
        rw [g2]
        exact s_X8_findFault_24 (hΦ _ (f5))
  refine am_crn (by decide) (Nat.le_of_ble_eq_true rfl) (fun Φ hΦ => ?_)
  show AP M_X8_findFault _ 0 [.ref 115, jk] [] _ g Φ
  refine s_X8_findFault_0 ?_
  refine s_X8_findFault_1 ?_
  refine s_X8_findFault_2 hI rfl (by decide) ?_
  refine s_X8_findFault_5 ?_
  refine s_X8_findFault_6 rfl ?_
  exact loop 81 0 0 _ Φ (by omega) (by omega) (by omega) (fq.rfl.up (by decide)) (by rw [up_c, up_f]; rfl) hΦ
