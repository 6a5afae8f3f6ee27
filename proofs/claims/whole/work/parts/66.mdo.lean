/-! ===== the model: tells, doWorks ===== -/
/-- the works' row holds the works of the text from a on, from the place m on, and how many there are -/
def WLs (h : am_HI) (cd : Nat → Nat) (n : Nat) : Nat → Nat → Nat → Prop
  | 0, _, _ => True
  | k + 1, a, m => WK h m (chr cd n a) (wk cd n a).2.2.1 (wk cd n a).2.2.2 ∧ (if chr cd n (wk cd n a).2.1 = 59 then WLs h cd n k ((wk cd n a).2.1 + 1) (m + 1) else h 123 12 = nI (m + 1))
theorem WK.mv {h h' : am_HI} {m c : Nat} {x v : Int32} (a : WK h m c x v) (e : ∀ j, j < 3 * (m + 1) → h' 132 j = h 132 j) : WK h' m c x v := by
  unfold WK at *
  rw [e _ (by omega), e _ (by omega), e _ (by omega)]
  exact a
theorem WLs.mv {h h' : am_HI} {cd : Nat → Nat} {n : Nat} (e1 : h' 132 = h 132) (e2 : h' 123 12 = h 123 12) : ∀ k a m, WLs h cd n k a m → WLs h' cd n k a m := by
  intro k
  induction k with
  | zero => intro a m _; trivial
  | succ k ih =>
    intro a m hw
    unfold WLs at hw ⊢
    refine ⟨hw.1.mv (fun j _ => by rw [e1]), ?_⟩
    have h2 := hw.2
    split
    · rename_i hc
      rw [if_pos hc] at h2
      exact ih _ _ h2
    · rename_i hc
      rw [if_neg hc] at h2
      rw [e2]
      exact h2
/-- what telling the text leaves as it was -/
def TR (hi h : am_HI) (m : Nat) : Prop := fr [123, 132] hi h ∧ (∀ j, j ≠ 12 → j ≠ 13 → j ≠ 14 → h 123 j = hi 123 j) ∧ ∀ j, j < 3 * m → h 132 j = hi 132 j
theorem TR.tr {h h1 h2 : am_HI} {m m' : Nat} (a : TR h h1 m) (b : TR h1 h2 m') (hm : m ≤ m') : TR h h2 m := ⟨a.1.tr b.1, fun j q1 q2 q3 => (b.2.1 j q1 q2 q3).trans (a.2.1 j q1 q2 q3), fun j hj => (b.2.2 j (by omega)).trans (a.2.2 j hj)⟩
theorem MT_d (hi : am_HI) (cd : Nat → Nat) (n : Nat) : MT hi cd n = (hi 123 9 = nI n ∧ n ≤ 80 ∧ ∀ i, i < n → hi 131 i = nI (cd i) ∧ 33 ≤ cd i ∧ cd i ≤ 126) := rfl
theorem TR.MT {hi h : am_HI} {m n : Nat} {cd : Nat → Nat} (a : TR hi h m) (mt : MT hi cd n) : MT h cd n := by
  have e : h 131 = hi 131 := a.1 131 (by decide)
  have e2 := a.2.1 9 (by decide) (by decide) (by decide)
  rw [MT_d] at mt ⊢
  rw [e, e2]
  exact mt
theorem TR.ms {hi h : am_HI} {m : Nat} (a : TR hi h m) : MS hi h := ⟨fun k hk => a.1 k (fun q => hk (by simp at q ⊢; omega)), a.2.1 2 (by decide) (by decide) (by decide), a.2.1 9 (by decide) (by decide) (by decide)⟩
theorem MD.tr {hi h0 : am_HI} {cd : Nat → Nat} {n s m : Nat} (a : SR hi h0 m) : TR hi (am_up h0 123 12 (nI (m + 1))) m := ⟨a.1.up (by decide), fun j q1 q2 q3 => by rw [up_c, up_n q1]; exact a.2.1 j q1 q2 q3, fun j hj => by rw [up_k (by decide)]; exact a.2.2.1 j hj⟩
theorem m_tells {hi : am_HI} {g : am_G} (hI : am_Inv g) {cd : Nat → Nat} {n : Nat} (mt : MT hi cd n) : am_Cr M_X10_tells [.ref 123] hi g (some (.int (tl cd n 81 0))) (fun h => TR hi h 0 ∧ (tl cd n 81 0 = -1 → WLs h cd n 81 0 0)) := by
  have hn80 := mt.2.1
  have hcd : ∀ i, i < n → 33 ≤ cd i ∧ cd i ≤ 126 := fun i hi' => (mt.2.2 i hi').2
  have fin : ∀ (h : am_HI) (x : Int32) (Φ : am_P), h 123 14 = x → Φ (.ok (some (.int x))) h g → AP M_X10_tells (0, 0) 17 [.ref 123, .int 0] [] h g Φ := by
    intro h x Φ hx hΦ
    refine s_X10_tells_17 ?_
    refine s_X10_tells_18 (fun _ => ?_) (fun h => absurd (rfl) h)
    refine s_X10_tells_89 ?_
    refine s_X10_tells_90 hI rfl (by decide) ?_
    refine s_X10_tells_93 ?_
    rw [hx]
    exact hΦ
  have nosemi : ∀ (a m : Nat) (h h5 : am_HI) (Φ : am_P), (wk cd n a).2.1 < n → ¬ chr cd n (wk cd n a).2.1 = 59 → TR h h5 m → MT h5 cd n → RA h5 (wk cd n a).2.1 → (∀ h', TR h h' m → Φ (.ok (some (.int (nI (wk cd n a).2.1)))) h' g) → AP M_X10_tells (0, 0) 59 [.ref 123, .int 1] [.int (sg cd n (wk cd n a).2.1), .ref 123] h5 g Φ := by
    intro a m h h5 Φ hen hc tr5 mt5 ra5 hΦ
    have hsg : ¬ sg cd n (wk cd n a).2.1 = 59 := fun e => hc ((sg_chr hcd (k := 59) (by decide) (by decide)).mp e)
    have dw := de_w (hi := h5) (s := (wk cd n a).2.1) (by omega)
    refine s_X10_tells_59 ?_
    refine s_X10_tells_61 (fun _ => ?_) (fun h => absurd h (hsg))
    refine s_X10_tells_68 ?_
    refine s_X10_tells_69 hI rfl (by decide) (Nat.le_of_ble_eq_true rfl) (m_needsF hI ra5) ?_
    intro h9 e9; rw [e9]; clear e9 h9
    refine s_X10_tells_72 ?_
    refine s_X10_tells_73 hI rfl (by decide) ?_
    refine s_X10_tells_76 ?_
    refine s_X10_tells_77 (fun _ => ?_) (fun h => absurd h (dw.1))
    refine s_X10_tells_84 ?_
    refine s_X10_tells_85 rfl ?_
    refine s_X10_tells_86 ?_
    exact fin _ _ Φ dw.2.2 (hΦ _ ⟨(tr5.1.up (by decide)).up (by decide), fun j q1 q2 q3 => by unfold ded; rw [up_c, up_n q2, up_c, up_n q3]; exact tr5.2.1 j q1 q2 q3, fun j hj => by unfold ded; rw [up_k (by decide), up_k (by decide)]; exact tr5.2.2 j hj⟩)
  have semi : ∀ (a m : Nat) (h h5 : am_HI) (Φ : am_P) (k : Nat), 81 ≤ k + 1 + a → 2 * m ≤ a → a < (wk cd n a).2.1 → (wk cd n a).2.1 < n → chr cd n (wk cd n a).2.1 = 59 → TR h h5 m → MT h5 cd n → h5 123 12 = nI (m + 1) → RA h5 (wk cd n a).2.1 → WK h5 m (chr cd n a) (wk cd n a).2.2.1 (wk cd n a).2.2.2 → (∀ a m h (Φ : am_P), 81 ≤ k + a → a ≤ n → 2 * m ≤ a → MT h cd n → RA h a → h 123 12 = nI m → (∀ h', TR h h' m → (tl cd n k a = -1 → WLs h' cd n k a m) → Φ (.ok (some (.int (tl cd n k a)))) h' g) → AP M_X10_tells (0, 0) 17 [.ref 123, .int 1] [] h g Φ) → (∀ h', TR h h' m → (tl cd n k ((wk cd n a).2.1 + 1) = -1 → WLs h' cd n (k + 1) a m) → Φ (.ok (some (.int (tl cd n k ((wk cd n a).2.1 + 1))))) h' g) → AP M_X10_tells (0, 0) 59 [.ref 123, .int 1] [.int (sg cd n (wk cd n a).2.1), .ref 123] h5 g Φ := by
    intro a m h h5 Φ k h1 h3 hlt hen hc tr5 mt5 w5 ra5 wk5 ih hΦ
    have hsg : sg cd n (wk cd n a).2.1 = 59 := (sg_chr hcd (k := 59) (by decide) (by decide)).mpr hc
    have ra6 := ra5.sp ((wk cd n a).2.1 + 1)
    have tr6 : TR h (spt h5 ((wk cd n a).2.1 + 1)) m := ⟨tr5.1.up (by decide), fun j q1 q2 q3 => by unfold spt; rw [up_c, up_n q2]; exact tr5.2.1 j q1 q2 q3, fun j hj => by unfold spt; rw [up_k (by decide)]; exact tr5.2.2 j hj⟩
    have wk6 : WK (spt h5 ((wk cd n a).2.1 + 1)) m (chr cd n a) (wk cd n a).2.2.1 (wk cd n a).2.2.2 := wk5.mv (fun j _ => by unfold spt; rw [up_k (by decide)])
    rw [hsg]
    refine s_X10_tells_59 ?_
    refine s_X10_tells_61 (fun h => absurd (Eq.refl (59 : Int32)) h) (fun _ => ?_)
    refine s_X10_tells_64 ?_
    refine s_X10_tells_65 ?_
    refine s_X10_tells_69 hI rfl (by decide) (Nat.le_of_ble_eq_true rfl) (m_needsT hI ra5) ?_
    intro h9 e9; rw [e9]; clear e9 h9
    refine s_X10_tells_72 ?_
    refine s_X10_tells_73 hI rfl (by decide) ?_
    refine s_X10_tells_76 ?_
    rw [ra6.1]
    refine s_X10_tells_77 (fun h => absurd (Eq.refl (-1 : Int32)) h) (fun _ => ?_)
    refine s_X10_tells_80 ?_
    refine s_X10_tells_81 ?_
    refine s_X10_tells_85 rfl ?_
    refine s_X10_tells_86 ?_
    refine ih ((wk cd n a).2.1 + 1) (m + 1) _ Φ (by omega) (by omega) (by omega) (mt5.sp _) ra6 (by unfold spt; rw [up_c, up_n (by decide)]; exact w5) (fun h' t w => hΦ h' (tr6.tr t (by omega)) (fun q => ?_))
    unfold WLs
    rw [if_pos hc]
    exact ⟨wk6.mv (fun j hj => t.2.2 j hj), w q⟩
  have bad : ∀ (a m : Nat) (h h5 : am_HI) (Φ : am_P) (k : Nat), ((wk cd n a).2.1 ≤ n ∧ a ≤ (wk cd n a).2.1 ∧ ((wk cd n a).1 = true → a < (wk cd n a).2.1)) → h5 123 14 = nI (wk cd n a).2.1 → ((wk cd n a).1 = false ∨ ∃ d, dgt (chr cd n (wk cd n a).2.1) = some d) → TR h h5 m → (∀ h', TR h h' m → ((if (wk cd n a).1 = true then (if chr cd n (wk cd n a).2.1 = 59 then tl cd n k ((wk cd n a).2.1 + 1) else if (wk cd n a).2.1 = n then -1 else nI (wk cd n a).2.1) else nI (wk cd n a).2.1) = -1 → WLs h' cd n (k + 1) a m) → Φ (.ok (some (.int (if (wk cd n a).1 = true then (if chr cd n (wk cd n a).2.1 = 59 then tl cd n k ((wk cd n a).2.1 + 1) else if (wk cd n a).2.1 = n then -1 else nI (wk cd n a).2.1) else nI (wk cd n a).2.1)))) h' g) → AP M_X10_tells (0, 0) 25 [.ref 123, .int 1] [] h5 g Φ := by
    intro a m h h5 Φ k hle ne d2 tr5 hΦ
    have nem : ¬ nI (wk cd n a).2.1 = -1 := ne_m1 (by omega)
    have et : (if (wk cd n a).1 = true then (if chr cd n (wk cd n a).2.1 = 59 then tl cd n k ((wk cd n a).2.1 + 1) else if (wk cd n a).2.1 = n then -1 else nI (wk cd n a).2.1) else nI (wk cd n a).2.1) = nI (wk cd n a).2.1 := by
      rcases d2 with e | ⟨d, e⟩
      · rw [e, if_neg (fun z => by cases z)]
      · split
        · rw [if_neg (fun z => by rw [z] at e; cases e), if_neg (fun z => by have := (dig_v e).2; omega)]
        · rfl
    rw [et] at hΦ
    refine s_X10_tells_25 ?_
    refine s_X10_tells_26 hI rfl (by decide) ?_
    refine s_X10_tells_29 ?_
    rw [ne]
    refine s_X10_tells_30 (fun _ => ?_) (fun h => absurd h (nem))
    refine s_X10_tells_48 ?_
    refine s_X10_tells_49 rfl ?_
    refine s_X10_tells_50 ?_
    refine s_X10_tells_51 (fun _ => ?_) (fun h => absurd (by decide) h)
    exact fin h5 _ Φ ne (hΦ h5 tr5 (fun q => absurd q nem))
  have good : ∀ (a m : Nat) (h h5 : am_HI) (Φ : am_P) (k : Nat), 81 ≤ k + 1 + a → a ≤ n → 2 * m ≤ a → ((wk cd n a).2.1 ≤ n ∧ a ≤ (wk cd n a).2.1 ∧ ((wk cd n a).1 = true → a < (wk cd n a).2.1)) → (wk cd n a).1 = true → TR h h5 m → MT h5 cd n → h5 123 12 = nI (m + 1) → RA h5 (wk cd n a).2.1 → WK h5 m (chr cd n a) (wk cd n a).2.2.1 (wk cd n a).2.2.2 → (∀ a m h (Φ : am_P), 81 ≤ k + a → a ≤ n → 2 * m ≤ a → MT h cd n → RA h a → h 123 12 = nI m → (∀ h', TR h h' m → (tl cd n k a = -1 → WLs h' cd n k a m) → Φ (.ok (some (.int (tl cd n k a)))) h' g) → AP M_X10_tells (0, 0) 17 [.ref 123, .int 1] [] h g Φ) → (∀ h', TR h h' m → ((if chr cd n (wk cd n a).2.1 = 59 then tl cd n k ((wk cd n a).2.1 + 1) else if (wk cd n a).2.1 = n then -1 else nI (wk cd n a).2.1) = -1 → WLs h' cd n (k + 1) a m) → Φ (.ok (some (.int (if chr cd n (wk cd n a).2.1 = 59 then tl cd n k ((wk cd n a).2.1 + 1) else if (wk cd n a).2.1 = n then -1 else nI (wk cd n a).2.1)))) h' g) → AP M_X10_tells (0, 0) 25 [.ref 123, .int 1] [] h5 g Φ := by
    intro a m h h5 Φ k h1 h2 h3 hle d1 tr5 mt5 w5 ra5 wk5 ih hΦ
    have hlt := hle.2.2 d1
    refine s_X10_tells_25 ?_
    refine s_X10_tells_26 hI rfl (by decide) ?_
    refine s_X10_tells_29 ?_
    rw [ra5.1]
    refine s_X10_tells_30 (fun h => absurd (Eq.refl (-1 : Int32)) h) (fun _ => ?_)
    refine s_X10_tells_33 ?_
    refine s_X10_tells_34 hI rfl (by decide) ?_
    refine s_X10_tells_37 ?_
    refine s_X10_tells_38 hI rfl (by decide) ?_
    rw [ra5.2, mt5.1]
    refine s_X10_tells_41 (fun hq => ?_) (fun hq => ?_)
    · refine s_X10_tells_48 ?_
      refine s_X10_tells_49 rfl ?_
      refine s_X10_tells_50 ?_
      have hen : (wk cd n a).2.1 = n := by have := (nI_leI (a := n) (b := (wk cd n a).2.1) (by omega) (by omega)).mp hq; omega
      have hc : ¬ chr cd n (wk cd n a).2.1 = 59 := fun e => by have := chr_lt (cd := cd) (n := n) (a := (wk cd n a).2.1) (by rw [e]; decide); omega
      rw [if_neg hc, if_pos hen] at hΦ
      refine s_X10_tells_51 (fun _ => ?_) (fun h => absurd (by decide) h)
      refine fin h5 _ Φ ra5.1 (hΦ h5 tr5 (fun _ => ?_))
      unfold WLs
      rw [if_neg hc]
      exact ⟨wk5, w5⟩
    · refine s_X10_tells_44 ?_
      refine s_X10_tells_45 ?_
      refine s_X10_tells_49 rfl ?_
      refine s_X10_tells_50 ?_
      have hen : (wk cd n a).2.1 < n := Nat.lt_of_not_le (fun e => hq (nI_le e (by omega)))
      refine s_X10_tells_51 (fun h => absurd h (by decide)) (fun _ => ?_)
      refine s_X10_tells_54 ?_
      refine s_X10_tells_55 ?_
      refine s_X10_tells_56 hI rfl (by decide) (Nat.le_of_ble_eq_true rfl) (m_sign hI mt5 ra5.2 (by omega)) ?_
      intro h9 e9; rw [e9]; clear e9 h9
      by_cases hc : chr cd n (wk cd n a).2.1 = 59
      · rw [if_pos hc] at hΦ
        exact semi a m h h5 Φ k h1 h3 hlt hen hc tr5 mt5 w5 ra5 wk5 ih hΦ
      · rw [if_neg hc, if_neg (by omega)] at hΦ
        exact nosemi a m h h5 Φ hen hc tr5 mt5 ra5 (fun h' t => hΦ h' t (fun q => absurd q (ne_m1 (by omega))))
  have loop : ∀ k a m h (Φ : am_P), 81 ≤ k + a → a ≤ n → 2 * m ≤ a → MT h cd n → RA h a → h 123 12 = nI m → (∀ h', TR h h' m → (tl cd n k a = -1 → WLs h' cd n k a m) → Φ (.ok (some (.int (tl cd n k a)))) h' g) → AP M_X10_tells (0, 0) 17 [.ref 123, .int 1] [] h g Φ := by
    intro k
    induction k with
    | zero => intro a m h Φ h1 h2; omega
    | succ k ih =>
      intro a m h Φ h1 h2 h3 mt' ra hw hΦ
      have hle := wk_le (cd := cd) h2
      rw [tl] at hΦ
      refine s_X10_tells_17 ?_
      refine s_X10_tells_18 (fun h => absurd h (by decide)) (fun _ => ?_)
      refine s_X10_tells_21 ?_
      refine s_X10_tells_22 hI rfl (by decide) (Nat.le_of_ble_eq_true rfl) (m_readWork hI mt' ra h2 hw (by omega)) ?_
      intro h5 ⟨h0, s0, d0, e5⟩
      have tr5 : TR h h5 m := by rw [e5]; exact MD.tr (cd := cd) (n := n) (s := a) s0
      have mt5 := tr5.MT mt'
      have w5 : h5 123 12 = nI (m + 1) := by rw [e5, up_c, up_f]
      have f14 : h5 123 14 = h0 123 14 := by rw [e5, up_c, up_n (by decide)]
      have f13 : h5 123 13 = h0 123 13 := by rw [e5, up_c, up_n (by decide)]
      have f132 : h5 132 = h0 132 := by rw [e5, up_k (by decide)]
      rcases d0 with ⟨d1, d2, d3⟩ | ⟨d1, d2⟩
      · have ra5 : RA h5 (wk cd n a).2.1 := ⟨f14.trans d2.1, f13.trans d2.2⟩
        have wk5 : WK h5 m (chr cd n a) (wk cd n a).2.2.1 (wk cd n a).2.2.2 := d3.mv (fun j _ => by rw [f132])
        rw [if_pos d1] at hΦ
        exact good a m h h5 Φ k h1 h2 h3 hle d1 tr5 mt5 w5 ra5 wk5 ih hΦ
      · have ne : h5 123 14 = nI (wk cd n a).2.1 := f14.trans d1
        refine bad a m h h5 Φ k hle ne d2 tr5 hΦ
  unfold TR at *
  refine am_crn (by decide) (Nat.le_of_ble_eq_true rfl) (fun Φ hΦ => ?_)
  show AP M_X10_tells _ 0 [.ref 123, jk] [] _ g Φ
  refine s_X10_tells_0 ?_
  refine s_X10_tells_1 ?_
  refine s_X10_tells_2 hI rfl (by decide) ?_
  refine s_X10_tells_5 ?_
  refine s_X10_tells_6 ?_
  refine s_X10_tells_7 hI rfl (by decide) ?_
  refine s_X10_tells_10 ?_
  refine s_X10_tells_11 ?_
  refine s_X10_tells_12 hI rfl (by decide) ?_
  refine s_X10_tells_15 ?_
  refine s_X10_tells_16 rfl ?_
  refine loop 81 0 0 _ Φ (by omega) (by omega) (by omega) ?_ ⟨by rw [up_c, up_f], by rw [up_c, up_n (by decide), up_c, up_f]; rfl⟩ (by rw [up_c, up_n (by decide), up_c, up_n (by decide), up_c, up_f]; rfl) (fun h' q1 q2 => hΦ _ ⟨⟨?_, ?_, fun j hj => by omega⟩, q2⟩)
  · unfold MT at *; rw [up_c, up_n (by decide), up_c, up_n (by decide), up_c, up_n (by decide), up_k (by decide), up_k (by decide), up_k (by decide)]; exact mt
  · exact (((fr.rfl.up (by decide)).up (by decide)).up (by decide)).tr q1.1
  · intro j h1 h2 h3; rw [q1.2.1 j h1 h2 h3, up_c, up_n h3, up_c, up_n h2, up_c, up_n h1]
theorem q_firstError {hi : am_HI} {g : am_G} (hI : am_Inv g) {z : Nat → Int32} {Z : Nat → Nat → Int32} {p : Nat} {Y : Nat → Nat → Int32} {c : Nat → Bool} {cd : Nat → Nat} {n : Nat} (a : MM hi z Z p Y c cd n) : am_Cr M_X10_firstError [.ref 123] hi g (some (.int (tl cd n 81 0))) (fun h => MS hi h ∧ h 123 10 = 0) := by
  refine am_crn (by decide) (Nat.le_of_ble_eq_true rfl) (fun Φ hΦ => ?_)
  show AP M_X10_firstError _ 0 [.ref 123] [] _ g Φ
  refine s_X10_firstError_0 ?_
  refine s_X10_firstError_1 ?_
  refine s_X10_firstError_2 hI rfl (by decide) (Nat.le_of_ble_eq_true rfl) (m_tells hI a.2.2.2) ?_
  intro h5 ⟨t5, w5⟩
  refine s_X10_firstError_5 hI rfl (by decide) (Nat.le_of_ble_eq_true rfl) (m_says hI _) ?_
  intro h9 e9; rw [e9]; clear e9 h9
  exact s_X10_firstError_8 (hΦ _ (MSs t5.ms))
theorem told_e {z : Nat → Int32} (ok : OKz z) {t : Nat} (ht : t < 1000) : wi (nI t) 0 (nI (zt z) - 1) = decide (t < zt z) := by
  have h48 := ok.2.2.1
  by_cases h : t < zt z
  · rw [decide_eq_true h]; exact (wi_lt (by omega)).mpr ⟨t, h, rfl⟩
  · rw [decide_eq_false h]
    cases hw : wi (nI t) 0 (nI (zt z) - 1) with
    | false => rfl
    | true =>
      obtain ⟨k, h1, h2⟩ := (wi_lt (by omega)).mp hw
      have := (nI_eq (by omega) (by omega)).mp h2
      omega
/-- the first number of a work, as the model keeps it -/
def w1v (c : Nat) (x v : Int32) : Int32 := if is2 c = true then x else if c = 45 then -v else v
theorem m_isPossible {hi : am_HI} {g : am_G} (hI : am_Inv g) {z : Nat → Int32} (hz : hi 124 = z) (ok : OKz z) {c : Nat} {x v w : Int32} (h : WV c x v) (hw : is0 c = false → w = w1v c x v) : am_Cr M_X10_isPossible [.ref 123, .int (nI c), .int w] hi g (some (.int (bI (zdo z c x v).1))) (fun h => h = hi) := by
  have hc : z 48 = nI (zc z) := ok.1.1
  have h48 := ok.1.2.1
  rcases h with ⟨rfl | rfl, k, h1, rfl⟩ | ⟨rfl, d, h1, rfl⟩ | ⟨rfl, s, h1, rfl⟩ | ⟨rfl, k, h1, rfl⟩ | ⟨rfl, k, h1, rfl⟩ | ⟨rfl, ⟨t, h1, rfl⟩, h2⟩ | rfl | rfl
  · show am_Cr M_X10_isPossible [.ref 123, .int (nI 43), .int w] hi g (some (.int (bI (decide (zc z < 48))))) (fun h => h = hi)
    refine am_crn (by decide) (Nat.le_of_ble_eq_true rfl) (fun Φ hΦ => ?_)
    show AP M_X10_isPossible _ 0 [.ref 123, .int (nI 43), .int w] [] _ g Φ
    refine s_X10_isPossible_0 ?_
    refine s_X10_isPossible_1 ?_
    refine s_X10_isPossible_3 (fun _ => ?_) (fun h => absurd (by decide) h)
    refine s_X10_isPossible_12 ?_
    refine s_X10_isPossible_13 hI rfl (by decide) rfl (by decide) ?_
    refine s_X10_isPossible_16 ?_
    refine s_X10_isPossible_18 hI rfl (by decide) (by decide) (by decide : (_ : Int32) = nI 48) (by decide) ?_
    refine s_X10_isPossible_19 ?_
    rw [hz, hc]
    refine s_X10_isPossible_21 (fun hq => ?_) (fun hq => ?_)
    · refine s_X10_isPossible_28 ?_
      refine s_X10_isPossible_29 (by first | exact Or.inl rfl | exact Or.inr rfl | exact bI_01 _) ?_
      rw [decide_eq_false (fun e => absurd hq (nI_ge e (by decide)))] at hΦ
      exact hΦ _ rfl
    · refine s_X10_isPossible_24 ?_
      refine s_X10_isPossible_25 ?_
      refine s_X10_isPossible_29 (by first | exact Or.inl rfl | exact Or.inr rfl | exact bI_01 _) ?_
      rw [decide_eq_true (Nat.lt_of_not_le (fun e => hq (nI_le (a := 48) (b := zc z) e (by omega))))] at hΦ
      exact hΦ _ rfl
  · show am_Cr M_X10_isPossible [.ref 123, .int (nI 45), .int w] hi g (some (.int (bI (decide (zc z < 48))))) (fun h => h = hi)
    refine am_crn (by decide) (Nat.le_of_ble_eq_true rfl) (fun Φ hΦ => ?_)
    show AP M_X10_isPossible _ 0 [.ref 123, .int (nI 45), .int w] [] _ g Φ
    refine s_X10_isPossible_0 ?_
    refine s_X10_isPossible_1 ?_
    refine s_X10_isPossible_3 (fun h => absurd h (by decide)) (fun _ => ?_)
    refine s_X10_isPossible_6 ?_
    refine s_X10_isPossible_7 ?_
    refine s_X10_isPossible_9 (fun h => absurd (by decide) h) (fun _ => ?_)
    refine s_X10_isPossible_12 ?_
    refine s_X10_isPossible_13 hI rfl (by decide) rfl (by decide) ?_
    refine s_X10_isPossible_16 ?_
    refine s_X10_isPossible_18 hI rfl (by decide) (by decide) (by decide : (_ : Int32) = nI 48) (by decide) ?_
    refine s_X10_isPossible_19 ?_
    rw [hz, hc]
    refine s_X10_isPossible_21 (fun hq => ?_) (fun hq => ?_)
    · refine s_X10_isPossible_28 ?_
      refine s_X10_isPossible_29 (by first | exact Or.inl rfl | exact Or.inr rfl | exact bI_01 _) ?_
      rw [decide_eq_false (fun e => absurd hq (nI_ge e (by decide)))] at hΦ
      exact hΦ _ rfl
    · refine s_X10_isPossible_24 ?_
      refine s_X10_isPossible_25 ?_
      refine s_X10_isPossible_29 (by first | exact Or.inl rfl | exact Or.inr rfl | exact bI_01 _) ?_
      rw [decide_eq_true (Nat.lt_of_not_le (fun e => hq (nI_le (a := 48) (b := zc z) e (by omega))))] at hΦ
      exact hΦ _ rfl
  · refine am_crn (by decide) (Nat.le_of_ble_eq_true rfl) (fun Φ hΦ => ?_)
    show AP M_X10_isPossible _ 0 [.ref 123, .int (nI 100), .int w] [] _ g Φ
    refine s_X10_isPossible_0 ?_
    refine s_X10_isPossible_1 ?_
    refine s_X10_isPossible_3 (fun h => absurd h (by decide)) (fun _ => ?_)
    refine s_X10_isPossible_6 ?_
    refine s_X10_isPossible_7 ?_
    refine s_X10_isPossible_9 (fun _ => ?_) (fun h => absurd h (by decide))
    refine s_X10_isPossible_30 ?_
    refine s_X10_isPossible_31 ?_
    refine s_X10_isPossible_33 (fun _ => ?_) (fun h => absurd h (by decide))
    refine s_X10_isPossible_42 ?_
    refine s_X10_isPossible_43 ?_
    refine s_X10_isPossible_45 (fun _ => ?_) (fun h => absurd h (by decide))
    refine s_X10_isPossible_66 ?_
    refine s_X10_isPossible_67 ?_
    refine s_X10_isPossible_69 (fun _ => ?_) (fun h => absurd h (by decide))
    refine s_X10_isPossible_80 ?_
    refine s_X10_isPossible_81 ?_
    exact s_X10_isPossible_85 (by first | exact Or.inl rfl | exact Or.inr rfl | exact bI_01 _) (hΦ _ (rfl))
  · refine am_crn (by decide) (Nat.le_of_ble_eq_true rfl) (fun Φ hΦ => ?_)
    show AP M_X10_isPossible _ 0 [.ref 123, .int (nI 118), .int w] [] _ g Φ
    refine s_X10_isPossible_0 ?_
    refine s_X10_isPossible_1 ?_
    refine s_X10_isPossible_3 (fun h => absurd h (by decide)) (fun _ => ?_)
    refine s_X10_isPossible_6 ?_
    refine s_X10_isPossible_7 ?_
    refine s_X10_isPossible_9 (fun _ => ?_) (fun h => absurd h (by decide))
    refine s_X10_isPossible_30 ?_
    refine s_X10_isPossible_31 ?_
    refine s_X10_isPossible_33 (fun _ => ?_) (fun h => absurd h (by decide))
    refine s_X10_isPossible_42 ?_
    refine s_X10_isPossible_43 ?_
    refine s_X10_isPossible_45 (fun _ => ?_) (fun h => absurd h (by decide))
    refine s_X10_isPossible_66 ?_
    refine s_X10_isPossible_67 ?_
    refine s_X10_isPossible_69 (fun _ => ?_) (fun h => absurd h (by decide))
    refine s_X10_isPossible_80 ?_
    refine s_X10_isPossible_81 ?_
    exact s_X10_isPossible_85 (by first | exact Or.inl rfl | exact Or.inr rfl | exact bI_01 _) (hΦ _ (rfl))
  · rw [show w = nI k from hw rfl]
    show am_Cr M_X10_isPossible [.ref 123, .int (nI 107), .int (nI k)] hi g (some (.int (bI (decide (¬ z 55 = 1 <<< (nI k &&& 31)))))) (fun h => h = hi)
    refine am_crn (by decide) (Nat.le_of_ble_eq_true rfl) (fun Φ hΦ => ?_)
    show AP M_X10_isPossible _ 0 [.ref 123, .int (nI 107), .int (nI k)] [] _ g Φ
    refine s_X10_isPossible_0 ?_
    refine s_X10_isPossible_1 ?_
    refine s_X10_isPossible_3 (fun h => absurd h (by decide)) (fun _ => ?_)
    refine s_X10_isPossible_6 ?_
    refine s_X10_isPossible_7 ?_
    refine s_X10_isPossible_9 (fun _ => ?_) (fun h => absurd h (by decide))
    refine s_X10_isPossible_30 ?_
    refine s_X10_isPossible_31 ?_
    refine s_X10_isPossible_33 (fun h => absurd (by decide) h) (fun _ => ?_)
    refine s_X10_isPossible_36 ?_
    refine s_X10_isPossible_37 ?_
    refine s_X10_isPossible_38 hI rfl (by decide) (Nat.le_of_ble_eq_true rfl) (m_canTurn hI hz _) ?_
    intro h9 e9; rw [e9]; clear e9 h9
    exact s_X10_isPossible_41 (by first | exact Or.inl rfl | exact Or.inr rfl | exact bI_01 _) (hΦ _ (rfl))
  · refine am_crn (by decide) (Nat.le_of_ble_eq_true rfl) (fun Φ hΦ => ?_)
    show AP M_X10_isPossible _ 0 [.ref 123, .int (nI 119), .int w] [] _ g Φ
    refine s_X10_isPossible_0 ?_
    refine s_X10_isPossible_1 ?_
    refine s_X10_isPossible_3 (fun h => absurd h (by decide)) (fun _ => ?_)
    refine s_X10_isPossible_6 ?_
    refine s_X10_isPossible_7 ?_
    refine s_X10_isPossible_9 (fun _ => ?_) (fun h => absurd h (by decide))
    refine s_X10_isPossible_30 ?_
    refine s_X10_isPossible_31 ?_
    refine s_X10_isPossible_33 (fun _ => ?_) (fun h => absurd h (by decide))
    refine s_X10_isPossible_42 ?_
    refine s_X10_isPossible_43 ?_
    refine s_X10_isPossible_45 (fun _ => ?_) (fun h => absurd h (by decide))
    refine s_X10_isPossible_66 ?_
    refine s_X10_isPossible_67 ?_
    refine s_X10_isPossible_69 (fun _ => ?_) (fun h => absurd h (by decide))
    refine s_X10_isPossible_80 ?_
    refine s_X10_isPossible_81 ?_
    exact s_X10_isPossible_85 (by first | exact Or.inl rfl | exact Or.inr rfl | exact bI_01 _) (hΦ _ (rfl))
  · rw [show w = nI t from hw rfl]
    show am_Cr M_X10_isPossible [.ref 123, .int (nI 116), .int (nI t)] hi g (some (.int (bI (decide ((nI t).toInt.toNat < zt z))))) (fun h => h = hi)
    rw [nI_tn (by omega)]
    refine am_crn (by decide) (Nat.le_of_ble_eq_true rfl) (fun Φ hΦ => ?_)
    show AP M_X10_isPossible _ 0 [.ref 123, .int (nI 116), .int (nI t)] [] _ g Φ
    refine s_X10_isPossible_0 ?_
    refine s_X10_isPossible_1 ?_
    refine s_X10_isPossible_3 (fun h => absurd h (by decide)) (fun _ => ?_)
    refine s_X10_isPossible_6 ?_
    refine s_X10_isPossible_7 ?_
    refine s_X10_isPossible_9 (fun _ => ?_) (fun h => absurd h (by decide))
    refine s_X10_isPossible_30 ?_
    refine s_X10_isPossible_31 ?_
    refine s_X10_isPossible_33 (fun _ => ?_) (fun h => absurd h (by decide))
    refine s_X10_isPossible_42 ?_
    refine s_X10_isPossible_43 ?_
    refine s_X10_isPossible_45 (fun _ => ?_) (fun h => absurd h (by decide))
    refine s_X10_isPossible_66 ?_
    refine s_X10_isPossible_67 ?_
    refine s_X10_isPossible_69 (fun h => absurd (by decide) h) (fun _ => ?_)
    refine s_X10_isPossible_72 ?_
    refine s_X10_isPossible_73 ?_
    refine s_X10_isPossible_74 hI rfl (by decide) (Nat.le_of_ble_eq_true rfl) (m_isTold hI (nI t)) ?_
    intro h9 e9; rw [e9]; clear e9 h9
    rw [hz, ok.2.1, told_e ok (by omega)]
    refine s_X10_isPossible_77 (fun hq => ?_) (fun hq => ?_)
    · refine s_X10_isPossible_84 ?_
      refine s_X10_isPossible_85 (by first | exact Or.inl rfl | exact Or.inr rfl | exact bI_01 _) ?_
      rw [decide_eq_false (bI_d0.mp hq)] at hΦ
      exact hΦ _ rfl
    · refine s_X10_isPossible_80 ?_
      refine s_X10_isPossible_81 ?_
      refine s_X10_isPossible_85 (by first | exact Or.inl rfl | exact Or.inr rfl | exact bI_01 _) ?_
      rw [decide_eq_true (Decidable.not_not.mp (fun e => hq (bI_d0.mpr e)))] at hΦ
      exact hΦ _ rfl
  · show am_Cr M_X10_isPossible [.ref 123, .int (nI 115), .int w] hi g (some (.int (bI (decide (0 < zc z))))) (fun h => h = hi)
    refine am_crn (by decide) (Nat.le_of_ble_eq_true rfl) (fun Φ hΦ => ?_)
    show AP M_X10_isPossible _ 0 [.ref 123, .int (nI 115), .int w] [] _ g Φ
    refine s_X10_isPossible_0 ?_
    refine s_X10_isPossible_1 ?_
    refine s_X10_isPossible_3 (fun h => absurd h (by decide)) (fun _ => ?_)
    refine s_X10_isPossible_6 ?_
    refine s_X10_isPossible_7 ?_
    refine s_X10_isPossible_9 (fun _ => ?_) (fun h => absurd h (by decide))
    refine s_X10_isPossible_30 ?_
    refine s_X10_isPossible_31 ?_
    refine s_X10_isPossible_33 (fun _ => ?_) (fun h => absurd h (by decide))
    refine s_X10_isPossible_42 ?_
    refine s_X10_isPossible_43 ?_
    refine s_X10_isPossible_45 (fun h => absurd (by decide) h) (fun _ => ?_)
    refine s_X10_isPossible_48 ?_
    refine s_X10_isPossible_49 hI rfl (by decide) rfl (by decide) ?_
    refine s_X10_isPossible_52 ?_
    refine s_X10_isPossible_54 hI rfl (by decide) (by decide) (by decide : (_ : Int32) = nI 48) (by decide) ?_
    rw [hz, hc]
    refine s_X10_isPossible_55 (fun hq => ?_) (fun hq => ?_)
    · refine s_X10_isPossible_62 ?_
      refine s_X10_isPossible_63 ?_
      refine s_X10_isPossible_85 (by first | exact Or.inl rfl | exact Or.inr rfl | exact bI_01 _) ?_
      rw [decide_eq_false (fun e => absurd hq (nI_nle (n := zc z) e (by omega)))] at hΦ
      exact hΦ _ rfl
    · refine s_X10_isPossible_58 ?_
      refine s_X10_isPossible_59 ?_
      refine s_X10_isPossible_85 (by first | exact Or.inl rfl | exact Or.inr rfl | exact bI_01 _) ?_
      rw [decide_eq_true (Nat.pos_of_ne_zero (fun e => hq (by rw [e]; decide)))] at hΦ
      exact hΦ _ rfl
  · refine am_crn (by decide) (Nat.le_of_ble_eq_true rfl) (fun Φ hΦ => ?_)
    show AP M_X10_isPossible _ 0 [.ref 123, .int (nI 120), .int w] [] _ g Φ
    refine s_X10_isPossible_0 ?_
    refine s_X10_isPossible_1 ?_
    refine s_X10_isPossible_3 (fun h => absurd h (by decide)) (fun _ => ?_)
    refine s_X10_isPossible_6 ?_
    refine s_X10_isPossible_7 ?_
    refine s_X10_isPossible_9 (fun _ => ?_) (fun h => absurd h (by decide))
    refine s_X10_isPossible_30 ?_
    refine s_X10_isPossible_31 ?_
    refine s_X10_isPossible_33 (fun _ => ?_) (fun h => absurd h (by decide))
    refine s_X10_isPossible_42 ?_
    refine s_X10_isPossible_43 ?_
    refine s_X10_isPossible_45 (fun _ => ?_) (fun h => absurd h (by decide))
    refine s_X10_isPossible_66 ?_
    refine s_X10_isPossible_67 ?_
    refine s_X10_isPossible_69 (fun _ => ?_) (fun h => absurd h (by decide))
    refine s_X10_isPossible_80 ?_
    refine s_X10_isPossible_81 ?_
    exact s_X10_isPossible_85 (by first | exact Or.inl rfl | exact Or.inr rfl | exact bI_01 _) (hΦ _ (rfl))
theorem m_does {hi : am_HI} {g : am_G} (hI : am_Inv g) {z : Nat → Int32} (hz : hi 124 = z) (ok : OKz z) {c : Nat} {x v w y : Int32} (h : WV c x v) (hw : is0 c = false → w = w1v c x v) (hy : is2 c = true → y = v) (hp : (zdo z c x v).1 = true) : am_Cr M_X10_does [.ref 123, .int (nI c), .int w, .int y] hi g none (fun h => fr [124, 128, 129] hi h ∧ h 124 = (zdo z c x v).2) := by
  rcases h with ⟨rfl | rfl, k, h1, rfl⟩ | ⟨rfl, d, h1, rfl⟩ | ⟨rfl, s, h1, rfl⟩ | ⟨rfl, k, h1, rfl⟩ | ⟨rfl, k, h1, rfl⟩ | ⟨rfl, ⟨t, h1, rfl⟩, h2⟩ | rfl | rfl
  · have hc : zc z < 48 := of_decide_eq_true hp
    rw [show w = nI k from hw rfl, show (zdo z 43 x (nI k)).2 = zput z (nI k) from if_pos hc]
    refine am_crn (by decide) (Nat.le_of_ble_eq_true rfl) (fun Φ hΦ => ?_)
    show AP M_X10_does _ 0 [.ref 123, .int (nI 43), .int (nI k), .int y] [] _ g Φ
    refine s_X10_does_0 ?_
    refine s_X10_does_1 ?_
    refine s_X10_does_3 (fun _ => ?_) (fun h => absurd (by decide) h)
    refine s_X10_does_12 ?_
    refine s_X10_does_13 ?_
    refine s_X10_does_14 hI rfl (by decide) (Nat.le_of_ble_eq_true rfl) (m_adds hI hz ok hc _) ?_
    intro h5 ⟨f5, e5⟩
    refine s_X10_does_17 rfl ?_
    refine s_X10_does_18 ?_
    refine s_X10_does_19 ?_
    refine s_X10_does_21 (fun _ => ?_) (fun h => absurd h (by decide))
    refine s_X10_does_37 ?_
    refine s_X10_does_38 ?_
    refine s_X10_does_40 (fun _ => ?_) (fun h => absurd h (by decide))
    refine s_X10_does_48 ?_
    refine s_X10_does_49 ?_
    refine s_X10_does_51 (fun h => absurd h (by decide)) (fun _ => ?_)
    refine s_X10_does_54 ?_
    refine s_X10_does_55 ?_
    refine s_X10_does_57 (fun _ => ?_) (fun h => absurd h (by decide))
    refine s_X10_does_79 ?_
    refine s_X10_does_80 ?_
    refine s_X10_does_82 (fun _ => ?_) (fun h => absurd h (by decide))
    refine s_X10_does_97 ?_
    refine s_X10_does_98 ?_
    refine s_X10_does_100 (fun _ => ?_) (fun h => absurd h (by decide))
    refine s_X10_does_113 ?_
    refine s_X10_does_114 ?_
    refine s_X10_does_116 (fun _ => ?_) (fun h => absurd h (by decide))
    exact s_X10_does_127 (hΦ _ (⟨f5.mono (by decide), e5⟩))
  · have hc : zc z < 48 := of_decide_eq_true hp
    rw [show w = -nI k from hw rfl, show (zdo z 45 x (nI k)).2 = zput z (-nI k) from if_pos hc]
    refine am_crn (by decide) (Nat.le_of_ble_eq_true rfl) (fun Φ hΦ => ?_)
    show AP M_X10_does _ 0 [.ref 123, .int (nI 45), .int (-nI k), .int y] [] _ g Φ
    refine s_X10_does_0 ?_
    refine s_X10_does_1 ?_
    refine s_X10_does_3 (fun h => absurd h (by decide)) (fun _ => ?_)
    refine s_X10_does_6 ?_
    refine s_X10_does_7 ?_
    refine s_X10_does_9 (fun h => absurd (by decide) h) (fun _ => ?_)
    refine s_X10_does_12 ?_
    refine s_X10_does_13 ?_
    refine s_X10_does_14 hI rfl (by decide) (Nat.le_of_ble_eq_true rfl) (m_adds hI hz ok hc _) ?_
    intro h5 ⟨f5, e5⟩
    refine s_X10_does_17 rfl ?_
    refine s_X10_does_18 ?_
    refine s_X10_does_19 ?_
    refine s_X10_does_21 (fun _ => ?_) (fun h => absurd h (by decide))
    refine s_X10_does_37 ?_
    refine s_X10_does_38 ?_
    refine s_X10_does_40 (fun _ => ?_) (fun h => absurd h (by decide))
    refine s_X10_does_48 ?_
    refine s_X10_does_49 ?_
    refine s_X10_does_51 (fun h => absurd h (by decide)) (fun _ => ?_)
    refine s_X10_does_54 ?_
    refine s_X10_does_55 ?_
    refine s_X10_does_57 (fun _ => ?_) (fun h => absurd h (by decide))
    refine s_X10_does_79 ?_
    refine s_X10_does_80 ?_
    refine s_X10_does_82 (fun _ => ?_) (fun h => absurd h (by decide))
    refine s_X10_does_97 ?_
    refine s_X10_does_98 ?_
    refine s_X10_does_100 (fun _ => ?_) (fun h => absurd h (by decide))
    refine s_X10_does_113 ?_
    refine s_X10_does_114 ?_
    refine s_X10_does_116 (fun _ => ?_) (fun h => absurd h (by decide))
    exact s_X10_does_127 (hΦ _ (⟨f5.mono (by decide), e5⟩))
  · rw [show w = nI d from hw rfl]
    refine am_crn (by decide) (Nat.le_of_ble_eq_true rfl) (fun Φ hΦ => ?_)
    show AP M_X10_does _ 0 [.ref 123, .int (nI 100), .int (nI d), .int y] [] _ g Φ
    refine s_X10_does_0 ?_
    refine s_X10_does_1 ?_
    refine s_X10_does_3 (fun h => absurd h (by decide)) (fun _ => ?_)
    refine s_X10_does_6 ?_
    refine s_X10_does_7 ?_
    refine s_X10_does_9 (fun _ => ?_) (fun h => absurd h (by decide))
    refine s_X10_does_18 ?_
    refine s_X10_does_19 ?_
    refine s_X10_does_21 (fun _ => ?_) (fun h => absurd h (by decide))
    refine s_X10_does_37 ?_
    refine s_X10_does_38 ?_
    refine s_X10_does_40 (fun _ => ?_) (fun h => absurd h (by decide))
    refine s_X10_does_48 ?_
    refine s_X10_does_49 ?_
    refine s_X10_does_51 (fun _ => ?_) (fun h => absurd (by decide) h)
    refine s_X10_does_60 ?_
    refine s_X10_does_61 hI rfl (by decide) rfl (by decide) ?_
    refine s_X10_does_64 ?_
    refine s_X10_does_65 ?_
    refine s_X10_does_67 (fun h => absurd (by decide) h) (fun _ => ?_)
    refine s_X10_does_70 ?_
    refine s_X10_does_72 ?_
    refine s_X10_does_77 ?_
    refine s_X10_does_78 hI rfl (by decide) (by decide) (by decide : (_ : Int32) = nI 49) (by decide) ?_
    refine s_X10_does_79 ?_
    refine s_X10_does_80 ?_
    refine s_X10_does_82 (fun _ => ?_) (fun h => absurd h (by decide))
    refine s_X10_does_97 ?_
    refine s_X10_does_98 ?_
    refine s_X10_does_100 (fun _ => ?_) (fun h => absurd h (by decide))
    refine s_X10_does_113 ?_
    refine s_X10_does_114 ?_
    refine s_X10_does_116 (fun _ => ?_) (fun h => absurd h (by decide))
    exact s_X10_does_127 (hΦ _ (⟨fr.rfl.up (by decide), by rw [up_c, hz]; rfl⟩))
  · rw [show w = nI s from hw rfl]
    refine am_crn (by decide) (Nat.le_of_ble_eq_true rfl) (fun Φ hΦ => ?_)
    show AP M_X10_does _ 0 [.ref 123, .int (nI 118), .int (nI s), .int y] [] _ g Φ
    refine s_X10_does_0 ?_
    refine s_X10_does_1 ?_
    refine s_X10_does_3 (fun h => absurd h (by decide)) (fun _ => ?_)
    refine s_X10_does_6 ?_
    refine s_X10_does_7 ?_
    refine s_X10_does_9 (fun _ => ?_) (fun h => absurd h (by decide))
    refine s_X10_does_18 ?_
    refine s_X10_does_19 ?_
    refine s_X10_does_21 (fun _ => ?_) (fun h => absurd h (by decide))
    refine s_X10_does_37 ?_
    refine s_X10_does_38 ?_
    refine s_X10_does_40 (fun _ => ?_) (fun h => absurd h (by decide))
    refine s_X10_does_48 ?_
    refine s_X10_does_49 ?_
    refine s_X10_does_51 (fun h => absurd h (by decide)) (fun _ => ?_)
    refine s_X10_does_54 ?_
    refine s_X10_does_55 ?_
    refine s_X10_does_57 (fun h => absurd (by decide) h) (fun _ => ?_)
    refine s_X10_does_60 ?_
    refine s_X10_does_61 hI rfl (by decide) rfl (by decide) ?_
    refine s_X10_does_64 ?_
    refine s_X10_does_65 ?_
    refine s_X10_does_67 (fun _ => ?_) (fun h => absurd h (by decide))
    refine s_X10_does_75 ?_
    refine s_X10_does_77 ?_
    refine s_X10_does_78 hI rfl (by decide) (by decide) (by decide : (_ : Int32) = nI 50) (by decide) ?_
    refine s_X10_does_79 ?_
    refine s_X10_does_80 ?_
    refine s_X10_does_82 (fun _ => ?_) (fun h => absurd h (by decide))
    refine s_X10_does_97 ?_
    refine s_X10_does_98 ?_
    refine s_X10_does_100 (fun _ => ?_) (fun h => absurd h (by decide))
    refine s_X10_does_113 ?_
    refine s_X10_does_114 ?_
    refine s_X10_does_116 (fun _ => ?_) (fun h => absurd h (by decide))
    exact s_X10_does_127 (hΦ _ (⟨fr.rfl.up (by decide), by rw [up_c, hz]; rfl⟩))
  · have hc : ¬ z 55 = 1 <<< (nI k &&& 31) := of_decide_eq_true hp
    rw [show w = nI k from hw rfl, show (zdo z 107 x (nI k)).2 = upd z 55 (z 55 ^^^ 1 <<< (nI k &&& 31)) from if_pos hc]
    refine am_crn (by decide) (Nat.le_of_ble_eq_true rfl) (fun Φ hΦ => ?_)
    show AP M_X10_does _ 0 [.ref 123, .int (nI 107), .int (nI k), .int y] [] _ g Φ
    refine s_X10_does_0 ?_
    refine s_X10_does_1 ?_
    refine s_X10_does_3 (fun h => absurd h (by decide)) (fun _ => ?_)
    refine s_X10_does_6 ?_
    refine s_X10_does_7 ?_
    refine s_X10_does_9 (fun _ => ?_) (fun h => absurd h (by decide))
    refine s_X10_does_18 ?_
    refine s_X10_does_19 ?_
    refine s_X10_does_21 (fun h => absurd (by decide) h) (fun _ => ?_)
    refine s_X10_does_24 ?_
    refine s_X10_does_25 hI rfl (by decide) rfl (by decide) ?_
    refine s_X10_does_28 ?_
    refine s_X10_does_30 rfl rfl ?_
    refine s_X10_does_31 hI rfl (by decide) (by decide) (by decide : (_ : Int32) = nI 55) (by decide) ?_
    refine s_X10_does_32 ?_
    refine s_X10_does_33 ?_
    refine s_X10_does_34 ?_
    refine s_X10_does_35 ?_
    refine s_X10_does_36 hI rfl (by decide) (by decide) (by decide : (_ : Int32) = nI 55) (by decide) ?_
    refine s_X10_does_37 ?_
    refine s_X10_does_38 ?_
    refine s_X10_does_40 (fun _ => ?_) (fun h => absurd h (by decide))
    refine s_X10_does_48 ?_
    refine s_X10_does_49 ?_
    refine s_X10_does_51 (fun h => absurd h (by decide)) (fun _ => ?_)
    refine s_X10_does_54 ?_
    refine s_X10_does_55 ?_
    refine s_X10_does_57 (fun _ => ?_) (fun h => absurd h (by decide))
    refine s_X10_does_79 ?_
    refine s_X10_does_80 ?_
    refine s_X10_does_82 (fun _ => ?_) (fun h => absurd h (by decide))
    refine s_X10_does_97 ?_
    refine s_X10_does_98 ?_
    refine s_X10_does_100 (fun _ => ?_) (fun h => absurd h (by decide))
    refine s_X10_does_113 ?_
    refine s_X10_does_114 ?_
    refine s_X10_does_116 (fun _ => ?_) (fun h => absurd h (by decide))
    exact s_X10_does_127 (hΦ _ (⟨fr.rfl.up (by decide), by rw [up_c, hz]⟩))
  · rw [show w = nI (k + 1) from hw rfl, hy rfl, show (zdo z 119 (nI (k + 1)) v).2 = upd z (51 + k) v from by show upd z (51 + ((nI (k + 1)).toInt.toNat - 1)) v = _; rw [nI_tn (by omega)]; rfl]
    refine am_crn (by decide) (Nat.le_of_ble_eq_true rfl) (fun Φ hΦ => ?_)
    show AP M_X10_does _ 0 [.ref 123, .int (nI 119), .int (nI (k + 1)), .int v] [] _ g Φ
    refine s_X10_does_0 ?_
    refine s_X10_does_1 ?_
    refine s_X10_does_3 (fun h => absurd h (by decide)) (fun _ => ?_)
    refine s_X10_does_6 ?_
    refine s_X10_does_7 ?_
    refine s_X10_does_9 (fun _ => ?_) (fun h => absurd h (by decide))
    refine s_X10_does_18 ?_
    refine s_X10_does_19 ?_
    refine s_X10_does_21 (fun _ => ?_) (fun h => absurd h (by decide))
    refine s_X10_does_37 ?_
    refine s_X10_does_38 ?_
    refine s_X10_does_40 (fun _ => ?_) (fun h => absurd h (by decide))
    refine s_X10_does_48 ?_
    refine s_X10_does_49 ?_
    refine s_X10_does_51 (fun h => absurd h (by decide)) (fun _ => ?_)
    refine s_X10_does_54 ?_
    refine s_X10_does_55 ?_
    refine s_X10_does_57 (fun _ => ?_) (fun h => absurd h (by decide))
    refine s_X10_does_79 ?_
    refine s_X10_does_80 ?_
    refine s_X10_does_82 (fun h => absurd (by decide) h) (fun _ => ?_)
    refine s_X10_does_85 ?_
    refine s_X10_does_86 hI rfl (by decide) rfl (by decide) ?_
    refine s_X10_does_89 ?_
    refine s_X10_does_91 ?_
    refine s_X10_does_92 ?_
    refine s_X10_does_93 ?_
    refine s_X10_does_94 ?_
    refine s_X10_does_95 ?_
    rw [show 51 + nI (k + 1) = nI (51 + k + 1) from nI_add 51 _, nI_i1]
    refine s_X10_does_96 hI rfl (by decide) (by decide) (rfl) (by omega) ?_
    refine s_X10_does_97 ?_
    refine s_X10_does_98 ?_
    refine s_X10_does_100 (fun _ => ?_) (fun h => absurd h (by decide))
    refine s_X10_does_113 ?_
    refine s_X10_does_114 ?_
    refine s_X10_does_116 (fun _ => ?_) (fun h => absurd h (by decide))
    exact s_X10_does_127 (hΦ _ (⟨fr.rfl.up (by decide), by rw [up_c, hz]⟩))
  · have hc : (nI t).toInt.toNat < zt z := of_decide_eq_true hp
    rw [show w = nI t from hw rfl, hy rfl, show (zdo z 116 (nI t) v).2 = upd z (75 + t) v from by show (if (nI t).toInt.toNat < zt z then upd z (75 + (nI t).toInt.toNat) v else z) = _; rw [if_pos hc, nI_tn (by omega)]]
    refine am_crn (by decide) (Nat.le_of_ble_eq_true rfl) (fun Φ hΦ => ?_)
    show AP M_X10_does _ 0 [.ref 123, .int (nI 116), .int (nI t), .int v] [] _ g Φ
    refine s_X10_does_0 ?_
    refine s_X10_does_1 ?_
    refine s_X10_does_3 (fun h => absurd h (by decide)) (fun _ => ?_)
    refine s_X10_does_6 ?_
    refine s_X10_does_7 ?_
    refine s_X10_does_9 (fun _ => ?_) (fun h => absurd h (by decide))
    refine s_X10_does_18 ?_
    refine s_X10_does_19 ?_
    refine s_X10_does_21 (fun _ => ?_) (fun h => absurd h (by decide))
    refine s_X10_does_37 ?_
    refine s_X10_does_38 ?_
    refine s_X10_does_40 (fun _ => ?_) (fun h => absurd h (by decide))
    refine s_X10_does_48 ?_
    refine s_X10_does_49 ?_
    refine s_X10_does_51 (fun h => absurd h (by decide)) (fun _ => ?_)
    refine s_X10_does_54 ?_
    refine s_X10_does_55 ?_
    refine s_X10_does_57 (fun _ => ?_) (fun h => absurd h (by decide))
    refine s_X10_does_79 ?_
    refine s_X10_does_80 ?_
    refine s_X10_does_82 (fun _ => ?_) (fun h => absurd h (by decide))
    refine s_X10_does_97 ?_
    refine s_X10_does_98 ?_
    refine s_X10_does_100 (fun h => absurd (by decide) h) (fun _ => ?_)
    refine s_X10_does_103 ?_
    refine s_X10_does_104 hI rfl (by decide) rfl (by decide) ?_
    refine s_X10_does_107 ?_
    refine s_X10_does_109 ?_
    refine s_X10_does_110 ?_
    refine s_X10_does_111 ?_
    rw [show 75 + nI t = nI (75 + t) from nI_add 75 _]
    refine s_X10_does_112 hI rfl (by decide) (by decide) (rfl) (by omega) ?_
    refine s_X10_does_113 ?_
    refine s_X10_does_114 ?_
    refine s_X10_does_116 (fun _ => ?_) (fun h => absurd h (by decide))
    exact s_X10_does_127 (hΦ _ (⟨fr.rfl.up (by decide), by rw [up_c, hz]⟩))
  · have hc : 0 < zc z := of_decide_eq_true hp
    rw [show (zdo z 115 x v).2 = zsend z from if_pos hc]
    refine am_crn (by decide) (Nat.le_of_ble_eq_true rfl) (fun Φ hΦ => ?_)
    show AP M_X10_does _ 0 [.ref 123, .int (nI 115), .int w, .int y] [] _ g Φ
    refine s_X10_does_0 ?_
    refine s_X10_does_1 ?_
    refine s_X10_does_3 (fun h => absurd h (by decide)) (fun _ => ?_)
    refine s_X10_does_6 ?_
    refine s_X10_does_7 ?_
    refine s_X10_does_9 (fun _ => ?_) (fun h => absurd h (by decide))
    refine s_X10_does_18 ?_
    refine s_X10_does_19 ?_
    refine s_X10_does_21 (fun _ => ?_) (fun h => absurd h (by decide))
    refine s_X10_does_37 ?_
    refine s_X10_does_38 ?_
    refine s_X10_does_40 (fun h => absurd (by decide) h) (fun _ => ?_)
    refine s_X10_does_43 ?_
    refine s_X10_does_44 hI rfl (by decide) (Nat.le_of_ble_eq_true rfl) (m_sends hI hz ok) ?_
    intro h5 ⟨f5, e5⟩
    refine s_X10_does_47 rfl ?_
    refine s_X10_does_48 ?_
    refine s_X10_does_49 ?_
    refine s_X10_does_51 (fun h => absurd h (by decide)) (fun _ => ?_)
    refine s_X10_does_54 ?_
    refine s_X10_does_55 ?_
    refine s_X10_does_57 (fun _ => ?_) (fun h => absurd h (by decide))
    refine s_X10_does_79 ?_
    refine s_X10_does_80 ?_
    refine s_X10_does_82 (fun _ => ?_) (fun h => absurd h (by decide))
    refine s_X10_does_97 ?_
    refine s_X10_does_98 ?_
    refine s_X10_does_100 (fun _ => ?_) (fun h => absurd h (by decide))
    refine s_X10_does_113 ?_
    refine s_X10_does_114 ?_
    refine s_X10_does_116 (fun _ => ?_) (fun h => absurd h (by decide))
    exact s_X10_does_127 (hΦ _ (⟨f5, e5⟩))
  · refine am_crn (by decide) (Nat.le_of_ble_eq_true rfl) (fun Φ hΦ => ?_)
    show AP M_X10_does _ 0 [.ref 123, .int (nI 120), .int w, .int y] [] _ g Φ
    refine s_X10_does_0 ?_
    refine s_X10_does_1 ?_
    refine s_X10_does_3 (fun h => absurd h (by decide)) (fun _ => ?_)
    refine s_X10_does_6 ?_
    refine s_X10_does_7 ?_
    refine s_X10_does_9 (fun _ => ?_) (fun h => absurd h (by decide))
    refine s_X10_does_18 ?_
    refine s_X10_does_19 ?_
    refine s_X10_does_21 (fun _ => ?_) (fun h => absurd h (by decide))
    refine s_X10_does_37 ?_
    refine s_X10_does_38 ?_
    refine s_X10_does_40 (fun _ => ?_) (fun h => absurd h (by decide))
    refine s_X10_does_48 ?_
    refine s_X10_does_49 ?_
    refine s_X10_does_51 (fun h => absurd h (by decide)) (fun _ => ?_)
    refine s_X10_does_54 ?_
    refine s_X10_does_55 ?_
    refine s_X10_does_57 (fun _ => ?_) (fun h => absurd h (by decide))
    refine s_X10_does_79 ?_
    refine s_X10_does_80 ?_
    refine s_X10_does_82 (fun _ => ?_) (fun h => absurd h (by decide))
    refine s_X10_does_97 ?_
    refine s_X10_does_98 ?_
    refine s_X10_does_100 (fun _ => ?_) (fun h => absurd h (by decide))
    refine s_X10_does_113 ?_
    refine s_X10_does_114 ?_
    refine s_X10_does_116 (fun h => absurd (by decide) h) (fun _ => ?_)
    refine s_X10_does_119 ?_
    refine s_X10_does_120 hI rfl (by decide) rfl (by decide) ?_
    refine s_X10_does_123 ?_
    refine s_X10_does_125 ?_
    refine s_X10_does_126 hI rfl (by decide) (by decide) (by decide : (_ : Int32) = nI 48) (by decide) ?_
    exact s_X10_does_127 (hΦ _ (⟨fr.rfl.up (by decide), by rw [up_c, hz]; rfl⟩))
