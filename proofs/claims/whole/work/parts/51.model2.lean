/-! ===== the model: kinds, whys, sums, the letter ===== -/
theorem m_isAllowed {hi : am_HI} {g : am_G} (hI : am_Inv g) {z : Nat → Int32} (hz : hi 124 = z) (k : Nat) : am_Cr M_X10_isAllowed [.ref 123, .int (nI k)] hi g (some (.int (bI (zal z k)))) (fun h => h = hi) := by
  refine am_crn (by decide) (Nat.le_of_ble_eq_true rfl) (fun Φ hΦ => ?_)
  show AP M_X10_isAllowed _ 0 [.ref 123, .int (nI k)] [] _ g Φ
  refine s_X10_isAllowed_0 ?_
  refine s_X10_isAllowed_1 hI rfl (by decide) rfl (by decide) ?_
  refine s_X10_isAllowed_4 ?_
  refine s_X10_isAllowed_6 hI rfl (by decide) (by decide) (by decide : (_ : Int32) = nI 55) (by decide) ?_
  refine s_X10_isAllowed_7 ?_
  refine s_X10_isAllowed_8 ?_
  refine s_X10_isAllowed_9 ?_
  refine s_X10_isAllowed_10 ?_
  refine s_X10_isAllowed_11 ?_
  rw [hz]
  refine s_X10_isAllowed_12 (fun hh => ?_) (fun hh => ?_)
  · refine s_X10_isAllowed_19 ?_
    refine s_X10_isAllowed_20 (by first | exact Or.inl rfl | exact Or.inr rfl | exact bI_01 _) ?_
    rw [show zal z k = false from decide_eq_false hh] at hΦ
    exact hΦ _ rfl
  · refine s_X10_isAllowed_15 ?_
    refine s_X10_isAllowed_16 ?_
    refine s_X10_isAllowed_20 (by first | exact Or.inl rfl | exact Or.inr rfl | exact bI_01 _) ?_
    rw [show zal z k = true from decide_eq_true hh] at hΦ
    exact hΦ _ rfl
def mkb (al : Nat → Bool) (f : Nat → Int32) : Nat → Int32 × Int32
  | 0 => (-1, 0)
  | n + 1 => if al n = true ∧ ((mkb al f n).1 = -1 ∨ f n < (mkb al f n).2) then (nI n, f n) else mkb al f n
theorem mkb_kbl {al : Nat → Bool} {f : Nat → Int32} : ∀ n : Nat, n ≤ 1000 → (∀ i, i < n → f i < 1000000) → (mkb al f n = (-1, 0) ∧ kbl al f n = (0, 1000000) ∧ ∀ i, i < n → al i = false) ∨ (mkb al f n = (nI (kbl al f n).1, (kbl al f n).2) ∧ (kbl al f n).1 < n ∧ al (kbl al f n).1 = true ∧ (kbl al f n).2 = f (kbl al f n).1 ∧ ∀ i, i < n → al i = true → f (kbl al f n).1 ≤ f i) := by
  intro n
  induction n with
  | zero => intro _ _; exact Or.inl ⟨rfl, rfl, fun i hi => absurd hi (Nat.not_lt_zero _)⟩
  | succ n ih =>
    intro hn hf
    have hfn := hf n (by omega)
    rcases ih (by omega) (fun i hi => hf i (by omega)) with ⟨h1, h2, h3⟩ | ⟨h1, h2, h3, h4, h5⟩
    · cases ha : al n with
      | false =>
        left
        rw [mkb, kbl, if_neg (by rw [ha]; exact fun z => by cases z.1), if_neg (by rw [ha]; exact fun z => by cases z.1)]
        refine ⟨h1, h2, fun i hi => ?_⟩
        by_cases he : i = n
        · rw [he]; exact ha
        · exact h3 i (by omega)
      | true =>
        right
        have e1 : mkb al f (n + 1) = (nI n, f n) := by rw [mkb, if_pos ⟨ha, Or.inl (by rw [h1])⟩]
        have e2 : kbl al f (n + 1) = (n, f n) := by rw [kbl, if_pos ⟨ha, by rw [h2]; exact hfn⟩]
        rw [e1, e2]
        refine ⟨rfl, Nat.lt_succ_self n, ha, rfl, fun i hi hai => ?_⟩
        by_cases he : i = n
        · rw [he]; exact Int32.le_refl _
        · rw [h3 i (by omega)] at hai; cases hai
    · right
      have hm1 : ¬ (mkb al f n).1 = -1 := by rw [h1]; exact ne_m1 (by omega)
      by_cases hc : al n = true ∧ f n < f (kbl al f n).1
      · have e1 : mkb al f (n + 1) = (nI n, f n) := by rw [mkb, if_pos ⟨hc.1, Or.inr (by rw [h1, h4]; exact hc.2)⟩]
        have e2 : kbl al f (n + 1) = (n, f n) := by rw [kbl, if_pos ⟨hc.1, by rw [h4]; exact hc.2⟩]
        rw [e1, e2]
        refine ⟨rfl, Nat.lt_succ_self n, hc.1, rfl, fun i hi hai => ?_⟩
        by_cases he : i = n
        · rw [he]; exact Int32.le_refl _
        · exact Int32.le_trans (Int32.le_of_lt hc.2) (h5 i (by omega) hai)
      · have e1 : mkb al f (n + 1) = mkb al f n := by
          rw [mkb, if_neg]
          rintro ⟨a, b | b⟩
          · exact hm1 b
          · rw [h1, h4] at b; exact hc ⟨a, b⟩
        have e2 : kbl al f (n + 1) = kbl al f n := by rw [kbl, if_neg (by rw [h4]; exact hc)]
        rw [e1, e2]
        refine ⟨h1, by omega, h3, h4, fun i hi hai => ?_⟩
        by_cases he : i = n
        · subst he
          exact Int32.not_lt.mp (fun e => hc ⟨hai, e⟩)
        · exact h5 i (by omega) hai
theorem al_any : ∀ a : Fin 32, 1 ≤ a.val → ((List.range 5).any (fun k => alI (nI a.val) (nI k))) = true := by decide +kernel
theorem zal_any {z : Nat → Int32} (ok : OKz z) : ∃ k, k < 5 ∧ zal z k = true := by
  obtain ⟨a, h1, h2, h3⟩ := ok.1.2.2.2.2.2.2
  have := al_any ⟨a, by omega⟩ h2
  rw [List.any_eq_true] at this
  obtain ⟨k, hk, hk2⟩ := this
  refine ⟨k, List.mem_range.mp hk, ?_⟩
  unfold zal
  rw [h1]
  exact hk2
theorem zkf_ok {z : Nat → Int32} (ok : OKz z) (b : Nat) : mkb (zal z) (fun kd => zfb z kd b) 5 = (nI (zkf z b), zfb z (zkf z b) b) ∧ zal z (zkf z b) = true ∧ ∀ i, i < 5 → zal z i = true → zfb z (zkf z b) b ≤ zfb z i b := by
  rcases mkb_kbl (al := zal z) (f := fun kd => zfb z kd b) 5 (by decide) (fun i _ => lt_mil (by have := (zfb_rng ok (kd := i) (b := b)).2; omega)) with ⟨-, -, h3⟩ | ⟨h1, h2, h3, h4, h5⟩
  · obtain ⟨k, hk, hk2⟩ := zal_any ok
    rw [h3 k hk] at hk2
    cases hk2
  · rw [h4] at h1
    exact ⟨h1, h3, h5⟩
theorem m_kindFor {hi : am_HI} {g : am_G} (hI : am_Inv g) {z : Nat → Int32} (hz : hi 124 = z) (ok : OKz z) {b : Nat} (hb : b < 6) : am_Cr M_X10_kindFor [.ref 123, .int (nI b)] hi g (some (.int (nI (zkf z b)))) (fun h => fr [128, 129] hi h) := by
  have hok := (zkf_ok ok b).1
  refine am_crn (by decide) (Nat.le_of_ble_eq_true rfl) (fun Φ hΦ => ?_)
  show AP M_X10_kindFor _ 0 [.ref 123, .int (nI b), jk, jk, jk, jk, jk] [] _ g Φ
  refine s_X10_kindFor_0 ?_
  refine s_X10_kindFor_1 rfl ?_
  refine s_X10_kindFor_2 ?_
  refine s_X10_kindFor_3 rfl ?_
  refine s_X10_kindFor_4 ?_
  refine s_X10_kindFor_5 rfl ?_
  have key := am_for0 (n := 5) (hi := hi) (fun _ h => fr [128, 129] hi h) (fun i h => ∀ e5 e6 : Value, AP M_X10_kindFor (0, 0) 7 [.ref 123, .int (nI b), .int (mkb (zal z) (fun kd => zfb z kd b) i).1, .int (mkb (zal z) (fun kd => zfb z kd b) i).2, .int (nI i), e5, e6] [] h g Φ) fr.rfl ?_ ?_
  · exact key _ _
  · intro h h1 e5 e6
    rw [hok]
    refine s_X10_kindFor_7 ?_
    refine s_X10_kindFor_9 ?_
    refine s_X10_kindFor_10 (fun _ => ?_) (fun h => absurd ((nI_le (a := 5) (b := 5) (by decide) (by decide))) h)
    refine s_X10_kindFor_79 ?_
    exact s_X10_kindFor_80 (hΦ _ (h1))
  · intro i h hi5 h1 ih e5 e6
    have ez : h 124 = z := (h1 124 (by decide)).trans hz
    have st : ∀ (v : Bool) (h' : am_HI) (e : Value), fr [128, 129] hi h' → (v = true ↔ (zal z i = true ∧ ((mkb (zal z) (fun kd => zfb z kd b) i).1 = -1 ∨ zfb z i b < (mkb (zal z) (fun kd => zfb z kd b) i).2))) → AP M_X10_kindFor (0, 0) 47 [.ref 123, .int (nI b), .int (mkb (zal z) (fun kd => zfb z kd b) i).1, .int (mkb (zal z) (fun kd => zfb z kd b) i).2, .int (nI i), .int (zfb z i b), e] [.int (bI v)] h' g Φ := by
      intro v h' e f' hv
      have ih' := ih h' f'
      rw [mkb] at ih'
      cases v with
      | true =>
        rw [if_pos (hv.mp rfl)] at ih'
        refine s_X10_kindFor_47 rfl ?_
        refine s_X10_kindFor_49 ?_
        refine s_X10_kindFor_51 (fun h => absurd h (by decide)) (fun _ => ?_)
        refine s_X10_kindFor_54 ?_
        refine s_X10_kindFor_56 ?_
        refine s_X10_kindFor_60 rfl ?_
        refine s_X10_kindFor_61 ?_
        refine s_X10_kindFor_63 (fun h => absurd h (by decide)) (fun _ => ?_)
        refine s_X10_kindFor_66 ?_
        refine s_X10_kindFor_68 ?_
        refine s_X10_kindFor_72 rfl ?_
        refine s_X10_kindFor_73 rfl ?_
        refine s_X10_kindFor_76 ?_
        rw [nI_1]
        exact ih' _ _
      | false =>
        rw [if_neg (fun q => by cases hv.mpr q)] at ih'
        refine s_X10_kindFor_47 rfl ?_
        refine s_X10_kindFor_49 ?_
        refine s_X10_kindFor_51 (fun _ => ?_) (fun h => absurd (by decide) h)
        refine s_X10_kindFor_59 ?_
        refine s_X10_kindFor_60 rfl ?_
        refine s_X10_kindFor_61 ?_
        refine s_X10_kindFor_63 (fun _ => ?_) (fun h => absurd (by decide) h)
        refine s_X10_kindFor_71 ?_
        refine s_X10_kindFor_72 rfl ?_
        refine s_X10_kindFor_73 rfl ?_
        refine s_X10_kindFor_76 ?_
        rw [nI_1]
        exact ih' _ _
    refine s_X10_kindFor_7 ?_
    refine s_X10_kindFor_9 ?_
    refine s_X10_kindFor_10 (fun h => absurd h ((nI_ge (a := i) (b := 5) hi5 (by decide)))) (fun _ => ?_)
    refine s_X10_kindFor_13 ?_
    refine s_X10_kindFor_14 ?_
    refine s_X10_kindFor_15 ?_
    refine s_X10_kindFor_17 hI rfl (by decide) (Nat.le_of_ble_eq_true rfl) (m_fewest hI (kd := i) ez ok (by omega) hb) ?_
    intro h5 ⟨g1, g2⟩
    refine s_X10_kindFor_20 rfl ?_
    refine s_X10_kindFor_22 ?_
    refine s_X10_kindFor_23 ?_
    have ez5 : h5 124 = z := (g1 124 (by decide)).trans ez
    refine s_X10_kindFor_25 hI rfl (by decide) (Nat.le_of_ble_eq_true rfl) (m_isAllowed hI ez5 i) ?_
    intro h9 e9; rw [e9]; clear e9 h9
    refine s_X10_kindFor_28 (fun ha => ?_) (fun ha => ?_)
    · refine s_X10_kindFor_46 ?_
      rw [bI_e0] at ha
      exact st false _ _ (h1.tr g1) ⟨fun q => (by cases q), fun q => by rw [ha] at q; cases q.1⟩
    · refine s_X10_kindFor_31 ?_
      refine s_X10_kindFor_32 ?_
      rw [bI_n0] at ha
      refine s_X10_kindFor_33 (fun hb1 => ?_) (fun hb1 => ?_)
      · refine s_X10_kindFor_42 ?_
        refine s_X10_kindFor_43 ?_
        exact st true _ _ (h1.tr g1) ⟨fun _ => ⟨ha, Or.inl hb1⟩, fun _ => rfl⟩
      · refine s_X10_kindFor_36 ?_
        refine s_X10_kindFor_38 ?_
        refine s_X10_kindFor_39 (fun hc => ?_) (fun hc => ?_)
        · refine s_X10_kindFor_46 ?_
          exact st false _ _ (h1.tr g1) ⟨fun q => (by cases q), fun q => absurd q.2 (by rintro (q | q); exact hb1 q; exact Int32.not_lt.mpr hc q)⟩
        · refine s_X10_kindFor_42 ?_
          refine s_X10_kindFor_43 ?_
          exact st true _ _ (h1.tr g1) ⟨fun _ => ⟨ha, Or.inr (Int32.not_le.mp hc)⟩, fun _ => rfl⟩
def lik (al : Nat → Bool) (f : Nat → Int32) (best : Nat) : Nat → Bool
  | 0 => false
  | n + 1 => if n ≠ best ∧ al n = true then lik al f best n || decide (f n = f best) else lik al f best n
theorem lik_ahr {al : Nat → Bool} {f : Nat → Int32} {best : Nat} : ∀ n : Nat, (∀ i, i < n → al i = true → f best ≤ f i) → lik al f best n = !ahr al f best n := by
  intro n
  induction n with
  | zero => intro _; rfl
  | succ n ih =>
    intro h
    rw [lik, ahr, ih (fun i hi => h i (by omega))]
    by_cases hc : n ≠ best ∧ al n = true
    · rw [if_pos hc, if_pos hc, Bool.not_and]
      congr 1
      have hle := h n (by omega) hc.2
      by_cases he : f n = f best
      · rw [decide_eq_true he, decide_eq_false (by rw [he]; exact Int32.lt_irrefl)]; rfl
      · rw [decide_eq_false he, decide_eq_true (by
          rw [am_lt]
          rw [am_le] at hle
          rw [am_eq] at he
          omega)]
        rfl
    · rw [if_neg hc, if_neg hc]
theorem m_whyFor {hi : am_HI} {g : am_G} (hI : am_Inv g) {z : Nat → Int32} (hz : hi 124 = z) (ok : OKz z) {b : Nat} (hb : b < 6) : am_Cr M_X10_whyFor [.ref 123, .int (nI b)] hi g (some (.int (zwhy z b))) (fun h => fr [128, 129] hi h) := by
  have hmin := (zkf_ok ok b).2.2
  have hk5 := zkf_lt z b
  have hla := lik_ahr (al := zal z) (f := fun kd => zfb z kd b) (best := zkf z b) 5 hmin
  refine am_crn (by decide) (Nat.le_of_ble_eq_true rfl) (fun Φ hΦ => ?_)
  show AP M_X10_whyFor _ 0 [.ref 123, .int (nI b), jk, jk, jk, jk, jk] [] _ g Φ
  refine s_X10_whyFor_0 ?_
  refine s_X10_whyFor_1 ?_
  refine s_X10_whyFor_2 hI rfl (by decide) (Nat.le_of_ble_eq_true rfl) (m_kindFor hI hz ok hb) ?_
  intro h5 g1
  refine s_X10_whyFor_5 rfl ?_
  refine s_X10_whyFor_6 ?_
  refine s_X10_whyFor_7 ?_
  refine s_X10_whyFor_8 ?_
  have ez5 : h5 124 = z := (g1 124 (by decide)).trans hz
  refine s_X10_whyFor_9 hI rfl (by decide) (Nat.le_of_ble_eq_true rfl) (m_fewest hI (kd := zkf z b) ez5 ok (by omega) hb) ?_
  intro h6 ⟨g2, g3⟩
  refine s_X10_whyFor_12 rfl ?_
  refine s_X10_whyFor_13 ?_
  refine s_X10_whyFor_14 rfl ?_
  refine s_X10_whyFor_16 ?_
  refine s_X10_whyFor_17 rfl ?_
  refine s_X10_whyFor_19 ?_
  refine s_X10_whyFor_20 rfl ?_
  have key := am_for0 (n := 5) (hi := h6) (fun _ h => fr [128, 129] hi h) (fun i h => AP M_X10_whyFor (0, 0) 22 [.ref 123, .int (nI b), .int (nI (zkf z b)), .int (zfb z (zkf z b) b), .int (bI (alr (zal z) (zkf z b) i)), .int (bI (lik (zal z) (fun kd => zfb z kd b) (zkf z b) i)), .int (nI i)] [] h g Φ) (g1.tr g2) ?_ ?_
  · exact key
  · intro h h1
    unfold zwhy at hΦ
    rw [hla]
    refine s_X10_whyFor_22 ?_
    refine s_X10_whyFor_24 ?_
    refine s_X10_whyFor_25 (fun _ => ?_) (fun h => absurd ((nI_le (a := 5) (b := 5) (by decide) (by decide))) h)
    refine s_X10_whyFor_75 ?_
    refine s_X10_whyFor_77 (fun ha => ?_) (fun ha => ?_)
    · refine s_X10_whyFor_84 ?_
      rw [if_neg (by rw [bI_e0.mp ha]; decide)] at hΦ
      refine s_X10_whyFor_86 (fun hb1 => ?_) (fun hb1 => ?_)
      · refine s_X10_whyFor_93 ?_
        rw [bI_e0, Bool.not_eq_false'] at hb1
        rw [if_pos hb1] at hΦ
        exact s_X10_whyFor_94 (hΦ _ (h1))
      · refine s_X10_whyFor_89 ?_
        refine s_X10_whyFor_90 ?_
        rw [bI_n0, Bool.not_eq_true'] at hb1
        rw [if_neg (by rw [hb1]; decide)] at hΦ
        exact s_X10_whyFor_94 (hΦ _ (h1))
    · refine s_X10_whyFor_80 ?_
      refine s_X10_whyFor_81 ?_
      rw [if_pos (bI_n0.mp ha)] at hΦ
      exact s_X10_whyFor_94 (hΦ _ (h1))
  · intro i h hi5 h1 ih
    have ez : h 124 = z := (h1 124 (by decide)).trans hz
    refine s_X10_whyFor_22 ?_
    refine s_X10_whyFor_24 ?_
    refine s_X10_whyFor_25 (fun h => absurd h ((nI_ge (a := i) (b := 5) hi5 (by decide)))) (fun _ => ?_)
    refine s_X10_whyFor_28 ?_
    refine s_X10_whyFor_30 ?_
    refine s_X10_whyFor_31 (fun he => ?_) (fun he => ?_)
    · refine s_X10_whyFor_69 rfl ?_
      refine s_X10_whyFor_72 ?_
      have he' : i = zkf z b := (nI_eq (by omega) (by omega)).mp he
      have ih' := ih h h1
      rw [alr, lik, if_neg (fun q => q.1 he'), if_neg (fun q => q.1 he')] at ih'
      rw [nI_1]
      exact ih'
    · refine s_X10_whyFor_34 ?_
      refine s_X10_whyFor_35 ?_
      have he' : ¬ i = zkf z b := fun e => he (by rw [e])
      refine s_X10_whyFor_37 hI rfl (by decide) (Nat.le_of_ble_eq_true rfl) (m_isAllowed hI ez i) ?_
      intro h9 e9; rw [e9]; clear e9 h9
      refine s_X10_whyFor_40 (fun ha => ?_) (fun ha => ?_)
      · refine s_X10_whyFor_69 rfl ?_
        refine s_X10_whyFor_72 ?_
        have ih' := ih h h1
        rw [alr, lik, if_neg (fun q => by rw [bI_e0.mp ha] at q; cases q.2), if_neg (fun q => by rw [bI_e0.mp ha] at q; cases q.2)] at ih'
        rw [nI_1]
        exact ih'
      · refine s_X10_whyFor_43 ?_
        refine s_X10_whyFor_44 rfl ?_
        refine s_X10_whyFor_46 ?_
        rw [bI_n0] at ha
        refine s_X10_whyFor_48 (fun hl => ?_) (fun hl => ?_)
        · refine s_X10_whyFor_62 ?_
          refine s_X10_whyFor_63 ?_
          refine s_X10_whyFor_67 rfl ?_
          refine s_X10_whyFor_69 rfl ?_
          refine s_X10_whyFor_72 ?_
          rw [bI_n0] at hl
          have ih' := ih h h1
          rw [alr, lik, if_pos ⟨he', ha⟩, if_pos ⟨he', ha⟩, hl, Bool.true_or] at ih'
          rw [nI_1]
          exact ih'
        · refine s_X10_whyFor_51 ?_
          refine s_X10_whyFor_52 ?_
          refine s_X10_whyFor_53 ?_
          refine s_X10_whyFor_55 hI rfl (by decide) (Nat.le_of_ble_eq_true rfl) (m_fewest hI (kd := i) ez ok (by omega) hb) ?_
          intro h7 ⟨g4, g5⟩
          refine s_X10_whyFor_58 ?_
          have hl' : lik (zal z) (fun kd => zfb z kd b) (zkf z b) i = false := bI_e0.mp hl
          have ih' := ih h7 (h1.tr g4)
          rw [alr, lik, if_pos ⟨he', ha⟩, if_pos ⟨he', ha⟩, hl', Bool.false_or] at ih'
          refine s_X10_whyFor_59 (fun hq => ?_) (fun hq => ?_)
          · refine s_X10_whyFor_66 ?_
            refine s_X10_whyFor_67 rfl ?_
            refine s_X10_whyFor_69 rfl ?_
            refine s_X10_whyFor_72 ?_
            rw [decide_eq_false hq] at ih'
            rw [nI_1]
            exact ih'
          · refine s_X10_whyFor_62 ?_
            refine s_X10_whyFor_63 ?_
            refine s_X10_whyFor_67 rfl ?_
            refine s_X10_whyFor_69 rfl ?_
            refine s_X10_whyFor_72 ?_
            rw [decide_eq_true hq] at ih'
            rw [nI_1]
            exact ih'
theorem zn_b {z : Nat → Int32} (ok : OKz z) {b : Nat} (h : b < zn z) : b < 6 := by
  have := zn_lt ok
  omega
theorem znI {z : Nat → Int32} (ok : OKz z) : (z 48 + 7) / 8 = nI (zn z) := by
  rw [ok.1.1, blk_nI7 (by have := ok.1.2.1; omega)]
  rfl
theorem m_allBits {hi : am_HI} {g : am_G} (hI : am_Inv g) {z : Nat → Int32} (hz : hi 124 = z) (ok : OKz z) : am_Cr M_X10_allBits [.ref 123] hi g (some (.int (sAll z (zn z)))) (fun h => fr [128, 129] hi h) := by
  have h6 := zn_lt ok
  refine am_crn (by decide) (Nat.le_of_ble_eq_true rfl) (fun Φ hΦ => ?_)
  show AP M_X10_allBits _ 0 [.ref 123, jk, jk] [] _ g Φ
  refine s_X10_allBits_0 ?_
  refine s_X10_allBits_1 rfl ?_
  refine s_X10_allBits_2 ?_
  refine s_X10_allBits_3 rfl ?_
  have key := am_for0 (n := zn z) (hi := hi) (fun _ h => fr [128, 129] hi h) (fun i h => AP M_X10_allBits (0, 0) 4 [.ref 123, .int (sAll z i), .int (nI i)] [] h g Φ) fr.rfl ?_ ?_
  · exact key
  · intro h h1
    refine s_X10_allBits_4 ?_
    refine s_X10_allBits_5 ?_
    refine s_X10_allBits_6 hI rfl (by decide) rfl (by decide) ?_
    refine s_X10_allBits_9 ?_
    refine s_X10_allBits_11 hI rfl (by decide) (by decide) (by decide : (_ : Int32) = nI 48) (by decide) ?_
    refine s_X10_allBits_12 hI (Nat.le_of_ble_eq_true rfl) (m_blocksOf _) ?_
    intro h9 e9; rw [e9]; clear e9 h9
    rw [h1 124 (by decide), hz, znI ok]
    refine s_X10_allBits_15 (fun _ => ?_) (fun h => absurd ((nI_le (Nat.le_refl _) (by omega))) h)
    refine s_X10_allBits_37 ?_
    exact s_X10_allBits_38 (hΦ _ (h1))
  · intro i h hin h1 ih
    have ez : h 124 = z := (h1 124 (by decide)).trans hz
    refine s_X10_allBits_4 ?_
    refine s_X10_allBits_5 ?_
    refine s_X10_allBits_6 hI rfl (by decide) rfl (by decide) ?_
    refine s_X10_allBits_9 ?_
    refine s_X10_allBits_11 hI rfl (by decide) (by decide) (by decide : (_ : Int32) = nI 48) (by decide) ?_
    refine s_X10_allBits_12 hI (Nat.le_of_ble_eq_true rfl) (m_blocksOf _) ?_
    intro h9 e9; rw [e9]; clear e9 h9
    rw [ez, znI ok]
    refine s_X10_allBits_15 (fun h => absurd h ((nI_ge hin (by omega)))) (fun _ => ?_)
    refine s_X10_allBits_18 ?_
    refine s_X10_allBits_19 ?_
    refine s_X10_allBits_20 ?_
    refine s_X10_allBits_21 ?_
    refine s_X10_allBits_22 ?_
    refine s_X10_allBits_23 hI rfl (by decide) (Nat.le_of_ble_eq_true rfl) (m_kindFor hI ez ok (b := i) (by omega)) ?_
    intro h5 g1
    refine s_X10_allBits_26 hI rfl (by decide) (Nat.le_of_ble_eq_true rfl) (m_fewest hI (kd := zkf z i) (b := i) ((g1 124 (by decide)).trans ez) ok (by have := zkf_lt z i; omega) (by omega)) ?_
    intro h6 ⟨g2, g3⟩
    refine s_X10_allBits_29 ?_
    refine s_X10_allBits_30 rfl ?_
    refine s_X10_allBits_31 rfl ?_
    refine s_X10_allBits_34 ?_
    rw [nI_1]
    exact ih _ ((h1.tr g1).tr g2)
theorem m_bitsOnly {hi : am_HI} {g : am_G} (hI : am_Inv g) {z : Nat → Int32} (hz : hi 124 = z) (ok : OKz z) {kd : Nat} (hk : kd ≤ 4) : am_Cr M_X10_bitsOnly [.ref 123, .int (nI kd)] hi g (some (.int (sOnly z kd (zn z)))) (fun h => fr [128, 129] hi h) := by
  have h6 := zn_lt ok
  refine am_crn (by decide) (Nat.le_of_ble_eq_true rfl) (fun Φ hΦ => ?_)
  show AP M_X10_bitsOnly _ 0 [.ref 123, .int (nI kd), jk, jk] [] _ g Φ
  refine s_X10_bitsOnly_0 ?_
  refine s_X10_bitsOnly_1 rfl ?_
  refine s_X10_bitsOnly_2 ?_
  refine s_X10_bitsOnly_3 rfl ?_
  have key := am_for0 (n := zn z) (hi := hi) (fun _ h => fr [128, 129] hi h) (fun i h => AP M_X10_bitsOnly (0, 0) 4 [.ref 123, .int (nI kd), .int (sOnly z kd i), .int (nI i)] [] h g Φ) fr.rfl ?_ ?_
  · exact key
  · intro h h1
    refine s_X10_bitsOnly_4 ?_
    refine s_X10_bitsOnly_5 ?_
    refine s_X10_bitsOnly_6 hI rfl (by decide) rfl (by decide) ?_
    refine s_X10_bitsOnly_9 ?_
    refine s_X10_bitsOnly_11 hI rfl (by decide) (by decide) (by decide : (_ : Int32) = nI 48) (by decide) ?_
    refine s_X10_bitsOnly_12 hI (Nat.le_of_ble_eq_true rfl) (m_blocksOf _) ?_
    intro h9 e9; rw [e9]; clear e9 h9
    rw [h1 124 (by decide), hz, znI ok]
    refine s_X10_bitsOnly_15 (fun _ => ?_) (fun h => absurd ((nI_le (Nat.le_refl _) (by omega))) h)
    refine s_X10_bitsOnly_33 ?_
    exact s_X10_bitsOnly_34 (hΦ _ (h1))
  · intro i h hin h1 ih
    have ez : h 124 = z := (h1 124 (by decide)).trans hz
    refine s_X10_bitsOnly_4 ?_
    refine s_X10_bitsOnly_5 ?_
    refine s_X10_bitsOnly_6 hI rfl (by decide) rfl (by decide) ?_
    refine s_X10_bitsOnly_9 ?_
    refine s_X10_bitsOnly_11 hI rfl (by decide) (by decide) (by decide : (_ : Int32) = nI 48) (by decide) ?_
    refine s_X10_bitsOnly_12 hI (Nat.le_of_ble_eq_true rfl) (m_blocksOf _) ?_
    intro h9 e9; rw [e9]; clear e9 h9
    rw [ez, znI ok]
    refine s_X10_bitsOnly_15 (fun h => absurd h ((nI_ge hin (by omega)))) (fun _ => ?_)
    refine s_X10_bitsOnly_18 ?_
    refine s_X10_bitsOnly_19 ?_
    refine s_X10_bitsOnly_20 ?_
    refine s_X10_bitsOnly_21 ?_
    refine s_X10_bitsOnly_22 hI rfl (by decide) (Nat.le_of_ble_eq_true rfl) (m_fewest hI (kd := kd) (b := i) ez ok hk (by omega)) ?_
    intro h6 ⟨g2, g3⟩
    refine s_X10_bitsOnly_25 ?_
    refine s_X10_bitsOnly_26 rfl ?_
    refine s_X10_bitsOnly_27 rfl ?_
    refine s_X10_bitsOnly_30 ?_
    rw [nI_1]
    exact ih _ (h1.tr g2)
theorem m_blocksBy {hi : am_HI} {g : am_G} (hI : am_Inv g) {z : Nat → Int32} (hz : hi 124 = z) (ok : OKz z) {kd : Nat} (hk : kd ≤ 4) : am_Cr M_X10_blocksBy [.ref 123, .int (nI kd)] hi g (some (.int (sMany z kd (zn z)))) (fun h => fr [128, 129] hi h) := by
  have h6 := zn_lt ok
  refine am_crn (by decide) (Nat.le_of_ble_eq_true rfl) (fun Φ hΦ => ?_)
  show AP M_X10_blocksBy _ 0 [.ref 123, .int (nI kd), jk, jk] [] _ g Φ
  refine s_X10_blocksBy_0 ?_
  refine s_X10_blocksBy_1 rfl ?_
  refine s_X10_blocksBy_2 ?_
  refine s_X10_blocksBy_3 rfl ?_
  have key := am_for0 (n := zn z) (hi := hi) (fun _ h => fr [128, 129] hi h) (fun i h => AP M_X10_blocksBy (0, 0) 4 [.ref 123, .int (nI kd), .int (sMany z kd i), .int (nI i)] [] h g Φ) fr.rfl ?_ ?_
  · exact key
  · intro h h1
    refine s_X10_blocksBy_4 ?_
    refine s_X10_blocksBy_5 ?_
    refine s_X10_blocksBy_6 hI rfl (by decide) rfl (by decide) ?_
    refine s_X10_blocksBy_9 ?_
    refine s_X10_blocksBy_11 hI rfl (by decide) (by decide) (by decide : (_ : Int32) = nI 48) (by decide) ?_
    refine s_X10_blocksBy_12 hI (Nat.le_of_ble_eq_true rfl) (m_blocksOf _) ?_
    intro h9 e9; rw [e9]; clear e9 h9
    rw [h1 124 (by decide), hz, znI ok]
    refine s_X10_blocksBy_15 (fun _ => ?_) (fun h => absurd ((nI_le (Nat.le_refl _) (by omega))) h)
    refine s_X10_blocksBy_41 ?_
    exact s_X10_blocksBy_42 (hΦ _ (h1))
  · intro i h hin h1 ih
    have ez : h 124 = z := (h1 124 (by decide)).trans hz
    refine s_X10_blocksBy_4 ?_
    refine s_X10_blocksBy_5 ?_
    refine s_X10_blocksBy_6 hI rfl (by decide) rfl (by decide) ?_
    refine s_X10_blocksBy_9 ?_
    refine s_X10_blocksBy_11 hI rfl (by decide) (by decide) (by decide : (_ : Int32) = nI 48) (by decide) ?_
    refine s_X10_blocksBy_12 hI (Nat.le_of_ble_eq_true rfl) (m_blocksOf _) ?_
    intro h9 e9; rw [e9]; clear e9 h9
    rw [ez, znI ok]
    refine s_X10_blocksBy_15 (fun h => absurd h ((nI_ge hin (by omega)))) (fun _ => ?_)
    refine s_X10_blocksBy_18 ?_
    refine s_X10_blocksBy_19 ?_
    refine s_X10_blocksBy_20 ?_
    refine s_X10_blocksBy_21 hI rfl (by decide) (Nat.le_of_ble_eq_true rfl) (m_kindFor hI ez ok (b := i) (by omega)) ?_
    intro h5 g1
    refine s_X10_blocksBy_24 ?_
    have ih' := ih _ (h1.tr g1)
    rw [sMany, isum] at ih'
    have hk5 := zkf_lt z i
    refine s_X10_blocksBy_25 (fun hq => ?_) (fun hq => ?_)
    · refine s_X10_blocksBy_32 ?_
      refine s_X10_blocksBy_33 ?_
      refine s_X10_blocksBy_34 rfl ?_
      refine s_X10_blocksBy_35 rfl ?_
      refine s_X10_blocksBy_38 ?_
      rw [if_neg (fun e => hq (by rw [e]))] at ih'
      rw [nI_1]
      exact ih'
    · refine s_X10_blocksBy_28 ?_
      refine s_X10_blocksBy_29 ?_
      refine s_X10_blocksBy_33 ?_
      refine s_X10_blocksBy_34 rfl ?_
      refine s_X10_blocksBy_35 rfl ?_
      refine s_X10_blocksBy_38 ?_
      rw [if_pos ((nI_eq (by omega) (by omega)).mp hq)] at ih'
      rw [nI_1]
      exact ih'
theorem m_letterLength {hi : am_HI} {g : am_G} (hI : am_Inv g) {z : Nat → Int32} (hz : hi 124 = z) (ok : OKz z) : am_Cr M_X10_letterLength [.ref 123] hi g (some (.int (nI (zbits z)))) (fun h => h = hi) := by
  have ht48 := ok.2.2.1
  refine am_crn (by decide) (Nat.le_of_ble_eq_true rfl) (fun Φ hΦ => ?_)
  show AP M_X10_letterLength _ 0 [.ref 123, jk, jk] [] _ g Φ
  refine s_X10_letterLength_0 ?_
  refine s_X10_letterLength_1 rfl ?_
  refine s_X10_letterLength_2 ?_
  refine s_X10_letterLength_3 rfl ?_
  have key := am_for0 (n := zt z) (hi := hi) (fun _ h => h = hi) (fun t h => AP M_X10_letterLength (0, 0) 4 [.ref 123, .int (nI ((t + 7) / 8 * 6 + lbs z t)), .int (nI t)] [] h g Φ) rfl ?_ ?_
  · exact key
  · intro h9 e9
    obtain rfl := e9.symm
    refine s_X10_letterLength_4 ?_
    refine s_X10_letterLength_5 ?_
    refine s_X10_letterLength_6 hI rfl (by decide) rfl (by decide) ?_
    refine s_X10_letterLength_9 ?_
    refine s_X10_letterLength_11 hI rfl (by decide) (by decide) (by decide : (_ : Int32) = nI 56) (by decide) ?_
    rw [hz, ok.2.1]
    refine s_X10_letterLength_12 (fun _ => ?_) (fun h => absurd ((nI_le (Nat.le_refl _) (by omega))) h)
    refine s_X10_letterLength_64 ?_
    exact s_X10_letterLength_65 (hΦ _ (rfl))
  · intro t h9 ht e9 ih
    obtain rfl := e9.symm
    have st : ∀ x : Nat, x = (if t % 8 = 0 then 6 else 0) → AP M_X10_letterLength (0, 0) 29 [.ref 123, .int (nI ((t + 7) / 8 * 6 + lbs z t)), .int (nI t)] [.int (nI x), .int (nI ((t + 7) / 8 * 6 + lbs z t))] hi g Φ := by
      intro x hx
      refine s_X10_letterLength_29 ?_
      refine s_X10_letterLength_30 rfl ?_
      refine s_X10_letterLength_31 ?_
      refine s_X10_letterLength_32 ?_
      refine s_X10_letterLength_33 hI rfl (by decide) rfl (by decide) ?_
      refine s_X10_letterLength_36 ?_
      refine s_X10_letterLength_38 ?_
      refine s_X10_letterLength_39 ?_
      rw [show 75 + nI t = nI (75 + t) from nI_add 75 t]
      refine s_X10_letterLength_40 hI rfl (by decide) (by decide) (rfl) (by omega) ?_
      refine s_X10_letterLength_41 ?_
      refine s_X10_letterLength_42 hI rfl (by decide) rfl (by decide) ?_
      refine s_X10_letterLength_45 ?_
      refine s_X10_letterLength_47 ?_
      refine s_X10_letterLength_48 ?_
      refine s_X10_letterLength_50 (by decide) ?_
      refine s_X10_letterLength_51 ?_
      rw [div8 (by omega), show 69 + nI (t / 8) = nI (69 + t / 8) from nI_add 69 _]
      refine s_X10_letterLength_52 hI rfl (by decide) (by decide) (rfl) (by omega) ?_
      refine s_X10_letterLength_53 hI (Nat.le_of_ble_eq_true rfl) (m_bitsOf hI _ _) ?_
      intro h9 e9; rw [e9]; clear e9 h9
      refine s_X10_letterLength_56 ?_
      refine s_X10_letterLength_57 rfl ?_
      refine s_X10_letterLength_58 rfl ?_
      refine s_X10_letterLength_61 ?_
      rw [hz, lbI ok (by omega), nI_add, nI_add, nI_1]
      have ih' := ih _ rfl
      rw [lbs] at ih'
      rw [show (t + 7) / 8 * 6 + lbs z t + x + lb1 z t = (t + 1 + 7) / 8 * 6 + (lbs z t + lb1 z t) by
        by_cases h8 : t % 8 = 0
        · rw [hx, if_pos h8]; omega
        · rw [hx, if_neg h8]; omega]
      exact ih'
    refine s_X10_letterLength_4 ?_
    refine s_X10_letterLength_5 ?_
    refine s_X10_letterLength_6 hI rfl (by decide) rfl (by decide) ?_
    refine s_X10_letterLength_9 ?_
    refine s_X10_letterLength_11 hI rfl (by decide) (by decide) (by decide : (_ : Int32) = nI 56) (by decide) ?_
    rw [hz, ok.2.1]
    refine s_X10_letterLength_12 (fun h => absurd h ((nI_ge ht (by omega)))) (fun _ => ?_)
    refine s_X10_letterLength_15 ?_
    refine s_X10_letterLength_16 ?_
    refine s_X10_letterLength_17 ?_
    refine s_X10_letterLength_19 (by decide) ?_
    rw [rem8 (by omega)]
    refine s_X10_letterLength_20 (fun h8 => ?_) (fun h8 => ?_)
    · refine s_X10_letterLength_28 ?_
      have h8' : ¬ t % 8 = 0 := fun e => h8 (by rw [e]; decide)
      exact st 0 (by rw [if_neg h8'])
    · refine s_X10_letterLength_23 ?_
      refine s_X10_letterLength_25 ?_
      have h8' : t % 8 = 0 := (nI_eq (a := t % 8) (b := 0) (by omega) (by decide)).mp h8
      exact st 6 (by rw [if_pos h8'])
/-- the model has heard the letter -/
def MH (hi : am_HI) (z : Nat → Int32) (more : Int32) : Prop := ∀ t, t < zt z → hi 130 t = ear z more t
theorem m_hears {hi : am_HI} {g : am_G} (hI : am_Inv g) {z : Nat → Int32} (hz : hi 124 = z) (ok : OKz z) (more : Int32) : am_Cr M_X10_hears [.ref 123, .int more] hi g (some (.int (unl z more (zt z)))) (fun h => fr [128, 130] hi h ∧ MH h z more) := by
  have ht48 := ok.2.2.1
  refine am_crn (by decide) (Nat.le_of_ble_eq_true rfl) (fun Φ hΦ => ?_)
  show AP M_X10_hears _ 0 [.ref 123, .int more, jk, jk, jk] [] _ g Φ
  refine s_X10_hears_0 ?_
  refine s_X10_hears_1 ?_
  refine s_X10_hears_3 hI rfl (by decide) (Nat.le_of_ble_eq_true rfl) (m_begins hI (f := 59) (by decide)) ?_
  intro h0 ⟨f0, t0⟩
  refine s_X10_hears_6 ?_
  refine s_X10_hears_7 rfl ?_
  refine s_X10_hears_8 ?_
  refine s_X10_hears_9 rfl ?_
  have key := am_for0 (n := zt z) (hi := h0) (fun t h => fr [128, 130] hi h ∧ (∀ k, k < 4 → h 128 k = (hst z more t).2 k) ∧ ∀ u, u < t → h 130 u = (hst z more t).1 u) (fun t h => ∀ e : Value, AP M_X10_hears (0, 0) 10 [.ref 123, .int more, .int (unl z more t), .int (nI t), e] [] h g Φ) ⟨f0.mono (by decide), fun k hk => by rw [t0 k hk, hz]; rfl, fun u hu => absurd hu (Nat.not_lt_zero _)⟩ ?_ ?_
  · exact key _
  · intro h ⟨h1, h2, h3⟩ e
    refine s_X10_hears_10 ?_
    refine s_X10_hears_11 ?_
    refine s_X10_hears_12 hI rfl (by decide) rfl (by decide) ?_
    refine s_X10_hears_15 ?_
    refine s_X10_hears_17 hI rfl (by decide) (by decide) (by decide : (_ : Int32) = nI 56) (by decide) ?_
    rw [h1 124 (by decide), hz, ok.2.1]
    refine s_X10_hears_18 (fun _ => ?_) (fun h => absurd ((nI_le (Nat.le_refl _) (by omega))) h)
    refine s_X10_hears_131 ?_
    exact s_X10_hears_132 (hΦ _ (⟨h1, fun t ht => by rw [h3 t ht]; exact hst_at z more (t + 1) (zt z) t (by omega) (by omega)⟩))
  · intro t h ht ⟨h1, h2, h3⟩ ih e
    have ez : h 124 = z := (h1 124 (by decide)).trans hz
    have lkk := lk_ok ok (b := t / 8) (by omega)
    obtain ⟨d1, d2, d3⟩ := ok.2.2.2.1 (by omega)
    have st : ∀ x : Int32, x = (if nI t = more then 1 else 0) → AP M_X10_hears (0, 0) 40 [.ref 123, .int more, .int (unl z more t), .int (nI t), e] [.int x, .int (z (75 + t))] h g Φ := by
      intro x hx
      refine s_X10_hears_40 ?_
      refine s_X10_hears_41 rfl ?_
      refine s_X10_hears_43 ?_
      refine s_X10_hears_44 hI rfl (by decide) rfl (by decide) ?_
      refine s_X10_hears_47 ?_
      refine s_X10_hears_48 ?_
      refine s_X10_hears_49 ?_
      refine s_X10_hears_50 hI rfl (by decide) rfl (by decide) ?_
      refine s_X10_hears_53 ?_
      refine s_X10_hears_54 hI rfl (by decide) rfl (by decide) ?_
      refine s_X10_hears_57 ?_
      refine s_X10_hears_59 ?_
      refine s_X10_hears_60 ?_
      refine s_X10_hears_62 (by decide) ?_
      refine s_X10_hears_63 ?_
      rw [div8 (by omega), show 63 + nI (t / 8) = nI (63 + t / 8) from nI_add 63 _]
      refine s_X10_hears_64 hI rfl (by decide) (by decide) (rfl) (by omega) ?_
      refine s_X10_hears_65 ?_
      refine s_X10_hears_66 ?_
      refine s_X10_hears_67 hI rfl (by decide) rfl (by decide) ?_
      refine s_X10_hears_70 ?_
      refine s_X10_hears_72 hI rfl (by decide) (by decide) (by decide : (_ : Int32) = nI 57) (by decide) ?_
      rw [ez, lkk.1, d1]
      refine s_X10_hears_73 hI rfl (by decide) (Nat.le_of_ble_eq_true rfl) (m_foretell hI (q := 130) (t := t) (d := zld z) (lk z (t / 8)) lkk.2 (Or.inr rfl) (by omega) (fun _ => ⟨d2, d3⟩)) ?_
      intro h9 e9; rw [e9]; clear e9 h9
      refine s_X10_hears_76 ?_
      refine s_X10_hears_78 ?_
      rw [fore_congr d2 h2 (r' := (hst z more t).1) h3]
      refine s_X10_hears_79 hI (Nat.le_of_ble_eq_true rfl) (m_cut _) ?_
      intro h9 e9; rw [e9]; clear e9 h9
      refine s_X10_hears_82 hI rfl (by decide) (by decide) (rfl) (by omega) ?_
      refine s_X10_hears_83 ?_
      refine s_X10_hears_84 ?_
      refine s_X10_hears_85 hI rfl (by decide) rfl (by decide) ?_
      refine s_X10_hears_88 ?_
      refine s_X10_hears_89 ?_
      refine s_X10_hears_90 hI rfl (by decide) rfl (by decide) ?_
      refine s_X10_hears_93 ?_
      refine s_X10_hears_95 hI rfl (by decide) (by decide) (by decide : (_ : Int32) = nI 58) (by decide) ?_
      refine s_X10_hears_96 hI rfl (by decide) (Nat.le_of_ble_eq_true rfl) (m_adapts hI (q := 130) (t := t) _ (Or.inr rfl) (by omega)) ?_
      intro h5 ⟨g1, g2⟩
      refine s_X10_hears_99 ?_
      refine s_X10_hears_100 ?_
      refine s_X10_hears_101 hI rfl (by decide) rfl (by decide) ?_
      refine s_X10_hears_104 ?_
      refine s_X10_hears_105 hI rfl (by decide) (by decide) (rfl) (by omega) ?_
      refine s_X10_hears_106 ?_
      refine s_X10_hears_107 hI rfl (by decide) rfl (by decide) ?_
      refine s_X10_hears_110 ?_
      refine s_X10_hears_112 ?_
      refine s_X10_hears_113 ?_
      rw [show 123 + nI t = nI (123 + t) from nI_add 123 _]
      refine s_X10_hears_114 hI rfl (by decide) (by decide) (rfl) (by omega) ?_
      have e9 : h5 130 t = ear z more t := by
        rw [g1 130 (by decide), up_c, up_f, hx]
        exact (up_f (f := (hst z more t).1)).symm
      have e8 : h5 124 = z := by rw [g1 124 (by decide), up_k (by decide), ez]
      have f5 : fr [128, 130] hi h5 := (h1.up (by decide)).tr (g1.mono (by decide))
      have r5 : ∀ u, u ≤ t → h5 130 u = (hst z more (t + 1)).1 u := fun u hu => by
        rw [g1 130 (by decide), up_c, hst_1]
        by_cases he : u = t
        · rw [he, up_f, up_f, hx]; rfl
        · rw [up_n he, up_n he]; exact h3 u (by omega)
      have w5 : ∀ k, k < 4 → h5 128 k = (hst z more (t + 1)).2 k := fun k hk => by
        rw [g2 k hk, up_k (k' := 124) (by decide), up_k (k' := 128) (by decide), ez]
        exact adw_congr h2 (fun u hu => by rw [← hst_1, ← r5 u hu, g1 130 (by decide)]) k hk
      have ih' := ih h5 ⟨f5, w5, fun u hu => r5 u (by omega)⟩
      rw [unl, isum, ← unl] at ih'
      rw [e9, e8]
      refine s_X10_hears_115 (fun hq => ?_) (fun hq => ?_)
      · refine s_X10_hears_122 ?_
        refine s_X10_hears_123 ?_
        refine s_X10_hears_124 rfl ?_
        refine s_X10_hears_125 rfl ?_
        refine s_X10_hears_128 ?_
        rw [if_neg hq] at ih'
        rw [nI_1]
        exact ih' _
      · refine s_X10_hears_118 ?_
        refine s_X10_hears_119 ?_
        refine s_X10_hears_123 ?_
        refine s_X10_hears_124 rfl ?_
        refine s_X10_hears_125 rfl ?_
        refine s_X10_hears_128 ?_
        rw [if_pos hq] at ih'
        rw [nI_1]
        exact ih' _
    refine s_X10_hears_10 ?_
    refine s_X10_hears_11 ?_
    refine s_X10_hears_12 hI rfl (by decide) rfl (by decide) ?_
    refine s_X10_hears_15 ?_
    refine s_X10_hears_17 hI rfl (by decide) (by decide) (by decide : (_ : Int32) = nI 56) (by decide) ?_
    rw [ez, ok.2.1]
    refine s_X10_hears_18 (fun h => absurd h ((nI_ge ht (by omega)))) (fun _ => ?_)
    refine s_X10_hears_21 ?_
    refine s_X10_hears_22 hI rfl (by decide) rfl (by decide) ?_
    refine s_X10_hears_25 ?_
    refine s_X10_hears_27 ?_
    refine s_X10_hears_28 ?_
    rw [show 75 + nI t = nI (75 + t) from nI_add 75 _]
    refine s_X10_hears_29 hI rfl (by decide) (by decide) (rfl) (by omega) ?_
    refine s_X10_hears_30 ?_
    refine s_X10_hears_31 ?_
    rw [ez]
    refine s_X10_hears_32 (fun hm => ?_) (fun hm => ?_)
    · refine s_X10_hears_39 ?_
      exact st _ (by rw [if_neg hm])
    · refine s_X10_hears_35 ?_
      refine s_X10_hears_36 ?_
      exact st _ (by rw [if_pos hm])
