/-! ===== the model: readWork, tells ===== -/
theorem ns_t {hi : am_HI} {s : Nat} : nst hi true s = spt hi s := rfl
theorem ns_f {hi : am_HI} {s : Nat} : nst hi false s = ded hi s := rfl
theorem mno_le {cd : Nat → Nat} {n least most s : Nat} (hl : least ≤ 9) (hm : 9 ≤ most ∧ most ≤ 198) (hs : s ≤ n) : (mno cd n least most s).2.1 ≤ n := by
  obtain ⟨q1, q2⟩ := mno_c (cd := cd) (n := n) (least := least) (most := most) (s := s) hl hm
  cases hb : (mno cd n least most s).1 with
  | true =>
    obtain ⟨v, e, -⟩ := q1 hb
    exact (cnum_le e).2
  | false =>
    rcases q2 hb with ⟨-, e⟩ | ⟨v, d, e, -⟩
    · rw [e]; exact hs
    · exact (cnum_le e).2
theorem mdi_le {cd : Nat → Nat} {n least most s : Nat} (hcd : ∀ i, i < n → 33 ≤ cd i ∧ cd i ≤ 126) (hl : least ≤ 9) (hm : most < 9) (hs : s ≤ n) : (mdi cd n least most s).2.1 ≤ n := by
  obtain ⟨q1, q2⟩ := mdi_c (cd := cd) (n := n) (least := least) (most := most) (s := s) hcd hl hm
  cases hb : (mdi cd n least most s).1 with
  | true =>
    obtain ⟨v, e, -⟩ := q1 hb
    exact (cnum_le e).2
  | false => rw [(q2 hb).2]; exact hs
theorem msi_le {cd : Nat → Nat} {n most s : Nat} (hm : 9 ≤ most ∧ most ≤ 198) (hs : s ≤ n) : (msi cd n most s).2.1 ≤ n := by
  unfold msi
  split
  · rename_i hc
    have hsn := chr_lt (cd := cd) (n := n) (a := s) (by rw [hc]; decide)
    exact mno_le (by decide) hm (tk_le (by decide) (by omega)).1
  · exact hs
/-- how a number's reading ended, told of the work -/
theorem wk1_d {cd : Nat → Nat} {n least most s : Nat} {q : Bool × Nat × Int32} (h1 : q.1 = true → ∃ v, cnum cd n least most (s + 1) = some (v, q.2.1) ∧ q.2.2 = nI v) (h2 : q.1 = false → (cnum cd n least most (s + 1) = none ∧ q.2.1 = s + 1) ∨ ∃ v d, cnum cd n least most (s + 1) = some (v, q.2.1) ∧ dgt (chr cd n q.2.1) = some d) (hw : wk cd n s = wk1 cd n least most s) : (q.1 = true → (wk cd n s).1 = true ∧ (wk cd n s).2.1 = q.2.1 ∧ (wk cd n s).2.2.2 = q.2.2) ∧ (q.1 = false → (wk cd n s).2.1 = q.2.1 ∧ ((wk cd n s).1 = false ∨ ∃ d, dgt (chr cd n q.2.1) = some d)) := by
  rw [hw]
  unfold wk1
  constructor
  · intro hq
    obtain ⟨v, e1, e2⟩ := h1 hq
    rw [e1, e2]
    exact ⟨rfl, rfl, rfl⟩
  · intro hq
    rcases h2 hq with ⟨e1, e2⟩ | ⟨v, d, e1, e2⟩
    · rw [e1, e2]
      exact ⟨rfl, Or.inl rfl⟩
    · rw [e1]
      exact ⟨rfl, Or.inr ⟨d, e2⟩⟩
theorem wk2_d {cd : Nat → Nat} {n least most size s : Nat} {q r : Bool × Nat × Int32} (h1 : q.1 = true → ∃ v, cnum cd n least most (s + 1) = some (v, q.2.1) ∧ q.2.2 = nI v) (h2 : q.1 = false → (cnum cd n least most (s + 1) = none ∧ q.2.1 = s + 1) ∨ ∃ v d, cnum cd n least most (s + 1) = some (v, q.2.1) ∧ dgt (chr cd n q.2.1) = some d) (hw : wk cd n s = wk2 cd n least most size s) :
    (q.1 = false → (wk cd n s).2.1 = q.2.1 ∧ ((wk cd n s).1 = false ∨ ∃ d, dgt (chr cd n q.2.1) = some d)) ∧ (q.1 = true → (r.1 = true → chr cd n q.2.1 = 58 ∧ sgn cd n size (q.2.1 + 1) = (true, r.2.1, r.2.2)) → (r.1 = false → (¬ chr cd n q.2.1 = 58 ∧ r.2.1 = q.2.1) ∨ (chr cd n q.2.1 = 58 ∧ (sgn cd n size (q.2.1 + 1)).2.1 = r.2.1 ∧ ((sgn cd n size (q.2.1 + 1)).1 = false ∨ ∃ d, dgt (chr cd n r.2.1) = some d))) → (r.1 = true → (wk cd n s).1 = true ∧ (wk cd n s).2.1 = r.2.1 ∧ (wk cd n s).2.2.1 = q.2.2 ∧ (wk cd n s).2.2.2 = r.2.2) ∧ (r.1 = false → (wk cd n s).2.1 = r.2.1 ∧ ((wk cd n s).1 = false ∨ ∃ d, dgt (chr cd n r.2.1) = some d))) := by
  rw [hw]
  unfold wk2
  constructor
  · intro hq
    rcases h2 hq with ⟨e1, e2⟩ | ⟨v, d, e1, e2⟩
    · rw [e1, e2]
      exact ⟨rfl, Or.inl rfl⟩
    · rw [e1]
      dsimp only
      rw [if_neg (fun z => by rw [z] at e2; cases e2)]
      exact ⟨rfl, Or.inl rfl⟩
  · intro hq r1 r2
    obtain ⟨v, e1, e2⟩ := h1 hq
    rw [e1, e2]
    dsimp only
    constructor
    · intro hr
      obtain ⟨c1, c2⟩ := r1 hr
      rw [if_pos c1, c2]
      exact ⟨rfl, rfl, rfl, rfl⟩
    · intro hr
      rcases r2 hr with ⟨c1, c2⟩ | ⟨c1, c2, c3⟩
      · rw [if_neg c1, c2]
        exact ⟨rfl, Or.inl rfl⟩
      · rw [if_pos c1]
        exact ⟨c2, c3⟩
theorem m_readWork {hi : am_HI} {g : am_G} (hI : am_Inv g) {cd : Nat → Nat} {n s m : Nat} (mt : MT hi cd n) (a : RA hi s) (hs : s ≤ n) (hm : hi 123 12 = nI m) (hm2 : m ≤ 40) : am_Cr M_X10_readWork [.ref 123] hi g none (fun h => ∃ h0, SR hi h0 m ∧ MD h0 cd n s m ∧ h = am_up h0 123 12 (nI (m + 1))) := by
  have hn80 := mt.2.1
  have hcd : ∀ i, i < n → 33 ≤ cd i ∧ cd i ≤ 126 := fun i hi' => (mt.2.2 i hi').2
  have ne : ∀ k : Nat, 0 < k → k < 1000 → ¬ chr cd n s = k → ¬ sg cd n s = nI k := fun k h1 h2 h3 e => h3 ((sg_chr hcd h1 h2).mp e)
  have fin : ∀ (h : am_HI) (Φ : am_P), (∀ h', (∃ h0, SR hi h0 m ∧ MD h0 cd n s m ∧ h' = am_up h0 123 12 (nI (m + 1))) → Φ (.ok none) h' g) → SR hi h m → MD h cd n s m → ∀ e1 e2 e3 : Value, AP M_X10_readWork (0, 0) 253 [.ref 123, e1, e2, e3] [] h g Φ := by
    intro h Φ hΦ h1 h2 e1 e2 e3
    refine s_X10_readWork_253 ?_
    refine s_X10_readWork_254 rfl ?_
    refine s_X10_readWork_255 hI rfl (by decide) ?_
    refine s_X10_readWork_258 ?_
    refine s_X10_readWork_259 ?_
    refine s_X10_readWork_260 hI rfl (by decide) ?_
    refine s_X10_readWork_263 ?_
    rw [h1.2.2.2, hm, nI_1]
    exact hΦ _ ⟨h, h1, h2, rfl⟩
  have ra1 := a.sp (s + 1)
  have mt1 := mt.sp (s + 1)
  have sr0 : SR hi hi m := SR.rfl
  by_cases h0 : ¬ chr cd n s = 43 ∧ ¬ chr cd n s = 45 ∧ ¬ chr cd n s = 100 ∧ ¬ chr cd n s = 118 ∧ ¬ chr cd n s = 107 ∧ ¬ chr cd n s = 119 ∧ ¬ chr cd n s = 115 ∧ ¬ chr cd n s = 116 ∧ ¬ chr cd n s = 120
  · obtain ⟨k43, k45, k100, k118, k107, k119, k115, k116, k120⟩ := h0
    have ew : wk cd n s = (false, s, 0, 0) := by
      unfold wk
      split <;> first | rfl | (rename_i hh; exact absurd hh (by assumption))
    have dw := de_w (hi := hi) (s := s) (by omega)
    refine am_crn (by decide) (Nat.le_of_ble_eq_true rfl) (fun Φ hΦ => ?_)
    show AP M_X10_readWork _ 0 [.ref 123, jk, jk, jk] [] _ g Φ
    refine s_X10_readWork_0 ?_
    refine s_X10_readWork_1 ?_
    refine s_X10_readWork_2 hI rfl (by decide) ?_
    refine s_X10_readWork_5 ?_
    refine s_X10_readWork_6 rfl ?_
    refine s_X10_readWork_7 ?_
    rw [hm, show 3 * nI m = nI (3 * m) from pk_mul 3 m]
    refine s_X10_readWork_8 hI rfl (by decide) (Nat.le_of_ble_eq_true rfl) (m_sign hI mt a.2 (by omega)) ?_
    intro h9 e9; rw [e9]; clear e9 h9
    refine s_X10_readWork_11 rfl ?_
    refine s_X10_readWork_12 ?_
    refine s_X10_readWork_13 ?_
    refine s_X10_readWork_14 ?_
    refine s_X10_readWork_16 (fun h => absurd h (ne 43 (by decide) (by decide) k43)) (fun _ => ?_)
    refine s_X10_readWork_19 ?_
    refine s_X10_readWork_20 ?_
    refine s_X10_readWork_22 (fun h => absurd h (ne 45 (by decide) (by decide) k45)) (fun _ => ?_)
    refine s_X10_readWork_25 ?_
    refine s_X10_readWork_26 ?_
    refine s_X10_readWork_28 (fun h => absurd h (ne 100 (by decide) (by decide) k100)) (fun _ => ?_)
    refine s_X10_readWork_31 ?_
    refine s_X10_readWork_32 ?_
    refine s_X10_readWork_34 (fun h => absurd h (ne 118 (by decide) (by decide) k118)) (fun _ => ?_)
    refine s_X10_readWork_37 ?_
    refine s_X10_readWork_38 ?_
    refine s_X10_readWork_40 (fun h => absurd h (ne 107 (by decide) (by decide) k107)) (fun _ => ?_)
    refine s_X10_readWork_43 ?_
    refine s_X10_readWork_44 ?_
    refine s_X10_readWork_46 (fun h => absurd h (ne 119 (by decide) (by decide) k119)) (fun _ => ?_)
    refine s_X10_readWork_49 ?_
    refine s_X10_readWork_50 ?_
    refine s_X10_readWork_52 (fun h => absurd h (ne 115 (by decide) (by decide) k115)) (fun _ => ?_)
    refine s_X10_readWork_55 ?_
    refine s_X10_readWork_56 ?_
    refine s_X10_readWork_58 (fun h => absurd h (ne 116 (by decide) (by decide) k116)) (fun _ => ?_)
    refine s_X10_readWork_61 ?_
    refine s_X10_readWork_62 ?_
    refine s_X10_readWork_64 (fun _ => ?_) (fun h => absurd h (ne 120 (by decide) (by decide) k120))
    refine s_X10_readWork_71 ?_
    refine s_X10_readWork_72 hI rfl (by decide) (Nat.le_of_ble_eq_true rfl) (m_needsF hI a) ?_
    intro h9 e9; rw [e9]; clear e9 h9
    refine s_X10_readWork_75 ?_
    refine s_X10_readWork_76 hI rfl (by decide) rfl (by decide) ?_
    refine s_X10_readWork_79 ?_
    refine s_X10_readWork_80 ?_
    refine s_X10_readWork_81 hI rfl (by decide) (by decide) (rfl) (by omega) ?_
    refine s_X10_readWork_82 ?_
    refine s_X10_readWork_83 ?_
    refine s_X10_readWork_85 (fun h => absurd h (ne 43 (by decide) (by decide) k43)) (fun _ => ?_)
    refine s_X10_readWork_88 ?_
    refine s_X10_readWork_89 ?_
    refine s_X10_readWork_91 (fun _ => ?_) (fun h => absurd h (ne 45 (by decide) (by decide) k45))
    refine s_X10_readWork_122 ?_
    refine s_X10_readWork_123 ?_
    refine s_X10_readWork_125 (fun _ => ?_) (fun h => absurd h (ne 100 (by decide) (by decide) k100))
    refine s_X10_readWork_143 ?_
    refine s_X10_readWork_144 ?_
    refine s_X10_readWork_146 (fun _ => ?_) (fun h => absurd h (ne 118 (by decide) (by decide) k118))
    refine s_X10_readWork_163 ?_
    refine s_X10_readWork_164 ?_
    refine s_X10_readWork_166 (fun _ => ?_) (fun h => absurd h (ne 107 (by decide) (by decide) k107))
    refine s_X10_readWork_183 ?_
    refine s_X10_readWork_184 ?_
    refine s_X10_readWork_186 (fun _ => ?_) (fun h => absurd h (ne 119 (by decide) (by decide) k119))
    refine s_X10_readWork_217 ?_
    refine s_X10_readWork_218 ?_
    refine s_X10_readWork_220 (fun _ => ?_) (fun h => absurd h (ne 116 (by decide) (by decide) k116))
    exact fin _ Φ hΦ ((sr0.de s).w (by omega) _) (Or.inr ⟨by rw [ew, up_k (by decide)]; exact dw.2.2, Or.inl (by rw [ew])⟩) _ _ _
  have hcs : chr cd n s = 43 ∨ chr cd n s = 45 ∨ chr cd n s = 100 ∨ chr cd n s = 118 ∨ chr cd n s = 107 ∨ chr cd n s = 119 ∨ chr cd n s = 115 ∨ chr cd n s = 116 ∨ chr cd n s = 120 := by
    by_cases hh : chr cd n s = 43 ∨ chr cd n s = 45 ∨ chr cd n s = 100 ∨ chr cd n s = 118 ∨ chr cd n s = 107 ∨ chr cd n s = 119 ∨ chr cd n s = 115 ∨ chr cd n s = 116 ∨ chr cd n s = 120
    · exact hh
    · simp only [not_or] at hh
      exact absurd hh h0
  have hsn : s < n := chr_lt (by rcases hcs with e | e | e | e | e | e | e | e | e <;> rw [e] <;> decide)
  rcases hcs with hc | hc | hc | hc | hc | hc | hc | hc | hc
  · have hsg : sg cd n s = 43 := (sg_chr hcd (k := 43) (by decide) (by decide)).mpr hc
    have ew : wk cd n s = wk1 cd n 0 99 s := by unfold wk; simp only [hc]
    have hmo := mno_c (cd := cd) (n := n) (least := 0) (most := 99) (s := s + 1) (by decide) (by decide)
    have hwd := wk1_d hmo.1 hmo.2 ew
    have hle := mno_le (cd := cd) (n := n) (least := 0) (most := 99) (s := s + 1) (by decide) (by decide) (by omega)
    refine am_crn (by decide) (Nat.le_of_ble_eq_true rfl) (fun Φ hΦ => ?_)
    show AP M_X10_readWork _ 0 [.ref 123, jk, jk, jk] [] _ g Φ
    refine s_X10_readWork_0 ?_
    refine s_X10_readWork_1 ?_
    refine s_X10_readWork_2 hI rfl (by decide) ?_
    refine s_X10_readWork_5 ?_
    refine s_X10_readWork_6 rfl ?_
    refine s_X10_readWork_7 ?_
    rw [hm, show 3 * nI m = nI (3 * m) from pk_mul 3 m]
    refine s_X10_readWork_8 hI rfl (by decide) (Nat.le_of_ble_eq_true rfl) (m_sign hI mt a.2 (by omega)) ?_
    intro h9 e9; rw [e9]; clear e9 h9
    refine s_X10_readWork_11 rfl ?_
    refine s_X10_readWork_12 ?_
    refine s_X10_readWork_13 ?_
    refine s_X10_readWork_14 ?_
    rw [hsg]
    refine s_X10_readWork_16 (fun _ => ?_) (fun h => absurd (Eq.refl (_ : Int32)) h)
    refine s_X10_readWork_67 ?_
    refine s_X10_readWork_68 ?_
    refine s_X10_readWork_72 hI rfl (by decide) (Nat.le_of_ble_eq_true rfl) (m_needsT hI a) ?_
    intro h9 e9; rw [e9]; clear e9 h9
    refine s_X10_readWork_75 ?_
    refine s_X10_readWork_76 hI rfl (by decide) rfl (by decide) ?_
    refine s_X10_readWork_79 ?_
    refine s_X10_readWork_80 ?_
    refine s_X10_readWork_81 hI rfl (by decide) (by decide) (rfl) (by omega) ?_
    refine s_X10_readWork_82 ?_
    refine s_X10_readWork_83 ?_
    refine s_X10_readWork_85 (fun _ => ?_) (fun h => absurd (Eq.refl (_ : Int32)) h)
    refine s_X10_readWork_94 ?_
    refine s_X10_readWork_95 ?_
    refine s_X10_readWork_96 ?_
    refine s_X10_readWork_98 hI rfl (by decide) (Nat.le_of_ble_eq_true rfl) (m_number hI (least := 0) (most := 99) (mt1.w _ _) (ra1.w _ _) (by omega) (by decide) (by decide) (by decide)) ?_
    intro h9 e9; rw [e9]; clear e9 h9
    refine s_X10_readWork_101 rfl ?_
    refine s_X10_readWork_102 ?_
    refine s_X10_readWork_103 hI rfl (by decide) rfl (by decide) ?_
    refine s_X10_readWork_106 ?_
    refine s_X10_readWork_107 ?_
    refine s_X10_readWork_108 ?_
    refine s_X10_readWork_109 ?_
    refine s_X10_readWork_110 ?_
    refine s_X10_readWork_112 (fun _ => ?_) (fun h => absurd h (by decide))
    refine s_X10_readWork_120 ?_
    refine s_X10_readWork_121 hI rfl (by decide) (by decide) (nI_1 (3 * m)) (by omega) ?_
    refine s_X10_readWork_122 ?_
    refine s_X10_readWork_123 ?_
    refine s_X10_readWork_125 (fun _ => ?_) (fun h => absurd h (by decide))
    refine s_X10_readWork_143 ?_
    refine s_X10_readWork_144 ?_
    refine s_X10_readWork_146 (fun _ => ?_) (fun h => absurd h (by decide))
    refine s_X10_readWork_163 ?_
    refine s_X10_readWork_164 ?_
    refine s_X10_readWork_166 (fun _ => ?_) (fun h => absurd h (by decide))
    refine s_X10_readWork_183 ?_
    refine s_X10_readWork_184 ?_
    refine s_X10_readWork_186 (fun _ => ?_) (fun h => absurd h (by decide))
    refine s_X10_readWork_217 ?_
    refine s_X10_readWork_218 ?_
    refine s_X10_readWork_220 (fun _ => ?_) (fun h => absurd h (by decide))
    refine fin _ Φ hΦ (((((sr0.sp (s + 1)).w (by omega) _).ns _ _)).w (by omega) _) ?_ _ _ _
    cases hb : (mno cd n 0 99 (s + 1)).1 with
    | true =>
      obtain ⟨w1, w2, w3⟩ := hwd.1 hb
      rw [ns_t]
      refine Or.inl ⟨w1, ?_, ?_, fun _ => ?_, fun q => ?_⟩
      · rw [w2]; exact ((ra1.w _ _).sp _).w _ _
      · unfold spt; rw [up_c, up_n (by omega), up_k (by decide), up_c, up_f, hc]; rfl
      · rw [up_c, up_f, hc, w3]; rfl
      · rw [hc] at q; cases q
    | false =>
      obtain ⟨w1, w2⟩ := hwd.2 hb
      rw [ns_f]
      exact Or.inr ⟨by rw [w1, up_k (by decide)]; exact (de_w (by omega)).2.2, by rw [w1]; exact w2⟩
  · have hsg : sg cd n s = 45 := (sg_chr hcd (k := 45) (by decide) (by decide)).mpr hc
    have ew : wk cd n s = wk1 cd n 0 99 s := by unfold wk; simp only [hc]
    have hmo := mno_c (cd := cd) (n := n) (least := 0) (most := 99) (s := s + 1) (by decide) (by decide)
    have hwd := wk1_d hmo.1 hmo.2 ew
    have hle := mno_le (cd := cd) (n := n) (least := 0) (most := 99) (s := s + 1) (by decide) (by decide) (by omega)
    refine am_crn (by decide) (Nat.le_of_ble_eq_true rfl) (fun Φ hΦ => ?_)
    show AP M_X10_readWork _ 0 [.ref 123, jk, jk, jk] [] _ g Φ
    refine s_X10_readWork_0 ?_
    refine s_X10_readWork_1 ?_
    refine s_X10_readWork_2 hI rfl (by decide) ?_
    refine s_X10_readWork_5 ?_
    refine s_X10_readWork_6 rfl ?_
    refine s_X10_readWork_7 ?_
    rw [hm, show 3 * nI m = nI (3 * m) from pk_mul 3 m]
    refine s_X10_readWork_8 hI rfl (by decide) (Nat.le_of_ble_eq_true rfl) (m_sign hI mt a.2 (by omega)) ?_
    intro h9 e9; rw [e9]; clear e9 h9
    refine s_X10_readWork_11 rfl ?_
    refine s_X10_readWork_12 ?_
    refine s_X10_readWork_13 ?_
    refine s_X10_readWork_14 ?_
    rw [hsg]
    refine s_X10_readWork_16 (fun h => absurd h (by decide)) (fun _ => ?_)
    refine s_X10_readWork_19 ?_
    refine s_X10_readWork_20 ?_
    refine s_X10_readWork_22 (fun _ => ?_) (fun h => absurd (Eq.refl (_ : Int32)) h)
    refine s_X10_readWork_67 ?_
    refine s_X10_readWork_68 ?_
    refine s_X10_readWork_72 hI rfl (by decide) (Nat.le_of_ble_eq_true rfl) (m_needsT hI a) ?_
    intro h9 e9; rw [e9]; clear e9 h9
    refine s_X10_readWork_75 ?_
    refine s_X10_readWork_76 hI rfl (by decide) rfl (by decide) ?_
    refine s_X10_readWork_79 ?_
    refine s_X10_readWork_80 ?_
    refine s_X10_readWork_81 hI rfl (by decide) (by decide) (rfl) (by omega) ?_
    refine s_X10_readWork_82 ?_
    refine s_X10_readWork_83 ?_
    refine s_X10_readWork_85 (fun h => absurd h (by decide)) (fun _ => ?_)
    refine s_X10_readWork_88 ?_
    refine s_X10_readWork_89 ?_
    refine s_X10_readWork_91 (fun h => absurd (Eq.refl (45 : Int32)) h) (fun _ => ?_)
    refine s_X10_readWork_94 ?_
    refine s_X10_readWork_95 ?_
    refine s_X10_readWork_96 ?_
    refine s_X10_readWork_98 hI rfl (by decide) (Nat.le_of_ble_eq_true rfl) (m_number hI (least := 0) (most := 99) (mt1.w _ _) (ra1.w _ _) (by omega) (by decide) (by decide) (by decide)) ?_
    intro h9 e9; rw [e9]; clear e9 h9
    refine s_X10_readWork_101 rfl ?_
    refine s_X10_readWork_102 ?_
    refine s_X10_readWork_103 hI rfl (by decide) rfl (by decide) ?_
    refine s_X10_readWork_106 ?_
    refine s_X10_readWork_107 ?_
    refine s_X10_readWork_108 ?_
    refine s_X10_readWork_109 ?_
    refine s_X10_readWork_110 ?_
    refine s_X10_readWork_112 (fun h => absurd (Eq.refl (45 : Int32)) h) (fun _ => ?_)
    refine s_X10_readWork_115 ?_
    refine s_X10_readWork_116 ?_
    refine s_X10_readWork_117 ?_
    refine s_X10_readWork_121 hI rfl (by decide) (by decide) (nI_1 (3 * m)) (by omega) ?_
    refine s_X10_readWork_122 ?_
    refine s_X10_readWork_123 ?_
    refine s_X10_readWork_125 (fun _ => ?_) (fun h => absurd h (by decide))
    refine s_X10_readWork_143 ?_
    refine s_X10_readWork_144 ?_
    refine s_X10_readWork_146 (fun _ => ?_) (fun h => absurd h (by decide))
    refine s_X10_readWork_163 ?_
    refine s_X10_readWork_164 ?_
    refine s_X10_readWork_166 (fun _ => ?_) (fun h => absurd h (by decide))
    refine s_X10_readWork_183 ?_
    refine s_X10_readWork_184 ?_
    refine s_X10_readWork_186 (fun _ => ?_) (fun h => absurd h (by decide))
    refine s_X10_readWork_217 ?_
    refine s_X10_readWork_218 ?_
    refine s_X10_readWork_220 (fun _ => ?_) (fun h => absurd h (by decide))
    refine fin _ Φ hΦ (((((sr0.sp (s + 1)).w (by omega) _).ns _ _)).w (by omega) _) ?_ _ _ _
    cases hb : (mno cd n 0 99 (s + 1)).1 with
    | true =>
      obtain ⟨w1, w2, w3⟩ := hwd.1 hb
      rw [ns_t]
      refine Or.inl ⟨w1, ?_, ?_, fun _ => ?_, fun q => ?_⟩
      · rw [w2]; exact ((ra1.w _ _).sp _).w _ _
      · unfold spt; rw [up_c, up_n (by omega), up_k (by decide), up_c, up_f, hc]; rfl
      · rw [up_c, up_f, hc, w3]; rfl
      · rw [hc] at q; cases q
    | false =>
      obtain ⟨w1, w2⟩ := hwd.2 hb
      rw [ns_f]
      exact Or.inr ⟨by rw [w1, up_k (by decide)]; exact (de_w (by omega)).2.2, by rw [w1]; exact w2⟩
  · have hsg : sg cd n s = 100 := (sg_chr hcd (k := 100) (by decide) (by decide)).mpr hc
    have ew : wk cd n s = wk1 cd n 1 12 s := by unfold wk; simp only [hc]
    have hmo := mno_c (cd := cd) (n := n) (least := 1) (most := 12) (s := s + 1) (by decide) (by decide)
    have hwd := wk1_d hmo.1 hmo.2 ew
    have hle := mno_le (cd := cd) (n := n) (least := 1) (most := 12) (s := s + 1) (by decide) (by decide) (by omega)
    refine am_crn (by decide) (Nat.le_of_ble_eq_true rfl) (fun Φ hΦ => ?_)
    show AP M_X10_readWork _ 0 [.ref 123, jk, jk, jk] [] _ g Φ
    refine s_X10_readWork_0 ?_
    refine s_X10_readWork_1 ?_
    refine s_X10_readWork_2 hI rfl (by decide) ?_
    refine s_X10_readWork_5 ?_
    refine s_X10_readWork_6 rfl ?_
    refine s_X10_readWork_7 ?_
    rw [hm, show 3 * nI m = nI (3 * m) from pk_mul 3 m]
    refine s_X10_readWork_8 hI rfl (by decide) (Nat.le_of_ble_eq_true rfl) (m_sign hI mt a.2 (by omega)) ?_
    intro h9 e9; rw [e9]; clear e9 h9
    refine s_X10_readWork_11 rfl ?_
    refine s_X10_readWork_12 ?_
    refine s_X10_readWork_13 ?_
    refine s_X10_readWork_14 ?_
    rw [hsg]
    refine s_X10_readWork_16 (fun h => absurd h (by decide)) (fun _ => ?_)
    refine s_X10_readWork_19 ?_
    refine s_X10_readWork_20 ?_
    refine s_X10_readWork_22 (fun h => absurd h (by decide)) (fun _ => ?_)
    refine s_X10_readWork_25 ?_
    refine s_X10_readWork_26 ?_
    refine s_X10_readWork_28 (fun _ => ?_) (fun h => absurd (Eq.refl (_ : Int32)) h)
    refine s_X10_readWork_67 ?_
    refine s_X10_readWork_68 ?_
    refine s_X10_readWork_72 hI rfl (by decide) (Nat.le_of_ble_eq_true rfl) (m_needsT hI a) ?_
    intro h9 e9; rw [e9]; clear e9 h9
    refine s_X10_readWork_75 ?_
    refine s_X10_readWork_76 hI rfl (by decide) rfl (by decide) ?_
    refine s_X10_readWork_79 ?_
    refine s_X10_readWork_80 ?_
    refine s_X10_readWork_81 hI rfl (by decide) (by decide) (rfl) (by omega) ?_
    refine s_X10_readWork_82 ?_
    refine s_X10_readWork_83 ?_
    refine s_X10_readWork_85 (fun h => absurd h (by decide)) (fun _ => ?_)
    refine s_X10_readWork_88 ?_
    refine s_X10_readWork_89 ?_
    refine s_X10_readWork_91 (fun _ => ?_) (fun h => absurd h (by decide))
    refine s_X10_readWork_122 ?_
    refine s_X10_readWork_123 ?_
    refine s_X10_readWork_125 (fun h => absurd (Eq.refl (100 : Int32)) h) (fun _ => ?_)
    refine s_X10_readWork_128 ?_
    refine s_X10_readWork_129 hI rfl (by decide) rfl (by decide) ?_
    refine s_X10_readWork_132 ?_
    refine s_X10_readWork_133 ?_
    refine s_X10_readWork_134 ?_
    refine s_X10_readWork_135 ?_
    refine s_X10_readWork_136 ?_
    refine s_X10_readWork_137 ?_
    refine s_X10_readWork_139 hI rfl (by decide) (Nat.le_of_ble_eq_true rfl) (m_number hI (least := 1) (most := 12) (mt1.w _ _) (ra1.w _ _) (by omega) (by decide) (by decide) (by decide)) ?_
    intro h9 e9; rw [e9]; clear e9 h9
    refine s_X10_readWork_142 hI rfl (by decide) (by decide) (nI_1 (3 * m)) (by omega) ?_
    refine s_X10_readWork_143 ?_
    refine s_X10_readWork_144 ?_
    refine s_X10_readWork_146 (fun _ => ?_) (fun h => absurd h (by decide))
    refine s_X10_readWork_163 ?_
    refine s_X10_readWork_164 ?_
    refine s_X10_readWork_166 (fun _ => ?_) (fun h => absurd h (by decide))
    refine s_X10_readWork_183 ?_
    refine s_X10_readWork_184 ?_
    refine s_X10_readWork_186 (fun _ => ?_) (fun h => absurd h (by decide))
    refine s_X10_readWork_217 ?_
    refine s_X10_readWork_218 ?_
    refine s_X10_readWork_220 (fun _ => ?_) (fun h => absurd h (by decide))
    refine fin _ Φ hΦ (((((sr0.sp (s + 1)).w (by omega) _).ns _ _)).w (by omega) _) ?_ _ _ _
    cases hb : (mno cd n 1 12 (s + 1)).1 with
    | true =>
      obtain ⟨w1, w2, w3⟩ := hwd.1 hb
      rw [ns_t]
      refine Or.inl ⟨w1, ?_, ?_, fun _ => ?_, fun q => ?_⟩
      · rw [w2]; exact ((ra1.w _ _).sp _).w _ _
      · unfold spt; rw [up_c, up_n (by omega), up_k (by decide), up_c, up_f, hc]; rfl
      · rw [up_c, up_f, hc, w3]; rfl
      · rw [hc] at q; cases q
    | false =>
      obtain ⟨w1, w2⟩ := hwd.2 hb
      rw [ns_f]
      exact Or.inr ⟨by rw [w1, up_k (by decide)]; exact (de_w (by omega)).2.2, by rw [w1]; exact w2⟩
  · have hsg : sg cd n s = 118 := (sg_chr hcd (k := 118) (by decide) (by decide)).mpr hc
    have ew : wk cd n s = wk1 cd n 0 3 s := by unfold wk; simp only [hc]
    have hmo := mdi_c (cd := cd) (n := n) (least := 0) (most := 3) (s := s + 1) hcd (by decide) (by decide)
    have hwd := wk1_d hmo.1 (fun q => Or.inl (hmo.2 q)) ew
    have hle := mdi_le (cd := cd) (n := n) (least := 0) (most := 3) (s := s + 1) hcd (by decide) (by decide) (by omega)
    refine am_crn (by decide) (Nat.le_of_ble_eq_true rfl) (fun Φ hΦ => ?_)
    show AP M_X10_readWork _ 0 [.ref 123, jk, jk, jk] [] _ g Φ
    refine s_X10_readWork_0 ?_
    refine s_X10_readWork_1 ?_
    refine s_X10_readWork_2 hI rfl (by decide) ?_
    refine s_X10_readWork_5 ?_
    refine s_X10_readWork_6 rfl ?_
    refine s_X10_readWork_7 ?_
    rw [hm, show 3 * nI m = nI (3 * m) from pk_mul 3 m]
    refine s_X10_readWork_8 hI rfl (by decide) (Nat.le_of_ble_eq_true rfl) (m_sign hI mt a.2 (by omega)) ?_
    intro h9 e9; rw [e9]; clear e9 h9
    refine s_X10_readWork_11 rfl ?_
    refine s_X10_readWork_12 ?_
    refine s_X10_readWork_13 ?_
    refine s_X10_readWork_14 ?_
    rw [hsg]
    refine s_X10_readWork_16 (fun h => absurd h (by decide)) (fun _ => ?_)
    refine s_X10_readWork_19 ?_
    refine s_X10_readWork_20 ?_
    refine s_X10_readWork_22 (fun h => absurd h (by decide)) (fun _ => ?_)
    refine s_X10_readWork_25 ?_
    refine s_X10_readWork_26 ?_
    refine s_X10_readWork_28 (fun h => absurd h (by decide)) (fun _ => ?_)
    refine s_X10_readWork_31 ?_
    refine s_X10_readWork_32 ?_
    refine s_X10_readWork_34 (fun _ => ?_) (fun h => absurd (Eq.refl (_ : Int32)) h)
    refine s_X10_readWork_67 ?_
    refine s_X10_readWork_68 ?_
    refine s_X10_readWork_72 hI rfl (by decide) (Nat.le_of_ble_eq_true rfl) (m_needsT hI a) ?_
    intro h9 e9; rw [e9]; clear e9 h9
    refine s_X10_readWork_75 ?_
    refine s_X10_readWork_76 hI rfl (by decide) rfl (by decide) ?_
    refine s_X10_readWork_79 ?_
    refine s_X10_readWork_80 ?_
    refine s_X10_readWork_81 hI rfl (by decide) (by decide) (rfl) (by omega) ?_
    refine s_X10_readWork_82 ?_
    refine s_X10_readWork_83 ?_
    refine s_X10_readWork_85 (fun h => absurd h (by decide)) (fun _ => ?_)
    refine s_X10_readWork_88 ?_
    refine s_X10_readWork_89 ?_
    refine s_X10_readWork_91 (fun _ => ?_) (fun h => absurd h (by decide))
    refine s_X10_readWork_122 ?_
    refine s_X10_readWork_123 ?_
    refine s_X10_readWork_125 (fun _ => ?_) (fun h => absurd h (by decide))
    refine s_X10_readWork_143 ?_
    refine s_X10_readWork_144 ?_
    refine s_X10_readWork_146 (fun h => absurd (Eq.refl (118 : Int32)) h) (fun _ => ?_)
    refine s_X10_readWork_149 ?_
    refine s_X10_readWork_150 hI rfl (by decide) rfl (by decide) ?_
    refine s_X10_readWork_153 ?_
    refine s_X10_readWork_154 ?_
    refine s_X10_readWork_155 ?_
    refine s_X10_readWork_156 ?_
    refine s_X10_readWork_157 ?_
    refine s_X10_readWork_158 ?_
    refine s_X10_readWork_159 hI rfl (by decide) (Nat.le_of_ble_eq_true rfl) (m_digit hI (least := 0) (most := 3) (mt1.w _ _) (ra1.w _ _) (by omega)) ?_
    intro h9 e9; rw [e9]; clear e9 h9
    refine s_X10_readWork_162 hI rfl (by decide) (by decide) (nI_1 (3 * m)) (by omega) ?_
    refine s_X10_readWork_163 ?_
    refine s_X10_readWork_164 ?_
    refine s_X10_readWork_166 (fun _ => ?_) (fun h => absurd h (by decide))
    refine s_X10_readWork_183 ?_
    refine s_X10_readWork_184 ?_
    refine s_X10_readWork_186 (fun _ => ?_) (fun h => absurd h (by decide))
    refine s_X10_readWork_217 ?_
    refine s_X10_readWork_218 ?_
    refine s_X10_readWork_220 (fun _ => ?_) (fun h => absurd h (by decide))
    refine fin _ Φ hΦ (((((sr0.sp (s + 1)).w (by omega) _).ns _ _)).w (by omega) _) ?_ _ _ _
    cases hb : (mdi cd n 0 3 (s + 1)).1 with
    | true =>
      obtain ⟨w1, w2, w3⟩ := hwd.1 hb
      rw [ns_t]
      refine Or.inl ⟨w1, ?_, ?_, fun _ => ?_, fun q => ?_⟩
      · rw [w2]; exact ((ra1.w _ _).sp _).w _ _
      · unfold spt; rw [up_c, up_n (by omega), up_k (by decide), up_c, up_f, hc]; rfl
      · rw [up_c, up_f, hc, w3]; rfl
      · rw [hc] at q; cases q
    | false =>
      obtain ⟨w1, w2⟩ := hwd.2 hb
      rw [ns_f]
      exact Or.inr ⟨by rw [w1, up_k (by decide)]; exact (de_w (by omega)).2.2, by rw [w1]; exact w2⟩
  · have hsg : sg cd n s = 107 := (sg_chr hcd (k := 107) (by decide) (by decide)).mpr hc
    have ew : wk cd n s = wk1 cd n 0 4 s := by unfold wk; simp only [hc]
    have hmo := mdi_c (cd := cd) (n := n) (least := 0) (most := 4) (s := s + 1) hcd (by decide) (by decide)
    have hwd := wk1_d hmo.1 (fun q => Or.inl (hmo.2 q)) ew
    have hle := mdi_le (cd := cd) (n := n) (least := 0) (most := 4) (s := s + 1) hcd (by decide) (by decide) (by omega)
    refine am_crn (by decide) (Nat.le_of_ble_eq_true rfl) (fun Φ hΦ => ?_)
    show AP M_X10_readWork _ 0 [.ref 123, jk, jk, jk] [] _ g Φ
    refine s_X10_readWork_0 ?_
    refine s_X10_readWork_1 ?_
    refine s_X10_readWork_2 hI rfl (by decide) ?_
    refine s_X10_readWork_5 ?_
    refine s_X10_readWork_6 rfl ?_
    refine s_X10_readWork_7 ?_
    rw [hm, show 3 * nI m = nI (3 * m) from pk_mul 3 m]
    refine s_X10_readWork_8 hI rfl (by decide) (Nat.le_of_ble_eq_true rfl) (m_sign hI mt a.2 (by omega)) ?_
    intro h9 e9; rw [e9]; clear e9 h9
    refine s_X10_readWork_11 rfl ?_
    refine s_X10_readWork_12 ?_
    refine s_X10_readWork_13 ?_
    refine s_X10_readWork_14 ?_
    rw [hsg]
    refine s_X10_readWork_16 (fun h => absurd h (by decide)) (fun _ => ?_)
    refine s_X10_readWork_19 ?_
    refine s_X10_readWork_20 ?_
    refine s_X10_readWork_22 (fun h => absurd h (by decide)) (fun _ => ?_)
    refine s_X10_readWork_25 ?_
    refine s_X10_readWork_26 ?_
    refine s_X10_readWork_28 (fun h => absurd h (by decide)) (fun _ => ?_)
    refine s_X10_readWork_31 ?_
    refine s_X10_readWork_32 ?_
    refine s_X10_readWork_34 (fun h => absurd h (by decide)) (fun _ => ?_)
    refine s_X10_readWork_37 ?_
    refine s_X10_readWork_38 ?_
    refine s_X10_readWork_40 (fun _ => ?_) (fun h => absurd (Eq.refl (_ : Int32)) h)
    refine s_X10_readWork_67 ?_
    refine s_X10_readWork_68 ?_
    refine s_X10_readWork_72 hI rfl (by decide) (Nat.le_of_ble_eq_true rfl) (m_needsT hI a) ?_
    intro h9 e9; rw [e9]; clear e9 h9
    refine s_X10_readWork_75 ?_
    refine s_X10_readWork_76 hI rfl (by decide) rfl (by decide) ?_
    refine s_X10_readWork_79 ?_
    refine s_X10_readWork_80 ?_
    refine s_X10_readWork_81 hI rfl (by decide) (by decide) (rfl) (by omega) ?_
    refine s_X10_readWork_82 ?_
    refine s_X10_readWork_83 ?_
    refine s_X10_readWork_85 (fun h => absurd h (by decide)) (fun _ => ?_)
    refine s_X10_readWork_88 ?_
    refine s_X10_readWork_89 ?_
    refine s_X10_readWork_91 (fun _ => ?_) (fun h => absurd h (by decide))
    refine s_X10_readWork_122 ?_
    refine s_X10_readWork_123 ?_
    refine s_X10_readWork_125 (fun _ => ?_) (fun h => absurd h (by decide))
    refine s_X10_readWork_143 ?_
    refine s_X10_readWork_144 ?_
    refine s_X10_readWork_146 (fun _ => ?_) (fun h => absurd h (by decide))
    refine s_X10_readWork_163 ?_
    refine s_X10_readWork_164 ?_
    refine s_X10_readWork_166 (fun h => absurd (Eq.refl (107 : Int32)) h) (fun _ => ?_)
    refine s_X10_readWork_169 ?_
    refine s_X10_readWork_170 hI rfl (by decide) rfl (by decide) ?_
    refine s_X10_readWork_173 ?_
    refine s_X10_readWork_174 ?_
    refine s_X10_readWork_175 ?_
    refine s_X10_readWork_176 ?_
    refine s_X10_readWork_177 ?_
    refine s_X10_readWork_178 ?_
    refine s_X10_readWork_179 hI rfl (by decide) (Nat.le_of_ble_eq_true rfl) (m_digit hI (least := 0) (most := 4) (mt1.w _ _) (ra1.w _ _) (by omega)) ?_
    intro h9 e9; rw [e9]; clear e9 h9
    refine s_X10_readWork_182 hI rfl (by decide) (by decide) (nI_1 (3 * m)) (by omega) ?_
    refine s_X10_readWork_183 ?_
    refine s_X10_readWork_184 ?_
    refine s_X10_readWork_186 (fun _ => ?_) (fun h => absurd h (by decide))
    refine s_X10_readWork_217 ?_
    refine s_X10_readWork_218 ?_
    refine s_X10_readWork_220 (fun _ => ?_) (fun h => absurd h (by decide))
    refine fin _ Φ hΦ (((((sr0.sp (s + 1)).w (by omega) _).ns _ _)).w (by omega) _) ?_ _ _ _
    cases hb : (mdi cd n 0 4 (s + 1)).1 with
    | true =>
      obtain ⟨w1, w2, w3⟩ := hwd.1 hb
      rw [ns_t]
      refine Or.inl ⟨w1, ?_, ?_, fun _ => ?_, fun q => ?_⟩
      · rw [w2]; exact ((ra1.w _ _).sp _).w _ _
      · unfold spt; rw [up_c, up_n (by omega), up_k (by decide), up_c, up_f, hc]; rfl
      · rw [up_c, up_f, hc, w3]; rfl
      · rw [hc] at q; cases q
    | false =>
      obtain ⟨w1, w2⟩ := hwd.2 hb
      rw [ns_f]
      exact Or.inr ⟨by rw [w1, up_k (by decide)]; exact (de_w (by omega)).2.2, by rw [w1]; exact w2⟩
  · have hsg : sg cd n s = 119 := (sg_chr hcd (k := 119) (by decide) (by decide)).mpr hc
    have ew : wk cd n s = wk2 cd n 1 4 64 s := by unfold wk; simp only [hc]
    have hmo := mdi_c (cd := cd) (n := n) (least := 1) (most := 4) (s := s + 1) hcd (by decide) (by decide)
    have hle := mdi_le (cd := cd) (n := n) (least := 1) (most := 4) (s := s + 1) hcd (by decide) (by decide) (by omega)
    have hwd := wk2_d (r := msi cd n 64 (mdi cd n 1 4 (s + 1)).2.1) hmo.1 (fun q => Or.inl (hmo.2 q)) ew
    have hms := msi_s (cd := cd) (n := n) (most := 64) (s := (mdi cd n 1 4 (s + 1)).2.1) (by decide)
    have hle2 := msi_le (cd := cd) (n := n) (most := 64) (s := (mdi cd n 1 4 (s + 1)).2.1) (by decide) hle
    generalize hqq : mdi cd n 1 4 (s + 1) = q at *
    refine am_crn (by decide) (Nat.le_of_ble_eq_true rfl) (fun Φ hΦ => ?_)
    show AP M_X10_readWork _ 0 [.ref 123, jk, jk, jk] [] _ g Φ
    refine s_X10_readWork_0 ?_
    refine s_X10_readWork_1 ?_
    refine s_X10_readWork_2 hI rfl (by decide) ?_
    refine s_X10_readWork_5 ?_
    refine s_X10_readWork_6 rfl ?_
    refine s_X10_readWork_7 ?_
    rw [hm, show 3 * nI m = nI (3 * m) from pk_mul 3 m]
    refine s_X10_readWork_8 hI rfl (by decide) (Nat.le_of_ble_eq_true rfl) (m_sign hI mt a.2 (by omega)) ?_
    intro h9 e9; rw [e9]; clear e9 h9
    refine s_X10_readWork_11 rfl ?_
    refine s_X10_readWork_12 ?_
    refine s_X10_readWork_13 ?_
    refine s_X10_readWork_14 ?_
    rw [hsg]
    refine s_X10_readWork_16 (fun h => absurd h (by decide)) (fun _ => ?_)
    refine s_X10_readWork_19 ?_
    refine s_X10_readWork_20 ?_
    refine s_X10_readWork_22 (fun h => absurd h (by decide)) (fun _ => ?_)
    refine s_X10_readWork_25 ?_
    refine s_X10_readWork_26 ?_
    refine s_X10_readWork_28 (fun h => absurd h (by decide)) (fun _ => ?_)
    refine s_X10_readWork_31 ?_
    refine s_X10_readWork_32 ?_
    refine s_X10_readWork_34 (fun h => absurd h (by decide)) (fun _ => ?_)
    refine s_X10_readWork_37 ?_
    refine s_X10_readWork_38 ?_
    refine s_X10_readWork_40 (fun h => absurd h (by decide)) (fun _ => ?_)
    refine s_X10_readWork_43 ?_
    refine s_X10_readWork_44 ?_
    refine s_X10_readWork_46 (fun _ => ?_) (fun h => absurd (Eq.refl (_ : Int32)) h)
    refine s_X10_readWork_67 ?_
    refine s_X10_readWork_68 ?_
    refine s_X10_readWork_72 hI rfl (by decide) (Nat.le_of_ble_eq_true rfl) (m_needsT hI a) ?_
    intro h9 e9; rw [e9]; clear e9 h9
    refine s_X10_readWork_75 ?_
    refine s_X10_readWork_76 hI rfl (by decide) rfl (by decide) ?_
    refine s_X10_readWork_79 ?_
    refine s_X10_readWork_80 ?_
    refine s_X10_readWork_81 hI rfl (by decide) (by decide) (rfl) (by omega) ?_
    refine s_X10_readWork_82 ?_
    refine s_X10_readWork_83 ?_
    refine s_X10_readWork_85 (fun h => absurd h (by decide)) (fun _ => ?_)
    refine s_X10_readWork_88 ?_
    refine s_X10_readWork_89 ?_
    refine s_X10_readWork_91 (fun _ => ?_) (fun h => absurd h (by decide))
    refine s_X10_readWork_122 ?_
    refine s_X10_readWork_123 ?_
    refine s_X10_readWork_125 (fun _ => ?_) (fun h => absurd h (by decide))
    refine s_X10_readWork_143 ?_
    refine s_X10_readWork_144 ?_
    refine s_X10_readWork_146 (fun _ => ?_) (fun h => absurd h (by decide))
    refine s_X10_readWork_163 ?_
    refine s_X10_readWork_164 ?_
    refine s_X10_readWork_166 (fun _ => ?_) (fun h => absurd h (by decide))
    refine s_X10_readWork_183 ?_
    refine s_X10_readWork_184 ?_
    refine s_X10_readWork_186 (fun h => absurd (Eq.refl (119 : Int32)) h) (fun _ => ?_)
    refine s_X10_readWork_189 ?_
    refine s_X10_readWork_190 hI rfl (by decide) rfl (by decide) ?_
    refine s_X10_readWork_193 ?_
    refine s_X10_readWork_194 ?_
    refine s_X10_readWork_195 ?_
    refine s_X10_readWork_196 ?_
    refine s_X10_readWork_197 ?_
    refine s_X10_readWork_198 ?_
    refine s_X10_readWork_199 hI rfl (by decide) (Nat.le_of_ble_eq_true rfl) (m_digit hI (least := 1) (most := 4) (mt1.w _ _) (ra1.w _ _) (by omega)) ?_
    intro h9 e9; rw [e9]; clear e9 h9
    rw [hqq]
    refine s_X10_readWork_202 hI rfl (by decide) (by decide) (nI_1 (3 * m)) (by omega) ?_
    refine s_X10_readWork_203 ?_
    refine s_X10_readWork_204 hI rfl (by decide) rfl (by decide) ?_
    refine s_X10_readWork_207 ?_
    refine s_X10_readWork_208 ?_
    refine s_X10_readWork_209 ?_
    refine s_X10_readWork_210 ?_
    refine s_X10_readWork_211 ?_
    have srq : ∀ b e, SR hi (am_up (nst (am_up (spt hi (s + 1)) 132 (3 * m) (119)) b e) 132 (3 * m + 1) q.2.2) m := fun b e => ((((sr0.sp (s + 1)).w (by omega) _).ns b e)).w (by omega) _
    have mtq : ∀ b e, MT (am_up (nst (am_up (spt hi (s + 1)) 132 (3 * m) (119)) b e) 132 (3 * m + 1) q.2.2) cd n := fun b e => ((mt1.w _ _).ns b e).w _ _
    cases hb : q.1 with
    | false =>
      obtain ⟨w1, w2⟩ := hwd.1 hb
      have dw := de_w (hi := am_up (spt hi (s + 1)) 132 (3 * m) (119)) (s := q.2.1) (by omega)
      rw [ns_f]
      show AP M_X10_readWork _ 213 _ _ _ g Φ
      refine s_X10_readWork_213 hI rfl (by decide) (Nat.le_of_ble_eq_true rfl) (m_signedX hI (s := q.2.1 + 1) (mtq false q.2.1) (by rw [ns_f, up_k (by decide)]; exact dw.2.1) (by omega) (by rw [ns_f, up_k (by decide)]; exact dw.1) (most := 64) (by decide)) ?_
      intro h9 e9; rw [e9]; clear e9 h9
      refine s_X10_readWork_216 hI rfl (by decide) (by decide) (nI_add (3 * m) 2) (by omega) ?_
      refine s_X10_readWork_217 ?_
      refine s_X10_readWork_218 ?_
      refine s_X10_readWork_220 (fun _ => ?_) (fun h => absurd h (by decide))
      exact fin _ Φ hΦ ((srq false q.2.1).w (by omega) _) (Or.inr ⟨by rw [w1, up_k (by decide), up_k (by decide)]; exact dw.2.2, by rw [w1]; exact w2⟩) _ _ _
    | true =>
      have hw2 := hwd.2 hb hms.1 hms.2
      have raq := ((ra1.w (3 * m) (119)).sp q.2.1).w (3 * m + 1) q.2.2
      rw [ns_t]
      show AP M_X10_readWork _ 213 _ _ _ g Φ
      refine s_X10_readWork_213 hI rfl (by decide) (Nat.le_of_ble_eq_true rfl) (m_signed hI (s := q.2.1) (mtq true q.2.1) raq hle (most := 64) (by decide)) ?_
      intro h9 e9; rw [e9]; clear e9 h9
      refine s_X10_readWork_216 hI rfl (by decide) (by decide) (nI_add (3 * m) 2) (by omega) ?_
      refine s_X10_readWork_217 ?_
      refine s_X10_readWork_218 ?_
      refine s_X10_readWork_220 (fun _ => ?_) (fun h => absurd h (by decide))
      refine fin _ Φ hΦ (((srq true q.2.1).ns _ _).w (by omega) _) ?_ _ _ _
      cases hb2 : (msi cd n 64 q.2.1).1 with
      | true =>
        obtain ⟨w1, w2, w3, w4⟩ := hw2.1 hb2
        rw [ns_t]
        refine Or.inl ⟨w1, ?_, ?_, fun _ => ?_, fun _ => ?_⟩
        · rw [w2]; exact (raq.sp _).w _ _
        · rw [ns_t]; unfold spt; rw [up_c, up_n (by omega), up_k (by decide), up_c, up_n (by omega), up_k (by decide), up_c, up_f, hc]; rfl
        · unfold spt; rw [up_c, up_n (by omega), up_k (by decide), up_c, up_f, hc, w3]; rfl
        · rw [up_c, up_f, w4]
      | false =>
        obtain ⟨w1, w2⟩ := hw2.2 hb2
        rw [ns_f]
        exact Or.inr ⟨by rw [w1, up_k (by decide)]; exact (de_w (by omega)).2.2, by rw [w1]; exact w2⟩
  · have hsg : sg cd n s = 115 := (sg_chr hcd (k := 115) (by decide) (by decide)).mpr hc
    have ew : wk cd n s = (true, s + 1, 0, 0) := by unfold wk; simp only [hc]
    refine am_crn (by decide) (Nat.le_of_ble_eq_true rfl) (fun Φ hΦ => ?_)
    show AP M_X10_readWork _ 0 [.ref 123, jk, jk, jk] [] _ g Φ
    refine s_X10_readWork_0 ?_
    refine s_X10_readWork_1 ?_
    refine s_X10_readWork_2 hI rfl (by decide) ?_
    refine s_X10_readWork_5 ?_
    refine s_X10_readWork_6 rfl ?_
    refine s_X10_readWork_7 ?_
    rw [hm, show 3 * nI m = nI (3 * m) from pk_mul 3 m]
    refine s_X10_readWork_8 hI rfl (by decide) (Nat.le_of_ble_eq_true rfl) (m_sign hI mt a.2 (by omega)) ?_
    intro h9 e9; rw [e9]; clear e9 h9
    refine s_X10_readWork_11 rfl ?_
    refine s_X10_readWork_12 ?_
    refine s_X10_readWork_13 ?_
    refine s_X10_readWork_14 ?_
    rw [hsg]
    refine s_X10_readWork_16 (fun h => absurd h (by decide)) (fun _ => ?_)
    refine s_X10_readWork_19 ?_
    refine s_X10_readWork_20 ?_
    refine s_X10_readWork_22 (fun h => absurd h (by decide)) (fun _ => ?_)
    refine s_X10_readWork_25 ?_
    refine s_X10_readWork_26 ?_
    refine s_X10_readWork_28 (fun h => absurd h (by decide)) (fun _ => ?_)
    refine s_X10_readWork_31 ?_
    refine s_X10_readWork_32 ?_
    refine s_X10_readWork_34 (fun h => absurd h (by decide)) (fun _ => ?_)
    refine s_X10_readWork_37 ?_
    refine s_X10_readWork_38 ?_
    refine s_X10_readWork_40 (fun h => absurd h (by decide)) (fun _ => ?_)
    refine s_X10_readWork_43 ?_
    refine s_X10_readWork_44 ?_
    refine s_X10_readWork_46 (fun h => absurd h (by decide)) (fun _ => ?_)
    refine s_X10_readWork_49 ?_
    refine s_X10_readWork_50 ?_
    refine s_X10_readWork_52 (fun _ => ?_) (fun h => absurd (Eq.refl (_ : Int32)) h)
    refine s_X10_readWork_67 ?_
    refine s_X10_readWork_68 ?_
    refine s_X10_readWork_72 hI rfl (by decide) (Nat.le_of_ble_eq_true rfl) (m_needsT hI a) ?_
    intro h9 e9; rw [e9]; clear e9 h9
    refine s_X10_readWork_75 ?_
    refine s_X10_readWork_76 hI rfl (by decide) rfl (by decide) ?_
    refine s_X10_readWork_79 ?_
    refine s_X10_readWork_80 ?_
    refine s_X10_readWork_81 hI rfl (by decide) (by decide) (rfl) (by omega) ?_
    refine s_X10_readWork_82 ?_
    refine s_X10_readWork_83 ?_
    refine s_X10_readWork_85 (fun h => absurd h (by decide)) (fun _ => ?_)
    refine s_X10_readWork_88 ?_
    refine s_X10_readWork_89 ?_
    refine s_X10_readWork_91 (fun _ => ?_) (fun h => absurd h (by decide))
    refine s_X10_readWork_122 ?_
    refine s_X10_readWork_123 ?_
    refine s_X10_readWork_125 (fun _ => ?_) (fun h => absurd h (by decide))
    refine s_X10_readWork_143 ?_
    refine s_X10_readWork_144 ?_
    refine s_X10_readWork_146 (fun _ => ?_) (fun h => absurd h (by decide))
    refine s_X10_readWork_163 ?_
    refine s_X10_readWork_164 ?_
    refine s_X10_readWork_166 (fun _ => ?_) (fun h => absurd h (by decide))
    refine s_X10_readWork_183 ?_
    refine s_X10_readWork_184 ?_
    refine s_X10_readWork_186 (fun _ => ?_) (fun h => absurd h (by decide))
    refine s_X10_readWork_217 ?_
    refine s_X10_readWork_218 ?_
    refine s_X10_readWork_220 (fun _ => ?_) (fun h => absurd h (by decide))
    refine fin _ Φ hΦ ((sr0.sp (s + 1)).w (by omega) _) (Or.inl ⟨by rw [ew], by rw [ew]; exact ra1.w _ _, ?_, fun q => ?_, fun q => ?_⟩) _ _ _
    · rw [up_c, up_f, hc]; rfl
    · rw [hc] at q; cases q
    · rw [hc] at q; cases q
  · have hsg : sg cd n s = 116 := (sg_chr hcd (k := 116) (by decide) (by decide)).mpr hc
    have ew : wk cd n s = wk2 cd n 0 47 198 s := by unfold wk; simp only [hc]
    have hmo := mno_c (cd := cd) (n := n) (least := 0) (most := 47) (s := s + 1) (by decide) (by decide)
    have hle := mno_le (cd := cd) (n := n) (least := 0) (most := 47) (s := s + 1) (by decide) (by decide) (by omega)
    have hwd := wk2_d (r := msi cd n 198 (mno cd n 0 47 (s + 1)).2.1) hmo.1 hmo.2 ew
    have hms := msi_s (cd := cd) (n := n) (most := 198) (s := (mno cd n 0 47 (s + 1)).2.1) (by decide)
    have hle2 := msi_le (cd := cd) (n := n) (most := 198) (s := (mno cd n 0 47 (s + 1)).2.1) (by decide) hle
    generalize hqq : mno cd n 0 47 (s + 1) = q at *
    refine am_crn (by decide) (Nat.le_of_ble_eq_true rfl) (fun Φ hΦ => ?_)
    show AP M_X10_readWork _ 0 [.ref 123, jk, jk, jk] [] _ g Φ
    refine s_X10_readWork_0 ?_
    refine s_X10_readWork_1 ?_
    refine s_X10_readWork_2 hI rfl (by decide) ?_
    refine s_X10_readWork_5 ?_
    refine s_X10_readWork_6 rfl ?_
    refine s_X10_readWork_7 ?_
    rw [hm, show 3 * nI m = nI (3 * m) from pk_mul 3 m]
    refine s_X10_readWork_8 hI rfl (by decide) (Nat.le_of_ble_eq_true rfl) (m_sign hI mt a.2 (by omega)) ?_
    intro h9 e9; rw [e9]; clear e9 h9
    refine s_X10_readWork_11 rfl ?_
    refine s_X10_readWork_12 ?_
    refine s_X10_readWork_13 ?_
    refine s_X10_readWork_14 ?_
    rw [hsg]
    refine s_X10_readWork_16 (fun h => absurd h (by decide)) (fun _ => ?_)
    refine s_X10_readWork_19 ?_
    refine s_X10_readWork_20 ?_
    refine s_X10_readWork_22 (fun h => absurd h (by decide)) (fun _ => ?_)
    refine s_X10_readWork_25 ?_
    refine s_X10_readWork_26 ?_
    refine s_X10_readWork_28 (fun h => absurd h (by decide)) (fun _ => ?_)
    refine s_X10_readWork_31 ?_
    refine s_X10_readWork_32 ?_
    refine s_X10_readWork_34 (fun h => absurd h (by decide)) (fun _ => ?_)
    refine s_X10_readWork_37 ?_
    refine s_X10_readWork_38 ?_
    refine s_X10_readWork_40 (fun h => absurd h (by decide)) (fun _ => ?_)
    refine s_X10_readWork_43 ?_
    refine s_X10_readWork_44 ?_
    refine s_X10_readWork_46 (fun h => absurd h (by decide)) (fun _ => ?_)
    refine s_X10_readWork_49 ?_
    refine s_X10_readWork_50 ?_
    refine s_X10_readWork_52 (fun h => absurd h (by decide)) (fun _ => ?_)
    refine s_X10_readWork_55 ?_
    refine s_X10_readWork_56 ?_
    refine s_X10_readWork_58 (fun _ => ?_) (fun h => absurd (Eq.refl (_ : Int32)) h)
    refine s_X10_readWork_67 ?_
    refine s_X10_readWork_68 ?_
    refine s_X10_readWork_72 hI rfl (by decide) (Nat.le_of_ble_eq_true rfl) (m_needsT hI a) ?_
    intro h9 e9; rw [e9]; clear e9 h9
    refine s_X10_readWork_75 ?_
    refine s_X10_readWork_76 hI rfl (by decide) rfl (by decide) ?_
    refine s_X10_readWork_79 ?_
    refine s_X10_readWork_80 ?_
    refine s_X10_readWork_81 hI rfl (by decide) (by decide) (rfl) (by omega) ?_
    refine s_X10_readWork_82 ?_
    refine s_X10_readWork_83 ?_
    refine s_X10_readWork_85 (fun h => absurd h (by decide)) (fun _ => ?_)
    refine s_X10_readWork_88 ?_
    refine s_X10_readWork_89 ?_
    refine s_X10_readWork_91 (fun _ => ?_) (fun h => absurd h (by decide))
    refine s_X10_readWork_122 ?_
    refine s_X10_readWork_123 ?_
    refine s_X10_readWork_125 (fun _ => ?_) (fun h => absurd h (by decide))
    refine s_X10_readWork_143 ?_
    refine s_X10_readWork_144 ?_
    refine s_X10_readWork_146 (fun _ => ?_) (fun h => absurd h (by decide))
    refine s_X10_readWork_163 ?_
    refine s_X10_readWork_164 ?_
    refine s_X10_readWork_166 (fun _ => ?_) (fun h => absurd h (by decide))
    refine s_X10_readWork_183 ?_
    refine s_X10_readWork_184 ?_
    refine s_X10_readWork_186 (fun _ => ?_) (fun h => absurd h (by decide))
    refine s_X10_readWork_217 ?_
    refine s_X10_readWork_218 ?_
    refine s_X10_readWork_220 (fun h => absurd (Eq.refl (116 : Int32)) h) (fun _ => ?_)
    refine s_X10_readWork_223 ?_
    refine s_X10_readWork_224 hI rfl (by decide) rfl (by decide) ?_
    refine s_X10_readWork_227 ?_
    refine s_X10_readWork_228 ?_
    refine s_X10_readWork_229 ?_
    refine s_X10_readWork_230 ?_
    refine s_X10_readWork_231 ?_
    refine s_X10_readWork_232 ?_
    refine s_X10_readWork_234 hI rfl (by decide) (Nat.le_of_ble_eq_true rfl) (m_number hI (least := 0) (most := 47) (mt1.w _ _) (ra1.w _ _) (by omega) (by decide) (by decide) (by decide)) ?_
    intro h9 e9; rw [e9]; clear e9 h9
    rw [hqq]
    refine s_X10_readWork_237 hI rfl (by decide) (by decide) (nI_1 (3 * m)) (by omega) ?_
    refine s_X10_readWork_238 ?_
    refine s_X10_readWork_239 hI rfl (by decide) rfl (by decide) ?_
    refine s_X10_readWork_242 ?_
    refine s_X10_readWork_243 ?_
    refine s_X10_readWork_244 ?_
    refine s_X10_readWork_245 ?_
    refine s_X10_readWork_246 ?_
    have srq : ∀ b e, SR hi (am_up (nst (am_up (spt hi (s + 1)) 132 (3 * m) (116)) b e) 132 (3 * m + 1) q.2.2) m := fun b e => ((((sr0.sp (s + 1)).w (by omega) _).ns b e)).w (by omega) _
    have mtq : ∀ b e, MT (am_up (nst (am_up (spt hi (s + 1)) 132 (3 * m) (116)) b e) 132 (3 * m + 1) q.2.2) cd n := fun b e => ((mt1.w _ _).ns b e).w _ _
    cases hb : q.1 with
    | false =>
      obtain ⟨w1, w2⟩ := hwd.1 hb
      have dw := de_w (hi := am_up (spt hi (s + 1)) 132 (3 * m) (116)) (s := q.2.1) (by omega)
      rw [ns_f]
      show AP M_X10_readWork _ 249 _ _ _ g Φ
      refine s_X10_readWork_249 hI rfl (by decide) (Nat.le_of_ble_eq_true rfl) (m_signedX hI (s := q.2.1 + 1) (mtq false q.2.1) (by rw [ns_f, up_k (by decide)]; exact dw.2.1) (by omega) (by rw [ns_f, up_k (by decide)]; exact dw.1) (most := 198) (by decide)) ?_
      intro h9 e9; rw [e9]; clear e9 h9
      refine s_X10_readWork_252 hI rfl (by decide) (by decide) (nI_add (3 * m) 2) (by omega) ?_
      exact fin _ Φ hΦ ((srq false q.2.1).w (by omega) _) (Or.inr ⟨by rw [w1, up_k (by decide), up_k (by decide)]; exact dw.2.2, by rw [w1]; exact w2⟩) _ _ _
    | true =>
      have hw2 := hwd.2 hb hms.1 hms.2
      have raq := ((ra1.w (3 * m) (116)).sp q.2.1).w (3 * m + 1) q.2.2
      rw [ns_t]
      show AP M_X10_readWork _ 249 _ _ _ g Φ
      refine s_X10_readWork_249 hI rfl (by decide) (Nat.le_of_ble_eq_true rfl) (m_signed hI (s := q.2.1) (mtq true q.2.1) raq hle (most := 198) (by decide)) ?_
      intro h9 e9; rw [e9]; clear e9 h9
      refine s_X10_readWork_252 hI rfl (by decide) (by decide) (nI_add (3 * m) 2) (by omega) ?_
      refine fin _ Φ hΦ (((srq true q.2.1).ns _ _).w (by omega) _) ?_ _ _ _
      cases hb2 : (msi cd n 198 q.2.1).1 with
      | true =>
        obtain ⟨w1, w2, w3, w4⟩ := hw2.1 hb2
        rw [ns_t]
        refine Or.inl ⟨w1, ?_, ?_, fun _ => ?_, fun _ => ?_⟩
        · rw [w2]; exact (raq.sp _).w _ _
        · rw [ns_t]; unfold spt; rw [up_c, up_n (by omega), up_k (by decide), up_c, up_n (by omega), up_k (by decide), up_c, up_f, hc]; rfl
        · unfold spt; rw [up_c, up_n (by omega), up_k (by decide), up_c, up_f, hc, w3]; rfl
        · rw [up_c, up_f, w4]
      | false =>
        obtain ⟨w1, w2⟩ := hw2.2 hb2
        rw [ns_f]
        exact Or.inr ⟨by rw [w1, up_k (by decide)]; exact (de_w (by omega)).2.2, by rw [w1]; exact w2⟩
  · have hsg : sg cd n s = 120 := (sg_chr hcd (k := 120) (by decide) (by decide)).mpr hc
    have ew : wk cd n s = (true, s + 1, 0, 0) := by unfold wk; simp only [hc]
    refine am_crn (by decide) (Nat.le_of_ble_eq_true rfl) (fun Φ hΦ => ?_)
    show AP M_X10_readWork _ 0 [.ref 123, jk, jk, jk] [] _ g Φ
    refine s_X10_readWork_0 ?_
    refine s_X10_readWork_1 ?_
    refine s_X10_readWork_2 hI rfl (by decide) ?_
    refine s_X10_readWork_5 ?_
    refine s_X10_readWork_6 rfl ?_
    refine s_X10_readWork_7 ?_
    rw [hm, show 3 * nI m = nI (3 * m) from pk_mul 3 m]
    refine s_X10_readWork_8 hI rfl (by decide) (Nat.le_of_ble_eq_true rfl) (m_sign hI mt a.2 (by omega)) ?_
    intro h9 e9; rw [e9]; clear e9 h9
    refine s_X10_readWork_11 rfl ?_
    refine s_X10_readWork_12 ?_
    refine s_X10_readWork_13 ?_
    refine s_X10_readWork_14 ?_
    rw [hsg]
    refine s_X10_readWork_16 (fun h => absurd h (by decide)) (fun _ => ?_)
    refine s_X10_readWork_19 ?_
    refine s_X10_readWork_20 ?_
    refine s_X10_readWork_22 (fun h => absurd h (by decide)) (fun _ => ?_)
    refine s_X10_readWork_25 ?_
    refine s_X10_readWork_26 ?_
    refine s_X10_readWork_28 (fun h => absurd h (by decide)) (fun _ => ?_)
    refine s_X10_readWork_31 ?_
    refine s_X10_readWork_32 ?_
    refine s_X10_readWork_34 (fun h => absurd h (by decide)) (fun _ => ?_)
    refine s_X10_readWork_37 ?_
    refine s_X10_readWork_38 ?_
    refine s_X10_readWork_40 (fun h => absurd h (by decide)) (fun _ => ?_)
    refine s_X10_readWork_43 ?_
    refine s_X10_readWork_44 ?_
    refine s_X10_readWork_46 (fun h => absurd h (by decide)) (fun _ => ?_)
    refine s_X10_readWork_49 ?_
    refine s_X10_readWork_50 ?_
    refine s_X10_readWork_52 (fun h => absurd h (by decide)) (fun _ => ?_)
    refine s_X10_readWork_55 ?_
    refine s_X10_readWork_56 ?_
    refine s_X10_readWork_58 (fun h => absurd h (by decide)) (fun _ => ?_)
    refine s_X10_readWork_61 ?_
    refine s_X10_readWork_62 ?_
    refine s_X10_readWork_64 (fun h => absurd (Eq.refl (120 : Int32)) h) (fun _ => ?_)
    refine s_X10_readWork_67 ?_
    refine s_X10_readWork_68 ?_
    refine s_X10_readWork_72 hI rfl (by decide) (Nat.le_of_ble_eq_true rfl) (m_needsT hI a) ?_
    intro h9 e9; rw [e9]; clear e9 h9
    refine s_X10_readWork_75 ?_
    refine s_X10_readWork_76 hI rfl (by decide) rfl (by decide) ?_
    refine s_X10_readWork_79 ?_
    refine s_X10_readWork_80 ?_
    refine s_X10_readWork_81 hI rfl (by decide) (by decide) (rfl) (by omega) ?_
    refine s_X10_readWork_82 ?_
    refine s_X10_readWork_83 ?_
    refine s_X10_readWork_85 (fun h => absurd h (by decide)) (fun _ => ?_)
    refine s_X10_readWork_88 ?_
    refine s_X10_readWork_89 ?_
    refine s_X10_readWork_91 (fun _ => ?_) (fun h => absurd h (by decide))
    refine s_X10_readWork_122 ?_
    refine s_X10_readWork_123 ?_
    refine s_X10_readWork_125 (fun _ => ?_) (fun h => absurd h (by decide))
    refine s_X10_readWork_143 ?_
    refine s_X10_readWork_144 ?_
    refine s_X10_readWork_146 (fun _ => ?_) (fun h => absurd h (by decide))
    refine s_X10_readWork_163 ?_
    refine s_X10_readWork_164 ?_
    refine s_X10_readWork_166 (fun _ => ?_) (fun h => absurd h (by decide))
    refine s_X10_readWork_183 ?_
    refine s_X10_readWork_184 ?_
    refine s_X10_readWork_186 (fun _ => ?_) (fun h => absurd h (by decide))
    refine s_X10_readWork_217 ?_
    refine s_X10_readWork_218 ?_
    refine s_X10_readWork_220 (fun _ => ?_) (fun h => absurd h (by decide))
    refine fin _ Φ hΦ ((sr0.sp (s + 1)).w (by omega) _) (Or.inl ⟨by rw [ew], by rw [ew]; exact ra1.w _ _, ?_, fun q => ?_, fun q => ?_⟩) _ _ _
    · rw [up_c, up_f, hc]; rfl
    · rw [hc] at q; cases q
    · rw [hc] at q; cases q
