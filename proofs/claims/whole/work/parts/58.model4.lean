/-! ===== the model: what it finds; bits of the letter ===== -/
theorem m_sumBehind {hi : am_HI} {g : am_G} (hI : am_Inv g) {z : Nat → Int32} (hz : hi 124 = z) (ok : OKz z) {d : Nat} (hd : 1 ≤ d ∧ d ≤ 12) : am_Cr M_X10_sumBehind [.ref 123, .int (nI d)] hi g (some (.int (sumv 3 d (z0 z) z (z 50) (zc z)))) (fun h => fr [128, 129] hi h) := by
  refine am_crn (by decide) (Nat.le_of_ble_eq_true rfl) (fun Φ hΦ => ?_)
  show AP M_X10_sumBehind _ 0 [.ref 123, .int (nI d)] [] _ g Φ
  refine s_X10_sumBehind_0 ?_
  refine s_X10_sumBehind_1 ?_
  refine s_X10_sumBehind_3 hI rfl (by decide) (Nat.le_of_ble_eq_true rfl) (m_begins hI (f := 51) (by decide)) ?_
  intro h5 ⟨g1, g2⟩
  refine s_X10_sumBehind_6 ?_
  refine s_X10_sumBehind_7 ?_
  refine s_X10_sumBehind_8 ?_
  refine s_X10_sumBehind_9 ?_
  refine s_X10_sumBehind_10 hI rfl (by decide) rfl (by decide) ?_
  refine s_X10_sumBehind_13 ?_
  have ez : h5 124 = z := (g1 124 (by decide)).trans hz
  have ew : ∀ k, k < 4 → h5 128 k = z0 z k := fun k hk => by rw [g2 k hk, hz]; rfl
  refine s_X10_sumBehind_15 hI rfl (by decide) (by decide) (by decide : (_ : Int32) = nI 50) (by decide) ?_
  rw [ez]
  rw [← Wt_sum hd.1 ew] at hΦ
  refine s_X10_sumBehind_16 hI rfl (by decide) (Nat.le_of_ble_eq_true rfl) (m_leaves hI ez (kd := 3) (z 50) (by decide) hd ok.1.1 ok.1.2.1) ?_
  intro h6 ⟨g3, g4⟩
  exact s_X10_sumBehind_19 (hΦ _ ((g1.mono (by decide)).tr g3))
theorem m_delayFor {hi : am_HI} {g : am_G} (hI : am_Inv g) {z : Nat → Int32} (hz : hi 124 = z) (ok : OKz z) : am_Cr M_X10_delayFor [.ref 123] hi g (some (.int (nI (amin (fD z) 11 + 1)))) (fun h => fr [128, 129] hi h) := by
  refine am_crn (by decide) (Nat.le_of_ble_eq_true rfl) (fun Φ hΦ => ?_)
  show AP M_X10_delayFor _ 0 [.ref 123, jk, jk] [] _ g Φ
  refine s_X10_delayFor_0 ?_
  refine s_X10_delayFor_1 rfl ?_
  refine s_X10_delayFor_2 ?_
  refine s_X10_delayFor_3 rfl ?_
  have key := am_for0 (n := 11) (hi := hi) (fun _ h => fr [128, 129] hi h) (fun i h => AP M_X10_delayFor (0, 0) 4 [.ref 123, .int (nI (amin (fD z) i + 1)), .int (nI (i + 2))] [] h g Φ) fr.rfl ?_ ?_
  · exact key
  · intro h h1
    refine s_X10_delayFor_4 ?_
    refine s_X10_delayFor_5 ?_
    refine s_X10_delayFor_7 (fun _ => ?_) (fun h => absurd (nI_lt (a := 12) (b := 11 + 2) (by decide) (by decide)) h)
    refine s_X10_delayFor_35 ?_
    exact s_X10_delayFor_36 (hΦ _ (h1))
  · intro i h hi' h1 ih
    have ha := amin_le (fD z) i
    refine s_X10_delayFor_4 ?_
    refine s_X10_delayFor_5 ?_
    refine s_X10_delayFor_7 (fun h => absurd h (nI_nlt (a := 12) (b := i + 2) (by omega) (by decide))) (fun _ => ?_)
    refine s_X10_delayFor_10 ?_
    refine s_X10_delayFor_11 ?_
    refine s_X10_delayFor_12 hI rfl (by decide) (Nat.le_of_ble_eq_true rfl) (m_sumBehind hI (d := i + 2) ((h1 124 (by decide)).trans hz) ok (by omega)) ?_
    intro h5 g1
    refine s_X10_delayFor_15 ?_
    refine s_X10_delayFor_16 ?_
    refine s_X10_delayFor_17 hI rfl (by decide) (Nat.le_of_ble_eq_true rfl) (m_sumBehind hI (d := amin (fD z) i + 1) ((g1 124 (by decide)).trans ((h1 124 (by decide)).trans hz)) ok (by omega)) ?_
    intro h6 g2
    have ih' := ih h6 ((h1.tr g1).tr g2)
    rw [amin] at ih'
    refine s_X10_delayFor_20 (fun hh => ?_) (fun hh => ?_)
    · refine s_X10_delayFor_27 ?_
      refine s_X10_delayFor_28 rfl ?_
      refine s_X10_delayFor_29 rfl ?_
      refine s_X10_delayFor_32 ?_
      rw [if_neg (c := fD z (i + 1) < fD z (amin (fD z) i)) (Int32.not_lt.mpr hh)] at ih'
      rw [nI_1]
      exact ih'
    · refine s_X10_delayFor_23 ?_
      refine s_X10_delayFor_24 ?_
      refine s_X10_delayFor_28 rfl ?_
      refine s_X10_delayFor_29 rfl ?_
      refine s_X10_delayFor_32 ?_
      rw [if_pos (c := fD z (i + 1) < fD z (amin (fD z) i)) (Int32.not_le.mp hh)] at ih'
      rw [nI_1]
      exact ih'
theorem kbl_bl (f : Nat → Int32) : ∀ n, kbl (fun _ => true) f n = bl f n := by
  intro n
  induction n with
  | zero => rfl
  | succ n ih =>
    rw [kbl, bl, ih]
    by_cases h : f n < (bl f n).2
    · rw [if_pos ⟨rfl, h⟩, if_pos h]
    · rw [if_neg (fun q => h q.2), if_neg h]
theorem mkb_amin {f : Nat → Int32} {n : Nat} (hn : n < 1000) (hf : ∀ i, i ≤ n → f i < 1000000) : mkb (fun _ => true) f (n + 1) = (nI (amin f n), f (amin f n)) := by
  rcases mkb_kbl (al := fun _ => true) (f := f) (n + 1) (by omega) (fun i hi => hf i (by omega)) with ⟨-, -, h3⟩ | ⟨h1, -, -, -, -⟩
  · have := h3 0 (by omega); cases this
  · rw [h1, kbl_bl, bl_amin n hf]
theorem m_speedFor {hi : am_HI} {g : am_G} (hI : am_Inv g) {z : Nat → Int32} (hz : hi 124 = z) (ok : OKz z) : am_Cr M_X10_speedFor [.ref 123] hi g (some (.int (nI (amin (fS z) 3)))) (fun h => fr [128, 129] hi h) := by
  have hd := ok.1.2.2.2
  have hf := mkb_amin (f := fS z) (n := 3) (by decide) (fun i _ => lt_mil (sumv_rng ok.1.2.1 ok.1.2.2.2.2.2.1).2)
  refine am_crn (by decide) (Nat.le_of_ble_eq_true rfl) (fun Φ hΦ => ?_)
  show AP M_X10_speedFor _ 0 [.ref 123, jk, jk, jk, jk, jk] [] _ g Φ
  refine s_X10_speedFor_0 ?_
  refine s_X10_speedFor_1 rfl ?_
  refine s_X10_speedFor_2 ?_
  refine s_X10_speedFor_3 rfl ?_
  refine s_X10_speedFor_4 ?_
  refine s_X10_speedFor_5 rfl ?_
  have key := am_for0 (n := 4) (hi := hi) (fun _ h => fr [128, 129] hi h) (fun i h => ∀ e4 e5 : Value, AP M_X10_speedFor (0, 0) 6 [.ref 123, .int (mkb (fun _ => true) (fS z) i).1, .int (mkb (fun _ => true) (fS z) i).2, .int (nI i), e4, e5] [] h g Φ) fr.rfl ?_ ?_
  · exact key _ _
  · intro h h1 e4 e5
    rw [hf]
    refine s_X10_speedFor_6 ?_
    refine s_X10_speedFor_7 ?_
    refine s_X10_speedFor_8 (fun _ => ?_) (fun h => absurd (nI_lt (a := 3) (b := 4) (by decide) (by decide)) h)
    refine s_X10_speedFor_79 ?_
    exact s_X10_speedFor_80 (hΦ _ (h1))
  · intro i h hi' h1 ih e4 e5
    have ez : h 124 = z := (h1 124 (by decide)).trans hz
    have st : ∀ (v : Bool) (h' : am_HI) (e : Value), fr [128, 129] hi h' → (v = true ↔ ((mkb (fun _ => true) (fS z) i).1 = -1 ∨ fS z i < (mkb (fun _ => true) (fS z) i).2)) → AP M_X10_speedFor (0, 0) 48 [.ref 123, .int (mkb (fun _ => true) (fS z) i).1, .int (mkb (fun _ => true) (fS z) i).2, .int (nI i), .int (fS z i), e] [.int (bI v)] h' g Φ := by
      intro v h' e f' hv
      have ih' := ih h' f'
      rw [mkb] at ih'
      cases v with
      | true =>
        rw [if_pos ⟨rfl, hv.mp rfl⟩] at ih'
        refine s_X10_speedFor_48 rfl ?_
        refine s_X10_speedFor_50 ?_
        refine s_X10_speedFor_52 (fun h => absurd h (by decide)) (fun _ => ?_)
        refine s_X10_speedFor_55 ?_
        refine s_X10_speedFor_56 ?_
        refine s_X10_speedFor_60 rfl ?_
        refine s_X10_speedFor_61 ?_
        refine s_X10_speedFor_63 (fun h => absurd h (by decide)) (fun _ => ?_)
        refine s_X10_speedFor_66 ?_
        refine s_X10_speedFor_68 ?_
        refine s_X10_speedFor_72 rfl ?_
        refine s_X10_speedFor_73 rfl ?_
        refine s_X10_speedFor_76 ?_
        rw [nI_1]
        exact ih' _ _
      | false =>
        rw [if_neg (fun q => by cases hv.mpr q.2)] at ih'
        refine s_X10_speedFor_48 rfl ?_
        refine s_X10_speedFor_50 ?_
        refine s_X10_speedFor_52 (fun _ => ?_) (fun h => absurd (by decide) h)
        refine s_X10_speedFor_59 ?_
        refine s_X10_speedFor_60 rfl ?_
        refine s_X10_speedFor_61 ?_
        refine s_X10_speedFor_63 (fun _ => ?_) (fun h => absurd (by decide) h)
        refine s_X10_speedFor_71 ?_
        refine s_X10_speedFor_72 rfl ?_
        refine s_X10_speedFor_73 rfl ?_
        refine s_X10_speedFor_76 ?_
        rw [nI_1]
        exact ih' _ _
    refine s_X10_speedFor_6 ?_
    refine s_X10_speedFor_7 ?_
    refine s_X10_speedFor_8 (fun h => absurd h (nI_nlt (a := 3) (b := i) (by omega) (by decide))) (fun _ => ?_)
    refine s_X10_speedFor_11 ?_
    refine s_X10_speedFor_12 ?_
    refine s_X10_speedFor_14 hI rfl (by decide) (Nat.le_of_ble_eq_true rfl) (m_begins hI (f := 51) (by decide)) ?_
    intro h5 ⟨g1, g2⟩
    refine s_X10_speedFor_17 ?_
    refine s_X10_speedFor_18 ?_
    refine s_X10_speedFor_19 ?_
    refine s_X10_speedFor_20 hI rfl (by decide) rfl (by decide) ?_
    refine s_X10_speedFor_23 ?_
    have ez5 : h5 124 = z := (g1 124 (by decide)).trans ez
    have ew : ∀ k, k < 4 → h5 128 k = z0 z k := fun k hk => by rw [g2 k hk, ez]; rfl
    refine s_X10_speedFor_25 hI rfl (by decide) (by decide) (by decide : (_ : Int32) = nI 49) (by decide) ?_
    refine s_X10_speedFor_26 ?_
    rw [ez5, ok.1.2.2.1]
    refine s_X10_speedFor_27 hI rfl (by decide) (Nat.le_of_ble_eq_true rfl) (m_leaves hI ez5 (kd := 4) (d := zd z) (nI i) (by decide) ⟨hd.1, hd.2.1⟩ ok.1.1 ok.1.2.1) ?_
    intro h6 ⟨g3, g4⟩
    refine s_X10_speedFor_30 rfl ?_
    refine s_X10_speedFor_32 ?_
    refine s_X10_speedFor_33 ?_
    have es : sumv 4 (zd z) (h5 128) z (nI i) (zc z) = fS z i := Wt_sum hd.1 ew
    rw [es]
    have f6 : fr [128, 129] hi h6 := (h1.tr (g1.mono (by decide))).tr g3
    refine s_X10_speedFor_34 (fun hb1 => ?_) (fun hb1 => ?_)
    · refine s_X10_speedFor_43 ?_
      refine s_X10_speedFor_44 ?_
      exact st true _ _ f6 ⟨fun _ => Or.inl hb1, fun _ => rfl⟩
    · refine s_X10_speedFor_37 ?_
      refine s_X10_speedFor_39 ?_
      refine s_X10_speedFor_40 (fun hc => ?_) (fun hc => ?_)
      · refine s_X10_speedFor_47 ?_
        exact st false _ _ f6 ⟨fun q => (by cases q), fun q => absurd q (by rintro (q | q); exact hb1 q; exact Int32.not_lt.mpr hc q)⟩
      · refine s_X10_speedFor_43 ?_
        refine s_X10_speedFor_44 ?_
        exact st true _ _ f6 ⟨fun _ => Or.inr (Int32.not_le.mp hc), fun _ => rfl⟩
def mf (f : Nat → Int32) : Nat → Int32 × Int32
  | 0 => (0, -1)
  | n + 1 => if (mf f n).2 = -1 ∨ f n < (mf f n).2 then (e8 n, f n) else mf f n
theorem mf_amin {f : Nat → Int32} : ∀ n, (∀ i, i ≤ n → 0 ≤ f i) → mf f (n + 1) = (e8 (amin f n), f (amin f n)) := by
  intro n
  induction n with
  | zero => intro _; rw [mf, if_pos (show (mf f 0).2 = -1 ∨ f 0 < (mf f 0).2 from Or.inl rfl)]; rfl
  | succ n ih =>
    intro h
    have ih' := ih (fun i hi => h i (by omega))
    rw [mf, ih', amin]
    have hne : ¬ f (amin f n) = -1 := fun e => by
      have := h (amin f n) (by have := amin_le f n; omega)
      rw [e] at this
      exact absurd this (by decide)
    by_cases hc : f (n + 1) < f (amin f n)
    · rw [if_pos (Or.inr hc), if_pos hc]
    · rw [if_neg (by rintro (q | q); exact hne q; exact hc q), if_neg hc]
theorem m_firstFor {hi : am_HI} {g : am_G} (hI : am_Inv g) {z : Nat → Int32} (hz : hi 124 = z) (ok : OKz z) {k : Nat} (hk : k < 4) : am_Cr M_X10_firstFor [.ref 123, .int (nI (k + 1))] hi g (some (.int (e8 (amin (fW z k) 16)))) (fun h => fr [128, 129] hi h) := by
  have hd := ok.1.2.2.2
  have hf := mf_amin (f := fW z k) 16 (fun i _ => by rw [am_le]; exact (sumv_rng ok.1.2.1 ok.1.2.2.2.2.2.1).1)
  refine am_crn (by decide) (Nat.le_of_ble_eq_true rfl) (fun Φ hΦ => ?_)
  show AP M_X10_firstFor _ 0 [.ref 123, .int (nI (k + 1)), jk, jk, jk, jk, jk] [] _ g Φ
  refine s_X10_firstFor_0 ?_
  refine s_X10_firstFor_1 rfl ?_
  refine s_X10_firstFor_2 ?_
  refine s_X10_firstFor_3 rfl ?_
  refine s_X10_firstFor_4 ?_
  refine s_X10_firstFor_6 rfl ?_
  have key := am_for0 (n := 17) (hi := hi) (fun _ h => fr [128, 129] hi h) (fun i h => ∀ e5 e6 : Value, AP M_X10_firstFor (0, 0) 8 [.ref 123, .int (nI (k + 1)), .int (mf (fW z k) i).1, .int (mf (fW z k) i).2, .int (e8 i), e5, e6] [] h g Φ) fr.rfl ?_ ?_
  · exact key _ _
  · intro h h1 e5 e6
    rw [hf]
    refine s_X10_firstFor_8 ?_
    refine s_X10_firstFor_10 ?_
    refine s_X10_firstFor_12 (fun _ => ?_) (fun h => absurd (by decide) h)
    refine s_X10_firstFor_100 ?_
    exact s_X10_firstFor_101 (hΦ _ (h1))
  · intro i h hi' h1 ih e5 e6
    have ez : h 124 = z := (h1 124 (by decide)).trans hz
    have st : ∀ (v : Bool) (h' : am_HI) (e : Value), fr [128, 129] hi h' → (v = true ↔ ((mf (fW z k) i).2 = -1 ∨ fW z k i < (mf (fW z k) i).2)) → AP M_X10_firstFor (0, 0) 68 [.ref 123, .int (nI (k + 1)), .int (mf (fW z k) i).1, .int (mf (fW z k) i).2, .int (e8 i), .int (fW z k i), e] [.int (bI v)] h' g Φ := by
      intro v h' e f' hv
      have ih' := ih h' f'
      rw [mf] at ih'
      cases v with
      | true =>
        rw [if_pos (hv.mp rfl)] at ih'
        refine s_X10_firstFor_68 rfl ?_
        refine s_X10_firstFor_70 ?_
        refine s_X10_firstFor_72 (fun h => absurd h (by decide)) (fun _ => ?_)
        refine s_X10_firstFor_75 ?_
        refine s_X10_firstFor_77 ?_
        refine s_X10_firstFor_81 rfl ?_
        refine s_X10_firstFor_82 ?_
        refine s_X10_firstFor_84 (fun h => absurd h (by decide)) (fun _ => ?_)
        refine s_X10_firstFor_87 ?_
        refine s_X10_firstFor_89 ?_
        refine s_X10_firstFor_93 rfl ?_
        refine s_X10_firstFor_94 rfl ?_
        refine s_X10_firstFor_97 ?_
        rw [e8_s]
        exact ih' _ _
      | false =>
        rw [if_neg (fun q => by cases hv.mpr q)] at ih'
        refine s_X10_firstFor_68 rfl ?_
        refine s_X10_firstFor_70 ?_
        refine s_X10_firstFor_72 (fun _ => ?_) (fun h => absurd (by decide) h)
        refine s_X10_firstFor_80 ?_
        refine s_X10_firstFor_81 rfl ?_
        refine s_X10_firstFor_82 ?_
        refine s_X10_firstFor_84 (fun _ => ?_) (fun h => absurd (by decide) h)
        refine s_X10_firstFor_92 ?_
        refine s_X10_firstFor_93 rfl ?_
        refine s_X10_firstFor_94 rfl ?_
        refine s_X10_firstFor_97 ?_
        rw [e8_s]
        exact ih' _ _
    refine s_X10_firstFor_8 ?_
    refine s_X10_firstFor_10 ?_
    refine s_X10_firstFor_12 (fun h => absurd h (by (rw [am_lt, e8_t (by omega), show (64 : Int32).toInt = 64 from rfl]; omega))) (fun _ => ?_)
    refine s_X10_firstFor_15 ?_
    refine s_X10_firstFor_16 ?_
    refine s_X10_firstFor_18 hI rfl (by decide) (Nat.le_of_ble_eq_true rfl) (m_begins hI (f := 51) (by decide)) ?_
    intro h5 ⟨g1, g2⟩
    refine s_X10_firstFor_21 ?_
    refine s_X10_firstFor_22 hI rfl (by decide) rfl (by decide) ?_
    refine s_X10_firstFor_25 ?_
    refine s_X10_firstFor_26 ?_
    refine s_X10_firstFor_27 ?_
    refine s_X10_firstFor_28 ?_
    have ez5 : h5 124 = z := (g1 124 (by decide)).trans ez
    refine s_X10_firstFor_30 hI rfl (by decide) (by decide) (nI_i1 k) (hk) ?_
    refine s_X10_firstFor_31 ?_
    refine s_X10_firstFor_32 ?_
    refine s_X10_firstFor_33 ?_
    refine s_X10_firstFor_34 hI rfl (by decide) rfl (by decide) ?_
    refine s_X10_firstFor_37 ?_
    have ez6 : am_up h5 128 k (e8 i) 124 = z := (up_k (by decide)).trans ez5
    have ew : ∀ q, q < 4 → am_up h5 128 k (e8 i) 128 q = upd (z0 z) k (-64 + 8 * nI i) q := fun q hq => by
      rw [up_c]
      by_cases he : q = k
      · rw [he, up_f, up_f]; rfl
      · rw [up_n he, up_n he, g2 q hq, ez]; rfl
    refine s_X10_firstFor_39 hI rfl (by decide) (by decide) (by decide : (_ : Int32) = nI 49) (by decide) ?_
    refine s_X10_firstFor_40 ?_
    refine s_X10_firstFor_41 hI rfl (by decide) rfl (by decide) ?_
    refine s_X10_firstFor_44 ?_
    refine s_X10_firstFor_46 hI rfl (by decide) (by decide) (by decide : (_ : Int32) = nI 50) (by decide) ?_
    rw [ez6, ok.1.2.2.1]
    refine s_X10_firstFor_47 hI rfl (by decide) (Nat.le_of_ble_eq_true rfl) (m_leaves hI ez6 (kd := 4) (d := zd z) (z 50) (by decide) ⟨hd.1, hd.2.1⟩ ok.1.1 ok.1.2.1) ?_
    intro h6 ⟨g3, g4⟩
    refine s_X10_firstFor_50 rfl ?_
    refine s_X10_firstFor_52 ?_
    refine s_X10_firstFor_53 ?_
    have es : sumv 4 (zd z) (am_up h5 128 k (e8 i) 128) z (z 50) (zc z) = fW z k i := Wt_sum hd.1 ew
    rw [es]
    have f6 : fr [128, 129] hi h6 := (h1.tr ((g1.up (by decide)).mono (by decide))).tr g3
    refine s_X10_firstFor_54 (fun hb1 => ?_) (fun hb1 => ?_)
    · refine s_X10_firstFor_63 ?_
      refine s_X10_firstFor_64 ?_
      exact st true _ _ f6 ⟨fun _ => Or.inl hb1, fun _ => rfl⟩
    · refine s_X10_firstFor_57 ?_
      refine s_X10_firstFor_59 ?_
      refine s_X10_firstFor_60 (fun hc => ?_) (fun hc => ?_)
      · refine s_X10_firstFor_67 ?_
        exact st false _ _ f6 ⟨fun q => (by cases q), fun q => absurd q (by rintro (q | q); exact hb1 q; exact Int32.not_lt.mpr hc q)⟩
      · refine s_X10_firstFor_63 ?_
        refine s_X10_firstFor_64 ?_
        exact st true _ _ f6 ⟨fun _ => Or.inr (Int32.not_le.mp hc), fun _ => rfl⟩
theorem m_firstOther {hi : am_HI} {g : am_G} (hI : am_Inv g) {z : Nat → Int32} (hz : hi 124 = z) (ok : OKz z) : am_Cr M_X10_firstOther [.ref 123] hi g (some (.int (zuf z))) (fun h => fr [128, 130] hi h) := by
  have h48 := ok.2.2.1
  refine am_crn (by decide) (Nat.le_of_ble_eq_true rfl) (fun Φ hΦ => ?_)
  show AP M_X10_firstOther _ 0 [.ref 123, jk, jk] [] _ g Φ
  refine s_X10_firstOther_0 ?_
  refine s_X10_firstOther_1 ?_
  refine s_X10_firstOther_2 hI rfl (by decide) (Nat.le_of_ble_eq_true rfl) (m_hears hI hz ok (-1)) ?_
  intro h5 ⟨g1, mh⟩
  refine s_X10_firstOther_5 rfl ?_
  refine s_X10_firstOther_6 ?_
  refine s_X10_firstOther_7 rfl ?_
  refine s_X10_firstOther_8 ?_
  refine s_X10_firstOther_9 hI rfl (by decide) rfl (by decide) ?_
  refine s_X10_firstOther_12 ?_
  have ez : h5 124 = z := (g1 124 (by decide)).trans hz
  refine s_X10_firstOther_14 hI rfl (by decide) (by decide) (by decide : (_ : Int32) = nI 56) (by decide) ?_
  refine s_X10_firstOther_15 ?_
  refine s_X10_firstOther_16 ?_
  refine s_X10_firstOther_17 rfl ?_
  rw [ez, ok.2.1]
  have key := am_for0 (n := zt z) (hi := h5) (fun _ h => h = h5) (fun i h => AP M_X10_firstOther (0, 0) 18 [.ref 123, .int (ffi (fun t => decide (¬ ear z (-1) t = z (123 + t))) (zt z - i) i), .int (nI (zt z - i) - 1)] [] h g Φ) rfl ?_ ?_
  · exact key
  · intro h9 e9
    obtain rfl := e9.symm
    rw [Nat.sub_self]
    refine s_X10_firstOther_18 ?_
    refine s_X10_firstOther_19 (fun _ => ?_) (fun h => absurd (by decide) h)
    refine s_X10_firstOther_52 ?_
    exact s_X10_firstOther_53 (hΦ _ (g1))
  · rintro i _ hi' rfl ih
    have e1 : zt z - i = (zt z - (i + 1)) + 1 := by omega
    have ih' := ih _ rfl
    rw [ffi] at ih'
    rw [e1, nI_i1]
    refine s_X10_firstOther_18 ?_
    refine s_X10_firstOther_19 (fun h => absurd h (nI_pos (by omega))) (fun _ => ?_)
    refine s_X10_firstOther_22 ?_
    refine s_X10_firstOther_23 hI rfl (by decide) rfl (by decide) ?_
    refine s_X10_firstOther_26 ?_
    refine s_X10_firstOther_27 hI rfl (by decide) (by decide) (rfl) (by omega) ?_
    refine s_X10_firstOther_28 ?_
    refine s_X10_firstOther_29 hI rfl (by decide) rfl (by decide) ?_
    refine s_X10_firstOther_32 ?_
    refine s_X10_firstOther_34 ?_
    refine s_X10_firstOther_35 ?_
    rw [show 123 + nI (zt z - (i + 1)) = nI (123 + (zt z - (i + 1))) from nI_add 123 _]
    refine s_X10_firstOther_36 hI rfl (by decide) (by decide) (rfl) (by omega) ?_
    rw [mh _ (by omega), ez]
    refine s_X10_firstOther_37 (fun hq => ?_) (fun hq => ?_)
    · refine s_X10_firstOther_44 ?_
      refine s_X10_firstOther_45 rfl ?_
      refine s_X10_firstOther_46 rfl ?_
      refine s_X10_firstOther_49 ?_
      rw [decide_eq_true hq, if_pos rfl] at ih'
      rw [show nI (zt z - (i + 1)) + -1 = nI (zt z - (i + 1)) - 1 from (Int32.sub_eq_add_neg _ _).symm]
      exact ih'
    · refine s_X10_firstOther_40 ?_
      refine s_X10_firstOther_41 ?_
      refine s_X10_firstOther_45 rfl ?_
      refine s_X10_firstOther_46 rfl ?_
      refine s_X10_firstOther_49 ?_
      rw [decide_eq_false (fun e => e hq), if_neg (fun e => by cases e)] at ih'
      rw [show nI (zt z - (i + 1)) + -1 = nI (zt z - (i + 1)) - 1 from (Int32.sub_eq_add_neg _ _).symm]
      exact ih'
def mw (f : Nat → Int32) : Nat → Int32 × Int32
  | 0 => (-1, 0)
  | n + 1 => if (mw f n).1 = -1 ∨ (mw f n).2 < f n then (nI n, f n) else mw f n
theorem mw_wst {f : Nat → Int32} (hf : ∀ i, 0 ≤ f i) : ∀ n, n < 1000 → (mw f (n + 1) = wst f (n + 1) ∧ ¬ (mw f (n + 1)).1 = -1) := by
  intro n
  induction n with
  | zero => intro _; rw [mw, wst, if_pos (show (mw f 0).1 = -1 ∨ (mw f 0).2 < f 0 from Or.inl rfl), if_pos (by rw [am_lt]; have := hf 0; rw [am_le] at this; rw [show ((wst f 0).2).toInt = -1 from rfl]; rw [show (0 : Int32).toInt = 0 from rfl] at this; omega)]; exact ⟨rfl, ne_m1 (by decide)⟩
  | succ n ih =>
    intro hn
    obtain ⟨h1, h2⟩ := ih (by omega)
    by_cases hc : (wst f (n + 1)).2 < f (n + 1)
    · rw [mw, wst, if_pos (Or.inr (by rw [h1]; exact hc)), if_pos hc]; exact ⟨rfl, ne_m1 (by omega)⟩
    · have e : mw f (n + 1 + 1) = mw f (n + 1) := by rw [mw.eq_2, if_neg (by rintro (q | q); exact h2 q; rw [h1] at q; exact hc q)]
      have e2 : wst f (n + 1 + 1) = wst f (n + 1) := by rw [wst.eq_2, if_neg hc]
      rw [e, e2]
      exact ⟨h1, h2⟩
theorem unl_pos (z : Nat → Int32) (more : Int32) {n : Nat} (h : n ≤ 48) : 0 ≤ unl z more n := by
  rw [am_le]
  exact (isum_rng (B := 1) n (fun i _ => by split <;> decide) (by omega)).1
theorem m_mostHarm {hi : am_HI} {g : am_G} (hI : am_Inv g) {z : Nat → Int32} (hz : hi 124 = z) (ok : OKz z) : am_Cr M_X10_mostHarm [.ref 123] hi g (some (.int (wst (zharm z) (zt z)).1)) (fun h => fr [128, 130] hi h) := by
  have h48 := ok.2.2.1
  have hw : (mw (zharm z) (zt z)).1 = (wst (zharm z) (zt z)).1 := by
    by_cases h0 : zt z = 0
    · rw [h0]; rfl
    · have := (mw_wst (f := zharm z) (fun i => unl_pos z _ h48) (zt z - 1) (by omega)).1
      rw [show zt z - 1 + 1 = zt z by omega] at this
      rw [this]
  rw [← hw]
  refine am_crn (by decide) (Nat.le_of_ble_eq_true rfl) (fun Φ hΦ => ?_)
  show AP M_X10_mostHarm _ 0 [.ref 123, jk, jk, jk, jk, jk] [] _ g Φ
  refine s_X10_mostHarm_0 ?_
  refine s_X10_mostHarm_1 rfl ?_
  refine s_X10_mostHarm_2 ?_
  refine s_X10_mostHarm_3 rfl ?_
  refine s_X10_mostHarm_4 ?_
  refine s_X10_mostHarm_5 rfl ?_
  have key := am_for0 (n := zt z) (hi := hi) (fun _ h => fr [128, 130] hi h) (fun i h => ∀ e4 e5 : Value, AP M_X10_mostHarm (0, 0) 6 [.ref 123, .int (mw (zharm z) i).1, .int (mw (zharm z) i).2, .int (nI i), e4, e5] [] h g Φ) fr.rfl ?_ ?_
  · exact key _ _
  · intro h h1 e4 e5
    refine s_X10_mostHarm_6 ?_
    refine s_X10_mostHarm_7 ?_
    refine s_X10_mostHarm_8 hI rfl (by decide) rfl (by decide) ?_
    refine s_X10_mostHarm_11 ?_
    refine s_X10_mostHarm_13 hI rfl (by decide) (by decide) (by decide : (_ : Int32) = nI 56) (by decide) ?_
    rw [h1 124 (by decide), hz, ok.2.1]
    refine s_X10_mostHarm_14 (fun _ => ?_) (fun h => absurd (nI_le (Nat.le_refl _) (by omega)) h)
    refine s_X10_mostHarm_71 ?_
    exact s_X10_mostHarm_72 (hΦ _ (h1))
  · intro i h hi' h1 ih e4 e5
    have ez : h 124 = z := (h1 124 (by decide)).trans hz
    have st : ∀ (v : Bool) (h' : am_HI) (e : Value), fr [128, 130] hi h' → (v = true ↔ ((mw (zharm z) i).1 = -1 ∨ (mw (zharm z) i).2 < zharm z i)) → AP M_X10_mostHarm (0, 0) 40 [.ref 123, .int (mw (zharm z) i).1, .int (mw (zharm z) i).2, .int (nI i), .int (zharm z i), e] [.int (bI v)] h' g Φ := by
      intro v h' e f' hv
      have ih' := ih h' f'
      rw [mw] at ih'
      cases v with
      | true =>
        rw [if_pos (hv.mp rfl)] at ih'
        refine s_X10_mostHarm_40 rfl ?_
        refine s_X10_mostHarm_42 ?_
        refine s_X10_mostHarm_44 (fun h => absurd h (by decide)) (fun _ => ?_)
        refine s_X10_mostHarm_47 ?_
        refine s_X10_mostHarm_48 ?_
        refine s_X10_mostHarm_52 rfl ?_
        refine s_X10_mostHarm_53 ?_
        refine s_X10_mostHarm_55 (fun h => absurd h (by decide)) (fun _ => ?_)
        refine s_X10_mostHarm_58 ?_
        refine s_X10_mostHarm_60 ?_
        refine s_X10_mostHarm_64 rfl ?_
        refine s_X10_mostHarm_65 rfl ?_
        refine s_X10_mostHarm_68 ?_
        rw [nI_1]
        exact ih' _ _
      | false =>
        rw [if_neg (fun q => by cases hv.mpr q)] at ih'
        refine s_X10_mostHarm_40 rfl ?_
        refine s_X10_mostHarm_42 ?_
        refine s_X10_mostHarm_44 (fun _ => ?_) (fun h => absurd (by decide) h)
        refine s_X10_mostHarm_51 ?_
        refine s_X10_mostHarm_52 rfl ?_
        refine s_X10_mostHarm_53 ?_
        refine s_X10_mostHarm_55 (fun _ => ?_) (fun h => absurd (by decide) h)
        refine s_X10_mostHarm_63 ?_
        refine s_X10_mostHarm_64 rfl ?_
        refine s_X10_mostHarm_65 rfl ?_
        refine s_X10_mostHarm_68 ?_
        rw [nI_1]
        exact ih' _ _
    refine s_X10_mostHarm_6 ?_
    refine s_X10_mostHarm_7 ?_
    refine s_X10_mostHarm_8 hI rfl (by decide) rfl (by decide) ?_
    refine s_X10_mostHarm_11 ?_
    refine s_X10_mostHarm_13 hI rfl (by decide) (by decide) (by decide : (_ : Int32) = nI 56) (by decide) ?_
    rw [ez, ok.2.1]
    refine s_X10_mostHarm_14 (fun h => absurd h (nI_ge hi' (by omega))) (fun _ => ?_)
    refine s_X10_mostHarm_17 ?_
    refine s_X10_mostHarm_18 ?_
    refine s_X10_mostHarm_19 hI rfl (by decide) (Nat.le_of_ble_eq_true rfl) (m_hears hI ez ok (nI i)) ?_
    intro h6 ⟨g3, g4⟩
    refine s_X10_mostHarm_22 rfl ?_
    refine s_X10_mostHarm_24 ?_
    refine s_X10_mostHarm_25 ?_
    have f6 : fr [128, 130] hi h6 := h1.tr g3
    refine s_X10_mostHarm_26 (fun hb1 => ?_) (fun hb1 => ?_)
    · refine s_X10_mostHarm_35 ?_
      refine s_X10_mostHarm_36 ?_
      exact st true _ _ f6 ⟨fun _ => Or.inl hb1, fun _ => rfl⟩
    · refine s_X10_mostHarm_29 ?_
      refine s_X10_mostHarm_31 ?_
      refine s_X10_mostHarm_32 (fun hc => ?_) (fun hc => ?_)
      · refine s_X10_mostHarm_39 ?_
        exact st false _ _ f6 ⟨fun q => (by cases q), fun q => absurd q (by rintro (q | q); exact hb1 q; exact Int32.not_lt.mpr hc q)⟩
      · refine s_X10_mostHarm_35 ?_
        refine s_X10_mostHarm_36 ?_
        exact st true _ _ f6 ⟨fun _ => Or.inr (Int32.not_le.mp hc), fun _ => rfl⟩
