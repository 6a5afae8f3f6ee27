/-! ===== the Study, on: what it finds ===== -/
theorem c_allows {hi : am_HI} {g : am_G} (hI : am_Inv g) (x : Int32) : am_Cr M_X6_allows [.ref 2, .int x] hi g (some (.int (bI (alI (hi 2 6) x)))) (fun h => h = hi) := by
  refine am_crn (by decide) (Nat.le_of_ble_eq_true rfl) (fun Φ hΦ => ?_)
  show AP M_X6_allows _ 0 [.ref 2, .int x] [] _ g Φ
  refine s_X6_allows_0 ?_
  refine s_X6_allows_1 hI rfl (by decide) ?_
  refine s_X6_allows_4 ?_
  refine s_X6_allows_5 ?_
  refine s_X6_allows_6 ?_
  refine s_X6_allows_7 ?_
  refine s_X6_allows_8 ?_
  refine s_X6_allows_9 (fun h => ?_) (fun h => ?_)
  · refine s_X6_allows_16 ?_
    refine s_X6_allows_17 (by first | exact Or.inl rfl | exact Or.inr rfl | exact bI_01 _) ?_
    rw [show alI (hi 2 6) x = false from decide_eq_false h] at hΦ
    exact hΦ _ rfl
  · refine s_X6_allows_12 ?_
    refine s_X6_allows_13 ?_
    refine s_X6_allows_17 (by first | exact Or.inl rfl | exact Or.inr rfl | exact bI_01 _) ?_
    rw [show alI (hi 2 6) x = true from decide_eq_true h] at hΦ
    exact hΦ _ rfl
/-- how often a weight rose, less how often it fell, ahead of a sample -/
def rises (z : Nat → Int32) (k : Nat) : Nat → Int32
  | 0 => 0
  | t + 1 => if zL z 4 t = 0 ∨ sm z t k = 0 then rises z k t else if (0 < zL z 4 t) = (0 < sm z t k) then rises z k t + 1 else rises z k t + -1
theorem rises_w (z : Nat → Int32) {k : Nat} (hk : k < 4) : ∀ t, z (51 + k) + z 50 * rises z (k + 1) t = zW z t k := by
  intro t
  induction t with
  | zero => rw [rises, Int32.mul_zero, Int32.add_zero]; rfl
  | succ t ih =>
    have e : zW z (t + 1) k = ad1 (z 50) (zL z 4 t) (sm z t (k + 1)) (zW z t k) := by
      show adw (zW z t) z (z 50) t k = _
      unfold adw
      rw [if_pos hk]
      rfl
    rw [e, rises, ad1, ← ih]
    by_cases h1 : zL z 4 t = 0 ∨ sm z t (k + 1) = 0
    · rw [if_pos h1, if_pos h1]
    · rw [if_neg h1, if_neg h1]
      by_cases h2 : (0 < zL z 4 t) = (0 < sm z t (k + 1))
      · rw [if_pos h2, if_pos h2.symm, Int32.mul_add, Int32.mul_one, Int32.add_assoc]
      · rw [if_neg h2, if_neg (fun e => h2 e.symm), Int32.mul_add, Int32.mul_neg, Int32.mul_one, Int32.add_assoc]
theorem c_countRises {hi : am_HI} {g : am_G} (hI : am_Inv g) {z : Nat → Int32} (hz : ZS hi 2 z) (ok : OKz z) (fo : FO hi z (zc z + 1)) {k n : Nat} (hk : 1 ≤ k) (hk4 : k ≤ 4) (hn : n ≤ zc z) : am_Cr M_X7_countRises [.ref 1, .int (nI k), .int (nI n)] hi g (some (.int (rises z k n))) (fun h => h = hi) := by
  obtain ⟨q1, q2, q3⟩ := hz.so ok
  have hc48 := ok.1.2.1
  refine am_crn (by decide) (Nat.le_of_ble_eq_true rfl) (fun Φ hΦ => ?_)
  show AP M_X7_countRises _ 0 [.ref 1, .int (nI k), .int (nI n), jk, jk, jk, jk] [] _ g Φ
  refine s_X7_countRises_0 ?_
  refine s_X7_countRises_1 rfl ?_
  refine s_X7_countRises_2 ?_
  refine s_X7_countRises_3 rfl ?_
  have key := am_for0 (n := n) (hi := hi) (fun _ h => h = hi) (fun t h => ∀ e1 e2 : Value, AP M_X7_countRises (0, 0) 5 [.ref 1, .int (nI k), .int (nI n), .int (rises z k t), .int (nI t), e1, e2] [] h g Φ) rfl ?_ ?_
  · exact key _ _
  · intro h9 e9 e1 e2
    obtain rfl := e9.symm
    refine s_X7_countRises_5 ?_
    refine s_X7_countRises_7 ?_
    refine s_X7_countRises_8 (fun _ => ?_) (fun h => absurd ((nI_le (by omega) (by omega))) h)
    refine s_X7_countRises_67 ?_
    exact s_X7_countRises_68 (hΦ _ rfl)
  · intro t h9 ht e9 ih e1 e2
    obtain rfl := e9.symm
    have e := rises.eq_2 z k t
    refine s_X7_countRises_5 ?_
    refine s_X7_countRises_7 ?_
    refine s_X7_countRises_8 (fun h => absurd h ((nI_ge (by omega) (by omega)))) (fun _ => ?_)
    refine s_X7_countRises_11 ?_
    refine s_X7_countRises_12 ?_
    refine s_X7_countRises_13 ?_
    refine s_X7_countRises_15 hI rfl (by decide) (Nat.le_of_ble_eq_true rfl) (c_leftZ hI (kd := 4) (t := t) hz.1 fo (by decide) (by omega) (by omega)) ?_
    intro h9 e9; rw [e9]; clear e9 h9
    refine s_X7_countRises_18 rfl ?_
    refine s_X7_countRises_20 ?_
    refine s_X7_countRises_21 hI rfl (by decide) rfl (by decide) ?_
    refine s_X7_countRises_24 ?_
    refine s_X7_countRises_26 ?_
    refine s_X7_countRises_27 ?_
    refine s_X7_countRises_28 hI rfl (by decide) (Nat.le_of_ble_eq_true rfl) (c_soundSub hI (z := z) (t := t) (k := k) hz.1 q1 hc48 (by omega) hk (by omega)) ?_
    intro h9 e9; rw [e9]; clear e9 h9
    refine s_X7_countRises_31 rfl ?_
    refine s_X7_countRises_33 ?_
    refine s_X7_countRises_35 (fun hl => ?_) (fun hl => ?_)
    · refine s_X7_countRises_61 rfl ?_
      refine s_X7_countRises_64 ?_
      rw [nI_1]
      rw [if_pos (Or.inl hl)] at e
      rw [← e]
      exact ih _ rfl _ _
    · refine s_X7_countRises_38 ?_
      refine s_X7_countRises_40 (fun hv => ?_) (fun hv => ?_)
      · refine s_X7_countRises_61 rfl ?_
        refine s_X7_countRises_64 ?_
        rw [nI_1]
        rw [if_pos (Or.inr hv)] at e
        rw [← e]
        exact ih _ rfl _ _
      · refine s_X7_countRises_43 ?_
        refine s_X7_countRises_44 ?_
        refine s_X7_countRises_46 ?_
        rw [if_neg (by rintro (z | z); exact hl z; exact hv z)] at e
        refine s_X7_countRises_48 hI (Nat.le_of_ble_eq_true rfl) (c_sameSign _ _) ?_
        intro h9 e9; rw [e9]; clear e9 h9
        refine s_X7_countRises_51 (fun hs => ?_) (fun hs => ?_)
        · refine s_X7_countRises_58 ?_
          refine s_X7_countRises_59 ?_
          refine s_X7_countRises_60 rfl ?_
          refine s_X7_countRises_61 rfl ?_
          refine s_X7_countRises_64 ?_
          rw [nI_1]
          rw [if_neg (bI_d0.mp hs)] at e
          rw [← e]
          exact ih _ rfl _ _
        · refine s_X7_countRises_54 ?_
          refine s_X7_countRises_55 ?_
          refine s_X7_countRises_59 ?_
          refine s_X7_countRises_60 rfl ?_
          refine s_X7_countRises_61 rfl ?_
          refine s_X7_countRises_64 ?_
          rw [nI_1]
          rw [if_pos (Decidable.not_not.mp (fun x => hs (bI_d0.mpr x)))] at e
          rw [← e]
          exact ih _ rfl _ _
theorem bl_lt (f : Nat → Int32) (n : Nat) : (bl f n).1 ≤ n - 1 := by
  induction n with
  | zero => exact Nat.le_refl _
  | succ n ih =>
    rw [bl]
    split
    · exact Nat.le_refl _
    · omega
/-- the sums by delays, from 1 on; by speeds; by a first weight, from -64 on in eights -/
def fD (z : Nat → Int32) (j : Nat) : Int32 := sumv 3 (j + 1) (z0 z) z (z 50) (zc z)
def fS (z : Nat → Int32) (j : Nat) : Int32 := sumv 4 (zd z) (z0 z) z (nI j) (zc z)
def fW (z : Nat → Int32) (k j : Nat) : Int32 := sumv 4 (zd z) (upd (z0 z) k (-64 + 8 * nI j)) z (z 50) (zc z)
theorem Wt_sum {kd d n : Nat} {w w' z : Nat → Int32} {sp : Int32} (hd : 1 ≤ d) (hw : ∀ k, k < 4 → w k = w' k) : sumv kd d w z sp n = sumv kd d w' z sp n :=
  isum_congr _ (fun t _ => by
    show absI (z t - fore kd d (Wt w z sp t) z t) = absI (z t - fore kd d (Wt w' z sp t) z t)
    rw [fore_congr hd (Wt_congr hw t (fun _ _ => rfl)) (fun _ _ => rfl)])
theorem ZS.m3 {hi h : am_HI} {z : Nat → Int32} (hz : ZS hi 2 z) (a : fr [11, 12, 13] hi h) : ZS h 2 z := hz.mv (a 2 (by decide)) (a 3 (by decide)) (a 4 (by decide))
theorem c_findDelay {hi : am_HI} {g : am_G} (hI : am_Inv g) {z : Nat → Int32} (hz : ZS hi 2 z) (ok : OKz z) : am_Cr M_X7_findDelay [.ref 1] hi g (some (.int (nI (amin (fD z) 11 + 1)))) (fun h => fr [11, 12, 13] hi h) := by
  have hc48 := ok.1.2.1
  have hm : ∀ i, fD z i < 1000000 := fun i => lt_mil (sumv_rng hc48 ok.1.2.2.2.2.2.1).2
  have hb := bl_amin (f := fD z) 11 (fun i _ => hm i)
  refine am_crn (by decide) (Nat.le_of_ble_eq_true rfl) (fun Φ hΦ => ?_)
  show AP M_X7_findDelay _ 0 [.ref 1, jk, jk, jk, jk] [] _ g Φ
  refine s_X7_findDelay_0 ?_
  refine s_X7_findDelay_1 rfl ?_
  refine s_X7_findDelay_2 ?_
  refine s_X7_findDelay_4 rfl ?_
  refine s_X7_findDelay_5 ?_
  refine s_X7_findDelay_6 rfl ?_
  have key := am_for0 (n := 12) (hi := hi) (fun _ h => fr [11, 12, 13] hi h) (fun t h => ∀ e : Value, AP M_X7_findDelay (0, 0) 7 [.ref 1, .int (nI ((bl (fD z) t).1 + 1)), .int (bl (fD z) t).2, .int (nI (t + 1)), e] [] h g Φ) fr.rfl ?_ ?_
  · exact key _
  · intro h h1 e
    rw [hb]
    refine s_X7_findDelay_7 ?_
    refine s_X7_findDelay_8 ?_
    refine s_X7_findDelay_10 (fun _ => ?_) (fun h => absurd ((nI_lt (a := 12) (b := 12 + 1) (by decide) (by decide))) h)
    refine s_X7_findDelay_52 ?_
    exact s_X7_findDelay_53 (hΦ _ (h1))
  · intro t h ht h1 ih e
    have hz1 := hz.m3 h1
    have e2 : h 2 = hi 2 := h1 2 (by decide)
    have e4 : ∀ k, k < 4 → h 4 k = z0 z k := hz1.2.2.2.2.1
    have es : sumv 3 (t + 1) (h 4) z (z 50) (zc z) = fD z t := Wt_sum (by omega) e4
    have eb := bl.eq_2 (fD z) t
    refine s_X7_findDelay_7 ?_
    refine s_X7_findDelay_8 ?_
    refine s_X7_findDelay_10 (fun h => absurd h ((nI_nlt (a := 12) (b := t + 1) (by omega) (by decide)))) (fun _ => ?_)
    refine s_X7_findDelay_13 ?_
    refine s_X7_findDelay_14 ?_
    refine s_X7_findDelay_15 ?_
    refine s_X7_findDelay_16 ?_
    refine s_X7_findDelay_17 hI rfl (by decide) rfl (by decide) ?_
    refine s_X7_findDelay_20 hI rfl (by decide) ?_
    refine s_X7_findDelay_23 ?_
    refine s_X7_findDelay_24 hI rfl (by decide) rfl (by decide) ?_
    refine s_X7_findDelay_27 hI rfl (by decide) rfl (by decide) ?_
    rw [e2, (hz.so ok).2.2]
    refine s_X7_findDelay_30 hI rfl (by decide) (Nat.le_of_ble_eq_true rfl) (c_sumIf hI hz1 ok (kd := 3) (d := t + 1) (z 50) (by decide) (by omega) (Or.inl rfl)) ?_
    intro h5 g1
    refine s_X7_findDelay_33 rfl ?_
    refine s_X7_findDelay_35 ?_
    refine s_X7_findDelay_37 ?_
    rw [es]
    refine s_X7_findDelay_38 (fun hh => ?_) (fun hh => ?_)
    · refine s_X7_findDelay_46 rfl ?_
      refine s_X7_findDelay_49 ?_
      rw [nI_1]
      rw [if_neg (Int32.not_lt.mpr hh)] at eb
      rw [← eb]
      exact ih _ (h1.tr g1) _
    · refine s_X7_findDelay_41 ?_
      refine s_X7_findDelay_43 rfl ?_
      refine s_X7_findDelay_44 ?_
      refine s_X7_findDelay_45 rfl ?_
      refine s_X7_findDelay_46 rfl ?_
      refine s_X7_findDelay_49 ?_
      rw [nI_1]
      rw [if_pos (Int32.not_le.mp hh)] at eb
      have ih' := ih _ (h1.tr g1)
      rw [eb] at ih'
      exact ih' _
theorem c_findSpeed {hi : am_HI} {g : am_G} (hI : am_Inv g) {z : Nat → Int32} (hz : ZS hi 2 z) (ok : OKz z) : am_Cr M_X7_findSpeed [.ref 1] hi g (some (.int (nI (amin (fS z) 3)))) (fun h => fr [11, 12, 13] hi h) := by
  have hc48 := ok.1.2.1
  have hm : ∀ i, fS z i < 1000000 := fun i => lt_mil (sumv_rng hc48 ok.1.2.2.2.2.2.1).2
  have hb := bl_amin (f := fS z) 3 (fun i _ => hm i)
  refine am_crn (by decide) (Nat.le_of_ble_eq_true rfl) (fun Φ hΦ => ?_)
  show AP M_X7_findSpeed _ 0 [.ref 1, jk, jk, jk, jk] [] _ g Φ
  refine s_X7_findSpeed_0 ?_
  refine s_X7_findSpeed_1 rfl ?_
  refine s_X7_findSpeed_2 ?_
  refine s_X7_findSpeed_4 rfl ?_
  refine s_X7_findSpeed_5 ?_
  refine s_X7_findSpeed_6 rfl ?_
  have key := am_for0 (n := 4) (hi := hi) (fun _ h => fr [11, 12, 13] hi h) (fun t h => ∀ e : Value, AP M_X7_findSpeed (0, 0) 7 [.ref 1, .int (nI (bl (fS z) t).1), .int (bl (fS z) t).2, .int (nI t), e] [] h g Φ) fr.rfl ?_ ?_
  · exact key _
  · intro h h1 e
    rw [hb]
    refine s_X7_findSpeed_7 ?_
    refine s_X7_findSpeed_8 ?_
    refine s_X7_findSpeed_9 (fun _ => ?_) (fun h => absurd ((nI_lt (a := 3) (b := 4) (by decide) (by decide))) h)
    refine s_X7_findSpeed_51 ?_
    exact s_X7_findSpeed_52 (hΦ _ (h1))
  · intro t h ht h1 ih e
    have hz1 := hz.m3 h1
    have e2 : h 2 = hi 2 := h1 2 (by decide)
    have e4 : ∀ k, k < 4 → h 4 k = z0 z k := hz1.2.2.2.2.1
    have es : sumv 4 (zd z) (h 4) z (nI t) (zc z) = fS z t := Wt_sum ok.1.2.2.2.1 e4
    have eb := bl.eq_2 (fS z) t
    refine s_X7_findSpeed_7 ?_
    refine s_X7_findSpeed_8 ?_
    refine s_X7_findSpeed_9 (fun h => absurd h ((nI_nlt (a := 3) (b := t) (by omega) (by decide)))) (fun _ => ?_)
    refine s_X7_findSpeed_12 ?_
    refine s_X7_findSpeed_13 ?_
    refine s_X7_findSpeed_14 ?_
    refine s_X7_findSpeed_15 hI rfl (by decide) rfl (by decide) ?_
    refine s_X7_findSpeed_18 hI rfl (by decide) ?_
    refine s_X7_findSpeed_21 ?_
    refine s_X7_findSpeed_22 ?_
    refine s_X7_findSpeed_23 hI rfl (by decide) rfl (by decide) ?_
    refine s_X7_findSpeed_26 hI rfl (by decide) rfl (by decide) ?_
    rw [e2, (hz.so ok).2.1]
    refine s_X7_findSpeed_29 hI rfl (by decide) (Nat.le_of_ble_eq_true rfl) (c_sumIf hI hz1 ok (kd := 4) (d := zd z) (nI t) (by decide) ⟨ok.1.2.2.2.1, ok.1.2.2.2.2.1⟩ (Or.inl rfl)) ?_
    intro h5 g1
    refine s_X7_findSpeed_32 rfl ?_
    refine s_X7_findSpeed_34 ?_
    refine s_X7_findSpeed_36 ?_
    rw [es]
    refine s_X7_findSpeed_37 (fun hh => ?_) (fun hh => ?_)
    · refine s_X7_findSpeed_45 rfl ?_
      refine s_X7_findSpeed_48 ?_
      rw [nI_1]
      rw [if_neg (Int32.not_lt.mpr hh)] at eb
      rw [← eb]
      exact ih _ (h1.tr g1) _
    · refine s_X7_findSpeed_40 ?_
      refine s_X7_findSpeed_42 rfl ?_
      refine s_X7_findSpeed_43 ?_
      refine s_X7_findSpeed_44 rfl ?_
      refine s_X7_findSpeed_45 rfl ?_
      refine s_X7_findSpeed_48 ?_
      rw [nI_1]
      rw [if_pos (Int32.not_le.mp hh)] at eb
      have ih' := ih _ (h1.tr g1)
      rw [eb] at ih'
      exact ih' _
/-- the eighths of a first weight -/
def e8 (j : Nat) : Int32 := -64 + 8 * nI j
theorem e8_s (j : Nat) : e8 j + 8 = e8 (j + 1) := by
  unfold e8
  rw [nI_succ, Int32.mul_add, Int32.add_assoc]
  rfl
theorem e8_t {j : Nat} (h : j ≤ 17) : (e8 j).toInt = -64 + 8 * (j : Int) := by
  have e1 : (8 * nI j).toInt = 8 * (j : Int) := by
    have e8 : (8 : Int32).toInt = 8 := rfl
    rw [i_mul (by rw [e8, am_nI (by omega)]; omega) (by rw [e8, am_nI (by omega)]; omega), e8, am_nI (by omega)]
  have e2 : (-64 : Int32).toInt = -64 := rfl
  unfold e8
  rw [i_add (by rw [e1, e2]; omega) (by rw [e1, e2]; omega), e1, e2]
theorem c_findFirst {hi : am_HI} {g : am_G} (hI : am_Inv g) {z : Nat → Int32} (hz : ZS hi 2 z) (ok : OKz z) {k : Nat} (hk : k < 4) : am_Cr M_X7_findFirst [.ref 1, .int (nI (k + 1))] hi g (some (.int (e8 (amin (fW z k) 16)))) (fun h => fr [11, 12, 13, 14] hi h) := by
  have hc48 := ok.1.2.1
  have hm : ∀ i, fW z k i < 1000000 := fun i => lt_mil (sumv_rng hc48 ok.1.2.2.2.2.2.1).2
  have hb := bl_amin (f := fW z k) 16 (fun i _ => hm i)
  refine am_crn (by decide) (Nat.le_of_ble_eq_true rfl) (fun Φ hΦ => ?_)
  show AP M_X7_findFirst _ 0 [.ref 1, .int (nI (k + 1)), jk, jk, jk, jk] [] _ g Φ
  refine s_X7_findFirst_0 ?_
  refine s_X7_findFirst_1 hI rfl (by decide) rfl (by decide) ?_
  refine s_X7_findFirst_4 hI rfl (by decide) rfl (by decide) ?_
  refine s_X7_findFirst_7 ?_
  refine s_X7_findFirst_8 ?_
  refine s_X7_findFirst_9 hI rfl (by decide) rfl (by decide) ?_
  refine s_X7_findFirst_12 ?_
  refine s_X7_findFirst_13 ?_
  refine s_X7_findFirst_14 hI rfl rfl (by decide) (by decide) (by decide) (Nat.le_of_ble_eq_true rfl) ?_
  refine s_X7_findFirst_17 ?_
  refine s_X7_findFirst_19 rfl ?_
  refine s_X7_findFirst_20 ?_
  refine s_X7_findFirst_22 rfl ?_
  refine s_X7_findFirst_23 ?_
  refine s_X7_findFirst_25 rfl ?_
  have key := am_for0 (n := 17) (hi := am_cp hi 4 14 4) (fun _ h => fr [11, 12, 13, 14] hi h ∧ ∀ i, i < 4 → i ≠ k → h 14 i = z0 z i) (fun t h => ∀ e : Value, AP M_X7_findFirst (0, 0) 27 [.ref 1, .int (nI (k + 1)), .int (e8 (bl (fW z k) t).1), .int (bl (fW z k) t).2, .int (e8 t), e] [] h g Φ) ⟨fr.rfl.cp (by decide), fun i hi4 _ => by rw [cp_c, if_pos hi4]; exact hz.2.2.2.2.1 i hi4⟩ ?_ ?_
  · exact key _
  · intro h ⟨h1, h2⟩ e
    rw [hb]
    refine s_X7_findFirst_27 ?_
    refine s_X7_findFirst_29 ?_
    refine s_X7_findFirst_31 (fun _ => ?_) (fun h => absurd ((by rw [am_lt, e8_t (by decide)]; decide)) h)
    refine s_X7_findFirst_87 ?_
    exact s_X7_findFirst_88 (hΦ _ (h1))
  · intro t h ht ⟨h1, h2⟩ ih e
    have e2 : h 2 = hi 2 := h1 2 (by decide)
    have hz1 : ZS h 2 z := hz.mv (h1 2 (by decide)) (h1 3 (by decide)) (h1 4 (by decide))
    have hz2 : ZS (am_up h 14 k (e8 t)) 2 z := hz1.mv (up_k (by decide)) (up_k (by decide)) (up_k (by decide))
    have es : sumv 4 (zd z) (am_up h 14 k (e8 t) 14) z (z 50) (zc z) = fW z k t := Wt_sum ok.1.2.2.2.1 (fun i hi4 => by
      rw [up_c]
      by_cases he : i = k
      · rw [he, up_f, up_f]; rfl
      · rw [up_n he, up_n he]; exact h2 i hi4 he)
    have eb := bl.eq_2 (fW z k) t
    refine s_X7_findFirst_27 ?_
    refine s_X7_findFirst_29 ?_
    refine s_X7_findFirst_31 (fun h => absurd h ((by rw [am_lt, e8_t (by omega), show (64 : Int32).toInt = 64 from rfl]; omega))) (fun _ => ?_)
    refine s_X7_findFirst_34 ?_
    refine s_X7_findFirst_35 hI rfl (by decide) rfl (by decide) ?_
    refine s_X7_findFirst_38 ?_
    refine s_X7_findFirst_39 ?_
    refine s_X7_findFirst_40 ?_
    refine s_X7_findFirst_41 ?_
    refine s_X7_findFirst_43 hI rfl (by decide) (by decide) (nI_i1 k) (hk) ?_
    refine s_X7_findFirst_44 ?_
    refine s_X7_findFirst_45 ?_
    refine s_X7_findFirst_46 ?_
    refine s_X7_findFirst_47 hI rfl (by decide) rfl (by decide) ?_
    refine s_X7_findFirst_50 hI rfl (by decide) ?_
    refine s_X7_findFirst_53 ?_
    refine s_X7_findFirst_54 hI rfl (by decide) rfl (by decide) ?_
    refine s_X7_findFirst_57 hI rfl (by decide) ?_
    refine s_X7_findFirst_60 ?_
    refine s_X7_findFirst_61 hI rfl (by decide) rfl (by decide) ?_
    rw [up_k (by decide), e2, (hz.so ok).2.1, (hz.so ok).2.2]
    refine s_X7_findFirst_64 hI rfl (by decide) (Nat.le_of_ble_eq_true rfl) (c_sumIf hI hz2 ok (kd := 4) (d := zd z) (z 50) (by decide) ⟨ok.1.2.2.2.1, ok.1.2.2.2.2.1⟩ (Or.inr rfl)) ?_
    intro h5 g1
    refine s_X7_findFirst_67 rfl ?_
    refine s_X7_findFirst_69 ?_
    refine s_X7_findFirst_71 ?_
    rw [es]
    have st : fr [11, 12, 13, 14] hi h5 ∧ ∀ i, i < 4 → i ≠ k → h5 14 i = z0 z i := ⟨(h1.up (by decide)).tr (g1.mono (by decide)), fun i hi4 hne => by rw [g1 14 (by decide), up_c, up_n hne]; exact h2 i hi4 hne⟩
    refine s_X7_findFirst_72 (fun hh => ?_) (fun hh => ?_)
    · refine s_X7_findFirst_81 rfl ?_
      refine s_X7_findFirst_84 ?_
      rw [e8_s]
      rw [if_neg (Int32.not_lt.mpr hh)] at eb
      rw [← eb]
      exact ih _ st _
    · refine s_X7_findFirst_75 ?_
      refine s_X7_findFirst_77 rfl ?_
      refine s_X7_findFirst_78 ?_
      refine s_X7_findFirst_80 rfl ?_
      refine s_X7_findFirst_81 rfl ?_
      refine s_X7_findFirst_84 ?_
      rw [e8_s]
      rw [if_pos (Int32.not_le.mp hh)] at eb
      have ih' := ih _ st
      rw [eb] at ih'
      exact ih' _
theorem c_countBits {hi : am_HI} {g : am_G} (hI : am_Inv g) {z : Nat → Int32} (hz : ZS hi 2 z) (ok : OKz z) (fo : FO hi z (zc z + 1)) {b kd p : Nat} (hb : b < 6) (hk : kd < 5) (hp : p ≤ 7) : am_Cr M_X7_countBits [.ref 1, .int (nI b), .int (nI kd), .int (nI p)] hi g (some (.int (zbb z kd b p))) (fun h => h = hi) := by
  obtain ⟨q1, q2, q3⟩ := hz.so ok
  have hc48 := ok.1.2.1
  refine am_crn (by decide) (Nat.le_of_ble_eq_true rfl) (fun Φ hΦ => ?_)
  show AP M_X7_countBits _ 0 [.ref 1, .int (nI b), .int (nI kd), .int (nI p), jk, jk, jk] [] _ g Φ
  refine s_X7_countBits_0 ?_
  refine s_X7_countBits_2 rfl ?_
  refine s_X7_countBits_4 ?_
  refine s_X7_countBits_5 ?_
  refine s_X7_countBits_6 ?_
  refine s_X7_countBits_7 ?_
  refine s_X7_countBits_9 ?_
  refine s_X7_countBits_10 ?_
  refine s_X7_countBits_11 hI rfl (by decide) rfl (by decide) ?_
  refine s_X7_countBits_14 hI rfl (by decide) ?_
  rw [q1, nI_1, show nI (b + 1) * 8 = nI ((b + 1) * 8) from pk_mul (b + 1) 8]
  refine s_X7_countBits_17 hI (Nat.le_of_ble_eq_true rfl) (c_min _ _ (by omega) (by omega)) ?_
  intro h9 e9; rw [e9]; clear e9 h9
  refine s_X7_countBits_20 rfl ?_
  refine s_X7_countBits_22 ?_
  refine s_X7_countBits_23 ?_
  refine s_X7_countBits_25 ?_
  refine s_X7_countBits_26 rfl ?_
  rw [show nI b * 8 = nI (b * 8) from pk_mul b 8]
  have key := am_for0 (n := min (8 * b + 8) (zc z) - 8 * b) (hi := hi) (fun _ h => h = hi) (fun t h => AP M_X7_countBits (0, 0) 28 [.ref 1, .int (nI b), .int (nI kd), .int (nI p), .int (bsum (fun t => bofI (foldI (zL z kd t)) (nI p)) (8 * b) t), .int (nI (min ((b + 1) * 8) (zc z))), .int (nI (b * 8 + t))] [] h g Φ) rfl ?_ ?_
  · exact key
  · intro h9 e9
    obtain rfl := e9.symm
    refine s_X7_countBits_28 ?_
    refine s_X7_countBits_30 ?_
    refine s_X7_countBits_32 (fun _ => ?_) (fun h => absurd ((nI_le (by omega) (by omega))) h)
    refine s_X7_countBits_60 ?_
    exact s_X7_countBits_62 (hΦ _ rfl)
  · intro t h9 ht e9 ih
    obtain rfl := e9.symm
    refine s_X7_countBits_28 ?_
    refine s_X7_countBits_30 ?_
    refine s_X7_countBits_32 (fun h => absurd h ((nI_ge (by omega) (by omega)))) (fun _ => ?_)
    refine s_X7_countBits_35 ?_
    refine s_X7_countBits_37 ?_
    refine s_X7_countBits_38 ?_
    refine s_X7_countBits_39 ?_
    refine s_X7_countBits_41 hI rfl (by decide) (Nat.le_of_ble_eq_true rfl) (c_leftZ hI (kd := kd) (t := b * 8 + t) hz.1 fo hk (by omega) (by omega)) ?_
    intro h9 e9; rw [e9]; clear e9 h9
    refine s_X7_countBits_44 hI (Nat.le_of_ble_eq_true rfl) (c_fold _) ?_
    intro h9 e9; rw [e9]; clear e9 h9
    refine s_X7_countBits_47 ?_
    refine s_X7_countBits_48 hI (Nat.le_of_ble_eq_true rfl) (c_bitsOfFolded _ _) ?_
    intro h9 e9; rw [e9]; clear e9 h9
    refine s_X7_countBits_51 ?_
    refine s_X7_countBits_52 rfl ?_
    refine s_X7_countBits_54 rfl ?_
    refine s_X7_countBits_57 ?_
    rw [nI_1]
    have ih' := ih _ rfl
    rw [bsum, show 8 * b + t = b * 8 + t by omega] at ih'
    exact ih'
/-- what findParameters() leaves, of the blocks below n -/
def FP (hi : am_HI) (z : Nat → Int32) (n : Nat) : Prop := ∀ b, b < n → ∀ kd, kd < 5 → hi (27 + kd) b = nI (zpb z kd b) ∧ hi (33 + kd) b = zfb z kd b
theorem FO.mv {hi h : am_HI} {z : Nat → Int32} {n : Nat} (a : FO hi z n) (e : ∀ k, 16 ≤ k → k < 26 → h k = hi k) : FO h z n := fun t ht => ⟨fun kd hk => by rw [e _ (by omega) (by omega)]; exact (a t ht).1 kd hk, fun k hk => by rw [e _ (by omega) (by omega)]; exact (a t ht).2 k hk⟩
theorem c_findParameter {hi : am_HI} {g : am_G} (hI : am_Inv g) {z : Nat → Int32} (hz : ZS hi 2 z) (ok : OKz z) (fo : FO hi z (zc z + 1)) {b kd : Nat} (hb : b < 6) (hk : kd < 5) : am_Cr M_X7_findParameter [.ref 1, .int (nI b), .int (nI kd)] hi g none (fun h => (∀ k j, ¬((k = 27 + kd ∨ k = 33 + kd) ∧ j = b) → h k j = hi k j) ∧ h (27 + kd) b = nI (zpb z kd b) ∧ h (33 + kd) b = zfb z kd b) := by
  obtain ⟨v1, v2, v3⟩ := hr26 hk
  obtain ⟨u1, u2, u3⟩ := hr32 hk
  have hcb : ∀ (h : am_HI), (∀ k j, ¬((k = 27 + kd ∨ k = 33 + kd) ∧ j = b) → h k j = hi k j) → ∀ p, p ≤ 7 → am_Cr M_X7_countBits [.ref 1, .int (nI b), .int (nI kd), .int (nI p)] h g (some (.int (zbb z kd b p))) (fun h' => h' = h) := fun h hh p hp =>
    c_countBits hI (hz.mv (by funext j; exact hh _ _ (by omega)) (by funext j; exact hh _ _ (by omega)) (by funext j; exact hh _ _ (by omega))) ok (fo.mv (fun k h1 h2 => by funext j; exact hh _ _ (by omega))) hb hk hp
  refine am_crn (by decide) (Nat.le_of_ble_eq_true rfl) (fun Φ hΦ => ?_)
  show AP M_X7_findParameter _ 0 [.ref 1, .int (nI b), .int (nI kd), jk, jk] [] _ g Φ
  refine s_X7_findParameter_0 ?_
  refine s_X7_findParameter_1 hI (by first | assumption | rfl | decide | omega) (by first | assumption | rfl | decide | omega) (by first | assumption | rfl | decide | omega) (by first | assumption | rfl | decide | omega) ?_
  refine s_X7_findParameter_4 ?_
  refine s_X7_findParameter_5 hI (by first | assumption | rfl | decide | omega) (by first | assumption | rfl | decide | omega) (by first | assumption | rfl | decide | omega) (rfl) (hk) ((hI.2 26 kd (by decide)).trans v1) ?_
  refine s_X7_findParameter_6 ?_
  refine s_X7_findParameter_7 ?_
  refine s_X7_findParameter_8 hI (by first | assumption | rfl | decide | omega) (by first | assumption | rfl | decide | omega) (by first | assumption | rfl | decide | omega) (rfl) (hb) ?_
  refine s_X7_findParameter_9 ?_
  refine s_X7_findParameter_10 hI (by first | assumption | rfl | decide | omega) (by first | assumption | rfl | decide | omega) (by first | assumption | rfl | decide | omega) (by first | assumption | rfl | decide | omega) ?_
  refine s_X7_findParameter_13 ?_
  refine s_X7_findParameter_14 hI (by first | assumption | rfl | decide | omega) (by first | assumption | rfl | decide | omega) (by first | assumption | rfl | decide | omega) (rfl) (hk) ((hI.2 32 kd (by decide)).trans u1) ?_
  refine s_X7_findParameter_15 ?_
  refine s_X7_findParameter_16 ?_
  refine s_X7_findParameter_17 ?_
  refine s_X7_findParameter_18 ?_
  refine s_X7_findParameter_19 ?_
  refine s_X7_findParameter_20 hI (by first | assumption | rfl | decide | omega) (by first | assumption | rfl | decide | omega) (Nat.le_of_ble_eq_true rfl) (hcb _ (fun k j hh => by rw [up_r, if_neg (by omega)]) 0 (by decide)) ?_
  intro h9 e9; rw [e9]; clear e9 h9
  refine s_X7_findParameter_23 hI (by first | assumption | rfl | decide | omega) (by first | assumption | rfl | decide | omega) (by first | assumption | rfl | decide | omega) (rfl) (hb) ?_
  refine s_X7_findParameter_24 ?_
  refine s_X7_findParameter_25 (by first | assumption | rfl | decide | omega) ?_
  have key := am_for0 (n := 7) (hi := am_up (am_up hi (27 + kd) b 0) (33 + kd) b (zbb z kd b 0)) (fun t h => (∀ k j, ¬((k = 27 + kd ∨ k = 33 + kd) ∧ j = b) → h k j = hi k j) ∧ h (27 + kd) b = nI (amin (zbb z kd b) t) ∧ h (33 + kd) b = zbb z kd b (amin (zbb z kd b) t)) (fun t h => ∀ e : Value, AP M_X7_findParameter (0, 0) 26 [.ref 1, .int (nI b), .int (nI kd), .int (nI (t + 1)), e] [] h g Φ) ⟨fun k j hh => by rw [up_r, if_neg (by omega), up_r, if_neg (by omega)], by rw [up_r, if_neg (by omega), up_r, if_pos ⟨rfl, rfl⟩]; rfl, by rw [up_r, if_pos ⟨rfl, rfl⟩]; rfl⟩ ?_ ?_
  · exact key _
  · intro h ⟨h1, h2, h3⟩ e
    refine s_X7_findParameter_26 ?_
    refine s_X7_findParameter_27 ?_
    refine s_X7_findParameter_29 (fun _ => ?_) (fun h => absurd ((nI_lt (a := 7) (b := 7 + 1) (by decide) (by decide))) h)
    exact s_X7_findParameter_79 (hΦ _ (⟨h1, h2, h3⟩))
  · intro t h ht ⟨h1, h2, h3⟩ ih e
    have ea := amin.eq_2 (zbb z kd b) t
    refine s_X7_findParameter_26 ?_
    refine s_X7_findParameter_27 ?_
    refine s_X7_findParameter_29 (fun h => absurd h ((nI_nlt (a := 7) (b := t + 1) (by omega) (by decide)))) (fun _ => ?_)
    refine s_X7_findParameter_32 ?_
    refine s_X7_findParameter_33 ?_
    refine s_X7_findParameter_34 ?_
    refine s_X7_findParameter_35 ?_
    refine s_X7_findParameter_36 hI (by first | assumption | rfl | decide | omega) (by first | assumption | rfl | decide | omega) (Nat.le_of_ble_eq_true rfl) (hcb h h1 (t + 1) (by omega)) ?_
    intro h9 e9; rw [e9]; clear e9 h9
    refine s_X7_findParameter_39 (by first | assumption | rfl | decide | omega) ?_
    refine s_X7_findParameter_41 ?_
    refine s_X7_findParameter_43 ?_
    refine s_X7_findParameter_44 hI (by first | assumption | rfl | decide | omega) (by first | assumption | rfl | decide | omega) (by first | assumption | rfl | decide | omega) (by first | assumption | rfl | decide | omega) ?_
    refine s_X7_findParameter_47 ?_
    refine s_X7_findParameter_48 hI (by first | assumption | rfl | decide | omega) (by first | assumption | rfl | decide | omega) (by first | assumption | rfl | decide | omega) (rfl) (hk) ((hI.2 32 kd (by decide)).trans u1) ?_
    refine s_X7_findParameter_49 ?_
    refine s_X7_findParameter_50 hI (by first | assumption | rfl | decide | omega) (by first | assumption | rfl | decide | omega) (by first | assumption | rfl | decide | omega) (rfl) (hb) ?_
    rw [h3]
    refine s_X7_findParameter_51 (fun hh => ?_) (fun hh => ?_)
    · refine s_X7_findParameter_73 (by first | assumption | rfl | decide | omega) ?_
      refine s_X7_findParameter_76 ?_
      rw [nI_1]
      rw [if_neg (Int32.not_lt.mpr hh)] at ea
      exact ih _ ⟨h1, by rw [ea]; exact h2, by rw [ea]; exact h3⟩ _
    · refine s_X7_findParameter_54 ?_
      refine s_X7_findParameter_55 hI (by first | assumption | rfl | decide | omega) (by first | assumption | rfl | decide | omega) (by first | assumption | rfl | decide | omega) (by first | assumption | rfl | decide | omega) ?_
      refine s_X7_findParameter_58 ?_
      refine s_X7_findParameter_59 hI (by first | assumption | rfl | decide | omega) (by first | assumption | rfl | decide | omega) (by first | assumption | rfl | decide | omega) (rfl) (hk) ((hI.2 32 kd (by decide)).trans u1) ?_
      refine s_X7_findParameter_60 ?_
      refine s_X7_findParameter_61 ?_
      refine s_X7_findParameter_63 hI (by first | assumption | rfl | decide | omega) (by first | assumption | rfl | decide | omega) (by first | assumption | rfl | decide | omega) (rfl) (hb) ?_
      refine s_X7_findParameter_64 ?_
      refine s_X7_findParameter_65 hI (by first | assumption | rfl | decide | omega) (by first | assumption | rfl | decide | omega) (by first | assumption | rfl | decide | omega) (by first | assumption | rfl | decide | omega) ?_
      refine s_X7_findParameter_68 ?_
      refine s_X7_findParameter_69 hI (by first | assumption | rfl | decide | omega) (by first | assumption | rfl | decide | omega) (by first | assumption | rfl | decide | omega) (rfl) (hk) ((hI.2 26 kd (by decide)).trans v1) ?_
      refine s_X7_findParameter_70 ?_
      refine s_X7_findParameter_71 ?_
      refine s_X7_findParameter_72 hI (by first | assumption | rfl | decide | omega) (by first | assumption | rfl | decide | omega) (by first | assumption | rfl | decide | omega) (rfl) (hb) ?_
      refine s_X7_findParameter_73 (by first | assumption | rfl | decide | omega) ?_
      refine s_X7_findParameter_76 ?_
      rw [nI_1]
      rw [if_pos (Int32.not_le.mp hh)] at ea
      exact ih _ ⟨fun k j hh => by rw [up_r, if_neg (by omega), up_r, if_neg (by omega)]; exact h1 k j hh, by rw [up_r, if_pos ⟨rfl, rfl⟩, ea], by rw [up_r, if_neg (by omega), up_r, if_pos ⟨rfl, rfl⟩, ea]⟩ _
abbrev parS : List Nat := [27, 28, 29, 30, 31, 33, 34, 35, 36, 37]
theorem zn_lt {z : Nat → Int32} (ok : OKz z) : zn z ≤ 6 := by
  have := ok.1.2.1
  unfold zn
  omega
theorem c_blocks {hi : am_HI} {g : am_G} {z : Nat → Int32} (hz : ZS hi 2 z) (ok : OKz z) : am_Cr M_X9_blocksOf [.int (hi 2 3)] hi g (some (.int (nI (zn z)))) (fun h => h = hi) := by
  have h1 := c_blocksOf (hi := hi) (g := g) (hi 2 3)
  have hc48 := ok.1.2.1
  have e : blkI (hi 2 3) = nI (zn z) := by
    rw [(hz.so ok).1]
    exact blk_nI (by omega)
  rw [e] at h1
  exact h1
theorem c_findParameters {hi : am_HI} {g : am_G} (hI : am_Inv g) {z : Nat → Int32} (hz : ZS hi 2 z) (ok : OKz z) (fo : FO hi z (zc z + 1)) : am_Cr M_X7_findParameters [.ref 1] hi g none (fun h => fr parS hi h ∧ FP h z (zn z)) := by
  have h6 := zn_lt ok
  refine am_crn (by decide) (Nat.le_of_ble_eq_true rfl) (fun Φ hΦ => ?_)
  show AP M_X7_findParameters _ 0 [.ref 1, jk, jk] [] _ g Φ
  refine s_X7_findParameters_0 ?_
  refine s_X7_findParameters_1 rfl ?_
  have key := am_for0 (n := zn z) (hi := hi) (fun b h => fr parS hi h ∧ FP h z b) (fun b h => ∀ e : Value, AP M_X7_findParameters (0, 0) 2 [.ref 1, .int (nI b), e] [] h g Φ) ⟨fr.rfl, fun b hb => absurd hb (Nat.not_lt_zero _)⟩ ?_ ?_
  · exact key _
  · intro h ⟨h1, h2⟩ e
    have hz1 : ZS h 2 z := hz.mv (h1 2 (by decide)) (h1 3 (by decide)) (h1 4 (by decide))
    refine s_X7_findParameters_2 ?_
    refine s_X7_findParameters_3 ?_
    refine s_X7_findParameters_4 hI rfl (by decide) rfl (by decide) ?_
    refine s_X7_findParameters_7 hI rfl (by decide) ?_
    refine s_X7_findParameters_10 hI (Nat.le_of_ble_eq_true rfl) (c_blocks hz1 ok) ?_
    intro h9 e9; rw [e9]; clear e9 h9
    refine s_X7_findParameters_13 (fun _ => ?_) (fun h => absurd ((nI_le (Nat.le_refl _) (by omega))) h)
    exact s_X7_findParameters_41 (hΦ _ (⟨h1, h2⟩))
  · intro b h hb ⟨h1, h2⟩ ih e
    have hz1 : ZS h 2 z := hz.mv (h1 2 (by decide)) (h1 3 (by decide)) (h1 4 (by decide))
    refine s_X7_findParameters_2 ?_
    refine s_X7_findParameters_3 ?_
    refine s_X7_findParameters_4 hI rfl (by decide) rfl (by decide) ?_
    refine s_X7_findParameters_7 hI rfl (by decide) ?_
    refine s_X7_findParameters_10 hI (Nat.le_of_ble_eq_true rfl) (c_blocks hz1 ok) ?_
    intro h9 e9; rw [e9]; clear e9 h9
    refine s_X7_findParameters_13 (fun h => absurd h ((nI_ge hb (by omega)))) (fun _ => ?_)
    refine s_X7_findParameters_16 ?_
    refine s_X7_findParameters_17 rfl ?_
    have key1 := am_for0 (n := 5) (hi := h) (fun i h' => fr parS hi h' ∧ FP h' z b ∧ ∀ kd, kd < i → h' (27 + kd) b = nI (zpb z kd b) ∧ h' (33 + kd) b = zfb z kd b) (fun i h' => AP M_X7_findParameters (0, 0) 18 [.ref 1, .int (nI b), .int (nI i)] [] h' g Φ) ⟨h1, h2, fun kd hk => absurd hk (Nat.not_lt_zero _)⟩ ?_ ?_
    · exact key1
    · intro h' ⟨p1, p2, p3⟩
      refine s_X7_findParameters_18 ?_
      refine s_X7_findParameters_19 ?_
      refine s_X7_findParameters_20 (fun _ => ?_) (fun h => absurd ((nI_le (a := 5) (b := 5) (by decide) (by decide))) h)
      refine s_X7_findParameters_35 rfl ?_
      refine s_X7_findParameters_38 ?_
      rw [nI_1]
      refine ih _ ⟨p1, fun u hu kd hk => ?_⟩ _
      by_cases he : u = b
      · rw [he]; exact p3 kd hk
      · exact p2 u (by omega) kd hk
    · intro i h' hi5 ⟨p1, p2, p3⟩ ih1
      have hz2 : ZS h' 2 z := hz.mv (p1 2 (by decide)) (p1 3 (by decide)) (p1 4 (by decide))
      have fo2 : FO h' z (zc z + 1) := fo.mv (fun k k1 k2 => p1 k (by simp; omega))
      refine s_X7_findParameters_18 ?_
      refine s_X7_findParameters_19 ?_
      refine s_X7_findParameters_20 (fun h => absurd h ((nI_ge (a := i) (b := 5) (by omega) (by decide)))) (fun _ => ?_)
      refine s_X7_findParameters_23 ?_
      refine s_X7_findParameters_24 ?_
      refine s_X7_findParameters_25 ?_
      refine s_X7_findParameters_26 hI rfl (by decide) (Nat.le_of_ble_eq_true rfl) (c_findParameter hI hz2 ok fo2 (b := b) (kd := i) (by omega) hi5) ?_
      intro h5 ⟨g1, g2, g3⟩
      refine s_X7_findParameters_29 rfl ?_
      refine s_X7_findParameters_32 ?_
      rw [nI_1]
      refine ih1 _ ⟨fun k hk => ?_, fun u hu kd hk => ?_, fun kd hk => ?_⟩
      · rw [← p1 k hk]
        funext j
        simp at hk
        exact g1 k j (by omega)
      · rw [g1 _ _ (by omega), g1 _ _ (by omega)]; exact p2 u hu kd hk
      · by_cases he : kd = i
        · rw [he]; exact ⟨g2, g3⟩
        · rw [g1 _ _ (by omega), g1 _ _ (by omega)]; exact p3 kd (by omega)
abbrev wbS : List Nat := follS ++ parS
theorem c_weighBlocks {hi : am_HI} {g : am_G} (hI : am_Inv g) {z : Nat → Int32} (hz : ZS hi 2 z) (ok : OKz z) : am_Cr M_X7_weighBlocks [.ref 1] hi g none (fun h => fr wbS hi h ∧ FO h z (zc z + 1) ∧ FP h z (zn z)) := by
  refine am_crn (by decide) (Nat.le_of_ble_eq_true rfl) (fun Φ hΦ => ?_)
  show AP M_X7_weighBlocks _ 0 [.ref 1] [] _ g Φ
  refine s_X7_weighBlocks_0 ?_
  refine s_X7_weighBlocks_1 hI rfl (by decide) (Nat.le_of_ble_eq_true rfl) (c_follow hI hz ok) ?_
  intro h1 ⟨f1, fo⟩
  refine s_X7_weighBlocks_4 ?_
  refine s_X7_weighBlocks_5 hI rfl (by decide) (Nat.le_of_ble_eq_true rfl) (c_findParameters hI (hz.mv (f1 2 (by decide)) (f1 3 (by decide)) (f1 4 (by decide))) ok fo) ?_
  intro h2 ⟨f2, fp⟩
  exact s_X7_weighBlocks_8 (hΦ _ (⟨(f1.mono (by decide)).tr (f2.mono (by decide)), fo.mv (fun k k1 k2 => f2 k (by simp; omega)), fp⟩))
theorem c_allZ {hi : am_HI} {g : am_G} (hI : am_Inv g) {z : Nat → Int32} (hz : ZS hi 2 z) (k : Nat) : am_Cr M_X6_allows [.ref 2, .int (nI k)] hi g (some (.int (bI (zal z k)))) (fun h => h = hi) := by
  have := c_allows (hi := hi) hI (nI k)
  rw [hz.2.2.2.2.2] at this
  exact this
theorem c_kindFor {hi : am_HI} {g : am_G} (hI : am_Inv g) {z : Nat → Int32} (hz : ZS hi 2 z) (ok : OKz z) (fp : FP hi z (zn z)) {b : Nat} (hb : b < zn z) : am_Cr M_X7_kindFor [.ref 1, .int (nI b)] hi g (some (.int (nI (zkf z b)))) (fun h => h = hi) := by
  have h6 := zn_lt ok
  refine am_crn (by decide) (Nat.le_of_ble_eq_true rfl) (fun Φ hΦ => ?_)
  show AP M_X7_kindFor _ 0 [.ref 1, .int (nI b), jk, jk, jk] [] _ g Φ
  refine s_X7_kindFor_0 ?_
  refine s_X7_kindFor_1 rfl ?_
  refine s_X7_kindFor_2 ?_
  refine s_X7_kindFor_4 rfl ?_
  refine s_X7_kindFor_5 ?_
  refine s_X7_kindFor_6 rfl ?_
  have key := am_for0 (n := 5) (hi := hi) (fun _ h => h = hi) (fun t h => AP M_X7_kindFor (0, 0) 8 [.ref 1, .int (nI b), .int (nI (kbl (zal z) (fun kd => zfb z kd b) t).1), .int (kbl (zal z) (fun kd => zfb z kd b) t).2, .int (nI t)] [] h g Φ) rfl ?_ ?_
  · exact key
  · intro h9 e9
    obtain rfl := e9.symm
    refine s_X7_kindFor_8 ?_
    refine s_X7_kindFor_10 ?_
    refine s_X7_kindFor_11 (fun _ => ?_) (fun h => absurd ((nI_le (a := 5) (b := 5) (by decide) (by decide))) h)
    refine s_X7_kindFor_58 ?_
    exact s_X7_kindFor_59 (hΦ _ (rfl))
  · intro t h9 ht e9 ih
    obtain rfl := e9.symm
    obtain ⟨u1, u2, u3⟩ := hr32 ht
    have eb := kbl.eq_2 (zal z) (fun kd => zfb z kd b) t
    have ih' := ih _ rfl
    rw [eb] at ih'
    refine s_X7_kindFor_8 ?_
    refine s_X7_kindFor_10 ?_
    refine s_X7_kindFor_11 (fun h => absurd h ((nI_ge (a := t) (b := 5) (by omega) (by decide)))) (fun _ => ?_)
    refine s_X7_kindFor_14 ?_
    refine s_X7_kindFor_15 hI (by first | assumption | rfl | decide | omega) (by first | assumption | rfl | decide | omega) (by first | assumption | rfl | decide | omega) (by first | assumption | rfl | decide | omega) ?_
    refine s_X7_kindFor_18 ?_
    refine s_X7_kindFor_20 hI (by first | assumption | rfl | decide | omega) (by first | assumption | rfl | decide | omega) (Nat.le_of_ble_eq_true rfl) (c_allZ hI hz t) ?_
    intro h9 e9; rw [e9]; clear e9 h9
    refine s_X7_kindFor_23 (fun ha => ?_) (fun ha => ?_)
    · refine s_X7_kindFor_52 (by first | assumption | rfl | decide | omega) ?_
      refine s_X7_kindFor_55 ?_
      rw [if_neg (fun q => by rw [bI_e0.mp ha] at q; cases q.1)] at ih'
      rw [nI_1]
      exact ih'
    · refine s_X7_kindFor_26 ?_
      refine s_X7_kindFor_27 hI (by first | assumption | rfl | decide | omega) (by first | assumption | rfl | decide | omega) (by first | assumption | rfl | decide | omega) (by first | assumption | rfl | decide | omega) ?_
      refine s_X7_kindFor_30 ?_
      refine s_X7_kindFor_32 hI (by first | assumption | rfl | decide | omega) (by first | assumption | rfl | decide | omega) (by first | assumption | rfl | decide | omega) (rfl) (ht) ((hI.2 32 t (by decide)).trans u1) ?_
      refine s_X7_kindFor_33 ?_
      refine s_X7_kindFor_34 hI (by first | assumption | rfl | decide | omega) (by first | assumption | rfl | decide | omega) (by first | assumption | rfl | decide | omega) (rfl) (by omega) ?_
      refine s_X7_kindFor_35 ?_
      rw [(fp b hb t ht).2]
      refine s_X7_kindFor_36 (fun hh => ?_) (fun hh => ?_)
      · refine s_X7_kindFor_52 (by first | assumption | rfl | decide | omega) ?_
        refine s_X7_kindFor_55 ?_
        rw [if_neg (fun q => absurd hh (Int32.not_le.mpr q.2))] at ih'
        rw [nI_1]
        exact ih'
      · refine s_X7_kindFor_39 ?_
        refine s_X7_kindFor_40 hI (by first | assumption | rfl | decide | omega) (by first | assumption | rfl | decide | omega) (by first | assumption | rfl | decide | omega) (by first | assumption | rfl | decide | omega) ?_
        refine s_X7_kindFor_43 ?_
        rw [if_pos ⟨bI_n0.mp ha, Int32.not_le.mp hh⟩] at ih'
        refine s_X7_kindFor_45 hI (by first | assumption | rfl | decide | omega) (by first | assumption | rfl | decide | omega) (by first | assumption | rfl | decide | omega) (rfl) (ht) ((hI.2 32 t (by decide)).trans u1) ?_
        refine s_X7_kindFor_46 ?_
        refine s_X7_kindFor_47 hI (by first | assumption | rfl | decide | omega) (by first | assumption | rfl | decide | omega) (by first | assumption | rfl | decide | omega) (rfl) (by omega) ?_
        refine s_X7_kindFor_48 (by first | assumption | rfl | decide | omega) ?_
        refine s_X7_kindFor_49 ?_
        refine s_X7_kindFor_51 (by first | assumption | rfl | decide | omega) ?_
        refine s_X7_kindFor_52 (by first | assumption | rfl | decide | omega) ?_
        refine s_X7_kindFor_55 ?_
        rw [(fp b hb t ht).2, nI_1]
        exact ih'
