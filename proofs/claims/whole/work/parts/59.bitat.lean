/-! ===== the model: one bit of the letter ===== -/
theorem sub_add_nI {p i o : Nat} (h : i ≤ p + o) (hp : p ≤ 1000) (ho : o ≤ 1000) : nI p - nI i + nI o = nI (p + o - i) := by
  have ep : (nI p).toInt = p := am_nI (by omega)
  have ei : (nI i).toInt = i := am_nI (by omega)
  have eo : (nI o).toInt = o := am_nI (by omega)
  have e1 : (nI p - nI i).toInt = (p : Int) - i := by rw [i_sub (by rw [ep, ei]; omega) (by rw [ep, ei]; omega), ep, ei]
  rw [am_eq, i_add (by rw [e1, eo]; omega) (by rw [e1, eo]; omega), e1, eo, am_nI (by omega)]
  omega
theorem bI_m2 (n : Nat) : nI (n % 2) = bI (decide (n % 2 = 1)) := by
  rcases (show n % 2 = 0 ∨ n % 2 = 1 by omega) with h | h <;> rw [h] <;> decide
theorem m_bitOf {hi : am_HI} {g : am_G} (hI : am_Inv g) {L : Int32} {f p i : Nat} (hL : foldI L = nI f) (hf : f ≤ 396) (hp : p ≤ 7) (hi' : i < f / 2 ^ p + 1 + p) : am_Cr M_X10_bitOf [.int L, .int (nI p), .int (nI i)] hi g (some (.int (bI ((folB f p).getD i false)))) (fun h => h = hi) := by
  have ho : f / 2 ^ p ≤ 396 := Nat.le_trans (Nat.div_le_self _ _) hf
  refine am_crn (by decide) (Nat.le_of_ble_eq_true rfl) (fun Φ hΦ => ?_)
  show AP M_X10_bitOf _ 0 [.int L, .int (nI p), .int (nI i), jk] [] _ g Φ
  refine s_X10_bitOf_0 ?_
  refine s_X10_bitOf_1 hI (Nat.le_of_ble_eq_true rfl) (m_fold L) ?_
  intro h9 e9; rw [e9]; clear e9 h9
  refine s_X10_bitOf_4 ?_
  refine s_X10_bitOf_5 ?_
  refine s_X10_bitOf_6 rfl ?_
  refine s_X10_bitOf_7 ?_
  refine s_X10_bitOf_8 ?_
  rw [hL, shrN (by omega) hp]
  generalize ho1 : f / 2 ^ p = o at ho hi'
  refine s_X10_bitOf_9 (fun h1 => ?_) (fun h1 => ?_)
  · refine s_X10_bitOf_16 ?_
    refine s_X10_bitOf_17 ?_
    have h1' : ¬ i < o := fun e => absurd h1 (nI_ge e (by omega))
    refine s_X10_bitOf_18 (fun h2 => ?_) (fun h2 => ?_)
    · refine s_X10_bitOf_25 ?_
      have h2' : ¬ i = o := fun e => h2 (by rw [e])
      refine s_X10_bitOf_26 hI (Nat.le_of_ble_eq_true rfl) (m_fold L) ?_
      intro h9 e9; rw [e9]; clear e9 h9
      refine s_X10_bitOf_29 ?_
      refine s_X10_bitOf_30 ?_
      refine s_X10_bitOf_31 ?_
      refine s_X10_bitOf_32 ?_
      refine s_X10_bitOf_33 ?_
      refine s_X10_bitOf_34 ?_
      refine s_X10_bitOf_35 ?_
      refine s_X10_bitOf_36 ?_
      obtain ⟨j, hj⟩ : ∃ j, i = o + 1 + j := ⟨i - o - 1, by omega⟩
      have hjp : j < p := by omega
      rw [hL, sub_add_nI (by omega) (by omega) (by omega), shrN (by omega) (by omega), and1 (by have := Nat.div_le_self f (2 ^ (p + o - i)); omega)]
      have e3 := folB_3 (f := f) hjp
      rw [ho1, ← hj] at e3
      rw [e3] at hΦ
      rw [bI_m2, show p + o - i = p - 1 - j by omega]
      exact s_X10_bitOf_37 (hΦ _ (rfl))
    · refine s_X10_bitOf_21 ?_
      refine s_X10_bitOf_22 ?_
      have h2' : i = o := (nI_eq (by omega) (by omega)).mp h2
      have e2 := folB_2 f p
      rw [ho1, ← h2'] at e2
      rw [e2] at hΦ
      exact s_X10_bitOf_37 (hΦ _ (rfl))
  · refine s_X10_bitOf_12 ?_
    refine s_X10_bitOf_13 ?_
    have h1' : i < o := Nat.lt_of_not_le (fun e => h1 (nI_le e (by omega)))
    rw [folB_1 (by rw [ho1]; exact h1')] at hΦ
    exact s_X10_bitOf_37 (hΦ _ (rfl))
theorem m_bitAt {hi : am_HI} {g : am_G} (hI : am_Inv g) {z : Nat → Int32} (hz : hi 124 = z) (ok : OKz z) {B : Nat} (hB : B < zbits z) : am_Cr M_X10_bitAt [.ref 123, .int (nI B)] hi g (some (.int (bI ((lbB z (zt z)).getD B false)))) (fun h => h = hi) := by
  have h48 := ok.2.2.1
  have hmax := lbB_max ok h48
  have hlen := lbB_zb z
  have loop : ∀ k t r (e4 e5 : Value) (Φ : am_P), t + k = zt z → (lbB z t).length + r = B → Φ (.ok (some (.int (bI ((lbB z (zt z)).getD B false))))) hi g → AP M_X10_bitAt (0, 0) 4 [.ref 123, .int (nI B), .int (nI r), .int (nI t), e4, e5] [] hi g Φ := by
    intro k
    induction k with
    | zero => intro t r e4 e5 Φ h1 h2; rw [show t = zt z by omega] at h2; omega
    | succ k ih =>
      intro t r e4 e5 Φ h1 h2 hΦ
      have ht : t < zt z := by omega
      obtain ⟨R, hR⟩ := lbB_pre z (t + 1) (zt z) (by omega)
      have hR2 : lbB z (zt z) = lbB z t ++ (hdB z t ++ (folB (lf z t) (lp z (t / 8)) ++ R)) := by rw [hR, lbB, List.append_assoc, List.append_assoc]
      have lfk := lf_ok ok (t := t) (by omega)
      have lpk := lp_ok ok (b := t / 8) (by omega)
      have lkk := lk_ok ok (b := t / 8) (by omega)
      have hfl := folB_len (lf z t) (lp z (t / 8))
      have hl1 : (lbB z (t + 1)).length = (lbB z t).length + (hdB z t).length + lb1 z t := by
        rw [lbB, List.length_append, List.length_append, hfl]
        unfold lb1
        omega
      have st : ∀ (r' : Nat) (e : Value), (lbB z t).length + (hdB z t).length + r' = B → AP M_X10_bitAt (0, 0) 78 [.ref 123, .int (nI B), .int (nI r'), .int (nI t), .int (nI (t / 8)), e] [] hi g Φ := by
        intro r' e hr'
        refine s_X10_bitAt_78 ?_
        refine s_X10_bitAt_79 hI rfl (by decide) rfl (by decide) ?_
        refine s_X10_bitAt_82 ?_
        refine s_X10_bitAt_84 ?_
        refine s_X10_bitAt_85 ?_
        rw [show 75 + nI t = nI (75 + t) from nI_add 75 t]
        refine s_X10_bitAt_86 hI rfl (by decide) (by decide) (rfl) (by omega) ?_
        refine s_X10_bitAt_87 ?_
        refine s_X10_bitAt_88 hI rfl (by decide) rfl (by decide) ?_
        refine s_X10_bitAt_91 ?_
        refine s_X10_bitAt_93 ?_
        refine s_X10_bitAt_95 ?_
        rw [show 69 + nI (t / 8) = nI (69 + t / 8) from nI_add 69 _]
        refine s_X10_bitAt_96 hI rfl (by decide) (by decide) (rfl) (by omega) ?_
        refine s_X10_bitAt_97 hI (Nat.le_of_ble_eq_true rfl) (m_bitsOf hI _ _) ?_
        intro h9 e9; rw [e9]; clear e9 h9
        refine s_X10_bitAt_100 rfl ?_
        refine s_X10_bitAt_102 ?_
        refine s_X10_bitAt_103 ?_
        rw [hz, lbI ok (by omega)]
        refine s_X10_bitAt_105 (fun h6 => ?_) (fun h6 => ?_)
        · refine s_X10_bitAt_132 ?_
          refine s_X10_bitAt_133 ?_
          refine s_X10_bitAt_135 ?_
          refine s_X10_bitAt_136 rfl ?_
          refine s_X10_bitAt_137 rfl ?_
          refine s_X10_bitAt_140 ?_
          have hb1 := lb1_le ok (t := t) (by omega)
          have h6' : lb1 z t ≤ r' := (nI_leI (by omega) (by omega)).mp h6
          rw [pk_sub h6', nI_1]
          exact ih (t + 1) (r' - lb1 z t) _ _ Φ (by omega) (by omega) hΦ
        · refine s_X10_bitAt_108 ?_
          refine s_X10_bitAt_109 hI rfl (by decide) rfl (by decide) ?_
          refine s_X10_bitAt_112 ?_
          refine s_X10_bitAt_114 ?_
          refine s_X10_bitAt_115 ?_
          have h6' : r' < lb1 z t := Nat.lt_of_not_le (fun e => h6 (nI_le e (by omega)))
          rw [show 75 + nI t = nI (75 + t) from nI_add 75 t]
          refine s_X10_bitAt_116 hI rfl (by decide) (by decide) (rfl) (by omega) ?_
          refine s_X10_bitAt_117 ?_
          refine s_X10_bitAt_118 hI rfl (by decide) rfl (by decide) ?_
          refine s_X10_bitAt_121 ?_
          refine s_X10_bitAt_123 ?_
          refine s_X10_bitAt_125 ?_
          rw [show 69 + nI (t / 8) = nI (69 + t / 8) from nI_add 69 _]
          refine s_X10_bitAt_126 hI rfl (by decide) (by decide) (rfl) (by omega) ?_
          refine s_X10_bitAt_127 ?_
          rw [hz, lpk.1]
          refine s_X10_bitAt_128 hI (Nat.le_of_ble_eq_true rfl) (m_bitOf hI (f := lf z t) (p := lp z (t / 8)) (i := r') lfk.1 lfk.2 lpk.2 h6') ?_
          intro h9 e9; rw [e9]; clear e9 h9
          refine s_X10_bitAt_131 ?_
          have eg : (lbB z (zt z)).getD B false = (folB (lf z t) (lp z (t / 8))).getD r' false := by
            rw [hR2, ← List.append_assoc]
            exact gd_app (by rw [List.length_append]; omega) (by rw [hfl]; exact h6')
          rw [eg] at hΦ
          exact hΦ
      by_cases h8 : t % 8 = 0
      · have hd : hdB z t = numB (lk z (t / 8)) 3 ++ numB (lp z (t / 8)) 3 := if_pos h8
        have hd6 : (hdB z t).length = 6 := by rw [hdB_len, if_pos h8]
        refine s_X10_bitAt_4 ?_
        refine s_X10_bitAt_5 ?_
        refine s_X10_bitAt_6 hI rfl (by decide) rfl (by decide) ?_
        refine s_X10_bitAt_9 ?_
        refine s_X10_bitAt_11 hI rfl (by decide) (by decide) (by decide : (_ : Int32) = nI 56) (by decide) ?_
        rw [hz, ok.2.1]
        refine s_X10_bitAt_12 (fun h => absurd h (nI_ge ht (by omega))) (fun _ => ?_)
        refine s_X10_bitAt_15 ?_
        refine s_X10_bitAt_16 ?_
        refine s_X10_bitAt_18 (by decide) ?_
        refine s_X10_bitAt_19 rfl ?_
        refine s_X10_bitAt_21 ?_
        refine s_X10_bitAt_22 ?_
        refine s_X10_bitAt_24 (by decide) ?_
        rw [rem8 (n := t) (by omega), div8 (by omega), h8]
        refine s_X10_bitAt_25 (fun h => absurd (by decide) h) (fun _ => ?_)
        refine s_X10_bitAt_28 ?_
        refine s_X10_bitAt_29 ?_
        refine s_X10_bitAt_31 (fun h6 => ?_) (fun h6 => ?_)
        · refine s_X10_bitAt_75 rfl ?_
          have h6' : 6 ≤ r := Nat.le_of_not_lt (fun e => absurd h6 (nI_ge e (by decide)))
          rw [show nI r + -6 = nI r - 6 from (Int32.sub_eq_add_neg _ _).symm, show nI r - 6 = nI (r - 6) from pk_sub h6']
          exact st (r - 6) _ (by omega)
        · refine s_X10_bitAt_34 ?_
          refine s_X10_bitAt_35 ?_
          have h6' : r < 6 := Nat.lt_of_not_le (fun e => h6 (nI_le (a := 6) (b := r) e (by omega)))
          refine s_X10_bitAt_36 (fun h3 => ?_) (fun h3 => ?_)
          · refine s_X10_bitAt_58 ?_
            refine s_X10_bitAt_59 hI rfl (by decide) rfl (by decide) ?_
            refine s_X10_bitAt_62 ?_
            refine s_X10_bitAt_64 ?_
            refine s_X10_bitAt_66 ?_
            have h3' : 3 ≤ r := Nat.le_of_not_lt (fun e => absurd h3 (nI_ge e (by decide)))
            rw [show 69 + nI (t / 8) = nI (69 + t / 8) from nI_add 69 _]
            refine s_X10_bitAt_67 hI rfl (by decide) (by decide) (rfl) (by omega) ?_
            refine s_X10_bitAt_68 ?_
            refine s_X10_bitAt_69 ?_
            refine s_X10_bitAt_70 ?_
            refine s_X10_bitAt_71 ?_
            refine s_X10_bitAt_72 ?_
            refine s_X10_bitAt_73 ?_
            have eg : (lbB z (zt z)).getD B false = decide (lp z (t / 8) / 2 ^ (5 - r) % 2 = 1) := by
              rw [hR2, hd, List.append_assoc, ← List.append_assoc, gd_app (i := r - 3) (by rw [List.length_append, numB_len]; omega) (by rw [numB_len]; omega), numB_gd (by omega), show 3 - 1 - (r - 3) = 5 - r by omega]
            rw [eg, ← bI_m2] at hΦ
            rw [hz, lpk.1, show (5 : Int32) - nI r = nI (5 - r) from pk_sub (a := 5) (b := r) (by omega), shrN (by omega) (by omega), and1 (by have := Nat.div_le_self (lp z (t / 8)) (2 ^ (5 - r)); omega)]
            exact s_X10_bitAt_74 hΦ
          · refine s_X10_bitAt_39 ?_
            refine s_X10_bitAt_40 hI rfl (by decide) rfl (by decide) ?_
            refine s_X10_bitAt_43 ?_
            refine s_X10_bitAt_45 ?_
            refine s_X10_bitAt_47 ?_
            have h3' : r < 3 := Nat.lt_of_not_le (fun e => h3 (nI_le (a := 3) (b := r) e (by omega)))
            rw [show 63 + nI (t / 8) = nI (63 + t / 8) from nI_add 63 _]
            refine s_X10_bitAt_48 hI rfl (by decide) (by decide) (rfl) (by omega) ?_
            refine s_X10_bitAt_49 ?_
            refine s_X10_bitAt_50 ?_
            refine s_X10_bitAt_51 ?_
            refine s_X10_bitAt_52 ?_
            refine s_X10_bitAt_53 ?_
            refine s_X10_bitAt_54 ?_
            refine s_X10_bitAt_55 ?_
            have eg : (lbB z (zt z)).getD B false = decide (lk z (t / 8) / 2 ^ (2 - r) % 2 = 1) := by
              rw [hR2, hd, List.append_assoc, gd_app (i := r) (by omega) (by rw [numB_len]; omega), numB_gd (by omega)]
            rw [eg, ← bI_m2] at hΦ
            rw [hz, lkk.1, show (2 : Int32) - nI r = nI (2 - r) from pk_sub (a := 2) (b := r) (by omega), shrN (by omega) (by omega), and1 (by have := Nat.div_le_self (lk z (t / 8)) (2 ^ (2 - r)); omega)]
            exact s_X10_bitAt_74 hΦ
      · have hd : (hdB z t).length = 0 := by rw [hdB_len, if_neg h8]
        refine s_X10_bitAt_4 ?_
        refine s_X10_bitAt_5 ?_
        refine s_X10_bitAt_6 hI rfl (by decide) rfl (by decide) ?_
        refine s_X10_bitAt_9 ?_
        refine s_X10_bitAt_11 hI rfl (by decide) (by decide) (by decide : (_ : Int32) = nI 56) (by decide) ?_
        rw [hz, ok.2.1]
        refine s_X10_bitAt_12 (fun h => absurd h (nI_ge ht (by omega))) (fun _ => ?_)
        refine s_X10_bitAt_15 ?_
        refine s_X10_bitAt_16 ?_
        refine s_X10_bitAt_18 (by decide) ?_
        refine s_X10_bitAt_19 rfl ?_
        refine s_X10_bitAt_21 ?_
        refine s_X10_bitAt_22 ?_
        refine s_X10_bitAt_24 (by decide) ?_
        rw [rem8 (n := t) (by omega), div8 (by omega)]
        refine s_X10_bitAt_25 (fun _ => ?_) (fun h => absurd h (fun e => h8 ((nI_eq (a := t % 8) (b := 0) (by omega) (by decide)).mp e)))
        exact st r _ (by omega)
  refine am_crn (by decide) (Nat.le_of_ble_eq_true rfl) (fun Φ hΦ => ?_)
  show AP M_X10_bitAt _ 0 [.ref 123, .int (nI B), jk, jk, jk, jk] [] _ g Φ
  refine s_X10_bitAt_0 ?_
  refine s_X10_bitAt_1 rfl ?_
  refine s_X10_bitAt_2 ?_
  refine s_X10_bitAt_3 rfl ?_
  exact loop (zt z) 0 B _ _ Φ (by omega) (by show 0 + B = B; omega) (hΦ _ rfl)
