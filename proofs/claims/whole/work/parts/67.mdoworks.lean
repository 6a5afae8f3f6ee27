/-! ===== the model: doWorks ===== -/
theorem q1_doWorks {hi : am_HI} {g : am_G} (hI : am_Inv g) {z : Nat → Int32} {Z : Nat → Nat → Int32} {p : Nat} {Y : Nat → Nat → Int32} {c : Nat → Bool} {cd : Nat → Nat} {n : Nat} (a : MM hi z Z p Y c cd n) (h0 : ¬ tl cd n 81 0 = -1) : am_Cr M_X10_doWorks [.ref 123] hi g (some (.int 0)) (fun h => MS hi h ∧ h 123 10 = 1) := by
  refine am_crn (by decide) (Nat.le_of_ble_eq_true rfl) (fun Φ hΦ => ?_)
  show AP M_X10_doWorks _ 0 [.ref 123, jk] [] _ g Φ
  refine s_X10_doWorks_0 ?_
  refine s_X10_doWorks_1 ?_
  refine s_X10_doWorks_2 hI rfl (by decide) (Nat.le_of_ble_eq_true rfl) (m_tells hI a.2.2.2) ?_
  intro h5 ⟨t5, w5⟩
  refine s_X10_doWorks_5 ?_
  refine s_X10_doWorks_6 (fun _ => ?_) (fun h => absurd h (h0))
  refine s_X10_doWorks_13 ?_
  refine s_X10_doWorks_14 hI rfl (by decide) (Nat.le_of_ble_eq_true rfl) (m_asksF hI) ?_
  intro h9 e9; rw [e9]; clear e9 h9
  refine s_X10_doWorks_17 (fun h => absurd (Eq.refl (0 : Int32)) h) (fun _ => ?_)
  refine s_X10_doWorks_20 ?_
  exact s_X10_doWorks_21 (hΦ _ (MSs t5.ms))
theorem WLs_cnt {h : am_HI} {cd : Nat → Nat} {n : Nat} (hn : n ≤ 80) : ∀ k a d, tl cd n k a = -1 → a ≤ n → WLs h cd n k a d → ∃ M, h 123 12 = nI M ∧ d < M ∧ M ≤ d + k := by
  intro k
  induction k with
  | zero => intro a d h1 h2; obtain ⟨j, hj⟩ := tl_k hn h2 h1; cases hj
  | succ k ih =>
    intro a d h1 h2 hw
    obtain ⟨w1, w2, w3⟩ := tl_ok hn h2 h1
    unfold WLs at hw
    have hw2 := hw.2
    by_cases hc : chr cd n (wk cd n a).2.1 = 59
    · rw [if_pos hc] at hw2
      have hsl := chr_lt (cd := cd) (n := n) (a := (wk cd n a).2.1) (by rw [hc]; decide)
      obtain ⟨M, m1, m2, m3⟩ := ih _ _ (w2 hc) (by omega) hw2
      exact ⟨M, m1, by omega, by omega⟩
    · rw [if_neg hc] at hw2
      exact ⟨d + 1, hw2, by omega, by omega⟩
theorem q_doWorks {hi : am_HI} {g : am_G} (hI : am_Inv g) {z : Nat → Int32} {Z : Nat → Nat → Int32} {p : Nat} {Y : Nat → Nat → Int32} {c : Nat → Bool} {cd : Nat → Nat} {n : Nat} (a : MM hi z Z p Y c cd n) (ok : OKz z) (h0 : tl cd n 81 0 = -1) : am_Cr M_X10_doWorks [.ref 123] hi g (some (.int (nI (dwk cd n 81 0 z 0).1))) (fun h => frM hi h ∧ h 123 10 = 0 ∧ MM h (dwk cd n 81 0 z 0).2 (svZ Z p z) (svp p) Y c cd 0) := by
  have hn80 := a.2.2.2.2.1
  have last : ∀ (h : am_HI) (d : Nat) (Φ : am_P), d < 1000 → h 123 12 = nI d → Φ (.ok (some (.int (nI d)))) h g → AP M_X10_doWorks (0, 0) 33 [.ref 123, .int (nI d)] [] h g Φ := by
    intro h d Φ hd e hΦ
    refine s_X10_doWorks_33 ?_
    refine s_X10_doWorks_34 ?_
    refine s_X10_doWorks_35 hI rfl (by decide) ?_
    rw [e]
    refine s_X10_doWorks_38 (fun _ => ?_) (fun h => absurd (nI_le (Nat.le_refl _) (by omega)) h)
    refine s_X10_doWorks_104 ?_
    refine s_X10_doWorks_105 ?_
    exact hΦ
  have loop : ∀ (h7 : am_HI) (Φ : am_P) k aa z d h, tl cd n k aa = -1 → aa ≤ n → 2 * d ≤ aa → d + k ≤ 100 → OKz z → h 124 = z → fr [124, 128, 129] h7 h → WLs h cd n k aa d → (∀ h', fr [124, 128, 129] h7 h' → h' 124 = (dwk cd n k aa z d).2 → Φ (.ok (some (.int (nI (dwk cd n k aa z d).1)))) h' g) → AP M_X10_doWorks (0, 0) 33 [.ref 123, .int (nI d)] [] h g Φ := by
    intro h7 Φ k
    induction k with
    | zero => intro aa z d h h1 h2; obtain ⟨j, hj⟩ := tl_k hn80 h2 h1; cases hj
    | succ k ih =>
      intro aa z d h h1 h2 hd hdk ok ez f hw hΦ
      obtain ⟨M, m1, m2, m3⟩ := WLs_cnt hn80 _ _ _ h1 h2 hw
      obtain ⟨w1, w2, w3⟩ := tl_ok hn80 h2 h1
      have hle := wk_le (cd := cd) h2
      have hlt := hle.2.2 w1
      have hWV := wk_ok w1
      unfold WLs at hw
      obtain ⟨⟨k1, k2, k3⟩, hw2⟩ := hw
      have hM : M ≤ 1000 := by omega
      have cM : 3 * d + 2 < 123 := by omega
      rw [dwk] at hΦ
      refine s_X10_doWorks_33 ?_
      refine s_X10_doWorks_34 ?_
      refine s_X10_doWorks_35 hI rfl (by decide) ?_
      rw [m1]
      refine s_X10_doWorks_38 (fun h => absurd h (nI_ge m2 (by omega))) (fun _ => ?_)
      refine s_X10_doWorks_41 ?_
      refine s_X10_doWorks_42 ?_
      refine s_X10_doWorks_43 hI rfl (by decide) rfl (by decide) ?_
      refine s_X10_doWorks_46 ?_
      refine s_X10_doWorks_47 ?_
      refine s_X10_doWorks_48 ?_
      rw [show 3 * nI d = nI (3 * d) from pk_mul 3 d]
      refine s_X10_doWorks_49 hI rfl (by decide) (by decide) (rfl) (by omega) ?_
      refine s_X10_doWorks_50 ?_
      refine s_X10_doWorks_51 hI rfl (by decide) rfl (by decide) ?_
      refine s_X10_doWorks_54 ?_
      refine s_X10_doWorks_55 ?_
      refine s_X10_doWorks_56 ?_
      refine s_X10_doWorks_57 ?_
      refine s_X10_doWorks_58 ?_
      rw [show 3 * nI d = nI (3 * d) from pk_mul 3 d]
      refine s_X10_doWorks_59 hI rfl (by decide) (by decide) (nI_1 (3 * d)) (by omega) ?_
      rw [k1]
      refine s_X10_doWorks_60 hI rfl (by decide) (Nat.le_of_ble_eq_true rfl) (m_isPossible hI ez ok hWV k2) ?_
      intro h9 e9; rw [e9]; clear e9 h9
      refine s_X10_doWorks_63 (fun hq => ?_) (fun hq => ?_)
      · refine s_X10_doWorks_104 ?_
        refine s_X10_doWorks_105 ?_
        rw [if_neg (by rw [bI_e0.mp hq]; exact fun e => by cases e)] at hΦ
        exact hΦ _ f ez
      · refine s_X10_doWorks_66 ?_
        refine s_X10_doWorks_67 ?_
        refine s_X10_doWorks_68 hI rfl (by decide) rfl (by decide) ?_
        refine s_X10_doWorks_71 ?_
        refine s_X10_doWorks_72 ?_
        refine s_X10_doWorks_73 ?_
        have hq' := bI_n0.mp hq
        rw [if_pos hq'] at hΦ
        rw [show 3 * nI d = nI (3 * d) from pk_mul 3 d]
        refine s_X10_doWorks_74 hI rfl (by decide) (by decide) (rfl) (by omega) ?_
        refine s_X10_doWorks_75 ?_
        refine s_X10_doWorks_76 hI rfl (by decide) rfl (by decide) ?_
        refine s_X10_doWorks_79 ?_
        refine s_X10_doWorks_80 ?_
        refine s_X10_doWorks_81 ?_
        refine s_X10_doWorks_82 ?_
        refine s_X10_doWorks_83 ?_
        rw [show 3 * nI d = nI (3 * d) from pk_mul 3 d]
        refine s_X10_doWorks_84 hI rfl (by decide) (by decide) (nI_1 (3 * d)) (by omega) ?_
        refine s_X10_doWorks_85 ?_
        refine s_X10_doWorks_86 hI rfl (by decide) rfl (by decide) ?_
        refine s_X10_doWorks_89 ?_
        refine s_X10_doWorks_90 ?_
        refine s_X10_doWorks_91 ?_
        refine s_X10_doWorks_92 ?_
        refine s_X10_doWorks_93 ?_
        rw [show 3 * nI d = nI (3 * d) from pk_mul 3 d]
        refine s_X10_doWorks_94 hI rfl (by decide) (by decide) (nI_add (3 * d) 2) (by omega) ?_
        rw [k1]
        refine s_X10_doWorks_95 hI rfl (by decide) (Nat.le_of_ble_eq_true rfl) (m_does hI ez ok hWV k2 k3 hq') ?_
        intro h8 ⟨f8, e8⟩
        refine s_X10_doWorks_98 rfl ?_
        refine s_X10_doWorks_101 ?_
        rw [nI_1]
        have f9 := f.tr f8
        have e132 : h8 132 = h 132 := f8 132 (by decide)
        have e12 : h8 123 12 = h 123 12 := by rw [f8 123 (by decide)]
        by_cases hc : chr cd n (wk cd n aa).2.1 = 59
        · rw [if_pos hc] at hΦ hw2
          have hsl := chr_lt (cd := cd) (n := n) (a := (wk cd n aa).2.1) (by rw [hc]; decide)
          exact ih _ _ _ h8 (w2 hc) (by omega) (by omega) (by omega) (zdo_ok ok hWV) e8 f9 (WLs.mv e132 e12 _ _ _ hw2) hΦ
        · rw [if_neg hc] at hΦ hw2
          exact last h8 (d + 1) Φ (by omega) (e12.trans hw2) (hΦ _ f9 e8)
  refine am_crn (by decide) (Nat.le_of_ble_eq_true rfl) (fun Φ hΦ => ?_)
  show AP M_X10_doWorks _ 0 [.ref 123, jk] [] _ g Φ
  refine s_X10_doWorks_0 ?_
  refine s_X10_doWorks_1 ?_
  refine s_X10_doWorks_2 hI rfl (by decide) (Nat.le_of_ble_eq_true rfl) (m_tells hI a.2.2.2) ?_
  intro h5 ⟨t5, w5⟩
  refine s_X10_doWorks_5 ?_
  rw [h0]
  refine s_X10_doWorks_6 (fun h => absurd (Eq.refl (-1 : Int32)) h) (fun _ => ?_)
  refine s_X10_doWorks_9 ?_
  refine s_X10_doWorks_10 ?_
  refine s_X10_doWorks_14 hI rfl (by decide) (Nat.le_of_ble_eq_true rfl) (m_asksT hI) ?_
  intro h9 e9; rw [e9]; clear e9 h9
  refine s_X10_doWorks_17 (fun _ => ?_) (fun h => absurd h (by decide))
  refine s_X10_doWorks_22 ?_
  have a1 : MM (am_up h5 123 10 0) z Z p Y c cd n := (a.ms t5.ms).ms (MS.up (by decide) (by decide))
  have r1 : frM hi (am_up h5 123 10 0) := (t5.ms.tr (MS.up (by decide) (by decide))).M
  refine s_X10_doWorks_23 hI rfl (by decide) (Nat.le_of_ble_eq_true rfl) (m_record hI a1.1 a1.2.1) ?_
  intro h6 ⟨f6, g6, mp6⟩
  refine s_X10_doWorks_26 ?_
  refine s_X10_doWorks_27 ?_
  refine s_X10_doWorks_28 hI rfl (by decide) ?_
  refine s_X10_doWorks_31 ?_
  refine s_X10_doWorks_32 rfl ?_
  have m6 := a1.rec f6 g6 mp6
  have t6 : h6 123 10 = 0 := (g6 10 (by decide)).trans u10
  have r6 : frM hi h6 := r1.tr (frM.of f6 (by decide))
  have e132 : am_up h6 123 9 0 132 = h5 132 := by rw [up_k (by decide), f6 132 (by decide), up_k (by decide)]
  have e12 : am_up h6 123 9 0 123 12 = h5 123 12 := by rw [up_c, up_n (by decide), g6 12 (by decide), up_c, up_n (by decide)]
  have m7 : MM (am_up h6 123 9 0) z (svZ Z p z) (svp p) Y c cd 0 := by
    refine ⟨by rw [up_k (by decide)]; exact m6.1, ?_, ?_, ?_⟩
    · have := m6.2.1; unfold MP at *; rw [up_k (k' := 125) (by decide), up_c, up_n (by decide)]; exact this
    · have := m6.2.2.1; unfold MY at *; rw [up_k (k' := 126) (by decide), up_k (k' := 127) (by decide)]; exact this
    · exact ⟨by rw [up_c, up_f]; rfl, by omega, fun i hi' => by omega⟩
  refine loop (am_up h6 123 9 0) Φ 81 0 z 0 _ h0 (by omega) (by omega) (by omega) ok m7.1 fr.rfl (WLs.mv e132 e12 _ _ _ (w5 h0)) (fun h' f' e' => hΦ _ ⟨?_, ?_, ?_⟩)
  · exact (r6.tr (frM.up (by decide))).tr (frM.of f' (by decide))
  · rw [f' 123 (by decide), up_c, up_n (by decide)]; exact t6
  · exact m7.z (f'.mono (by decide)) e'
