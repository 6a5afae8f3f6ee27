/-! ===== the class's Study ===== -/
theorem ZS.so {hi : am_HI} {z : Nat → Int32} (h : ZS hi 2 z) (ok : OKz z) : hi 2 3 = nI (zc z) ∧ hi 2 4 = nI (zd z) ∧ hi 2 5 = z 50 := ⟨h.2.1.trans ok.1.1, h.2.2.1.trans ok.1.2.2.1, h.2.2.2.1⟩
theorem c_soundAt {hi : am_HI} {g : am_G} (hI : am_Inv g) {z : Nat → Int32} {t c : Nat} (h : ∀ t, t < 48 → hi 3 t = z t) (hc : hi 2 3 = nI c) (h48 : c ≤ 48) (ht : t ≤ 48) : am_Cr M_X6_soundAt [.ref 2, .int (nI t)] hi g (some (.int (if t < c then z t else 0))) (fun h => h = hi) := by
  refine am_crn (by decide) (Nat.le_of_ble_eq_true rfl) (fun Φ hΦ => ?_)
  show AP M_X6_soundAt _ 0 [.ref 2, .int (nI t)] [] _ g Φ
  refine s_X6_soundAt_0 ?_
  refine s_X6_soundAt_1 (fun h => absurd h ((nI_pos (by omega)))) (fun _ => ?_)
  refine s_X6_soundAt_4 ?_
  refine s_X6_soundAt_5 ?_
  refine s_X6_soundAt_6 hI rfl (by decide) ?_
  rw [hc]
  refine s_X6_soundAt_9 (fun hh => ?_) (fun hh => ?_)
  · refine s_X6_soundAt_21 ?_
    refine s_X6_soundAt_22 ?_
    rw [nI_leI (by omega) (by omega)] at hh
    rw [if_neg (by omega)] at hΦ
    exact hΦ _ rfl
  · refine s_X6_soundAt_12 ?_
    refine s_X6_soundAt_13 hI rfl (by decide) rfl (by decide) ?_
    refine s_X6_soundAt_16 ?_
    rw [nI_leI (by omega) (by omega)] at hh
    rw [if_pos (by omega), ← h t (by omega)] at hΦ
    refine s_X6_soundAt_17 hI rfl (by decide) (by decide) (rfl) (by omega) ?_
    refine s_X6_soundAt_18 ?_
    exact s_X6_soundAt_22 (hΦ _ rfl)
/-- the sample k back of t, of which c are there -/
theorem c_soundSub {hi : am_HI} {g : am_G} (hI : am_Inv g) {z : Nat → Int32} {t k c : Nat} (h : ∀ t, t < 48 → hi 3 t = z t) (hc : hi 2 3 = nI c) (h48 : c ≤ 48) (ht : t ≤ c) (hk : 1 ≤ k) (hk2 : k ≤ 48) : am_Cr M_X6_soundAt [.ref 2, .int (nI t - nI k)] hi g (some (.int (sm z t k))) (fun h => h = hi) := by
  by_cases hh : k ≤ t
  · rw [pk_sub hh]
    have := c_soundAt hI (t := t - k) h hc h48 (by omega)
    rw [if_pos (by omega)] at this
    unfold sm
    rw [if_pos hh]
    exact this
  · unfold sm
    rw [if_neg hh]
    refine am_crn (by decide) (Nat.le_of_ble_eq_true rfl) (fun Φ hΦ => ?_)
    show AP M_X6_soundAt _ 0 [.ref 2, .int (nI t - nI k)] [] _ g Φ
    refine s_X6_soundAt_0 ?_
    refine s_X6_soundAt_1 (fun _ => ?_) (fun h => absurd (((nsub_lt0 (by omega) (by omega)).mpr (by omega))) h)
    refine s_X6_soundAt_21 ?_
    exact s_X6_soundAt_22 (hΦ _ rfl)
/-- what Study.follow() leaves -/
def FO (hi : am_HI) (z : Nat → Int32) (n : Nat) : Prop := ∀ t, t < n → (∀ kd, kd < 5 → hi (16 + kd) t = zF z kd t) ∧ ∀ k, k < 4 → hi (22 + k) t = zW z t k
theorem FT.cong {hi h : am_HI} {r w : Nat → Int32} {t d : Nat} {sp : Int32} (a : FT hi 11 r w t d sp) (h1 : h 11 = hi 11) (h2 : h 12 = hi 12) (h3 : h 13 = hi 13) : FT h 11 r w t d sp := by
  unfold FT
  rw [h1, show h (11 + 1) = hi (11 + 1) from h2, show h (11 + 2) = hi (11 + 2) from h3]
  exact a
theorem FT.row {hi : am_HI} {f : Nat} {r w r' w' : Nat → Int32} {t d : Nat} {sp : Int32} (a : FT hi f r w t d sp) (hr : ∀ i, i < t → r i = r' i) (hw : ∀ k, k < 4 → w k = w' k) : FT hi f r' w' t d sp :=
  ⟨a.1, a.2.1, a.2.2.1, a.2.2.2.1.trans (wfo_congr hw hr), fun i hi' => (a.2.2.2.2.1 i hi').trans (hr i hi'), fun k hk => (a.2.2.2.2.2 k hk).trans (hw k hk)⟩
theorem upd_self {r : Nat → Int32} {t : Nat} {v : Int32} (h : r t = v) : upd r t v = r := by
  funext i
  by_cases he : i = t
  · rw [he, up_f, h]
  · rw [up_n he]
theorem FT.next {hi : am_HI} {f : Nat} {r w : Nat → Int32} {t d : Nat} {sp v : Int32} (h : FT hi f (upd r t v) (adw w (upd r t v) sp t) (t + 1) d sp) (hv : r t = v) : FT hi f r (adw w r sp t) (t + 1) d sp := by
  rw [upd_self hv] at h
  exact h
abbrev follS : List Nat := [11, 12, 13, 16, 17, 18, 19, 20, 22, 23, 24, 25]
theorem c_follow {hi : am_HI} {g : am_G} (hI : am_Inv g) {z : Nat → Int32} (hz : ZS hi 2 z) (ok : OKz z) : am_Cr M_X7_follow [.ref 1] hi g none (fun h => fr follS hi h ∧ FO h z (zc z + 1)) := by
  obtain ⟨q1, q2, q3⟩ := hz.so ok
  have hc48 := ok.1.2.1
  have hd := ok.1.2.2.2
  have hr : ∀ i, i < 48 → -99 ≤ (z i).toInt ∧ (z i).toInt ≤ 99 := ok.1.2.2.2.2.2.1
  refine am_crn (by decide) (Nat.le_of_ble_eq_true rfl) (fun Φ hΦ => ?_)
  show AP M_X7_follow _ 0 [.ref 1, jk, jk] [] _ g Φ
  refine s_X7_follow_0 ?_
  refine s_X7_follow_1 hI rfl (by decide) rfl (by decide) ?_
  refine s_X7_follow_4 ?_
  refine s_X7_follow_5 hI rfl (by decide) rfl (by decide) ?_
  refine s_X7_follow_8 hI rfl (by decide) ?_
  refine s_X7_follow_11 ?_
  refine s_X7_follow_12 hI rfl (by decide) rfl (by decide) ?_
  refine s_X7_follow_15 hI rfl (by decide) ?_
  refine s_X7_follow_18 ?_
  refine s_X7_follow_19 hI rfl (by decide) rfl (by decide) ?_
  refine s_X7_follow_22 hI rfl (by decide) rfl (by decide) ?_
  rw [q2, q3]
  refine s_X7_follow_25 hI rfl (by decide) (Nat.le_of_ble_eq_true rfl) (c_begin11 hI (d := zd z) (z 50) z (Or.inl rfl)) ?_
  intro h0 ⟨f0, t0⟩
  refine s_X7_follow_28 ?_
  refine s_X7_follow_29 rfl ?_
  have key := am_for0 (n := zc z + 1) (hi := h0) (fun t h => fr follS hi h ∧ (t ≤ zc z → FT h 11 z (zW z t) t (zd z) (z 50)) ∧ FO h z t) (fun t h => ∀ e : Value, AP M_X7_follow (0, 0) 30 [.ref 1, .int (nI t), e] [] h g Φ) ⟨f0.mono (by decide), fun _ => t0.row (fun _ _ => rfl) (fun k hk => hz.2.2.2.2.1 k hk), fun t ht => absurd ht (Nat.not_lt_zero _)⟩ ?_ ?_
  · exact key _
  · intro h ⟨h1, h2, h3⟩ e
    have e2 : h 2 = hi 2 := h1 2 (by decide)
    refine s_X7_follow_30 ?_
    refine s_X7_follow_31 ?_
    refine s_X7_follow_32 hI rfl (by decide) rfl (by decide) ?_
    refine s_X7_follow_35 hI rfl (by decide) ?_
    refine s_X7_follow_38 (fun _ => ?_) (fun h => absurd ((by rw [e2, q1]; exact nI_lt (by omega) (by omega))) h)
    exact s_X7_follow_125 (hΦ _ (⟨h1, h3⟩))
  · intro t h ht ⟨h1, h2, h3⟩ ih e
    have e2 : h 2 = hi 2 := h1 2 (by decide)
    have e3 : h 3 = hi 3 := h1 3 (by decide)
    have ft := h2 (by omega)
    refine s_X7_follow_30 ?_
    refine s_X7_follow_31 ?_
    refine s_X7_follow_32 hI rfl (by decide) rfl (by decide) ?_
    refine s_X7_follow_35 hI rfl (by decide) ?_
    refine s_X7_follow_38 (fun h => absurd h ((by rw [e2, q1]; exact nI_nlt (by omega) (by omega)))) (fun _ => ?_)
    refine s_X7_follow_41 ?_
    refine s_X7_follow_42 rfl ?_
    have key1 := am_for0 (n := 5) (hi := h) (fun i h' => (∀ k j, ¬(16 ≤ k ∧ k < 21 ∧ j = t) → h' k j = h k j) ∧ ∀ kd, kd < i → h' (16 + kd) t = zF z kd t) (fun i h' => AP M_X7_follow (0, 0) 43 [.ref 1, .int (nI t), .int (nI i)] [] h' g Φ) ⟨fun _ _ _ => rfl, fun kd hk => absurd hk (Nat.not_lt_zero _)⟩ ?_ ?_
    · exact key1
    · intro h' ⟨p1, p2⟩
      refine s_X7_follow_43 ?_
      refine s_X7_follow_44 ?_
      refine s_X7_follow_45 (fun _ => ?_) (fun h => absurd ((nI_le (a := 5) (b := 5) (by decide) (by decide))) h)
      refine s_X7_follow_70 ?_
      refine s_X7_follow_71 rfl ?_
      have key2 := am_for0 (n := 4) (hi := h') (fun i h'' => (∀ k j, ¬(22 ≤ k ∧ k < 26 ∧ j = t) → h'' k j = h' k j) ∧ ∀ k, k < i → h'' (22 + k) t = zW z t k) (fun i h'' => AP M_X7_follow (0, 0) 72 [.ref 1, .int (nI t), .int (nI (i + 1))] [] h'' g Φ) ⟨fun _ _ _ => rfl, fun kd hk => absurd hk (Nat.not_lt_zero _)⟩ ?_ ?_
      · exact key2
      · intro h'' ⟨p3, p4⟩
        have r' : ∀ k, ¬ (16 ≤ k ∧ k < 26) → h'' k = h k := by
          intro k hk
          funext j
          rw [p3 k j (by omega), p1 k j (by omega)]
        have fr'' : fr follS hi h'' := by
          intro k hk
          by_cases hk2 : 16 ≤ k ∧ k < 26
          · have : k = 21 := by
              simp only [List.mem_cons, not_or] at hk
              omega
            subst this
            funext j
            rw [p3 21 j (by omega), p1 21 j (by omega), h1 21 (by decide)]
          · rw [r' k hk2, h1 k hk]
        have fo'' : FO h'' z (t + 1) := by
          intro u hu
          by_cases he : u = t
          · subst he
            exact ⟨fun kd hk => by rw [p3 _ _ (by omega)]; exact p2 kd hk, p4⟩
          · obtain ⟨a1, a2⟩ := h3 u (by omega)
            exact ⟨fun kd hk => by rw [p3 _ _ (by omega), p1 _ _ (by omega)]; exact a1 kd hk, fun k hk => by rw [p3 _ _ (by omega), p1 _ _ (by omega)]; exact a2 k hk⟩
        have ft'' : FT h'' 11 z (zW z t) t (zd z) (z 50) := ft.cong (r' 11 (by omega)) (r' 12 (by omega)) (r' 13 (by omega))
        refine s_X7_follow_72 ?_
        refine s_X7_follow_73 ?_
        refine s_X7_follow_74 (fun _ => ?_) (fun h => absurd ((nI_lt (a := 4) (b := 4 + 1) (by decide) (by decide))) h)
        refine s_X7_follow_104 ?_
        refine s_X7_follow_105 hI rfl (by decide) rfl (by decide) ?_
        refine s_X7_follow_108 ?_
        refine s_X7_follow_109 hI rfl (by decide) rfl (by decide) ?_
        refine s_X7_follow_112 ?_
        refine s_X7_follow_113 hI rfl (by decide) (Nat.le_of_ble_eq_true rfl) (c_soundAt hI (z := z) (t := t) (c := zc z) (fun t ht => by rw [r' 3 (by omega), e3]; exact hz.1 t ht) (by rw [r' 2 (by omega), e2]; exact q1) hc48 (by omega)) ?_
        intro h9 e9; rw [e9]; clear e9 h9
        refine s_X7_follow_116 hI rfl (by decide) (Nat.le_of_ble_eq_true rfl) (c_show11 hI ft'' (by omega)) ?_
        intro h5 ⟨g1, g2⟩
        refine s_X7_follow_119 rfl ?_
        refine s_X7_follow_122 ?_
        rw [nI_1]
        refine ih _ ⟨fr''.tr (g1.mono (by decide)), fun hle => ?_, fun u hu => ?_⟩ _
        · have e9 := g2 (by omega)
          exact e9.next (by rw [if_pos (by omega)])
        · obtain ⟨a1, a2⟩ := fo'' u hu
          exact ⟨fun kd hk => by rw [g1 _ (by simp; omega)]; exact a1 kd hk, fun k hk => by rw [g1 _ (by simp; omega)]; exact a2 k hk⟩
      · intro i h'' hi4 ⟨p3, p4⟩ ih2
        obtain ⟨v1, v2, v3⟩ := hr21 hi4
        have e13 : h'' 13 = h 13 := by
          funext j
          rw [p3 13 j (by omega), p1 13 j (by omega)]
        refine s_X7_follow_72 ?_
        refine s_X7_follow_73 ?_
        refine s_X7_follow_74 (fun h => absurd h ((nI_nlt (a := 4) (b := i + 1) (by omega) (by decide)))) (fun _ => ?_)
        refine s_X7_follow_77 ?_
        refine s_X7_follow_78 hI (by first | assumption | rfl | decide | omega) (by first | assumption | rfl | decide | omega) (by first | assumption | rfl | decide | omega) (by first | assumption | rfl | decide | omega) ?_
        refine s_X7_follow_81 ?_
        refine s_X7_follow_82 ?_
        refine s_X7_follow_83 ?_
        refine s_X7_follow_84 hI (by first | assumption | rfl | decide | omega) (by first | assumption | rfl | decide | omega) (by first | assumption | rfl | decide | omega) (nI_i1 i) (hi4) ((hI.2 21 i (by decide)).trans v1) ?_
        refine s_X7_follow_85 ?_
        refine s_X7_follow_86 ?_
        refine s_X7_follow_87 hI (by first | assumption | rfl | decide | omega) (by first | assumption | rfl | decide | omega) (by first | assumption | rfl | decide | omega) (by first | assumption | rfl | decide | omega) ?_
        refine s_X7_follow_90 hI (by first | assumption | rfl | decide | omega) (by first | assumption | rfl | decide | omega) (by first | assumption | rfl | decide | omega) (by first | assumption | rfl | decide | omega) ?_
        refine s_X7_follow_93 ?_
        refine s_X7_follow_94 ?_
        refine s_X7_follow_95 ?_
        refine s_X7_follow_96 hI (by first | assumption | rfl | decide | omega) (by first | assumption | rfl | decide | omega) (by first | assumption | rfl | decide | omega) (nI_i1 i) (hi4) ?_
        refine s_X7_follow_97 hI (by first | assumption | rfl | decide | omega) (by first | assumption | rfl | decide | omega) (by first | assumption | rfl | decide | omega) (rfl) (by omega) ?_
        refine s_X7_follow_98 (by first | assumption | rfl | decide | omega) ?_
        refine s_X7_follow_101 ?_
        rw [nI_1]
        refine ih2 _ ⟨fun k j hk => ?_, fun k hk => ?_⟩
        · rw [up_r, if_neg (by omega)]; exact p3 k j hk
        · rw [up_r]
          by_cases he : k = i
          · subst he
            rw [if_pos ⟨rfl, rfl⟩, e13]
            exact ft.2.2.2.2.2 k hi4
          · rw [if_neg (by omega)]; exact p4 k (by omega)
    · intro i h' hi5 ⟨p1, p2⟩ ih1
      obtain ⟨v1, v2, v3⟩ := hr15 hi5
      have ft' : FT h' 11 z (zW z t) t (zd z) (z 50) := ft.cong (by funext j; exact p1 _ _ (by omega)) (by funext j; exact p1 _ _ (by omega)) (by funext j; exact p1 _ _ (by omega))
      refine s_X7_follow_43 ?_
      refine s_X7_follow_44 ?_
      refine s_X7_follow_45 (fun h => absurd h ((nI_ge (a := i) (b := 5) (by omega) (by decide)))) (fun _ => ?_)
      refine s_X7_follow_48 ?_
      refine s_X7_follow_49 hI (by first | assumption | rfl | decide | omega) (by first | assumption | rfl | decide | omega) (by first | assumption | rfl | decide | omega) (by first | assumption | rfl | decide | omega) ?_
      refine s_X7_follow_52 ?_
      refine s_X7_follow_53 hI (by first | assumption | rfl | decide | omega) (by first | assumption | rfl | decide | omega) (by first | assumption | rfl | decide | omega) (rfl) (hi5) ((hI.2 15 i (by decide)).trans v1) ?_
      refine s_X7_follow_54 ?_
      refine s_X7_follow_55 ?_
      refine s_X7_follow_56 hI (by first | assumption | rfl | decide | omega) (by first | assumption | rfl | decide | omega) (by first | assumption | rfl | decide | omega) (by first | assumption | rfl | decide | omega) ?_
      refine s_X7_follow_59 ?_
      refine s_X7_follow_60 hI (by first | assumption | rfl | decide | omega) (by first | assumption | rfl | decide | omega) (Nat.le_of_ble_eq_true rfl) (c_foretell11 hI i (by omega) ft' (by omega) ⟨hd.1, hd.2.1⟩ (fun j hj => hr j (by omega))) ?_
      intro h9 e9; rw [e9]; clear e9 h9
      refine s_X7_follow_63 hI (by first | assumption | rfl | decide | omega) (by first | assumption | rfl | decide | omega) (by first | assumption | rfl | decide | omega) (rfl) (by omega) ?_
      refine s_X7_follow_64 (by first | assumption | rfl | decide | omega) ?_
      refine s_X7_follow_67 ?_
      rw [nI_1]
      refine ih1 _ ⟨fun k j hk => ?_, fun k hk => ?_⟩
      · rw [up_r, if_neg (by omega)]; exact p1 k j hk
      · rw [up_r]
        by_cases he : k = i
        · subst he
          rw [if_pos ⟨rfl, rfl⟩]
          rfl
        · rw [if_neg (by omega)]; exact p2 k (by omega)
theorem c_leftBy {hi : am_HI} {g : am_G} (hI : am_Inv g) {kd t : Nat} (hk : kd < 5) (ht : t < 48) : am_Cr M_X7_leftBy [.ref 1, .int (nI kd), .int (nI t)] hi g (some (.int (hi 3 t - hi (16 + kd) t))) (fun h => h = hi) := by
  obtain ⟨v1, v2, v3⟩ := hr15 hk
  refine am_crn (by decide) (Nat.le_of_ble_eq_true rfl) (fun Φ hΦ => ?_)
  show AP M_X7_leftBy _ 0 [.ref 1, .int (nI kd), .int (nI t)] [] _ g Φ
  refine s_X7_leftBy_0 ?_
  refine s_X7_leftBy_1 hI (by first | assumption | rfl | decide | omega) (by first | assumption | rfl | decide | omega) (by first | assumption | rfl | decide | omega) (by first | assumption | rfl | decide | omega) ?_
  refine s_X7_leftBy_4 hI (by first | assumption | rfl | decide | omega) (by first | assumption | rfl | decide | omega) (by first | assumption | rfl | decide | omega) (by first | assumption | rfl | decide | omega) ?_
  refine s_X7_leftBy_7 ?_
  refine s_X7_leftBy_8 hI (by first | assumption | rfl | decide | omega) (by first | assumption | rfl | decide | omega) (by first | assumption | rfl | decide | omega) (rfl) (ht) ?_
  refine s_X7_leftBy_9 ?_
  refine s_X7_leftBy_10 hI (by first | assumption | rfl | decide | omega) (by first | assumption | rfl | decide | omega) (by first | assumption | rfl | decide | omega) (by first | assumption | rfl | decide | omega) ?_
  refine s_X7_leftBy_13 ?_
  refine s_X7_leftBy_14 hI (by first | assumption | rfl | decide | omega) (by first | assumption | rfl | decide | omega) (by first | assumption | rfl | decide | omega) (rfl) (hk) ((hI.2 15 kd (by decide)).trans v1) ?_
  refine s_X7_leftBy_15 ?_
  refine s_X7_leftBy_16 hI (by first | assumption | rfl | decide | omega) (by first | assumption | rfl | decide | omega) (by first | assumption | rfl | decide | omega) (rfl) (by omega) ?_
  refine s_X7_leftBy_17 ?_
  exact s_X7_leftBy_18 (hΦ _ rfl)
/-- as c_leftBy, where the row is followed -/
theorem c_leftZ {hi : am_HI} {g : am_G} (hI : am_Inv g) {z : Nat → Int32} {kd t : Nat} (hz : ∀ t, t < 48 → hi 3 t = z t) (fo : FO hi z (zc z + 1)) (hk : kd < 5) (ht : t < 48) (hc : t ≤ zc z) : am_Cr M_X7_leftBy [.ref 1, .int (nI kd), .int (nI t)] hi g (some (.int (zL z kd t))) (fun h => h = hi) := by
  have := c_leftBy (hi := hi) hI hk ht
  rw [hz t ht, (fo t (by omega)).1 kd hk] at this
  exact this
theorem c_sumIf {hi : am_HI} {g : am_G} (hI : am_Inv g) {z : Nat → Int32} (hz : ZS hi 2 z) (ok : OKz z) {kd d q : Nat} (sp : Int32) (hk : kd ≤ 4) (hd : 1 ≤ d ∧ d ≤ 12) (hq : q = 4 ∨ q = 14) : am_Cr M_X7_sumIf [.ref 1, .int (nI kd), .int (nI d), .int sp, .ref q] hi g (some (.int (sumv kd d (hi q) z sp (zc z)))) (fun h => fr [11, 12, 13] hi h) := by
  obtain ⟨q1, q2, q3⟩ := hz.so ok
  have hc48 := ok.1.2.1
  have hr : ∀ i, i < 48 → -99 ≤ (z i).toInt ∧ (z i).toInt ≤ 99 := ok.1.2.2.2.2.2.1
  refine am_crn (by decide) (Nat.le_of_ble_eq_true rfl) (fun Φ hΦ => ?_)
  show AP M_X7_sumIf _ 0 [.ref 1, .int (nI kd), .int (nI d), .int sp, .ref q, jk, jk, jk] [] _ g Φ
  refine s_X7_sumIf_0 ?_
  refine s_X7_sumIf_1 hI rfl (by decide) rfl (by decide) ?_
  refine s_X7_sumIf_4 ?_
  refine s_X7_sumIf_5 ?_
  refine s_X7_sumIf_6 ?_
  refine s_X7_sumIf_8 hI rfl (by decide) (Nat.le_of_ble_eq_true rfl) (c_begin11 hI (d := d) sp z (by omega)) ?_
  intro h0 ⟨f0, t0⟩
  refine s_X7_sumIf_11 ?_
  refine s_X7_sumIf_12 rfl ?_
  refine s_X7_sumIf_14 ?_
  refine s_X7_sumIf_15 rfl ?_
  have key := am_for0 (n := zc z) (hi := h0) (fun t h => fr [11, 12, 13] hi h ∧ FT h 11 z (Wt (hi q) z sp t) t d sp) (fun t h => ∀ e : Value, AP M_X7_sumIf (0, 0) 17 [.ref 1, .int (nI kd), .int (nI d), .int sp, .ref q, .int (sumv kd d (hi q) z sp t), .int (nI t), e] [] h g Φ) ⟨f0.mono (by decide), t0⟩ ?_ ?_
  · exact key _
  · intro h ⟨h1, h2⟩ e
    have e2 : h 2 = hi 2 := h1 2 (by decide)
    refine s_X7_sumIf_17 ?_
    refine s_X7_sumIf_19 ?_
    refine s_X7_sumIf_20 hI rfl (by decide) rfl (by decide) ?_
    refine s_X7_sumIf_23 hI rfl (by decide) ?_
    refine s_X7_sumIf_26 (fun _ => ?_) (fun h => absurd ((by rw [e2, q1]; exact nI_le (by omega) (by omega))) h)
    refine s_X7_sumIf_74 ?_
    exact s_X7_sumIf_76 (hΦ _ (h1))
  · intro t h ht ⟨h1, h2⟩ ih e
    have e2 : h 2 = hi 2 := h1 2 (by decide)
    have e3 : h 3 = hi 3 := h1 3 (by decide)
    refine s_X7_sumIf_17 ?_
    refine s_X7_sumIf_19 ?_
    refine s_X7_sumIf_20 hI rfl (by decide) rfl (by decide) ?_
    refine s_X7_sumIf_23 hI rfl (by decide) ?_
    refine s_X7_sumIf_26 (fun h => absurd h ((by rw [e2, q1]; exact nI_ge (by omega) (by omega)))) (fun _ => ?_)
    refine s_X7_sumIf_29 ?_
    refine s_X7_sumIf_30 hI rfl (by decide) rfl (by decide) ?_
    refine s_X7_sumIf_33 ?_
    refine s_X7_sumIf_35 hI rfl (by decide) (Nat.le_of_ble_eq_true rfl) (c_soundAt hI (z := z) (t := t) (c := zc z) (fun t ht => by rw [e3]; exact hz.1 t ht) (by rw [e2]; exact q1) hc48 (by omega)) ?_
    intro h9 e9; rw [e9]; clear e9 h9
    refine s_X7_sumIf_38 rfl ?_
    refine s_X7_sumIf_40 ?_
    refine s_X7_sumIf_42 ?_
    refine s_X7_sumIf_44 ?_
    refine s_X7_sumIf_45 hI rfl (by decide) rfl (by decide) ?_
    refine s_X7_sumIf_48 ?_
    rw [if_pos ht]
    refine s_X7_sumIf_49 hI rfl (by decide) (Nat.le_of_ble_eq_true rfl) (c_foretell11 hI kd hk h2 (by omega) hd (fun j hj => hr j (by omega))) ?_
    intro h9 e9; rw [e9]; clear e9 h9
    refine s_X7_sumIf_52 ?_
    refine s_X7_sumIf_53 hI (Nat.le_of_ble_eq_true rfl) (c_abs _) ?_
    intro h9 e9; rw [e9]; clear e9 h9
    refine s_X7_sumIf_56 ?_
    refine s_X7_sumIf_57 rfl ?_
    refine s_X7_sumIf_59 ?_
    refine s_X7_sumIf_60 hI rfl (by decide) rfl (by decide) ?_
    refine s_X7_sumIf_63 ?_
    refine s_X7_sumIf_65 hI rfl (by decide) (Nat.le_of_ble_eq_true rfl) (c_show11 hI h2 (by omega)) ?_
    intro h5 ⟨g1, g2⟩
    refine s_X7_sumIf_68 rfl ?_
    refine s_X7_sumIf_71 ?_
    rw [nI_1]
    exact ih _ ⟨h1.tr g1, (g2 (by omega)).next rfl⟩ _
theorem c_sumBy {hi : am_HI} {g : am_G} (hI : am_Inv g) {z : Nat → Int32} (hz : ZS hi 2 z) (ok : OKz z) {kd : Nat} (hk : kd ≤ 4) : am_Cr M_X7_sumBy [.ref 1, .int (nI kd)] hi g (some (.int (sumv kd (zd z) (hi 4) z (z 50) (zc z)))) (fun h => fr [11, 12, 13] hi h) := by
  obtain ⟨q1, q2, q3⟩ := hz.so ok
  refine am_crn (by decide) (Nat.le_of_ble_eq_true rfl) (fun Φ hΦ => ?_)
  show AP M_X7_sumBy _ 0 [.ref 1, .int (nI kd)] [] _ g Φ
  refine s_X7_sumBy_0 ?_
  refine s_X7_sumBy_1 ?_
  refine s_X7_sumBy_2 ?_
  refine s_X7_sumBy_3 hI rfl (by decide) rfl (by decide) ?_
  refine s_X7_sumBy_6 hI rfl (by decide) ?_
  refine s_X7_sumBy_9 ?_
  refine s_X7_sumBy_10 hI rfl (by decide) rfl (by decide) ?_
  refine s_X7_sumBy_13 hI rfl (by decide) ?_
  refine s_X7_sumBy_16 ?_
  refine s_X7_sumBy_17 hI rfl (by decide) rfl (by decide) ?_
  refine s_X7_sumBy_20 hI rfl (by decide) rfl (by decide) ?_
  rw [q2, q3]
  refine s_X7_sumBy_23 hI rfl (by decide) (Nat.le_of_ble_eq_true rfl) (c_sumIf hI hz ok (z 50) hk ⟨ok.1.2.2.2.1, ok.1.2.2.2.2.1⟩ (Or.inl rfl)) ?_
  intro h1 p1
  exact s_X7_sumBy_26 (hΦ _ (p1))
