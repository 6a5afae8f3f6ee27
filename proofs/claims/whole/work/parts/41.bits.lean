/-! ===== the Reader hears by bits; History and Snapshots ===== -/
theorem gd_app {A x R : List Bool} {i a : Nat} (ha : a = A.length + i) (hi : i < x.length) : (A ++ (x ++ R)).getD a false = x.getD i false := by
  rw [ha, List.getD_eq_getElem?_getD, List.getD_eq_getElem?_getD, List.getElem?_append_right (by omega), List.getElem?_append_left (by omega)]
  congr 2
  omega
theorem numB_gd {v n i : Nat} (h : i < n) : (numB v n).getD i false = decide (v / 2 ^ (n - 1 - i) % 2 = 1) := by
  rw [List.getD_eq_getElem?_getD, numB_at v n i h]
  rfl
theorem folB_1 {f p i : Nat} (h : i < f / 2 ^ p) : (folB f p).getD i false = true := by
  unfold folB
  rw [List.getD_eq_getElem?_getD, List.getElem?_append_left (by rw [List.length_replicate]; exact h), List.getElem?_replicate, if_pos h]
  rfl
theorem folB_2 (f p : Nat) : (folB f p).getD (f / 2 ^ p) false = false := by
  unfold folB
  rw [List.getD_eq_getElem?_getD, List.getElem?_append_right (by rw [List.length_replicate]; exact Nat.le_refl _), List.length_replicate, Nat.sub_self]
  rfl
theorem folB_3 {f p i : Nat} (h : i < p) : (folB f p).getD (f / 2 ^ p + 1 + i) false = decide (f / 2 ^ (p - 1 - i) % 2 = 1) := by
  unfold folB
  rw [List.getD_eq_getElem?_getD, List.getElem?_append_right (by rw [List.length_replicate]; omega), List.length_replicate, show f / 2 ^ p + 1 + i - f / 2 ^ p = i + 1 by omega, List.getElem?_cons_succ, numB_at f p i h]
  rfl
theorem lbB_pre (z : Nat → Int32) (n : Nat) : ∀ m, n ≤ m → ∃ R, lbB z m = lbB z n ++ R := by
  intro m
  induction m with
  | zero => intro h; rw [show n = 0 by omega]; exact ⟨[], rfl⟩
  | succ m ih =>
    intro h
    by_cases he : n = m + 1
    · rw [he]; exact ⟨[], (List.append_nil _).symm⟩
    · obtain ⟨R, hR⟩ := ih (by omega)
      exact ⟨R ++ (hdB z m ++ folB (lf z m) (lp z (m / 8))), by rw [lbB, hR, List.append_assoc]⟩
theorem ne_m1 {t : Nat} (h : t < 2 ^ 31) : ¬ nI t = -1 := fun e => absurd (e ▸ nI_pos' h : (0 : Int32) ≤ -1) (by decide)
theorem c_readBits {hi : am_HI} {g : am_G} (hI : am_Inv g) {z : Nat → Int32} (hz : ZL hi 5 z) (ok : OKz z) (hp : PB hi (lbB z (zt z))) : am_Cr M_X4_readBits [.ref 117, .ref 5, .ref 121] hi g none (fun h => fr [118, 119, 120, 121] hi h ∧ HR h z (-1)) := by
  have ht48 := ok.2.2.1
  obtain ⟨d0, hd0⟩ := nI_any (hi 5 6)
  have hmax := lbB_max ok (n := zt z) ht48
  refine am_crn (by decide) (Nat.le_of_ble_eq_true rfl) (fun Φ hΦ => ?_)
  show AP M_X4_readBits _ 0 [.ref 117, .ref 5, .ref 121, jk, jk, jk, jk] [] _ g Φ
  refine s_X4_readBits_0 ?_
  refine s_X4_readBits_1 hI rfl (by decide) rfl (by decide) ?_
  refine s_X4_readBits_4 ?_
  refine s_X4_readBits_5 hI rfl (by decide) ?_
  refine s_X4_readBits_8 ?_
  refine s_X4_readBits_9 hI rfl (by decide) ?_
  refine s_X4_readBits_12 ?_
  refine s_X4_readBits_13 hI rfl (by decide) rfl (by decide) ?_
  rw [hd0]
  refine s_X4_readBits_16 hI rfl (by decide) (Nat.le_of_ble_eq_true rfl) (c_begin118 hI (d := d0) (hi 5 7) (fun _ => 0) (Or.inr (Or.inr rfl))) ?_
  intro h0 ⟨f0, t0⟩
  refine s_X4_readBits_19 ?_
  refine s_X4_readBits_20 ?_
  refine s_X4_readBits_21 hI rfl (by decide) ?_
  refine s_X4_readBits_24 ?_
  refine s_X4_readBits_25 rfl ?_
  refine s_X4_readBits_26 ?_
  refine s_X4_readBits_27 rfl ?_
  refine s_X4_readBits_29 ?_
  refine s_X4_readBits_30 rfl ?_
  have p0 : PB (am_up h0 121 2 0) (lbB z (zt z)) := PB.up (by unfold PB; rw [f0 121 (by decide), f0 122 (by decide)]; exact hp) 0
  have key := am_for0 (n := zt z) (hi := am_up h0 121 2 0) (fun t h => fr [118, 119, 120, 121] hi h ∧ FT h 118 (hst z (-1) t).1 (hst z (-1) t).2 t d0 (z 58) ∧ PB h (lbB z (zt z)) ∧ h 121 2 = nI (lbB z t).length) (fun t h => ∀ (k p : Int32) (e : Value), (t % 8 ≠ 0 → k = nI (lk z (t / 8)) ∧ p = nI (lp z (t / 8))) → AP M_X4_readBits (0, 0) 32 [.ref 117, .ref 5, .ref 121, .int k, .int p, .int (nI t), e] [] h g Φ) ⟨(f0.mono (by decide)).up (by decide), ?_, p0, rfl⟩ ?_ ?_
  · exact key _ _ _ (fun e => absurd rfl e)
  · rw [← hz.2.2.1]
    have t1 := t0.row (r' := fun _ => 0) (w' := fun k => z (59 + k)) (fun _ _ => rfl) (fun k hk => hz.2.2.2.1 k hk)
    exact ⟨t1.1, t1.2.1, t1.2.2.1, t1.2.2.2.1, fun i hi' => absurd hi' (Nat.not_lt_zero _), t1.2.2.2.2.2⟩
  · intro h ⟨h1, h2, h3, h4⟩ k p e hkp
    have e5 : h 5 = hi 5 := h1 5 (by decide)
    refine s_X4_readBits_32 ?_
    refine s_X4_readBits_34 ?_
    refine s_X4_readBits_35 hI rfl (by decide) ?_
    rw [e5, hz.1, ok.2.1]
    refine s_X4_readBits_38 (fun _ => ?_) (fun h => absurd ((nI_le (Nat.le_refl _) (by omega))) h)
    exact s_X4_readBits_100 (hΦ _ (⟨h1, h2.1, fun t ht => by rw [h2.2.2.2.2.1 t ht]; exact hst_at z (-1) (t + 1) (zt z) t (by omega) (by omega)⟩))
  · intro t h ht ⟨h1, h2, h3, h4⟩ ih k p e hkp
    have e5 : h 5 = hi 5 := h1 5 (by decide)
    have lkk := lk_ok ok (b := t / 8) (by omega)
    have lpp := lp_ok ok (b := t / 8) (by omega)
    have lff := lf_ok ok (t := t) (by omega)
    obtain ⟨d1, d2, d3⟩ := ok.2.2.2.1 (by omega)
    obtain ⟨R, hR⟩ := lbB_pre z (t + 1) (zt z) (by omega)
    have hsz : (lbB z t).length + ((hdB z t).length + (folB (lf z t) (lp z (t / 8))).length) ≤ 19092 := by
      rw [hR, List.length_append, lbB, List.length_append, List.length_append] at hmax
      omega
    have hL : lbB z (zt z) = (lbB z t ++ hdB z t) ++ (folB (lf z t) (lp z (t / 8)) ++ R) := by
      rw [hR, lbB]
      simp only [List.append_assoc]
    have hL2 : lbB z (zt z) = lbB z t ++ (hdB z t ++ (folB (lf z t) (lp z (t / 8)) ++ R)) := by
      rw [hL, List.append_assoc]
    have st : ∀ h' : am_HI, (∀ k, k ≠ 121 → h' k = h k) → PB h' (lbB z (zt z)) → h' 121 2 = nI ((lbB z t).length + (hdB z t).length) → AP M_X4_readBits (0, 0) 62 [.ref 117, .ref 5, .ref 121, .int (nI (lk z (t / 8))), .int (nI (lp z (t / 8))), .int (nI t), e] [] h' g Φ := by
      intro h' hs hpb hat
      have ft : FT h' 118 (hst z (-1) t).1 (hst z (-1) t).2 t (zld z) (z 58) := by
        unfold FT
        rw [hs 118 (by decide), show h' (118 + 1) = h (118 + 1) from hs 119 (by decide), show h' (118 + 2) = h (118 + 2) from hs 120 (by decide)]
        refine ⟨h2.1, ?_, h2.2.2⟩
        rw [h2.2.1, ← hd0, hz.2.1 (zt_z ok (by omega)), d1]
      have ft2 : ∀ x : Int32, FT (am_up h' 121 2 x) 118 (hst z (-1) t).1 (hst z (-1) t).2 t (zld z) (z 58) := by
        intro x
        unfold FT
        rw [up_k (by decide), up_k (by decide), up_k (by decide)]
        exact ft
      refine s_X4_readBits_62 ?_
      refine s_X4_readBits_63 ?_
      refine s_X4_readBits_65 hI rfl (by decide) (Nat.le_of_ble_eq_true rfl) (c_readFolded hI hpb hmax (f := lf z t) (p := lp z (t / 8)) hat (by omega) lpp.2 lff.2 (fun i hi' => by rw [hL, gd_app (i := i) (by rw [List.length_append]) (by rw [folB_len]; omega)]; exact folB_1 hi') (by rw [hL, gd_app (i := lf z t / 2 ^ lp z (t / 8)) (by rw [List.length_append]) (by rw [folB_len]; omega)]; exact folB_2 _ _) (fun i hi' => by rw [hL, gd_app (i := lf z t / 2 ^ lp z (t / 8) + 1 + i) (by rw [List.length_append]; omega) (by rw [folB_len]; omega)]; exact folB_3 hi')) ?_
      intro h9 e9; rw [e9]; clear e9 h9
      refine s_X4_readBits_68 hI (Nat.le_of_ble_eq_true rfl) (c_unfold _) ?_
      intro h9 e9; rw [e9]; clear e9 h9
      refine s_X4_readBits_71 rfl ?_
      refine s_X4_readBits_73 ?_
      refine s_X4_readBits_74 hI rfl (by decide) rfl (by decide) ?_
      refine s_X4_readBits_77 ?_
      refine s_X4_readBits_78 hI rfl (by decide) rfl (by decide) ?_
      refine s_X4_readBits_81 ?_
      rw [← lff.1, unf_fold (ok.2.2.2.2.2.2 t (by omega))]
      refine s_X4_readBits_82 hI rfl (by decide) (Nat.le_of_ble_eq_true rfl) (c_foretell118 hI (lk z (t / 8)) lkk.2 (ft2 _) (by omega) ⟨d2, d3⟩ (fun i _ => hst_rng z (-1) t i)) ?_
      intro h9 e9; rw [e9]; clear e9 h9
      refine s_X4_readBits_85 ?_
      refine s_X4_readBits_87 ?_
      refine s_X4_readBits_88 hI (Nat.le_of_ble_eq_true rfl) (c_limit _) ?_
      intro h9 e9; rw [e9]; clear e9 h9
      refine s_X4_readBits_91 hI rfl (by decide) (Nat.le_of_ble_eq_true rfl) (c_show118 hI (ft2 _) (by omega)) ?_
      intro h6 ⟨g1, g2⟩
      refine s_X4_readBits_94 rfl ?_
      refine s_X4_readBits_97 ?_
      rw [nI_1]
      have g3 := g2 (by omega)
      have hx : lim (fore (lk z (t / 8)) (zld z) (hst z (-1) t).2 (hst z (-1) t).1 t + z (75 + t)) = hnx z (-1) (hst z (-1) t) t := by
        unfold hnx
        rw [if_neg (ne_m1 (by omega)), Int32.add_zero]
      rw [hx] at g3
      refine ih _ ⟨?_, ⟨g3.1, by rw [g3.2.1, ← d1, ← hz.2.1 (zt_z ok (by omega)), hd0], g3.2.2⟩, ?_, ?_⟩ _ _ _ (fun hm => ?_)
      · refine (fr.tr (fr.tr h1 (fun k hk => hs k (fun e => hk (by rw [e]; decide)))) (fr.up fr.rfl (by decide))).tr (g1.mono (by decide))
      · unfold PB
        rw [g1 121 (by decide), g1 122 (by decide)]
        exact hpb.up _
      · rw [g1 121 (by decide), up_c, up_f, lbB, List.length_append, List.length_append, folB_len, Nat.add_assoc]
      · rw [show (t + 1) / 8 = t / 8 by omega]; exact ⟨rfl, rfl⟩
    refine s_X4_readBits_32 ?_
    refine s_X4_readBits_34 ?_
    refine s_X4_readBits_35 hI rfl (by decide) ?_
    rw [e5, hz.1, ok.2.1]
    refine s_X4_readBits_38 (fun h => absurd h ((nI_ge ht (by omega)))) (fun _ => ?_)
    refine s_X4_readBits_41 ?_
    refine s_X4_readBits_43 ?_
    refine s_X4_readBits_45 (by decide) ?_
    rw [rem8 (by omega)]
    refine s_X4_readBits_46 (fun hm => ?_) (fun hm => ?_)
    · have hm0 : t % 8 ≠ 0 := fun e => hm (by rw [e]; rfl)
      obtain ⟨rfl, rfl⟩ := hkp hm0
      refine st h (fun _ _ => rfl) h3 ?_
      rw [h4, hdB, if_neg hm0]; rfl
    · refine s_X4_readBits_49 ?_
      refine s_X4_readBits_50 ?_
      have hm0 : t % 8 = 0 := (nI_eq (a := t % 8) (b := 0) (by omega) (by decide)).mp hm
      have hd6 : hdB z t = numB (lk z (t / 8)) 3 ++ numB (lp z (t / 8)) 3 := by rw [hdB, if_pos hm0]
      have n1 : rdN (lbB z (zt z)) (lbB z t).length 3 = lk z (t / 8) := by
        rw [rdN_num (v := lk z (t / 8)) (fun i hi' => by rw [hL2, hd6, List.append_assoc, gd_app (i := i) rfl (by rw [numB_len]; omega)]; exact numB_gd hi')]
        exact Nat.mod_eq_of_lt (by have := lkk.2; omega)
      have n2 : rdN (lbB z (zt z)) ((lbB z t).length + 3) 3 = lp z (t / 8) := by
        rw [rdN_num (v := lp z (t / 8)) (fun i hi' => by rw [hL2, hd6, List.append_assoc, ← List.append_assoc (lbB z t), gd_app (i := i) (by rw [List.length_append, numB_len]) (by rw [numB_len]; omega)]; exact numB_gd hi')]
        exact Nat.mod_eq_of_lt (by have := lpp.2; omega)
      refine s_X4_readBits_51 hI rfl (by decide) (Nat.le_of_ble_eq_true rfl) (c_readNumber hI (L := lbB z (zt z)) (n := 3) h3 hmax h4 (by omega) (by decide)) ?_
      intro h9 e9; rw [e9]; clear e9 h9
      refine s_X4_readBits_54 rfl ?_
      refine s_X4_readBits_55 ?_
      refine s_X4_readBits_56 ?_
      rw [n1]
      refine s_X4_readBits_57 hI rfl (by decide) (Nat.le_of_ble_eq_true rfl) (c_readNumber hI (L := lbB z (zt z)) (a := (lbB z t).length + 3) (n := 3) (h3.up _) hmax (by rw [up_c, up_f]) (by omega) (by decide)) ?_
      intro h9 e9; rw [e9]; clear e9 h9
      refine s_X4_readBits_60 rfl ?_
      rw [n2, up_up]
      refine st _ (fun k hk => up_k hk) (h3.up _) ?_
      rw [up_c, up_f, hdB_len, if_pos hm0]
/-! History: the six rows lie about, the refs of the cell 39 tell where -/
abbrev hb6 : List Nat := [40, 49, 58, 67, 76, 85]
/-- where the saved states lie, the oldest first -/
def HW (g : am_G) (w : Nat → Nat) : Prop := (∀ i, i < 6 → g.2.1 39 i = some (w i) ∧ w i ∈ hb6) ∧ ∀ i j, i < 6 → j < 6 → w i = w j → i = j
theorem hb_st : ∀ B ∈ hb6, B ∈ st9 ∧ B ≠ 2 ∧ am_SH B = (0, 6) ∧ B < 134 := by decide
theorem am_Inv.rot {g : am_G} (h : am_Inv g) (j r : Nat) : am_Inv (am_upr g 39 j r) := ⟨h.1, fun k i hk => by
  show va_up g.2.1 39 _ k i = _
  rw [am_va_ne hk]
  exact h.2 k i hk⟩
theorem upr_r {g : am_G} {j r i : Nat} : (am_upr g 39 j r).2.1 39 i = if i = j then some r else g.2.1 39 i := by
  show va_up g.2.1 39 _ 39 i = _
  rw [am_va_at]
  rfl
theorem s_X1_forgetOldest_28 {b : Nat × Nat} {st : List Value} {hi : am_HI} {g : am_G} {Φ : am_P} {x0 x1 x2 : Value} {k n j r : Nat} {i : Int32} (hI : am_Inv g) (hs : am_SH k = (5, n)) (hk : k < 134) (hn : n < 2 ^ 31) (hx : i = nI j) (hj : j < n) (hr : am_SH r = (0, 6)) (hrk : r < 134) (h : AP M_X1_forgetOldest b 29 [x0, x1, x2] st hi (am_upr g k j r) Φ) : AP M_X1_forgetOldest b 28 [x0, x1, x2] (.ref r :: .int i :: .ref k :: st) hi g Φ := AP.aast d_X1_forgetOldest_28 hs (hI.lt hk) hn hx hj hr (hI.lt hrk) h
theorem s_X1_forgetOldest_41 {b : Nat × Nat} {st : List Value} {hi : am_HI} {g : am_G} {Φ : am_P} {x0 x1 x2 : Value} {k n j r : Nat} {i : Int32} (hI : am_Inv g) (hs : am_SH k = (5, n)) (hk : k < 134) (hn : n < 2 ^ 31) (hx : i = nI j) (hj : j < n) (hr : am_SH r = (0, 6)) (hrk : r < 134) (h : AP M_X1_forgetOldest b 42 [x0, x1, x2] st hi (am_upr g k j r) Φ) : AP M_X1_forgetOldest b 41 [x0, x1, x2] (.ref r :: .int i :: .ref k :: st) hi g Φ := AP.aast d_X1_forgetOldest_41 hs (hI.lt hk) hn hx hj hr (hI.lt hrk) h
/-- all are one place nearer, the first the last -/
def rotw (w : Nat → Nat) : Nat → Nat := fun i => if i < 5 then w (i + 1) else w 0
theorem HW.rota {g g' : am_G} {w : Nat → Nat} (h : HW g w) (e : ∀ i, i < 6 → g'.2.1 39 i = some (rotw w i)) : HW g' (rotw w) := by
  refine ⟨fun i hi => ⟨e i hi, ?_⟩, fun i j hi hj he => ?_⟩
  · unfold rotw
    by_cases h5 : i < 5
    · rw [if_pos h5]; exact (h.1 _ (by omega)).2
    · rw [if_neg h5]; exact (h.1 _ (by omega)).2
  · unfold rotw at he
    by_cases h5 : i < 5
    · rw [if_pos h5] at he
      by_cases h6 : j < 5
      · rw [if_pos h6] at he
        have := h.2 _ _ (by omega) (by omega) he
        omega
      · rw [if_neg h6] at he
        have := h.2 _ _ (by omega) (by omega) he
        omega
    · rw [if_neg h5] at he
      by_cases h6 : j < 5
      · rw [if_pos h6] at he
        have := h.2 _ _ (by omega) (by omega) he
        omega
      · omega
