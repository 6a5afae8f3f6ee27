/-! ===== a letter's bits counted; the Reader ===== -/
theorem nI_any (x : Int32) : ∃ n : Nat, x = nI n := ⟨x.toBitVec.toNat, by
  apply Int32.toBitVec_inj.mp
  apply BitVec.eq_of_toNat_eq
  rw [pk_tn x.toBitVec.isLt]⟩
/-- the kind of a letter's block, its parameter, the folded left-over of a sample -/
def lk (z : Nat → Int32) (b : Nat) : Nat := (z (63 + b)).toInt.toNat
def lp (z : Nat → Int32) (b : Nat) : Nat := (z (69 + b)).toInt.toNat
def lf (z : Nat → Int32) (t : Nat) : Nat := (foldI (z (75 + t))).toInt.toNat
theorem lk_ok {z : Nat → Int32} (ok : OKz z) {b : Nat} (hb : b < 6) : z (63 + b) = nI (lk z b) ∧ lk z b ≤ 4 := by
  obtain ⟨k, h1, h2⟩ := ok.2.2.2.2.1 b hb
  have e : lk z b = k := by unfold lk; rw [h1, am_nI (by omega)]; rfl
  rw [e]
  exact ⟨h1, h2⟩
theorem lp_ok {z : Nat → Int32} (ok : OKz z) {b : Nat} (hb : b < 6) : z (69 + b) = nI (lp z b) ∧ lp z b ≤ 7 := by
  obtain ⟨k, h1, h2⟩ := ok.2.2.2.2.2.1 b hb
  have e : lp z b = k := by unfold lp; rw [h1, am_nI (by omega)]; rfl
  rw [e]
  exact ⟨h1, h2⟩
theorem lf_ok {z : Nat → Int32} (ok : OKz z) {t : Nat} (ht : t < 48) : foldI (z (75 + t)) = nI (lf z t) ∧ lf z t ≤ 396 := by
  obtain ⟨k, h1, h2⟩ := foldI_nI (ok.2.2.2.2.2.2 t ht)
  have e : lf z t = k := by unfold lf; rw [h2, am_nI (by omega)]; rfl
  rw [e]
  exact ⟨h2, h1⟩
/-- the bits of a left-over -/
def lb1 (z : Nat → Int32) (t : Nat) : Nat := lf z t / 2 ^ lp z (t / 8) + 1 + lp z (t / 8)
def lbs (z : Nat → Int32) : Nat → Nat
  | 0 => 0
  | t + 1 => lbs z t + lb1 z t
def zbits (z : Nat → Int32) : Nat := (zt z + 7) / 8 * 6 + lbs z (zt z)
theorem lb1_le {z : Nat → Int32} (ok : OKz z) {t : Nat} (ht : t < 48) : lb1 z t ≤ 397 := by
  have h1 := (lf_ok ok ht).2
  have h2 := (lp_ok ok (b := t / 8) (by omega)).2
  unfold lb1
  generalize lp z (t / 8) = p at h2
  generalize lf z t = f at h1
  rcases (show p = 0 ∨ p = 1 ∨ p = 2 ∨ p = 3 ∨ p = 4 ∨ p = 5 ∨ p = 6 ∨ p = 7 by omega) with rfl | rfl | rfl | rfl | rfl | rfl | rfl | rfl <;> simp <;> omega
theorem lbs_le {z : Nat → Int32} (ok : OKz z) : ∀ n, n ≤ 48 → lbs z n ≤ n * 397 := by
  intro n
  induction n with
  | zero => intro _; exact Nat.le_refl _
  | succ n ih =>
    intro h
    have := ih (by omega)
    have := lb1_le ok (t := n) (by omega)
    rw [lbs]
    omega
theorem lbI {z : Nat → Int32} (ok : OKz z) {t : Nat} (ht : t < 48) : bofI (foldI (z (75 + t))) (z (69 + t / 8)) = nI (lb1 z t) := by
  rw [(lf_ok ok ht).1, (lp_ok ok (b := t / 8) (by omega)).1, bofI_nI (lf_ok ok ht).2 (lp_ok ok (b := t / 8) (by omega)).2]
  rfl
theorem c_countLB {hi : am_HI} {g : am_G} (hI : am_Inv g) {z : Nat → Int32} (hz : ZL hi 5 z) (ok : OKz z) : am_Cr M_X2_countBits [.ref 5] hi g (some (.int (nI (zbits z)))) (fun h => h = hi) := by
  have ht48 := ok.2.2.1
  have e5 : hi 5 5 = nI (zt z) := hz.1.trans ok.2.1
  refine am_crn (by decide) (Nat.le_of_ble_eq_true rfl) (fun Φ hΦ => ?_)
  show AP M_X2_countBits _ 0 [.ref 5, jk, jk] [] _ g Φ
  refine s_X2_countBits_0 ?_
  refine s_X2_countBits_1 hI rfl (by decide) ?_
  rw [e5]
  refine s_X2_countBits_4 hI (Nat.le_of_ble_eq_true rfl) (c_blocksOf _) ?_
  intro h9 e9; rw [e9]; clear e9 h9
  refine s_X2_countBits_7 ?_
  refine s_X2_countBits_9 ?_
  refine s_X2_countBits_10 rfl ?_
  refine s_X2_countBits_11 ?_
  refine s_X2_countBits_12 rfl ?_
  rw [blk_nI (by omega), show nI ((zt z + 7) / 8) * 6 = nI ((zt z + 7) / 8 * 6) from pk_mul _ 6]
  have key := am_for0 (n := zt z) (hi := hi) (fun _ h => h = hi) (fun t h => AP M_X2_countBits (0, 0) 13 [.ref 5, .int (nI ((zt z + 7) / 8 * 6 + lbs z t)), .int (nI t)] [] h g Φ) rfl ?_ ?_
  · exact key
  · intro h9 e9
    obtain rfl := e9.symm
    refine s_X2_countBits_13 ?_
    refine s_X2_countBits_14 ?_
    refine s_X2_countBits_15 hI rfl (by decide) ?_
    rw [e5]
    refine s_X2_countBits_18 (fun _ => ?_) (fun h => absurd ((nI_le (Nat.le_refl _) (by omega))) h)
    refine s_X2_countBits_51 ?_
    exact s_X2_countBits_52 (hΦ _ (rfl))
  · intro t h9 ht e9 ih
    obtain rfl := e9.symm
    have l7 : hi 9 t = z (75 + t) := hz.2.2.2.2.2.2.1 t (by omega)
    have l8 : hi 8 (t / 8) = z (69 + t / 8) := hz.2.2.2.2.2.1 (t / 8) (by omega)
    refine s_X2_countBits_13 ?_
    refine s_X2_countBits_14 ?_
    refine s_X2_countBits_15 hI rfl (by decide) ?_
    rw [e5]
    refine s_X2_countBits_18 (fun h => absurd h ((nI_ge ht (by omega)))) (fun _ => ?_)
    refine s_X2_countBits_21 ?_
    refine s_X2_countBits_22 ?_
    refine s_X2_countBits_23 hI rfl (by decide) rfl (by decide) ?_
    refine s_X2_countBits_26 ?_
    refine s_X2_countBits_27 hI rfl (by decide) (by decide) (rfl) (by omega) ?_
    rw [l7]
    refine s_X2_countBits_28 hI (Nat.le_of_ble_eq_true rfl) (c_fold _) ?_
    intro h9 e9; rw [e9]; clear e9 h9
    refine s_X2_countBits_31 ?_
    refine s_X2_countBits_32 hI rfl (by decide) rfl (by decide) ?_
    refine s_X2_countBits_35 ?_
    refine s_X2_countBits_36 ?_
    refine s_X2_countBits_38 (by decide) ?_
    refine s_X2_countBits_39 hI rfl (by decide) (by decide) (div8 (by omega)) (by omega) ?_
    rw [l8]
    refine s_X2_countBits_40 hI (Nat.le_of_ble_eq_true rfl) (c_bitsOfFolded _ _) ?_
    intro h9 e9; rw [e9]; clear e9 h9
    refine s_X2_countBits_43 ?_
    refine s_X2_countBits_44 rfl ?_
    refine s_X2_countBits_45 rfl ?_
    refine s_X2_countBits_48 ?_
    rw [lbI ok (by omega), nI_add, Nat.add_assoc, nI_1]
    exact ih _ rfl
/-- the reader: what it has heard of a letter ahead of a sample, and its weights; the left-over that is 1 more -/
def hnx (z : Nat → Int32) (more : Int32) (q : (Nat → Int32) × (Nat → Int32)) (t : Nat) : Int32 := lim (fore (lk z (t / 8)) (zld z) q.2 q.1 t + (z (75 + t) + if nI t = more then 1 else 0))
def hst (z : Nat → Int32) (more : Int32) : Nat → (Nat → Int32) × (Nat → Int32)
  | 0 => (fun _ => 0, fun k => z (59 + k))
  | t + 1 => (upd (hst z more t).1 t (hnx z more (hst z more t) t), adw (hst z more t).2 (upd (hst z more t).1 t (hnx z more (hst z more t) t)) (z 58) t)
theorem hst_1 (z : Nat → Int32) (more : Int32) (n : Nat) : (hst z more (n + 1)).1 = upd (hst z more n).1 n (hnx z more (hst z more n) n) := rfl
theorem hst_rng (z : Nat → Int32) (more : Int32) (n : Nat) : ∀ t, -99 ≤ ((hst z more n).1 t).toInt ∧ ((hst z more n).1 t).toInt ≤ 99 := by
  induction n with
  | zero => intro t; exact (by decide : -99 ≤ (0 : Int32).toInt ∧ (0 : Int32).toInt ≤ 99)
  | succ n ih =>
    intro t
    rw [hst_1]
    by_cases h : t = n
    · rw [h, up_f]
      exact lim_rng _
    · rw [up_n h]
      exact ih t
theorem hst_at (z : Nat → Int32) (more : Int32) (n : Nat) : ∀ m t, t < n → n ≤ m → (hst z more m).1 t = (hst z more n).1 t := by
  intro m
  induction m with
  | zero => intro t h1 h2; omega
  | succ m ih =>
    intro t h1 h2
    by_cases h : n = m + 1
    · rw [h]
    · rw [hst_1, up_n (by omega)]
      exact ih t h1 (by omega)
/-- what is heard of a sample -/
def ear (z : Nat → Int32) (more : Int32) (t : Nat) : Int32 := (hst z more (t + 1)).1 t
/-- the reader has heard the letter -/
def HR (hi : am_HI) (z : Nat → Int32) (more : Int32) : Prop := hi 118 2 = nI (zt z) ∧ ∀ t, t < zt z → hi 119 t = ear z more t
theorem zt_z {z : Nat → Int32} (ok : OKz z) (h : zt z ≠ 0) : z 56 ≠ 0 := by
  rw [ok.2.1]
  exact nI_ne0 (by omega) (by have := ok.2.2.1; omega)
theorem c_read {hi : am_HI} {g : am_G} (hI : am_Inv g) {z : Nat → Int32} (hz : ZL hi 5 z) (ok : OKz z) (more : Int32) : am_Cr M_X4_read [.ref 117, .ref 5, .int more] hi g none (fun h => fr [118, 119, 120] hi h ∧ HR h z more) := by
  have ht48 := ok.2.2.1
  obtain ⟨d0, hd0⟩ := nI_any (hi 5 6)
  refine am_crn (by decide) (Nat.le_of_ble_eq_true rfl) (fun Φ hΦ => ?_)
  show AP M_X4_read _ 0 [.ref 117, .ref 5, .int more, jk, jk] [] _ g Φ
  refine s_X4_read_0 ?_
  refine s_X4_read_1 hI rfl (by decide) rfl (by decide) ?_
  refine s_X4_read_4 ?_
  refine s_X4_read_5 hI rfl (by decide) ?_
  refine s_X4_read_8 ?_
  refine s_X4_read_9 hI rfl (by decide) ?_
  refine s_X4_read_12 ?_
  refine s_X4_read_13 hI rfl (by decide) rfl (by decide) ?_
  rw [hd0]
  refine s_X4_read_16 hI rfl (by decide) (Nat.le_of_ble_eq_true rfl) (c_begin118 hI (d := d0) (hi 5 7) (fun _ => 0) (Or.inr (Or.inr rfl))) ?_
  intro h0 ⟨f0, t0⟩
  refine s_X4_read_19 ?_
  refine s_X4_read_20 rfl ?_
  have key := am_for0 (n := zt z) (hi := h0) (fun t h => fr [118, 119, 120] hi h ∧ FT h 118 (hst z more t).1 (hst z more t).2 t d0 (z 58)) (fun t h => ∀ e : Value, AP M_X4_read (0, 0) 21 [.ref 117, .ref 5, .int more, .int (nI t), e] [] h g Φ) ⟨f0.mono (by decide), by rw [← hz.2.2.1]; exact t0.row (fun _ _ => rfl) (fun k hk => hz.2.2.2.1 k hk)⟩ ?_ ?_
  · exact key _
  · intro h ⟨h1, h2⟩ e
    have e5 : h 5 = hi 5 := h1 5 (by decide)
    refine s_X4_read_21 ?_
    refine s_X4_read_22 ?_
    refine s_X4_read_23 hI rfl (by decide) ?_
    rw [e5, hz.1, ok.2.1]
    refine s_X4_read_26 (fun _ => ?_) (fun h => absurd ((nI_le (Nat.le_refl _) (by omega))) h)
    exact s_X4_read_83 (hΦ _ (⟨h1, h2.1, fun t ht => by rw [h2.2.2.2.2.1 t ht]; exact hst_at z more (t + 1) (zt z) t (by omega) (by omega)⟩))
  · intro t h ht ⟨h1, h2⟩ ih e
    have e5 : h 5 = hi 5 := h1 5 (by decide)
    have e9 : h 9 t = z (75 + t) := by rw [h1 9 (by decide)]; exact hz.2.2.2.2.2.2.1 t (by omega)
    have lkk := lk_ok ok (b := t / 8) (by omega)
    have e7 : h 7 (t / 8) = nI (lk z (t / 8)) := by rw [h1 7 (by decide)]; exact (hz.2.2.2.2.1 (t / 8) (by omega)).trans lkk.1
    obtain ⟨d1, d2, d3⟩ := ok.2.2.2.1 (by omega)
    have hdd : d0 = zld z ∨ True := Or.inr trivial
    have ft : FT h 118 (hst z more t).1 (hst z more t).2 t (zld z) (z 58) := by
      refine ⟨h2.1, ?_, h2.2.2⟩
      rw [h2.2.1, ← hd0, hz.2.1 (zt_z ok (by omega)), d1]
    have st : ∀ x : Int32, x = (if nI t = more then 1 else 0) → ∀ e : Value, AP M_X4_read (0, 0) 45 [.ref 117, .ref 5, .int more, .int (nI t), e] [.int x, .int (z (75 + t))] h g Φ := by
      intro x hx e
      refine s_X4_read_45 ?_
      refine s_X4_read_46 rfl ?_
      refine s_X4_read_48 ?_
      refine s_X4_read_49 hI rfl (by decide) rfl (by decide) ?_
      refine s_X4_read_52 ?_
      refine s_X4_read_53 hI rfl (by decide) rfl (by decide) ?_
      refine s_X4_read_56 ?_
      refine s_X4_read_57 hI rfl (by decide) rfl (by decide) ?_
      refine s_X4_read_60 ?_
      refine s_X4_read_61 ?_
      refine s_X4_read_63 (by decide) ?_
      refine s_X4_read_64 hI rfl (by decide) (by decide) (div8 (by omega)) (by omega) ?_
      rw [e7]
      refine s_X4_read_65 hI rfl (by decide) (Nat.le_of_ble_eq_true rfl) (c_foretell118 hI (lk z (t / 8)) lkk.2 ft (by omega) ⟨d2, d3⟩ (fun i _ => hst_rng z more t i)) ?_
      intro h9 e9; rw [e9]; clear e9 h9
      refine s_X4_read_68 ?_
      refine s_X4_read_70 ?_
      refine s_X4_read_71 hI (Nat.le_of_ble_eq_true rfl) (c_limit _) ?_
      intro h9 e9; rw [e9]; clear e9 h9
      refine s_X4_read_74 hI rfl (by decide) (Nat.le_of_ble_eq_true rfl) (c_show118 hI ft (by omega)) ?_
      intro h5 ⟨g1, g2⟩
      refine s_X4_read_77 rfl ?_
      refine s_X4_read_80 ?_
      rw [nI_1]
      refine ih _ ⟨h1.tr g1, ?_⟩ _
      have g3 := g2 (by omega)
      rw [hx] at g3
      exact ⟨g3.1, by rw [g3.2.1, ← d1, ← hz.2.1 (zt_z ok (by omega)), hd0], g3.2.2⟩
    refine s_X4_read_21 ?_
    refine s_X4_read_22 ?_
    refine s_X4_read_23 hI rfl (by decide) ?_
    rw [e5, hz.1, ok.2.1]
    refine s_X4_read_26 (fun h => absurd h ((nI_ge ht (by omega)))) (fun _ => ?_)
    refine s_X4_read_29 ?_
    refine s_X4_read_30 hI rfl (by decide) rfl (by decide) ?_
    refine s_X4_read_33 ?_
    refine s_X4_read_34 hI rfl (by decide) (by decide) (rfl) (by omega) ?_
    refine s_X4_read_35 ?_
    refine s_X4_read_36 ?_
    rw [e9]
    refine s_X4_read_37 (fun hm => ?_) (fun hm => ?_)
    · refine s_X4_read_44 ?_
      exact st _ (by rw [if_neg hm]) _
    · refine s_X4_read_40 ?_
      refine s_X4_read_41 ?_
      exact st _ (by rw [if_pos hm]) _
theorem c_heardAt {hi : am_HI} {g : am_G} (hI : am_Inv g) {z : Nat → Int32} {more : Int32} (hr : HR hi z more) (h48 : zt z ≤ 48) {t : Nat} (ht : t < zt z) : am_Cr M_X4_heardAt [.ref 117, .int (nI t)] hi g (some (.int (ear z more t))) (fun h => h = hi) := by
  rw [← hr.2 t ht]
  refine am_crn (by decide) (Nat.le_of_ble_eq_true rfl) (fun Φ hΦ => ?_)
  show AP M_X4_heardAt _ 0 [.ref 117, .int (nI t)] [] _ g Φ
  refine s_X4_heardAt_0 ?_
  refine s_X4_heardAt_1 (fun h => absurd h ((nI_pos (by omega)))) (fun _ => ?_)
  refine s_X4_heardAt_4 ?_
  refine s_X4_heardAt_5 ?_
  refine s_X4_heardAt_6 hI rfl (by decide) rfl (by decide) ?_
  refine s_X4_heardAt_9 hI rfl (by decide) ?_
  rw [hr.1]
  refine s_X4_heardAt_12 (fun h => absurd h ((nI_ge ht (by omega)))) (fun _ => ?_)
  refine s_X4_heardAt_15 ?_
  refine s_X4_heardAt_16 hI rfl (by decide) rfl (by decide) ?_
  refine s_X4_heardAt_19 hI rfl (by decide) rfl (by decide) ?_
  refine s_X4_heardAt_22 ?_
  refine s_X4_heardAt_23 hI rfl (by decide) (by decide) (rfl) (by omega) ?_
  refine s_X4_heardAt_24 ?_
  exact s_X4_heardAt_28 (hΦ _ rfl)
def unl (z : Nat → Int32) (more : Int32) (n : Nat) : Int32 := isum (fun t => if ear z more t = z (123 + t) then 0 else 1) n
theorem c_countUnlike {hi : am_HI} {g : am_G} (hI : am_Inv g) {z : Nat → Int32} {more : Int32} (hz : ZL hi 5 z) (ok : OKz z) (hr : HR hi z more) : am_Cr M_X4_countUnlike [.ref 117, .ref 5] hi g (some (.int (unl z more (zt z)))) (fun h => h = hi) := by
  have ht48 := ok.2.2.1
  have e5 : hi 5 5 = nI (zt z) := hz.1.trans ok.2.1
  refine am_crn (by decide) (Nat.le_of_ble_eq_true rfl) (fun Φ hΦ => ?_)
  show AP M_X4_countUnlike _ 0 [.ref 117, .ref 5, jk, jk] [] _ g Φ
  refine s_X4_countUnlike_0 ?_
  refine s_X4_countUnlike_1 rfl ?_
  refine s_X4_countUnlike_2 ?_
  refine s_X4_countUnlike_3 rfl ?_
  have key := am_for0 (n := zt z) (hi := hi) (fun _ h => h = hi) (fun t h => AP M_X4_countUnlike (0, 0) 4 [.ref 117, .ref 5, .int (unl z more t), .int (nI t)] [] h g Φ) rfl ?_ ?_
  · exact key
  · intro h9 e9
    obtain rfl := e9.symm
    refine s_X4_countUnlike_4 ?_
    refine s_X4_countUnlike_5 ?_
    refine s_X4_countUnlike_6 hI rfl (by decide) ?_
    rw [e5]
    refine s_X4_countUnlike_9 (fun _ => ?_) (fun h => absurd ((nI_le (Nat.le_refl _) (by omega))) h)
    refine s_X4_countUnlike_40 ?_
    exact s_X4_countUnlike_41 (hΦ _ rfl)
  · intro t h9 ht e9 ih
    obtain rfl := e9.symm
    have ih' := ih _ rfl
    have es : unl z more (t + 1) = unl z more t + if ear z more t = z (123 + t) then 0 else 1 := rfl
    have l8 : hi 10 t = z (123 + t) := hz.2.2.2.2.2.2.2 t (by omega)
    refine s_X4_countUnlike_4 ?_
    refine s_X4_countUnlike_5 ?_
    refine s_X4_countUnlike_6 hI rfl (by decide) ?_
    rw [e5]
    refine s_X4_countUnlike_9 (fun h => absurd h ((nI_ge ht (by omega)))) (fun _ => ?_)
    refine s_X4_countUnlike_12 ?_
    refine s_X4_countUnlike_13 ?_
    refine s_X4_countUnlike_14 ?_
    refine s_X4_countUnlike_15 hI rfl (by decide) (Nat.le_of_ble_eq_true rfl) (c_heardAt hI hr ht48 ht) ?_
    intro h9 e9; rw [e9]; clear e9 h9
    refine s_X4_countUnlike_18 ?_
    refine s_X4_countUnlike_19 hI rfl (by decide) rfl (by decide) ?_
    refine s_X4_countUnlike_22 ?_
    refine s_X4_countUnlike_23 hI rfl (by decide) (by decide) (rfl) (by omega) ?_
    rw [l8]
    refine s_X4_countUnlike_24 (fun hh => ?_) (fun hh => ?_)
    · refine s_X4_countUnlike_31 ?_
      refine s_X4_countUnlike_32 ?_
      refine s_X4_countUnlike_33 rfl ?_
      refine s_X4_countUnlike_34 rfl ?_
      refine s_X4_countUnlike_37 ?_
      rw [es, if_pos hh] at ih'
      rw [nI_1]
      exact ih'
    · refine s_X4_countUnlike_27 ?_
      refine s_X4_countUnlike_28 ?_
      refine s_X4_countUnlike_32 ?_
      refine s_X4_countUnlike_33 rfl ?_
      refine s_X4_countUnlike_34 rfl ?_
      refine s_X4_countUnlike_37 ?_
      rw [es, if_neg hh] at ih'
      rw [nI_1]
      exact ih'
/-- the first of the n from t on that is so, else -1 -/
def ffi (P : Nat → Bool) : Nat → Nat → Int32
  | _, 0 => -1
  | t, n + 1 => if P t = true then nI t else ffi P (t + 1) n
def zuf (z : Nat → Int32) : Int32 := ffi (fun t => decide (¬ ear z (-1) t = z (123 + t))) 0 (zt z)
theorem c_findUnlike {hi : am_HI} {g : am_G} (hI : am_Inv g) {z : Nat → Int32} (hz : ZL hi 5 z) (ok : OKz z) (hr : HR hi z (-1)) : am_Cr M_X4_findUnlike [.ref 117, .ref 5] hi g (some (.int (zuf z))) (fun h => h = hi) := by
  have ht48 := ok.2.2.1
  have e5 : hi 5 5 = nI (zt z) := hz.1.trans ok.2.1
  refine am_crn (by decide) (Nat.le_of_ble_eq_true rfl) (fun Φ hΦ => ?_)
  show AP M_X4_findUnlike _ 0 [.ref 117, .ref 5, jk] [] _ g Φ
  refine s_X4_findUnlike_0 ?_
  refine s_X4_findUnlike_1 rfl ?_
  have key := am_for0 (n := zt z) (hi := hi) (fun _ h => h = hi) (fun t h => zuf z = ffi (fun t => decide (¬ ear z (-1) t = z (123 + t))) t (zt z - t) → AP M_X4_findUnlike (0, 0) 2 [.ref 117, .ref 5, .int (nI t)] [] h g Φ) rfl ?_ ?_
  · exact key rfl
  · intro h9 e9 hu
    obtain rfl := e9.symm
    rw [Nat.sub_self, ffi] at hu
    rw [hu] at hΦ
    refine s_X4_findUnlike_2 ?_
    refine s_X4_findUnlike_3 ?_
    refine s_X4_findUnlike_4 hI rfl (by decide) ?_
    rw [e5]
    refine s_X4_findUnlike_7 (fun _ => ?_) (fun h => absurd ((nI_le (Nat.le_refl _) (by omega))) h)
    refine s_X4_findUnlike_32 ?_
    exact s_X4_findUnlike_33 (hΦ _ (rfl))
  · intro t h9 ht e9 ih hu
    obtain rfl := e9.symm
    have l8 : hi 10 t = z (123 + t) := hz.2.2.2.2.2.2.2 t (by omega)
    rw [show zt z - t = zt z - (t + 1) + 1 by omega, ffi] at hu
    refine s_X4_findUnlike_2 ?_
    refine s_X4_findUnlike_3 ?_
    refine s_X4_findUnlike_4 hI rfl (by decide) ?_
    rw [e5]
    refine s_X4_findUnlike_7 (fun h => absurd h ((nI_ge ht (by omega)))) (fun _ => ?_)
    refine s_X4_findUnlike_10 ?_
    refine s_X4_findUnlike_11 ?_
    refine s_X4_findUnlike_12 hI rfl (by decide) (Nat.le_of_ble_eq_true rfl) (c_heardAt hI hr ht48 ht) ?_
    intro h9 e9; rw [e9]; clear e9 h9
    refine s_X4_findUnlike_15 ?_
    refine s_X4_findUnlike_16 hI rfl (by decide) rfl (by decide) ?_
    refine s_X4_findUnlike_19 ?_
    refine s_X4_findUnlike_20 hI rfl (by decide) (by decide) (rfl) (by omega) ?_
    rw [l8]
    refine s_X4_findUnlike_21 (fun hh => ?_) (fun hh => ?_)
    · refine s_X4_findUnlike_26 rfl ?_
      refine s_X4_findUnlike_29 ?_
      rw [if_neg (by simp [hh])] at hu
      rw [nI_1]
      exact ih _ rfl hu
    · refine s_X4_findUnlike_24 ?_
      refine s_X4_findUnlike_25 ?_
      rw [if_pos (by simp [hh])] at hu
      rw [hu] at hΦ
      exact hΦ _ rfl
