/-! ===== the class: doWorks ===== -/
theorem tl_ok {cd : Nat → Nat} {n k a : Nat} (hn : n ≤ 80) (ha : a ≤ n) (h : tl cd n (k + 1) a = -1) : (wk cd n a).1 = true ∧ (chr cd n (wk cd n a).2.1 = 59 → tl cd n k ((wk cd n a).2.1 + 1) = -1) ∧ (¬ chr cd n (wk cd n a).2.1 = 59 → (wk cd n a).2.1 = n) := by
  have hle := wk_le (cd := cd) ha
  rw [tl] at h
  by_cases h1 : (wk cd n a).1 = true
  · rw [if_pos h1] at h
    refine ⟨h1, fun h2 => ?_, fun h2 => ?_⟩
    · rw [if_pos h2] at h; exact h
    · rw [if_neg h2] at h
      by_cases h3 : (wk cd n a).2.1 = n
      · exact h3
      · rw [if_neg h3] at h
        exact absurd h (ne_m1 (by omega))
  · rw [if_neg h1] at h
    exact absurd h (ne_m1 (by omega))
theorem tl_k {cd : Nat → Nat} {n k a : Nat} (hn : n ≤ 80) (ha : a ≤ n) (h : tl cd n k a = -1) : ∃ j, k = j + 1 := by
  cases k with
  | zero => exact absurd h (ne_m1 (by omega))
  | succ j => exact ⟨j, rfl⟩
theorem zdo_f {z : Nat → Int32} {c : Nat} {x v : Int32} (h : (zdo z c x v).1 = false) : (zdo z c x v).2 = z := by
  revert h
  unfold zdo
  split <;> intro h <;> first
    | rfl
    | exact if_neg (of_decide_eq_false h)
    | cases h
/-- the works are done from a on: how many, and what the state is then -/
def dwk (cd : Nat → Nat) (n : Nat) : Nat → Nat → (Nat → Int32) → Nat → Nat × (Nat → Int32)
  | 0, _, z, d => (d, z)
  | k + 1, a, z, d => if (zdo z (chr cd n a) (wk cd n a).2.2.1 (wk cd n a).2.2.2).1 = true then (if chr cd n (wk cd n a).2.1 = 59 then dwk cd n k ((wk cd n a).2.1 + 1) (zdo z (chr cd n a) (wk cd n a).2.2.1 (wk cd n a).2.2.2).2 (d + 1) else (d + 1, (zdo z (chr cd n a) (wk cd n a).2.2.1 (wk cd n a).2.2.2).2)) else (d, z)
theorem wk_n {cd : Nat → Nat} {n : Nat} : wk cd n n = (false, n, 0, 0) := by
  unfold wk
  simp only [show chr cd n n = 0 from if_neg (Nat.lt_irrefl n)]
theorem dwk_ok {cd : Nat → Nat} {n : Nat} (hn : n ≤ 80) : ∀ k a z d, tl cd n k a = -1 → a ≤ n → OKz z → OKz (dwk cd n k a z d).2 := by
  intro k
  induction k with
  | zero => intro a z d _ _ ok; exact ok
  | succ k ih =>
    intro a z d h ha ok
    obtain ⟨h1, h2, h3⟩ := tl_ok hn ha h
    have okd := zdo_ok ok (wk_ok h1)
    have hle := wk_le (cd := cd) ha
    rw [dwk]
    split
    · split
      · rename_i hs
        have hsl := chr_lt (cd := cd) (n := n) (a := (wk cd n a).2.1) (by rw [hs]; decide)
        exact ih _ _ _ (h2 hs) (by omega) okd
      · exact okd
    · exact ok
theorem w_doWorks {hi : am_HI} {g : am_G} (hI : am_Inv g) {z : Nat → Int32} {Z : Nat → Nat → Int32} {p : Nat} {Y : Nat → Nat → Int32} {c : Nat → Bool} {cd : Nat → Nat} {n : Nat} (hs : CS hi g z Z p Y c cd n) (ok : OKz z) (h0 : tl cd n 81 0 = -1) : am_Cg M_X9_doWorks [.ref 0] hi g (some (.int (nI (dwk cd n 81 0 z 0).1))) (fun h g' => frC hi h ∧ CS h g' (dwk cd n 81 0 z 0).2 (svZ Z p z) (svp p) Y c cd 0) := by
  have hn80 := hs.2.2.2.2.1
  have fin : ∀ (g5 : am_G) (h : am_HI) (d : Nat) (Φ : am_P), am_Inv g5 → Φ (.ok (some (.int (nI d)))) (am_up h 115 1 0) g5 → AP M_X9_doWorks (0, 0) 79 [.ref 0, .int (nI d)] [] h g5 Φ := by
    intro g5 h d Φ hI5 hΦ
    refine s_X9_doWorks_79 ?_
    refine s_X9_doWorks_80 hI5 rfl (by decide) rfl (by decide) ?_
    refine s_X9_doWorks_83 ?_
    refine s_X9_doWorks_84 hI5 rfl (by decide) ?_
    refine s_X9_doWorks_87 ?_
    refine s_X9_doWorks_88 ?_
    exact hΦ
  have fin2 : ∀ (g5 : am_G) (H : am_HI) (d : Nat) (Φ : am_P), am_Inv g5 → TX H cd n → H 115 2 = nI n → d < 80 → (∀ h9, fq [2, 3, 4, 5] H h9 → Φ (.ok (some (.int (nI d)))) (am_up h9 115 1 0) g5) → AP M_X9_doWorks (0, 0) 40 [.ref 0, .int (nI d)] [] H g5 Φ := by
    intro g5 H d Φ hI5 tH eH hd hΦ
    refine s_X9_doWorks_40 ?_
    refine s_X9_doWorks_41 ?_
    refine s_X9_doWorks_43 (fun h => absurd h (nI_ge (a := d) (b := 80) (by omega) (by decide))) (fun _ => ?_)
    refine s_X9_doWorks_46 ?_
    refine s_X9_doWorks_47 hI5 rfl (by decide) rfl (by decide) ?_
    refine s_X9_doWorks_50 hI5 rfl (by decide) (Nat.le_of_ble_eq_true rfl) (c_readWork hI5 tH eH (Nat.le_refl _)) ?_
    intro h9 ⟨g1', g2', g3', g4'⟩
    refine s_X9_doWorks_53 (fun _ => ?_) (fun h => absurd (by (rw [wk_n]; rfl)) h)
    exact fin g5 h9 d Φ hI5 (hΦ h9 g1')
  have loop : ∀ (g5 : am_G) (h5 : am_HI) (Φ : am_P), am_Inv g5 → ∀ k a z d h, tl cd n k a = -1 → a ≤ n → 2 * d ≤ a → OKz z → fr (115 :: nwS) h5 h → TX h cd n → h 115 2 = nI a → ZB h 2 z → (∀ h', fr (115 :: nwS) h5 h' → ZB h' 2 (dwk cd n k a z d).2 → Φ (.ok (some (.int (nI (dwk cd n k a z d).1)))) (am_up h' 115 1 0) g5) → AP M_X9_doWorks (0, 0) 40 [.ref 0, .int (nI d)] [] h g5 Φ := by
    intro g5 h5 Φ hI5 k
    induction k with
    | zero => intro a z d h ht ha; obtain ⟨j, hj⟩ := tl_k hn80 ha ht; cases hj
    | succ k ih =>
      intro a z d h ht ha hd ok f tx ea hz hΦ
      obtain ⟨h1, h2, h3⟩ := tl_ok hn80 ha ht
      have hle := wk_le (cd := cd) ha
      have hlt := hle.2.2 h1
      rw [dwk] at hΦ
      refine s_X9_doWorks_40 ?_
      refine s_X9_doWorks_41 ?_
      refine s_X9_doWorks_43 (fun h => absurd h (nI_ge (a := d) (b := 80) (by omega) (by decide))) (fun _ => ?_)
      refine s_X9_doWorks_46 ?_
      refine s_X9_doWorks_47 hI5 rfl (by decide) rfl (by decide) ?_
      refine s_X9_doWorks_50 hI5 rfl (by decide) (Nat.le_of_ble_eq_true rfl) (c_readWork hI5 tx ea ha) ?_
      intro h6 ⟨g1, g2, g3, g4⟩
      have f6 : fr (115 :: nwS) h5 h6 := fun i hi' => by
        have hne : i ≠ 115 := fun e => hi' (by rw [e]; exact List.mem_cons_self)
        rw [g1.row hne]; exact f i hi'
      have z6 : ZB h6 2 z := hz.mv (fun i hi' => g1.row (by omega))
      have t6 : TX h6 cd n := tx.fq g1 (by decide)
      refine s_X9_doWorks_53 (fun h => absurd h (by (rw [h1]; decide))) (fun _ => ?_)
      refine s_X9_doWorks_56 ?_
      refine s_X9_doWorks_57 hI5 rfl (by decide) (Nat.le_of_ble_eq_true rfl) (c_doWork hI5 z6 ok (wk_ok h1) g3 (g4 h1).1 (g4 h1).2) ?_
      intro h7 ⟨g5', z7⟩
      have f7 : fr (115 :: nwS) h5 h7 := f6.tr (g5'.mono (fun i q => List.mem_cons_of_mem _ q))
      have n115 : 115 ∉ nwS := fun q => (nwS_out 115 q).2.1 (by omega)
      have n116 : 116 ∉ nwS := fun q => (nwS_out 116 q).2.1 (by omega)
      have t7 : TX h7 cd n := t6.mv (by rw [g5' 115 n115]) (g5' 116 n116)
      have e7 : h7 115 2 = nI (wk cd n a).2.1 := by rw [g5' 115 n115]; exact g2
      refine s_X9_doWorks_60 (fun hq => ?_) (fun hq => ?_)
      · have hq' := bI_e0.mp hq
        rw [if_neg (by rw [hq']; exact fun e => by cases e)] at hΦ
        rw [zdo_f hq'] at z7
        exact fin g5 h7 d Φ hI5 (hΦ h7 f7 z7)
      · refine s_X9_doWorks_63 rfl ?_
        refine s_X9_doWorks_66 ?_
        refine s_X9_doWorks_67 hI5 rfl (by decide) rfl (by decide) ?_
        refine s_X9_doWorks_70 ?_
        have hq' := bI_n0.mp hq
        rw [if_pos hq'] at hΦ
        refine s_X9_doWorks_72 hI5 rfl (by decide) (Nat.le_of_ble_eq_true rfl) (c_take hI5 (k := 59) t7 e7 (by omega) (by decide)) ?_
        intro h9 e9; rw [e9]; clear e9 h9
        refine s_X9_doWorks_75 rfl ?_
        refine s_X9_doWorks_76 ?_
        rw [nI_1]
        have f8 : fr (115 :: nwS) h5 (atI h7 (tk cd n (wk cd n a).2.1 59)) := f7.up (List.mem_cons_self)
        have z8 : ZB (atI h7 (tk cd n (wk cd n a).2.1 59)) 2 (zdo z (chr cd n a) (wk cd n a).2.2.1 (wk cd n a).2.2.2).2 := z7.mv (fun i hi' => up_k (by omega))
        by_cases hs9 : chr cd n (wk cd n a).2.1 = 59
        · rw [if_pos hs9] at hΦ
          have hsl := chr_lt (cd := cd) (n := n) (a := (wk cd n a).2.1) (by rw [hs9]; decide)
          have etk : tk cd n (wk cd n a).2.1 59 = (wk cd n a).2.1 + 1 := if_pos hs9
          rw [etk] at f8 z8 ⊢
          exact ih _ _ _ _ (h2 hs9) (by omega) (by omega) (zdo_ok ok (wk_ok h1)) f8 (t7.at _) at_2 z8 hΦ
        · rw [if_neg hs9] at hΦ
          have en := h3 hs9
          have etk : tk cd n (wk cd n a).2.1 59 = (wk cd n a).2.1 := if_neg hs9
          rw [etk, en] at f8 z8 ⊢
          exact fin2 g5 _ (d + 1) Φ hI5 (t7.at _) at_2 (by omega) (fun h9 f9 => hΦ h9 (fun i hi' => by rw [f9.row (fun e => hi' (by rw [e]; exact List.mem_cons_self))]; exact f8 i hi') (z8.mv (fun i hi' => f9.row (by omega))))
  refine am_cgn (by decide) (Nat.le_of_ble_eq_true rfl) (fun Φ hΦ => ?_)
  show AP M_X9_doWorks _ 0 [.ref 0, jk] [] _ g Φ
  refine s_X9_doWorks_0 ?_
  refine s_X9_doWorks_1 hI rfl (by decide) rfl (by decide) ?_
  refine s_X9_doWorks_4 hI rfl (by decide) (Nat.le_of_ble_eq_true rfl) (c_findFault hI hs.2.2.2) ?_
  intro h4 f4
  refine s_X9_doWorks_7 ?_
  rw [h0]
  have cs4 := hs.fq f4
  refine s_X9_doWorks_8 (fun h => absurd (Eq.refl (-1 : Int32)) h) (fun _ => ?_)
  refine s_X9_doWorks_11 ?_
  refine s_X9_doWorks_12 ?_
  refine s_X9_doWorks_16 hI (Nat.le_of_ble_eq_true rfl) (c_needP1) ?_
  intro h9 e9; rw [e9]; clear e9 h9
  refine s_X9_doWorks_19 ?_
  refine s_X9_doWorks_20 hI rfl (by decide) rfl (by decide) ?_
  refine s_X9_doWorks_23 ?_
  refine s_X9_doWorks_24 hI rfl (by decide) rfl (by decide) ?_
  refine sg_X9_doWorks_27 hI rfl (by decide) (Nat.le_of_ble_eq_true rfl) (c_save hI cs4.2.2.1 cs4.2.1) ?_
  intro h5 g5 hI5 ⟨f5, s5⟩
  refine s_X9_doWorks_30 ?_
  refine s_X9_doWorks_31 hI5 rfl (by decide) rfl (by decide) ?_
  refine s_X9_doWorks_34 ?_
  refine s_X9_doWorks_35 hI5 rfl (by decide) ?_
  refine s_X9_doWorks_38 ?_
  refine s_X9_doWorks_39 rfl ?_
  have cs5 : CS h5 g5 z _ _ Y c cd n := cs4.2.sv f5 s5
  refine loop g5 (am_up h5 115 2 0) Φ hI5 81 0 z 0 _ h0 (by omega) (by omega) ok fr.rfl (cs5.2.2.2.at 0) (by rw [up_c, up_f]; rfl) (cs5.1.mv (fun i hi' => up_k (by omega))) (fun h' f' z' => hΦ _ _ hI5 ⟨?_, ?_, ?_, ?_, ?_⟩)
  · exact (cs4.1.tr f5.C).tr (fun i hi' => by rw [up_k (by omega), f' i (fun q => (List.mem_cons.mp q).elim (fun e => by omega) (fun e => by have := (nwS_out i e).2.2; omega)), up_k (by omega)])
  · exact z'.mv (fun i hi' => up_k (by omega))
  · exact cs5.2.1.mv (fun i hi' => by rw [up_k (by omega), f' i (fun q => (List.mem_cons.mp q).elim (fun e => by omega) (fun e => (nwS_out i e).1 hi')), up_k (by omega)])
  · exact cs5.2.2.1.mv (fun i hi' => by rw [up_k (by omega), f' i (fun q => (List.mem_cons.mp q).elim (fun e => by omega) (fun e => (nwS_out i e).2.1 (by omega))), up_k (by omega)])
  · exact ⟨by rw [up_c, up_f]; rfl, by omega, fun i hi' => by omega⟩
theorem x1_doWorks {hi : am_HI} {g : am_G} (hI : am_Inv g) {z : Nat → Int32} {Z : Nat → Nat → Int32} {p : Nat} {Y : Nat → Nat → Int32} {c : Nat → Bool} {cd : Nat → Nat} {n : Nat} (hs : CS hi g z Z p Y c cd n) (ok : OKz z) (h0 : ¬ tl cd n 81 0 = -1) : am_Th M_X9_doWorks [.ref 0] hi g am_x2 (fun h => frC hi h ∧ CS h g z Z p Y c cd n) := by
  refine am_thn (by decide) (Nat.le_of_ble_eq_true rfl) (fun Φ hΦ => ?_)
  show AP M_X9_doWorks _ 0 [.ref 0, jk] [] _ g Φ
  refine s_X9_doWorks_0 ?_
  refine s_X9_doWorks_1 hI rfl (by decide) rfl (by decide) ?_
  refine s_X9_doWorks_4 hI rfl (by decide) (Nat.le_of_ble_eq_true rfl) (c_findFault hI hs.2.2.2) ?_
  intro h4 f4
  refine s_X9_doWorks_7 ?_
  refine s_X9_doWorks_8 (fun _ => ?_) (fun h => absurd h (h0))
  refine s_X9_doWorks_15 ?_
  exact tx_X9_doWorks_16 hI (by decide) (by decide) (hΦ _ (hs.fq f4))
