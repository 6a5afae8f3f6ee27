/-! ===== the model: its refusals, what is saved, what is written ===== -/
theorem m_asksT {hi : am_HI} {g : am_G} (hI : am_Inv g) : am_Cr M_X10_asks [.ref 123, .int (bI true)] hi g (some (.int 1)) (fun h => h = am_up hi 123 10 0) := m_asks hI true
theorem m_asksF {hi : am_HI} {g : am_G} (hI : am_Inv g) : am_Cr M_X10_asks [.ref 123, .int (bI false)] hi g (some (.int 0)) (fun h => h = am_up hi 123 10 1) := m_asks hI false
theorem m_thenT {hi : am_HI} {g : am_G} (hI : am_Inv g) (h0 : hi 123 10 = 0) : am_Cr M_X10_asksThen [.ref 123, .int (bI true), .int 2] hi g (some (.int 1)) (fun h => h = hi) := by
  have := m_asksThen (hi := hi) hI true 2
  rw [h0, show th2 0 true 2 = 0 from rfl, up_sf h0] at this
  exact this
theorem m_thenF {hi : am_HI} {g : am_G} (hI : am_Inv g) (h0 : hi 123 10 = 0) : am_Cr M_X10_asksThen [.ref 123, .int (bI false), .int 2] hi g (some (.int 0)) (fun h => h = am_up hi 123 10 2) := by
  have := m_asksThen (hi := hi) hI false 2
  rw [h0, show th2 0 false 2 = 2 from rfl] at this
  exact this
theorem m_thenX {hi : am_HI} {g : am_G} (hI : am_Inv g) (h1 : hi 123 10 = 1) (f : Bool) : am_Cr M_X10_asksThen [.ref 123, .int (bI f), .int 2] hi g (some (.int 0)) (fun h => h = hi) := by
  have := m_asksThen (hi := hi) hI f 2
  rw [h1, show th2 1 f 2 = 1 by (unfold th2; exact if_pos (by decide)), up_sf h1] at this
  exact this
theorem u10 {hi : am_HI} {x : Int32} : am_up hi 123 10 x 123 10 = x := by rw [up_c, up_f]
/-- what the model has, but for its scratch -/
def MP (hi : am_HI) (Z : Nat → Nat → Int32) (p : Nat) : Prop := hi 123 2 = nI p ∧ p ≤ 6 ∧ ∀ i, i < p → ∀ j, j < 172 → hi 125 (172 * i + j) = Z i j
def MY (hi : am_HI) (Y : Nat → Nat → Int32) (c : Nat → Bool) : Prop := ∀ k, k < 2 → hi 127 k = bI (c k) ∧ (c k = true → ∀ j, j < 172 → hi 126 (172 * k + j) = Y k j)
def MT (hi : am_HI) (cd : Nat → Nat) (n : Nat) : Prop := hi 123 9 = nI n ∧ n ≤ 80 ∧ ∀ i, i < n → hi 131 i = nI (cd i) ∧ 33 ≤ cd i ∧ cd i ≤ 126
def MM (hi : am_HI) (z : Nat → Int32) (Z : Nat → Nat → Int32) (p : Nat) (Y : Nat → Nat → Int32) (c : Nat → Bool) (cd : Nat → Nat) (n : Nat) : Prop := hi 124 = z ∧ MP hi Z p ∧ MY hi Y c ∧ MT hi cd n
/-- nothing but scratch and what is thrown changed -/
def MS (hi h : am_HI) : Prop := (∀ k, k ∉ [123, 128, 129, 130, 132] → h k = hi k) ∧ h 123 2 = hi 123 2 ∧ h 123 9 = hi 123 9
theorem MS.rfl {h : am_HI} : MS h h := ⟨fun _ _ => Eq.refl _, Eq.refl _, Eq.refl _⟩
theorem MS.tr {h h1 h2 : am_HI} (a : MS h h1) (b : MS h1 h2) : MS h h2 := ⟨fun k hk => (b.1 k hk).trans (a.1 k hk), b.2.1.trans a.2.1, b.2.2.trans a.2.2⟩
theorem MS.up {hi : am_HI} {j : Nat} {x : Int32} (h1 : j ≠ 2) (h2 : j ≠ 9) : MS hi (am_up hi 123 j x) := ⟨fun k hk => up_k (fun e => hk (by rw [e]; exact List.mem_cons_self)), by rw [up_c, up_n (Ne.symm h1)], by rw [up_c, up_n (Ne.symm h2)]⟩
theorem MS.of {S : List Nat} {hi h : am_HI} (a : fr S hi h) (hS : ∀ k ∈ S, k ∈ [128, 129, 130, 132]) : MS hi h := by
  have e : h 123 = hi 123 := a 123 (fun q => by have := hS 123 q; revert this; decide)
  exact ⟨fun k hk => a k (fun q => hk (List.mem_cons_of_mem _ (hS k q))), by rw [e], by rw [e]⟩
theorem MM.ms {hi h : am_HI} {z : Nat → Int32} {Z : Nat → Nat → Int32} {p : Nat} {Y : Nat → Nat → Int32} {c : Nat → Bool} {cd : Nat → Nat} {n : Nat} (a : MM hi z Z p Y c cd n) (f : MS hi h) : MM h z Z p Y c cd n := by
  unfold MM MP MY MT at *
  rw [f.1 124 (by decide), f.1 125 (by decide), f.1 126 (by decide), f.1 127 (by decide), f.1 131 (by decide), f.2.1, f.2.2]
  exact a
/-- the class's cells, and the law's, stay -/
def frM (hi h : am_HI) : Prop := ∀ k, k < 123 ∨ 132 < k → h k = hi k
theorem frM.rfl {h : am_HI} : frM h h := fun _ _ => Eq.refl _
theorem frM.tr {h h1 h2 : am_HI} (a : frM h h1) (b : frM h1 h2) : frM h h2 := fun k hk => (b k hk).trans (a k hk)
theorem MS.M {hi h : am_HI} (a : MS hi h) : frM hi h := fun k hk => a.1 k (by simp; omega)
theorem frM.up {hi : am_HI} {k j : Nat} {x : Int32} (h : 123 ≤ k ∧ k ≤ 132) : frM hi (am_up hi k j x) := fun i hi' => up_k (by omega)
theorem frM.of {S : List Nat} {hi h : am_HI} (a : fr S hi h) (hS : ∀ k ∈ S, 123 ≤ k ∧ k ≤ 132) : frM hi h := fun i hi' => a i (fun q => by have := hS i q; omega)
theorem m_record {hi : am_HI} {g : am_G} (hI : am_Inv g) {z : Nat → Int32} {Z : Nat → Nat → Int32} {p : Nat} (hz : hi 124 = z) (mp : MP hi Z p) : am_Cr M_X10_record [.ref 123] hi g none (fun h => fr [123, 125] hi h ∧ (∀ j, j ≠ 2 → h 123 j = hi 123 j) ∧ MP h (svZ Z p z) (svp p)) := by
  have key : ∀ (h : am_HI) (Z' : Nat → Nat → Int32) (q : Nat) (e : Value) (Φ : am_P), q < 6 → fr [123, 125] hi h → (∀ j, j ≠ 2 → h 123 j = hi 123 j) → MP h Z' q → (∀ h', fr [123, 125] hi h' → (∀ j, j ≠ 2 → h' 123 j = hi 123 j) → MP h' (fun i => if i = q then z else Z' i) (q + 1) → Φ (.ok none) h' g) → AP M_X10_record (0, 0) 50 [.ref 123, e] [] h g Φ := by
    intro h Z' q e Φ hq f f2 mp' hΦ
    have ez : h 124 = z := (f 124 (by decide)).trans hz
    refine s_X10_record_50 ?_
    refine s_X10_record_51 rfl ?_
    have key := am_for0 (n := 172) (hi := h) (fun i h' => fr [125] h h' ∧ (∀ j, j < i → h' 125 (172 * q + j) = z j) ∧ ∀ j, j < 172 * q → h' 125 j = h 125 j) (fun i h' => AP M_X10_record (0, 0) 52 [.ref 123, .int (nI i)] [] h' g Φ) ⟨fr.rfl, fun j hj => absurd hj (Nat.not_lt_zero _), fun _ _ => rfl⟩ ?_ ?_
    · exact key
    · intro h' ⟨h1, h2, h3⟩
      have e23 : h' 123 = h 123 := h1 123 (by decide)
      refine s_X10_record_52 ?_
      refine s_X10_record_53 ?_
      refine s_X10_record_56 (fun _ => ?_) (fun h => absurd (nI_le (a := 172) (b := 172) (by decide) (by decide)) h)
      refine s_X10_record_86 ?_
      refine s_X10_record_87 rfl ?_
      refine s_X10_record_88 hI rfl (by decide) ?_
      refine s_X10_record_91 ?_
      refine s_X10_record_92 ?_
      refine s_X10_record_93 hI rfl (by decide) ?_
      refine s_X10_record_96 ?_
      rw [e23, mp'.1, nI_1]
      refine hΦ _ ?_ ?_ ⟨by rw [up_c, up_f], by omega, fun i hi' j hj => ?_⟩
      · exact (f.tr (h1.mono (by decide))).up (by decide)
      · intro j hj; rw [up_c, up_n hj, e23]; exact f2 j hj
      · show am_up h' 123 2 _ 125 (172 * i + j) = (if i = q then z else Z' i) j
        rw [up_k (by decide)]
        by_cases he : i = q
        · rw [if_pos he, he]; exact h2 j hj
        · rw [if_neg he, h3 _ (by omega)]; exact mp'.2.2 i (by omega) j hj
    · intro i h' hi' ⟨h1, h2, h3⟩ ih
      have e23 : h' 123 = h 123 := h1 123 (by decide)
      refine s_X10_record_52 ?_
      refine s_X10_record_53 ?_
      refine s_X10_record_56 (fun h => absurd h (nI_ge (a := i) (b := 172) hi' (by decide))) (fun _ => ?_)
      refine s_X10_record_59 ?_
      refine s_X10_record_60 hI rfl (by decide) rfl (by decide) ?_
      refine s_X10_record_63 ?_
      refine s_X10_record_64 hI rfl (by decide) ?_
      refine s_X10_record_67 ?_
      refine s_X10_record_70 ?_
      refine s_X10_record_71 ?_
      refine s_X10_record_72 ?_
      refine s_X10_record_73 ?_
      refine s_X10_record_74 hI rfl (by decide) rfl (by decide) ?_
      refine s_X10_record_77 ?_
      rw [e23, mp'.1, show nI q * 172 = nI (q * 172) from pk_mul q 172, nI_add]
      refine s_X10_record_78 hI rfl (by decide) (by decide) (rfl) (by omega) ?_
      refine s_X10_record_79 hI rfl (by decide) (by decide) (rfl) (by omega) ?_
      refine s_X10_record_80 rfl ?_
      refine s_X10_record_83 ?_
      rw [nI_1]
      refine ih _ ⟨h1.up (by decide), fun j hj => ?_, fun j hj => ?_⟩
      · rw [up_r]
        by_cases he : j = i
        · rw [if_pos ⟨rfl, by omega⟩, he, h1 124 (by decide), ez]
        · rw [if_neg (by omega)]; exact h2 j (by omega)
      · rw [up_r, if_neg (by omega)]; exact h3 j hj
  by_cases h6' : p = 6
  · refine am_crn (by decide) (Nat.le_of_ble_eq_true rfl) (fun Φ hΦ => ?_)
    show AP M_X10_record _ 0 [.ref 123, jk] [] _ g Φ
    refine s_X10_record_0 ?_
    refine s_X10_record_1 hI rfl (by decide) ?_
    refine s_X10_record_4 ?_
    rw [mp.1, h6']
    refine s_X10_record_6 (fun h => absurd ((by decide : nI 6 = 6)) h) (fun _ => ?_)
    refine s_X10_record_9 ?_
    refine s_X10_record_10 rfl ?_
    have key2 := am_for0 (n := 860) (hi := hi) (fun i h' => fr [125] hi h' ∧ ∀ j, h' 125 j = if j < i then hi 125 (j + 172) else hi 125 j) (fun i h' => AP M_X10_record (0, 0) 11 [.ref 123, .int (nI i)] [] h' g Φ) ⟨fr.rfl, fun j => by rw [if_neg (Nat.not_lt_zero _)]⟩ ?_ ?_
    · exact key2
    · intro h' ⟨h1, h2⟩
      have e23 : h' 123 = hi 123 := h1 123 (by decide)
      refine s_X10_record_11 ?_
      refine s_X10_record_12 ?_
      refine s_X10_record_15 (fun _ => ?_) (fun h => absurd (nI_le (a := 860) (b := 860) (by decide) (by decide)) h)
      refine s_X10_record_40 ?_
      refine s_X10_record_41 rfl ?_
      refine s_X10_record_42 hI rfl (by decide) ?_
      refine s_X10_record_45 ?_
      refine s_X10_record_46 ?_
      refine s_X10_record_47 hI rfl (by decide) ?_
      rw [e23, mp.1, h6', show nI 6 - 1 = nI 5 from nI_i1 5]
      refine key _ (fun i => Z (i + 1)) 5 _ Φ (by decide) ((h1.mono (by decide)).up (by decide)) (fun j hj => by rw [up_c, up_n hj, e23]) ⟨by rw [up_c, up_f], by decide, fun i hi' j hj => ?_⟩ (fun h' a b c => hΦ _ ⟨a, b, ?_⟩)
      · rw [up_k (by decide), h2, if_pos (by omega), show 172 * i + j + 172 = 172 * (i + 1) + j by omega]; exact mp.2.2 (i + 1) (by omega) j hj
      · unfold svZ svp; rw [if_neg (by omega), if_neg (by omega)]; exact c
    · intro i h' hi' ⟨h1, h2⟩ ih
      refine s_X10_record_11 ?_
      refine s_X10_record_12 ?_
      refine s_X10_record_15 (fun h => absurd h (nI_ge (a := i) (b := 860) hi' (by decide))) (fun _ => ?_)
      refine s_X10_record_18 ?_
      refine s_X10_record_19 hI rfl (by decide) rfl (by decide) ?_
      refine s_X10_record_22 ?_
      refine s_X10_record_23 ?_
      refine s_X10_record_24 hI rfl (by decide) rfl (by decide) ?_
      refine s_X10_record_27 ?_
      refine s_X10_record_28 ?_
      refine s_X10_record_31 ?_
      rw [show nI i + 172 = nI (i + 172) from nI_add i 172]
      refine s_X10_record_32 hI rfl (by decide) (by decide) (rfl) (by omega) ?_
      refine s_X10_record_33 hI rfl (by decide) (by decide) (rfl) (by omega) ?_
      refine s_X10_record_34 rfl ?_
      refine s_X10_record_37 ?_
      rw [nI_1]
      refine ih _ ⟨h1.up (by decide), fun j => ?_⟩
      rw [up_r]
      by_cases he : j = i
      · rw [if_pos ⟨rfl, he⟩, he, if_pos (by omega), h2, if_neg (by omega)]
      · rw [if_neg (by omega), h2 j]
        by_cases hu2 : j < i
        · rw [if_pos hu2, if_pos (by omega)]
        · rw [if_neg hu2, if_neg (by omega)]
  · have h6 : p < 6 := by have := mp.2.1; omega
    refine am_crn (by decide) (Nat.le_of_ble_eq_true rfl) (fun Φ hΦ => ?_)
    show AP M_X10_record _ 0 [.ref 123, jk] [] _ g Φ
    refine s_X10_record_0 ?_
    refine s_X10_record_1 hI rfl (by decide) ?_
    refine s_X10_record_4 ?_
    rw [mp.1]
    refine s_X10_record_6 (fun _ => ?_) (fun h => absurd h (fun e => h6' ((nI_eq (a := p) (b := 6) (by omega) (by decide)).mp e)))
    refine key hi Z p _ Φ h6 fr.rfl (fun _ _ => rfl) mp (fun h' a b c => hΦ _ ⟨a, b, ?_⟩)
    unfold svZ svp; rw [if_pos h6, if_pos h6]; exact c
/-- the state is saved: what the model has then -/
theorem MM.rec {hi h : am_HI} {z : Nat → Int32} {Z : Nat → Nat → Int32} {p : Nat} {Y : Nat → Nat → Int32} {c : Nat → Bool} {cd : Nat → Nat} {n : Nat} (a : MM hi z Z p Y c cd n) (f : fr [123, 125] hi h) (f2 : ∀ j, j ≠ 2 → h 123 j = hi 123 j) (b : MP h (svZ Z p z) (svp p)) : MM h z (svZ Z p z) (svp p) Y c cd n := by
  unfold MM MY MT at *
  rw [f 124 (by decide), f 126 (by decide), f 127 (by decide), f 131 (by decide), f2 9 (by decide)]
  exact ⟨a.1, b, a.2.2⟩
/-- the row z is changed -/
theorem MM.z {hi h : am_HI} {z z' : Nat → Int32} {Z : Nat → Nat → Int32} {p : Nat} {Y : Nat → Nat → Int32} {c : Nat → Bool} {cd : Nat → Nat} {n : Nat} (a : MM hi z Z p Y c cd n) (f : ∀ k, k ∉ [124, 128, 129, 130, 132] → h k = hi k) (e : h 124 = z') : MM h z' Z p Y c cd n := by
  unfold MM MP MY MT at *
  rw [f 123 (by decide), f 125 (by decide), f 126 (by decide), f 127 (by decide), f 131 (by decide)]
  exact ⟨e, a.2⟩
theorem m_adds {hi : am_HI} {g : am_G} (hI : am_Inv g) {z : Nat → Int32} (hz : hi 124 = z) (ok : OKz z) (h48 : zc z < 48) (v : Int32) : am_Cr M_X10_adds [.ref 123, .int v] hi g (some (.int (nI (zc z)))) (fun h => fr [124] hi h ∧ h 124 = zput z v) := by
  have e48 : hi 124 48 = nI (zc z) := by rw [hz]; exact ok.1.1
  refine am_crn (by decide) (Nat.le_of_ble_eq_true rfl) (fun Φ hΦ => ?_)
  show AP M_X10_adds _ 0 [.ref 123, .int v] [] _ g Φ
  refine s_X10_adds_0 ?_
  refine s_X10_adds_1 hI rfl (by decide) rfl (by decide) ?_
  refine s_X10_adds_4 ?_
  refine s_X10_adds_5 hI rfl (by decide) rfl (by decide) ?_
  refine s_X10_adds_8 ?_
  refine s_X10_adds_10 hI rfl (by decide) (by decide) (by decide : (_ : Int32) = nI 48) (by decide) ?_
  refine s_X10_adds_11 ?_
  refine s_X10_adds_12 hI rfl (by decide) (by decide) (e48) (by omega) ?_
  refine s_X10_adds_13 ?_
  refine s_X10_adds_14 hI rfl (by decide) rfl (by decide) ?_
  refine s_X10_adds_17 ?_
  refine s_X10_adds_19 rfl rfl ?_
  refine s_X10_adds_20 hI rfl (by decide) (by decide) (by decide : (_ : Int32) = nI 48) (by decide) ?_
  refine s_X10_adds_21 ?_
  refine s_X10_adds_22 ?_
  rw [up_c, up_n (by omega), e48, nI_1]
  refine s_X10_adds_23 hI rfl (by decide) (by decide) (by decide : (_ : Int32) = nI 48) (by decide) ?_
  refine s_X10_adds_24 ?_
  refine s_X10_adds_25 hI rfl (by decide) rfl (by decide) ?_
  refine s_X10_adds_28 ?_
  refine s_X10_adds_30 hI rfl (by decide) (by decide) (by decide : (_ : Int32) = nI 48) (by decide) ?_
  refine s_X10_adds_31 ?_
  refine s_X10_adds_32 ?_
  rw [up_c, up_f, nI_i1]
  exact s_X10_adds_33 (hΦ _ (⟨(fr.rfl.up (by decide)).up (by decide), by rw [up_c, up_c, hz]; rfl⟩))
theorem m_canTurn {hi : am_HI} {g : am_G} (hI : am_Inv g) {z : Nat → Int32} (hz : hi 124 = z) (x : Int32) : am_Cr M_X10_canTurn [.ref 123, .int x] hi g (some (.int (bI (decide (¬ z 55 = 1 <<< (x &&& 31)))))) (fun h => h = hi) := by
  refine am_crn (by decide) (Nat.le_of_ble_eq_true rfl) (fun Φ hΦ => ?_)
  show AP M_X10_canTurn _ 0 [.ref 123, .int x] [] _ g Φ
  refine s_X10_canTurn_0 ?_
  refine s_X10_canTurn_1 hI rfl (by decide) rfl (by decide) ?_
  refine s_X10_canTurn_4 ?_
  refine s_X10_canTurn_6 hI rfl (by decide) (by decide) (by decide : (_ : Int32) = nI 55) (by decide) ?_
  refine s_X10_canTurn_7 ?_
  refine s_X10_canTurn_8 ?_
  refine s_X10_canTurn_9 ?_
  rw [hz]
  refine s_X10_canTurn_10 (fun hh => ?_) (fun hh => ?_)
  · refine s_X10_canTurn_17 ?_
    refine s_X10_canTurn_18 (by first | exact Or.inl rfl | exact Or.inr rfl | exact bI_01 _) ?_
    rw [decide_eq_false (fun e => e hh)] at hΦ
    exact hΦ _ rfl
  · refine s_X10_canTurn_13 ?_
    refine s_X10_canTurn_14 ?_
    refine s_X10_canTurn_18 (by first | exact Or.inl rfl | exact Or.inr rfl | exact bI_01 _) ?_
    rw [decide_eq_true hh] at hΦ
    exact hΦ _ rfl
theorem m_sets {hi : am_HI} {g : am_G} (hI : am_Inv g) {z : Nat → Int32} {Z : Nat → Nat → Int32} {p : Nat} {Y : Nat → Nat → Int32} {c : Nat → Bool} {cd : Nat → Nat} {n : Nat} (a : MM hi z Z p Y c cd n) {j : Nat} (hj : j < 172) (v : Int32) : am_Cr M_X10_sets [.ref 123, .int (nI j), .int v] hi g (some (.int (z j))) (fun h => frM hi h ∧ h 123 10 = hi 123 10 ∧ MM h (upd z j v) (svZ Z p z) (svp p) Y c cd n) := by
  refine am_crn (by decide) (Nat.le_of_ble_eq_true rfl) (fun Φ hΦ => ?_)
  show AP M_X10_sets _ 0 [.ref 123, .int (nI j), .int v, jk] [] _ g Φ
  refine s_X10_sets_0 ?_
  refine s_X10_sets_1 hI rfl (by decide) (Nat.le_of_ble_eq_true rfl) (m_record hI a.1 a.2.1) ?_
  intro h5 ⟨f5, g5, mp5⟩
  refine s_X10_sets_4 ?_
  refine s_X10_sets_5 hI rfl (by decide) rfl (by decide) ?_
  refine s_X10_sets_8 ?_
  have m5 := a.rec f5 g5 mp5
  refine s_X10_sets_9 hI rfl (by decide) (by decide) (rfl) (hj) ?_
  refine s_X10_sets_10 rfl ?_
  refine s_X10_sets_11 ?_
  refine s_X10_sets_12 hI rfl (by decide) rfl (by decide) ?_
  refine s_X10_sets_15 ?_
  refine s_X10_sets_16 ?_
  refine s_X10_sets_17 hI rfl (by decide) (by decide) (rfl) (hj) ?_
  refine s_X10_sets_18 ?_
  rw [m5.1]
  exact s_X10_sets_19 (hΦ _ (⟨(frM.of f5 (by decide)).tr (frM.up (by decide)), by rw [up_k (by decide)]; exact g5 10 (by decide), m5.z (fun k hk => up_k (fun e => hk (by rw [e]; exact List.mem_cons_self))) (by rw [up_c, m5.1])⟩))
