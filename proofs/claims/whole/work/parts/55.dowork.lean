/-! ===== the class: send, and works are done ===== -/
theorem x1_send {hi : am_HI} {g : am_G} (hI : am_Inv g) {z : Nat → Int32} {Z : Nat → Nat → Int32} {p : Nat} {Y : Nat → Nat → Int32} {c : Nat → Bool} {cd : Nat → Nat} {n : Nat} (hs : CS hi g z Z p Y c cd n) (ok : OKz z) (h0 : ¬ 0 < zc z) : am_Th M_X9_send [.ref 0] hi g am_x2 (fun h => h = hi) := by
  refine am_thn (by decide) (Nat.le_of_ble_eq_true rfl) (fun Φ hΦ => ?_)
  show AP M_X9_send _ 0 [.ref 0] [] _ g Φ
  refine s_X9_send_0 ?_
  refine s_X9_send_1 hI rfl (by decide) rfl (by decide) ?_
  refine s_X9_send_4 hI rfl (by decide) ?_
  rw [hs.so ok, show zc z = 0 by omega]
  refine s_X9_send_7 (fun _ => ?_) (fun h => absurd (by decide) h)
  refine s_X9_send_14 ?_
  exact tx_X9_send_15 hI (by decide) (by decide) (hΦ _ rfl)
theorem w_send {hi : am_HI} {g : am_G} (hI : am_Inv g) {z : Nat → Int32} {Z : Nat → Nat → Int32} {p : Nat} {Y : Nat → Nat → Int32} {c : Nat → Bool} {cd : Nat → Nat} {n : Nat} (hs : CS hi g z Z p Y c cd n) (ok : OKz z) (h0 : 0 < zc z) : am_Cg M_X9_send [.ref 0] hi g (some (.int (nI (zbits (zsend z))))) (fun h g' => frC hi h ∧ CS h g' (zsend z) (svZ Z p z) (svp p) Y c cd n) := by
  refine am_cgn (by decide) (Nat.le_of_ble_eq_true rfl) (fun Φ hΦ => ?_)
  show AP M_X9_send _ 0 [.ref 0] [] _ g Φ
  refine s_X9_send_0 ?_
  refine s_X9_send_1 hI rfl (by decide) rfl (by decide) ?_
  refine s_X9_send_4 hI rfl (by decide) ?_
  rw [hs.so ok]
  refine s_X9_send_7 (fun h => absurd h (nI_nle (n := zc z) h0 (by have := ok.1.2.1; omega))) (fun _ => ?_)
  refine s_X9_send_10 ?_
  refine s_X9_send_11 ?_
  refine s_X9_send_15 hI (Nat.le_of_ble_eq_true rfl) (c_needP1) ?_
  intro h9 e9; rw [e9]; clear e9 h9
  refine s_X9_send_18 ?_
  refine s_X9_send_19 hI rfl (by decide) rfl (by decide) ?_
  refine s_X9_send_22 ?_
  refine s_X9_send_23 hI rfl (by decide) rfl (by decide) ?_
  refine sg_X9_send_26 hI rfl (by decide) (Nat.le_of_ble_eq_true rfl) (c_save hI hs.2.1 hs.1) ?_
  intro h5 g5 hI5 ⟨f5, s5⟩
  refine s_X9_send_29 ?_
  have cs5 : CS h5 g5 z _ _ Y c cd n := hs.sv f5 s5
  refine s_X9_send_30 hI5 rfl (by decide) (Nat.le_of_ble_eq_true rfl) (c_writeLetter hI5 cs5.1 ok h0) ?_
  intro h6 ⟨f6, z6⟩
  refine s_X9_send_33 rfl ?_
  refine s_X9_send_34 ?_
  refine s_X9_send_35 hI5 rfl (by decide) rfl (by decide) ?_
  refine s_X9_send_38 hI5 rfl (by decide) rfl (by decide) ?_
  refine s_X9_send_41 hI5 rfl (by decide) (Nat.le_of_ble_eq_true rfl) (c_countLB hI5 z6.2.1 (zsend_ok ok)) ?_
  intro h9 e9; rw [e9]; clear e9 h9
  exact s_X9_send_44 (hΦ _ _ hI5 (⟨f5.C.tr (nwC f6), cs5.mvN f6 z6⟩))
theorem c_addIf {hi : am_HI} {g : am_G} (hI : am_Inv g) {z : Nat → Int32} (hz : ZB hi 2 z) (ok : OKz z) (v : Int32) : am_Cr M_X9_addIfPossible [.ref 0, .int v] hi g (some (.int (bI (decide (zc z < 48))))) (fun h => fr nwS hi h ∧ ZB h 2 (if zc z < 48 then zput z v else z)) := by
  refine am_crn (by decide) (Nat.le_of_ble_eq_true rfl) (fun Φ hΦ => ?_)
  show AP M_X9_addIfPossible _ 0 [.ref 0, .int v, jk] [] _ g Φ
  refine s_X9_addIfPossible_0 ?_
  refine s_X9_addIfPossible_1 hI rfl (by decide) rfl (by decide) ?_
  refine s_X9_addIfPossible_4 ?_
  refine s_X9_addIfPossible_5 hI rfl (by decide) (Nat.le_of_ble_eq_true rfl) (c_hasRoom hI (m := 1) (hz.1.so ok).1 ok.1.2.1 (by decide)) ?_
  intro h9 e9; rw [e9]; clear e9 h9
  refine s_X9_addIfPossible_8 rfl ?_
  refine s_X9_addIfPossible_9 ?_
  refine s_X9_addIfPossible_10 (fun hh => ?_) (fun hh => ?_)
  · refine s_X9_addIfPossible_21 ?_
    have h' : ¬ zc z < 48 := by have := bI_d0.mp hh; omega
    rw [decide_eq_false h', if_neg h'] at hΦ
    rw [decide_eq_false (by omega)]
    exact s_X9_addIfPossible_22 (by first | exact Or.inl rfl | exact Or.inr rfl | exact bI_01 _) (hΦ _ (⟨fr.rfl, hz⟩))
  · refine s_X9_addIfPossible_13 ?_
    refine s_X9_addIfPossible_14 hI rfl (by decide) rfl (by decide) ?_
    refine s_X9_addIfPossible_17 ?_
    have h' : zc z < 48 := by have := Decidable.not_not.mp (fun e => hh (bI_d0.mpr e)); omega
    rw [decide_eq_true h', if_pos h'] at hΦ
    rw [decide_eq_true (by omega)]
    refine s_X9_addIfPossible_18 hI rfl (by decide) (Nat.le_of_ble_eq_true rfl) (c_put hI (c := zc z) (v := v) (hz.1.so ok).1 h') ?_
    intro h9 e9; rw [e9]; clear e9 h9
    refine s_X9_addIfPossible_21 ?_
    exact s_X9_addIfPossible_22 (by first | exact Or.inl rfl | exact Or.inr rfl | exact bI_01 _) (hΦ _ (⟨(frU (by decide)).N (by decide), hz.put h'⟩))
theorem c_turnIf {hi : am_HI} {g : am_G} (hI : am_Inv g) {z : Nat → Int32} (hz : ZB hi 2 z) (v : Int32) : am_Cr M_X9_turnIfPossible [.ref 0, .int v] hi g (some (.int (bI (decide (¬ z 55 = 1 <<< (v &&& 31)))))) (fun h => fr nwS hi h ∧ ZB h 2 (if ¬ z 55 = 1 <<< (v &&& 31) then upd z 55 (z 55 ^^^ 1 <<< (v &&& 31)) else z)) := by
  refine am_crn (by decide) (Nat.le_of_ble_eq_true rfl) (fun Φ hΦ => ?_)
  show AP M_X9_turnIfPossible _ 0 [.ref 0, .int v, jk] [] _ g Φ
  refine s_X9_turnIfPossible_0 ?_
  refine s_X9_turnIfPossible_1 hI rfl (by decide) rfl (by decide) ?_
  refine s_X9_turnIfPossible_4 ?_
  refine s_X9_turnIfPossible_5 hI rfl (by decide) (Nat.le_of_ble_eq_true rfl) (c_canTurn hI v) ?_
  intro h9 e9; rw [e9]; clear e9 h9
  refine s_X9_turnIfPossible_8 rfl ?_
  refine s_X9_turnIfPossible_9 ?_
  rw [hz.1.2.2.2.2.2]
  refine s_X9_turnIfPossible_10 (fun hh => ?_) (fun hh => ?_)
  · refine s_X9_turnIfPossible_21 ?_
    have h' := bI_d0.mp hh
    rw [decide_eq_false h', if_neg h'] at hΦ
    rw [decide_eq_false h']
    exact s_X9_turnIfPossible_22 (by first | exact Or.inl rfl | exact Or.inr rfl | exact bI_01 _) (hΦ _ (⟨fr.rfl, hz⟩))
  · refine s_X9_turnIfPossible_13 ?_
    refine s_X9_turnIfPossible_14 hI rfl (by decide) rfl (by decide) ?_
    refine s_X9_turnIfPossible_17 ?_
    have h' := Decidable.not_not.mp (fun e => hh (bI_d0.mpr e))
    rw [decide_eq_true h', if_pos h'] at hΦ
    rw [decide_eq_true h']
    refine s_X9_turnIfPossible_18 hI rfl (by decide) (Nat.le_of_ble_eq_true rfl) (c_turn hI v) ?_
    intro h9 e9; rw [e9]; clear e9 h9
    refine s_X9_turnIfPossible_21 ?_
    rw [hz.1.2.2.2.2.2]
    exact s_X9_turnIfPossible_22 (by first | exact Or.inl rfl | exact Or.inr rfl | exact bI_01 _) (hΦ _ (⟨frU (by decide), hz.up (by omega) (fun k i j q => by unfold cmR at q; omega)⟩))
theorem c_tamperIf {hi : am_HI} {g : am_G} (hI : am_Inv g) {z : Nat → Int32} (hz : ZB hi 2 z) (ok : OKz z) {t : Nat} (ht : t < 1000) (v : Int32) : am_Cr M_X9_tamperIfPossible [.ref 0, .int (nI t), .int v] hi g (some (.int (bI (decide (t < zt z))))) (fun h => fr nwS hi h ∧ ZB h 2 (if t < zt z then upd z (75 + t) v else z)) := by
  have h48 := ok.2.2.1
  have e : wi (nI t) 0 (nI (zt z) - 1) = decide (t < zt z) := by
    by_cases h : t < zt z
    · rw [decide_eq_true h]; exact (wi_lt (by omega)).mpr ⟨t, h, rfl⟩
    · rw [decide_eq_false h]
      cases hw : wi (nI t) 0 (nI (zt z) - 1) with
      | false => rfl
      | true =>
        obtain ⟨k, h1, h2⟩ := (wi_lt (by omega)).mp hw
        have := (nI_eq (by omega) (by omega)).mp h2
        omega
  refine am_crn (by decide) (Nat.le_of_ble_eq_true rfl) (fun Φ hΦ => ?_)
  show AP M_X9_tamperIfPossible _ 0 [.ref 0, .int (nI t), .int v, jk] [] _ g Φ
  refine s_X9_tamperIfPossible_0 ?_
  refine s_X9_tamperIfPossible_1 ?_
  refine s_X9_tamperIfPossible_2 hI rfl (by decide) (Nat.le_of_ble_eq_true rfl) (c_isTold hI hz.2.1 ok _) ?_
  intro h9 e9; rw [e9]; clear e9 h9
  refine s_X9_tamperIfPossible_5 rfl ?_
  refine s_X9_tamperIfPossible_6 ?_
  rw [e]
  refine s_X9_tamperIfPossible_7 (fun hh => ?_) (fun hh => ?_)
  · refine s_X9_tamperIfPossible_23 ?_
    have h' := bI_d0.mp hh
    rw [decide_eq_false h', if_neg h'] at hΦ
    rw [decide_eq_false h']
    exact s_X9_tamperIfPossible_24 (by first | exact Or.inl rfl | exact Or.inr rfl | exact bI_01 _) (hΦ _ (⟨fr.rfl, hz⟩))
  · refine s_X9_tamperIfPossible_10 ?_
    refine s_X9_tamperIfPossible_11 hI rfl (by decide) rfl (by decide) ?_
    refine s_X9_tamperIfPossible_14 hI rfl (by decide) rfl (by decide) ?_
    refine s_X9_tamperIfPossible_17 hI rfl (by decide) rfl (by decide) ?_
    refine s_X9_tamperIfPossible_20 ?_
    refine s_X9_tamperIfPossible_21 ?_
    have h' := Decidable.not_not.mp (fun e => hh (bI_d0.mpr e))
    rw [decide_eq_true h', if_pos h'] at hΦ
    rw [decide_eq_true h']
    refine s_X9_tamperIfPossible_22 hI rfl (by decide) (by decide) (rfl) (by omega) ?_
    refine s_X9_tamperIfPossible_23 ?_
    exact s_X9_tamperIfPossible_24 (by first | exact Or.inl rfl | exact Or.inr rfl | exact bI_01 _) (hΦ _ (⟨frU (by decide), hz.up (by omega) (fun k i j q => by unfold cmR at q; omega)⟩))
theorem c_setFirst {hi : am_HI} {g : am_G} (hI : am_Inv g) {z : Nat → Int32} (hz : ZB hi 2 z) {k : Nat} (hk : k < 4) (v : Int32) : am_Cr M_X9_setFirst [.ref 0, .int (nI (k + 1)), .int v] hi g (some (.int 1)) (fun h => fr nwS hi h ∧ ZB h 2 (upd z (51 + k) v)) := by
  refine am_crn (by decide) (Nat.le_of_ble_eq_true rfl) (fun Φ hΦ => ?_)
  show AP M_X9_setFirst _ 0 [.ref 0, .int (nI (k + 1)), .int v, jk] [] _ g Φ
  refine s_X9_setFirst_0 ?_
  refine s_X9_setFirst_1 ?_
  refine s_X9_setFirst_2 ?_
  refine s_X9_setFirst_3 hI (Nat.le_of_ble_eq_true rfl) (c_isWithin _ _ _) ?_
  intro h9 e9; rw [e9]; clear e9 h9
  refine s_X9_setFirst_6 rfl ?_
  refine s_X9_setFirst_7 ?_
  rw [show wi (nI (k + 1)) 1 4 = true from wi_ok (a := 1) (b := 4) (by omega) (by omega) (by decide)]
  refine s_X9_setFirst_8 (fun h => absurd h (by decide)) (fun _ => ?_)
  refine s_X9_setFirst_11 ?_
  refine s_X9_setFirst_12 hI rfl (by decide) rfl (by decide) ?_
  refine s_X9_setFirst_15 hI rfl (by decide) rfl (by decide) ?_
  refine s_X9_setFirst_18 ?_
  refine s_X9_setFirst_19 ?_
  refine s_X9_setFirst_20 ?_
  refine s_X9_setFirst_21 ?_
  refine s_X9_setFirst_22 hI rfl (by decide) (by decide) (nI_i1 k) (hk) ?_
  refine s_X9_setFirst_23 ?_
  exact s_X9_setFirst_24 (by first | exact Or.inl rfl | exact Or.inr rfl | exact bI_01 _) (hΦ _ (⟨frU (by decide), hz.up (by omega) (fun k i j q => by unfold cmR at q; omega)⟩))
/-- a work is done, if it is possible -/
def zdo (z : Nat → Int32) (c : Nat) (x v : Int32) : Bool × (Nat → Int32) := match c with
  | 43 => (decide (zc z < 48), if zc z < 48 then zput z v else z)
  | 45 => (decide (zc z < 48), if zc z < 48 then zput z (-v) else z)
  | 107 => (decide (¬ z 55 = 1 <<< (v &&& 31)), if ¬ z 55 = 1 <<< (v &&& 31) then upd z 55 (z 55 ^^^ 1 <<< (v &&& 31)) else z)
  | 115 => (decide (0 < zc z), if 0 < zc z then zsend z else z)
  | 116 => (decide (x.toInt.toNat < zt z), if x.toInt.toNat < zt z then upd z (75 + x.toInt.toNat) v else z)
  | 100 => (true, upd z 49 v)
  | 118 => (true, upd z 50 v)
  | 119 => (true, upd z (51 + (x.toInt.toNat - 1)) v)
  | 120 => (true, upd z 48 0)
  | _ => (false, z)
/-- a work's code, place and value are in their ranges -/
def WV (c : Nat) (x v : Int32) : Prop := ((c = 43 ∨ c = 45) ∧ ∃ k : Nat, k ≤ 99 ∧ v = nI k) ∨ (c = 100 ∧ ∃ d : Nat, (1 ≤ d ∧ d ≤ 12) ∧ v = nI d) ∨ (c = 118 ∧ ∃ s : Nat, s ≤ 3 ∧ v = nI s) ∨ (c = 107 ∧ ∃ k : Nat, k ≤ 4 ∧ v = nI k) ∨ (c = 119 ∧ ∃ k : Nat, k < 4 ∧ x = nI (k + 1)) ∨ (c = 116 ∧ (∃ t : Nat, t ≤ 47 ∧ x = nI t) ∧ -198 ≤ v.toInt ∧ v.toInt ≤ 198) ∨ c = 115 ∨ c = 120
theorem al_xor : ∀ a : Fin 32, ∀ k : Fin 5, 1 ≤ a.val → ¬ nI a.val = 1 <<< (nI k.val &&& 31) → (decide (1 ≤ (nI a.val ^^^ 1 <<< (nI k.val &&& 31)).toInt.toNat) && decide ((nI a.val ^^^ 1 <<< (nI k.val &&& 31)).toInt.toNat ≤ 31) && decide (nI a.val ^^^ 1 <<< (nI k.val &&& 31) = nI (nI a.val ^^^ 1 <<< (nI k.val &&& 31)).toInt.toNat)) = true := by decide +kernel
theorem turn_ok {z : Nat → Int32} (ok : OKz z) {k : Nat} (hk : k ≤ 4) (h : ¬ z 55 = 1 <<< (nI k &&& 31)) : OKz (upd z 55 (z 55 ^^^ 1 <<< (nI k &&& 31))) := by
  obtain ⟨a, a1, a2, a3⟩ := ok.1.2.2.2.2.2.2
  have := al_xor ⟨a, by omega⟩ ⟨k, by omega⟩ a2
  dsimp only at this
  rw [← a1] at this
  have q := this h
  simp only [Bool.and_eq_true, decide_eq_true_eq] at q
  exact ok.up (fun e => by omega) (fun e => by omega) (fun e => by omega) (fun _ => ⟨_, q.2, q.1.1, q.1.2⟩) (by omega) (by omega) (by omega) (fun e => by omega)
theorem rng_nI {k : Nat} (h : k ≤ 99) : rng (nI k) := by
  unfold rng
  rw [am_nI (by omega)]
  omega
theorem neg_nI {k : Nat} (h : k ≤ 99) : (-nI k).toInt = -(k : Int) := by
  rw [show -nI k = 0 - nI k from by rw [Int32.zero_sub], i_sub (by rw [am_nI (by omega), show (0 : Int32).toInt = 0 from rfl]; omega) (by rw [am_nI (by omega), show (0 : Int32).toInt = 0 from rfl]; omega), am_nI (by omega), show (0 : Int32).toInt = 0 from rfl]
  omega
theorem rng_neg {k : Nat} (h : k ≤ 99) : rng (-nI k) := by
  unfold rng
  rw [neg_nI h]
  omega
theorem nI_tn {k : Nat} (h : k < 2147483648) : (nI k).toInt.toNat = k := by rw [am_nI h]; exact Int.toNat_natCast k
theorem zdo_ok {z : Nat → Int32} (ok : OKz z) {c : Nat} {x v : Int32} (h : WV c x v) : OKz (zdo z c x v).2 := by
  rcases h with ⟨rfl | rfl, k, h1, rfl⟩ | ⟨rfl, d, h1, rfl⟩ | ⟨rfl, s, h1, rfl⟩ | ⟨rfl, k, h1, rfl⟩ | ⟨rfl, k, h1, rfl⟩ | ⟨rfl, ⟨t, h1, rfl⟩, h2⟩ | rfl | rfl
  · show OKz (if zc z < 48 then zput z (nI k) else z)
    split
    · exact zput_ok ok (by assumption) (rng_nI h1)
    · exact ok
  · show OKz (if zc z < 48 then zput z (-nI k) else z)
    split
    · exact zput_ok ok (by assumption) (rng_neg h1)
    · exact ok
  · exact ok.up (fun e => by omega) (fun e => by omega) (fun _ => ⟨d, h1.1, h1.2, rfl⟩) (fun e => by omega) (by omega) (by omega) (by omega) (fun e => by omega)
  · exact ok.up (fun e => by omega) (fun e => by omega) (fun e => by omega) (fun e => by omega) (by omega) (by omega) (by omega) (fun e => by omega)
  · show OKz (if ¬ z 55 = 1 <<< (nI k &&& 31) then upd z 55 (z 55 ^^^ 1 <<< (nI k &&& 31)) else z)
    split
    · exact turn_ok ok h1 (by assumption)
    · exact ok
  · show OKz (upd z (51 + ((nI (k + 1)).toInt.toNat - 1)) v)
    rw [nI_tn (by omega)]
    exact ok.up (fun e => by omega) (fun e => by omega) (fun e => by omega) (fun e => by omega) (by omega) (by omega) (by omega) (fun e => by omega)
  · show OKz (if (nI t).toInt.toNat < zt z then upd z (75 + (nI t).toInt.toNat) v else z)
    rw [nI_tn (by omega)]
    split
    · exact ok.up (fun e => by omega) (fun e => by omega) (fun e => by omega) (fun e => by omega) (by omega) (by omega) (by omega) (fun _ _ => h2)
    · exact ok
  · show OKz (if 0 < zc z then zsend z else z)
    split
    · exact zsend_ok ok
    · exact ok
  · exact ok.up (fun e => by omega) (fun _ => ⟨0, by omega, rfl⟩) (fun e => by omega) (fun e => by omega) (by omega) (by omega) (by omega) (fun e => by omega)
theorem c_doWork {hi : am_HI} {g : am_G} (hI : am_Inv g) {z : Nat → Int32} (hz : ZB hi 2 z) (ok : OKz z) {c : Nat} {x v : Int32} (h : WV c x v) (h3 : hi 115 3 = nI c) (h4 : is2 c = true → hi 115 4 = x) (h5 : is0 c = false → hi 115 5 = v) : am_Cr M_X9_doWork [.ref 0] hi g (some (.int (bI (zdo z c x v).1))) (fun h => fr nwS hi h ∧ ZB h 2 (zdo z c x v).2) := by
  rcases h with ⟨rfl | rfl, k, h1, rfl⟩ | ⟨rfl, d, h1, rfl⟩ | ⟨rfl, s, h1, rfl⟩ | ⟨rfl, k, h1, rfl⟩ | ⟨rfl, k, h1, rfl⟩ | ⟨rfl, ⟨t, h1, rfl⟩, h2⟩ | rfl | rfl
  · refine am_crn (by decide) (Nat.le_of_ble_eq_true rfl) (fun Φ hΦ => ?_)
    show AP M_X9_doWork _ 0 [.ref 0] [] _ g Φ
    refine s_X9_doWork_0 ?_
    refine s_X9_doWork_1 hI rfl (by decide) rfl (by decide) ?_
    refine s_X9_doWork_4 hI rfl (by decide) ?_
    rw [h3]
    refine s_X9_doWork_7_43 ?_
    refine s_X9_doWork_88 ?_
    refine s_X9_doWork_89 ?_
    refine s_X9_doWork_90 hI rfl (by decide) rfl (by decide) ?_
    refine s_X9_doWork_93 hI rfl (by decide) ?_
    rw [h5 rfl]
    refine s_X9_doWork_96 hI rfl (by decide) (Nat.le_of_ble_eq_true rfl) (c_addIf hI hz ok _) ?_
    intro h6 q6
    exact s_X9_doWork_99 (by first | exact Or.inl rfl | exact Or.inr rfl | exact bI_01 _) (hΦ _ (q6))
  · refine am_crn (by decide) (Nat.le_of_ble_eq_true rfl) (fun Φ hΦ => ?_)
    show AP M_X9_doWork _ 0 [.ref 0] [] _ g Φ
    refine s_X9_doWork_0 ?_
    refine s_X9_doWork_1 hI rfl (by decide) rfl (by decide) ?_
    refine s_X9_doWork_4 hI rfl (by decide) ?_
    rw [h3]
    refine s_X9_doWork_7_45 ?_
    refine s_X9_doWork_100 ?_
    refine s_X9_doWork_101 ?_
    refine s_X9_doWork_102 hI rfl (by decide) rfl (by decide) ?_
    refine s_X9_doWork_105 hI rfl (by decide) ?_
    refine s_X9_doWork_108 ?_
    rw [h5 rfl]
    refine s_X9_doWork_109 hI rfl (by decide) (Nat.le_of_ble_eq_true rfl) (c_addIf hI hz ok _) ?_
    intro h6 q6
    exact s_X9_doWork_112 (by first | exact Or.inl rfl | exact Or.inr rfl | exact bI_01 _) (hΦ _ (q6))
  · refine am_crn (by decide) (Nat.le_of_ble_eq_true rfl) (fun Φ hΦ => ?_)
    show AP M_X9_doWork _ 0 [.ref 0] [] _ g Φ
    refine s_X9_doWork_0 ?_
    refine s_X9_doWork_1 hI rfl (by decide) rfl (by decide) ?_
    refine s_X9_doWork_4 hI rfl (by decide) ?_
    rw [h3]
    refine s_X9_doWork_7_100 ?_
    refine s_X9_doWork_149 ?_
    refine s_X9_doWork_150 hI rfl (by decide) rfl (by decide) ?_
    refine s_X9_doWork_153 ?_
    refine s_X9_doWork_154 hI rfl (by decide) rfl (by decide) ?_
    refine s_X9_doWork_157 hI rfl (by decide) ?_
    refine s_X9_doWork_160 hI rfl (by decide) ?_
    refine s_X9_doWork_163 ?_
    rw [h5 rfl]
    exact s_X9_doWork_164 (by first | exact Or.inl rfl | exact Or.inr rfl | exact bI_01 _) (hΦ _ (⟨frU (by decide), hz.up (by omega) (fun k i j q => by unfold cmR at q; omega)⟩))
  · refine am_crn (by decide) (Nat.le_of_ble_eq_true rfl) (fun Φ hΦ => ?_)
    show AP M_X9_doWork _ 0 [.ref 0] [] _ g Φ
    refine s_X9_doWork_0 ?_
    refine s_X9_doWork_1 hI rfl (by decide) rfl (by decide) ?_
    refine s_X9_doWork_4 hI rfl (by decide) ?_
    rw [h3]
    refine s_X9_doWork_7_118 ?_
    refine s_X9_doWork_165 ?_
    refine s_X9_doWork_166 hI rfl (by decide) rfl (by decide) ?_
    refine s_X9_doWork_169 ?_
    refine s_X9_doWork_170 hI rfl (by decide) rfl (by decide) ?_
    refine s_X9_doWork_173 hI rfl (by decide) ?_
    refine s_X9_doWork_176 hI rfl (by decide) ?_
    refine s_X9_doWork_179 ?_
    rw [h5 rfl]
    exact s_X9_doWork_180 (by first | exact Or.inl rfl | exact Or.inr rfl | exact bI_01 _) (hΦ _ (⟨frU (by decide), hz.up (by omega) (fun k i j q => by unfold cmR at q; omega)⟩))
  · refine am_crn (by decide) (Nat.le_of_ble_eq_true rfl) (fun Φ hΦ => ?_)
    show AP M_X9_doWork _ 0 [.ref 0] [] _ g Φ
    refine s_X9_doWork_0 ?_
    refine s_X9_doWork_1 hI rfl (by decide) rfl (by decide) ?_
    refine s_X9_doWork_4 hI rfl (by decide) ?_
    rw [h3]
    refine s_X9_doWork_7_107 ?_
    refine s_X9_doWork_113 ?_
    refine s_X9_doWork_114 ?_
    refine s_X9_doWork_115 hI rfl (by decide) rfl (by decide) ?_
    refine s_X9_doWork_118 hI rfl (by decide) ?_
    rw [h5 rfl]
    refine s_X9_doWork_121 hI rfl (by decide) (Nat.le_of_ble_eq_true rfl) (c_turnIf hI hz _) ?_
    intro h6 q6
    exact s_X9_doWork_124 (by first | exact Or.inl rfl | exact Or.inr rfl | exact bI_01 _) (hΦ _ (q6))
  · have hΨ : am_Cr M_X9_doWork [.ref 0] hi g (some (.int 1)) (fun h => fr nwS hi h ∧ ZB h 2 (upd z (51 + k) v)) := by
      refine am_crn (by decide) (Nat.le_of_ble_eq_true rfl) (fun Φ hΦ => ?_)
      show AP M_X9_doWork _ 0 [.ref 0] [] _ g Φ
      refine s_X9_doWork_0 ?_
      refine s_X9_doWork_1 hI rfl (by decide) rfl (by decide) ?_
      refine s_X9_doWork_4 hI rfl (by decide) ?_
      rw [h3]
      refine s_X9_doWork_7_119 ?_
      refine s_X9_doWork_181 ?_
      refine s_X9_doWork_182 ?_
      refine s_X9_doWork_183 hI rfl (by decide) rfl (by decide) ?_
      refine s_X9_doWork_186 hI rfl (by decide) ?_
      refine s_X9_doWork_189 ?_
      refine s_X9_doWork_190 hI rfl (by decide) rfl (by decide) ?_
      refine s_X9_doWork_193 hI rfl (by decide) ?_
      rw [h4 rfl, h5 rfl]
      refine s_X9_doWork_196 hI rfl (by decide) (Nat.le_of_ble_eq_true rfl) (c_setFirst hI hz h1 v) ?_
      intro h6 q6
      exact s_X9_doWork_199 (by first | exact Or.inl rfl | exact Or.inr rfl | exact bI_01 _) (hΦ _ (q6))
    show am_Cr M_X9_doWork [.ref 0] hi g (some (.int 1)) (fun h => fr nwS hi h ∧ ZB h 2 (upd z (51 + ((nI (k + 1)).toInt.toNat - 1)) v))
    rw [nI_tn (by omega)]
    exact hΨ
  · show am_Cr M_X9_doWork [.ref 0] hi g (some (.int (bI (decide ((nI t).toInt.toNat < zt z))))) (fun h => fr nwS hi h ∧ ZB h 2 (if (nI t).toInt.toNat < zt z then upd z (75 + (nI t).toInt.toNat) v else z))
    rw [nI_tn (by omega)]
    refine am_crn (by decide) (Nat.le_of_ble_eq_true rfl) (fun Φ hΦ => ?_)
    show AP M_X9_doWork _ 0 [.ref 0] [] _ g Φ
    refine s_X9_doWork_0 ?_
    refine s_X9_doWork_1 hI rfl (by decide) rfl (by decide) ?_
    refine s_X9_doWork_4 hI rfl (by decide) ?_
    rw [h3]
    refine s_X9_doWork_7_116 ?_
    refine s_X9_doWork_130 ?_
    refine s_X9_doWork_131 ?_
    refine s_X9_doWork_132 hI rfl (by decide) rfl (by decide) ?_
    refine s_X9_doWork_135 hI rfl (by decide) ?_
    refine s_X9_doWork_138 ?_
    refine s_X9_doWork_139 hI rfl (by decide) rfl (by decide) ?_
    refine s_X9_doWork_142 hI rfl (by decide) ?_
    rw [h4 rfl, h5 rfl]
    refine s_X9_doWork_145 hI rfl (by decide) (Nat.le_of_ble_eq_true rfl) (c_tamperIf hI hz ok (t := t) (by omega) v) ?_
    intro h6 q6
    exact s_X9_doWork_148 (by first | exact Or.inl rfl | exact Or.inr rfl | exact bI_01 _) (hΦ _ (q6))
  · by_cases hc : 0 < zc z
    · show am_Cr M_X9_doWork [.ref 0] hi g (some (.int (bI (decide (0 < zc z))))) (fun h => fr nwS hi h ∧ ZB h 2 (if 0 < zc z then zsend z else z))
      rw [decide_eq_true hc, if_pos hc]
      refine am_crn (by decide) (Nat.le_of_ble_eq_true rfl) (fun Φ hΦ => ?_)
      show AP M_X9_doWork _ 0 [.ref 0] [] _ g Φ
      refine s_X9_doWork_0 ?_
      refine s_X9_doWork_1 hI rfl (by decide) rfl (by decide) ?_
      refine s_X9_doWork_4 hI rfl (by decide) ?_
      rw [h3]
      refine s_X9_doWork_7_115 ?_
      refine s_X9_doWork_125 ?_
      refine s_X9_doWork_126 hI rfl (by decide) (Nat.le_of_ble_eq_true rfl) (c_writeLetter hI hz ok hc) ?_
      intro h6 q6
      exact s_X9_doWork_129 (by first | exact Or.inl rfl | exact Or.inr rfl | exact bI_01 _) (hΦ _ (q6))
    · have hw : am_Cr M_X9_writeLetter [.ref 0] hi g (some (.int 0)) (fun h => h = hi) := by
        refine am_crn (by decide) (Nat.le_of_ble_eq_true rfl) (fun Φ hΦ => ?_)
        show AP M_X9_writeLetter _ 0 [.ref 0, jk, jk, jk] [] _ g Φ
        refine s_X9_writeLetter_0 ?_
        refine s_X9_writeLetter_1 hI rfl (by decide) rfl (by decide) ?_
        refine s_X9_writeLetter_4 hI rfl (by decide) ?_
        rw [(hz.1.so ok).1, show zc z = 0 by omega]
        refine s_X9_writeLetter_7 (fun h => absurd h (by decide)) (fun _ => ?_)
        refine s_X9_writeLetter_10 ?_
        exact s_X9_writeLetter_11 (by first | exact Or.inl rfl | exact Or.inr rfl | exact bI_01 _) (hΦ _ (rfl))
      show am_Cr M_X9_doWork [.ref 0] hi g (some (.int (bI (decide (0 < zc z))))) (fun h => fr nwS hi h ∧ ZB h 2 (if 0 < zc z then zsend z else z))
      rw [decide_eq_false hc, if_neg hc]
      refine am_crn (by decide) (Nat.le_of_ble_eq_true rfl) (fun Φ hΦ => ?_)
      show AP M_X9_doWork _ 0 [.ref 0] [] _ g Φ
      refine s_X9_doWork_0 ?_
      refine s_X9_doWork_1 hI rfl (by decide) rfl (by decide) ?_
      refine s_X9_doWork_4 hI rfl (by decide) ?_
      rw [h3]
      refine s_X9_doWork_7_115 ?_
      refine s_X9_doWork_125 ?_
      refine s_X9_doWork_126 hI rfl (by decide) (Nat.le_of_ble_eq_true rfl) (hw) ?_
      intro h9 e9; rw [e9]; clear e9 h9
      exact s_X9_doWork_129 (by first | exact Or.inl rfl | exact Or.inr rfl | exact bI_01 _) (hΦ _ (⟨fr.rfl, hz⟩))
  · refine am_crn (by decide) (Nat.le_of_ble_eq_true rfl) (fun Φ hΦ => ?_)
    show AP M_X9_doWork _ 0 [.ref 0] [] _ g Φ
    refine s_X9_doWork_0 ?_
    refine s_X9_doWork_1 hI rfl (by decide) rfl (by decide) ?_
    refine s_X9_doWork_4 hI rfl (by decide) ?_
    rw [h3]
    refine s_X9_doWork_7_120 ?_
    refine s_X9_doWork_200 ?_
    refine s_X9_doWork_201 hI rfl (by decide) rfl (by decide) ?_
    refine s_X9_doWork_204 ?_
    refine s_X9_doWork_205 hI rfl (by decide) ?_
    refine s_X9_doWork_208 ?_
    exact s_X9_doWork_209 (by first | exact Or.inl rfl | exact Or.inr rfl | exact bI_01 _) (hΦ _ (⟨frU (by decide), hz.up (by omega) (fun k i j q => by unfold cmR at q; omega)⟩))
theorem ext_lo (cd : Nat → Nat) (n most : Nat) : ∀ k v a, 0 < v → v ≤ (ext cd n most k v a).1 := by
  intro k
  induction k with
  | zero => intro v a h; exact Nat.le_refl _
  | succ k ih =>
    intro v a h
    rw [ext]
    split
    · exact Nat.le_refl _
    · split
      · exact Nat.le_trans (by omega) (ih _ _ (by omega))
      · exact Nat.le_refl _
theorem cnum_lo {cd : Nat → Nat} {n least most a : Nat} {q : Nat × Nat} (h : cnum cd n least most a = some q) : least ≤ q.1 := by
  unfold cnum at h
  split at h
  · cases h
  · rename_i d _
    split at h
    · rename_i hh
      cases h
      by_cases h0 : d = 0
      · omega
      · exact Nat.le_trans hh.1 (ext_lo cd n most 3 d (a + 1) (by omega))
    · cases h
theorem sgn_rng {cd : Nat → Nat} {n most a : Nat} (hm : most ≤ 198) (h : (sgn cd n most a).1 = true) : -(most : Int) ≤ (sgn cd n most a).2.2.toInt ∧ (sgn cd n most a).2.2.toInt ≤ most := by
  unfold sgn at h ⊢
  cases hq : cnum cd n 0 most (tk cd n a 45) with
  | none => rw [hq] at h; cases h
  | some q =>
    have hv := cnum_v hq
    dsimp only
    have e : (nI q.1).toInt = q.1 := am_nI (by omega)
    have e0 : (0 : Int32).toInt = 0 := rfl
    split
    · rw [show -nI q.1 = 0 - nI q.1 from by rw [Int32.zero_sub], i_sub (by rw [e, e0]; omega) (by rw [e, e0]; omega), e, e0]
      omega
    · rw [e]
      omega
theorem wk_ok {cd : Nat → Nat} {n a : Nat} (h : (wk cd n a).1 = true) : WV (chr cd n a) (wk cd n a).2.2.1 (wk cd n a).2.2.2 := by
  have k1 : ∀ least most, (wk1 cd n least most a).1 = true → ∃ k : Nat, least ≤ k ∧ k ≤ most ∧ (wk1 cd n least most a).2.2.2 = nI k := by
    intro least most h
    unfold wk1 at h ⊢
    cases hq : cnum cd n least most (a + 1) with
    | none => rw [hq] at h; cases h
    | some q => exact ⟨q.1, cnum_lo hq, cnum_v hq, rfl⟩
  have k2 : ∀ least most size, size ≤ 198 → (wk2 cd n least most size a).1 = true → (∃ k : Nat, least ≤ k ∧ k ≤ most ∧ (wk2 cd n least most size a).2.2.1 = nI k) ∧ -(size : Int) ≤ (wk2 cd n least most size a).2.2.2.toInt ∧ (wk2 cd n least most size a).2.2.2.toInt ≤ size := by
    intro least most size hsz h
    unfold wk2 at h ⊢
    cases hq : cnum cd n least most (a + 1) with
    | none => rw [hq] at h; cases h
    | some q =>
      rw [hq] at h
      dsimp only at h ⊢
      by_cases h58 : chr cd n q.2 = 58
      · rw [if_pos h58] at h ⊢
        refine ⟨⟨q.1, cnum_lo hq, cnum_v hq, rfl⟩, ?_⟩
        exact sgn_rng hsz h
      · rw [if_neg h58] at h
        cases h
  revert h
  unfold wk
  split
  · rename_i e; intro h; obtain ⟨k, a1, a2, a3⟩ := k1 0 99 h; rw [e]; exact Or.inl ⟨Or.inl rfl, k, a2, a3⟩
  · rename_i e; intro h; obtain ⟨k, a1, a2, a3⟩ := k1 0 99 h; rw [e]; exact Or.inl ⟨Or.inr rfl, k, a2, a3⟩
  · rename_i e; intro h; obtain ⟨k, a1, a2, a3⟩ := k1 1 12 h; rw [e]; exact Or.inr (Or.inl ⟨rfl, k, ⟨a1, a2⟩, a3⟩)
  · rename_i e; intro h; obtain ⟨k, a1, a2, a3⟩ := k1 0 3 h; rw [e]; exact Or.inr (Or.inr (Or.inl ⟨rfl, k, a2, a3⟩))
  · rename_i e; intro h; obtain ⟨k, a1, a2, a3⟩ := k1 0 4 h; rw [e]; exact Or.inr (Or.inr (Or.inr (Or.inl ⟨rfl, k, a2, a3⟩)))
  · rename_i e; intro h; obtain ⟨⟨k, a1, a2, a3⟩, -⟩ := k2 1 4 64 (by decide) h; rw [e]; exact Or.inr (Or.inr (Or.inr (Or.inr (Or.inl ⟨rfl, k - 1, by omega, by rw [a3, show k - 1 + 1 = k by omega]⟩))))
  · rename_i e; intro h; obtain ⟨⟨k, a1, a2, a3⟩, a4⟩ := k2 0 47 198 (by decide) h; rw [e]; exact Or.inr (Or.inr (Or.inr (Or.inr (Or.inr (Or.inl ⟨rfl, ⟨k, a2, a3⟩, a4⟩)))))
  · rename_i e; intro h; rw [e]; exact Or.inr (Or.inr (Or.inr (Or.inr (Or.inr (Or.inr (Or.inl rfl))))))
  · rename_i e; intro h; rw [e]; exact Or.inr (Or.inr (Or.inr (Or.inr (Or.inr (Or.inr (Or.inr rfl))))))
  · intro h; cases h
