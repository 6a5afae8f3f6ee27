/-! ===== the class: its digest ===== -/
abbrev mx (h v : Int64) : Int64 := 31 * h + v
def dA1 (z : Nat → Int32) (s : Int64) : Int64 := mx (mx (mx (mx s (z 48).toInt64) (z 49).toInt64) (z 50).toInt64) (z 55).toInt64
def dA2 (z : Nat → Int32) (s : Int64) : Int64 := mx (mx (mx (mx (dA1 z s) (sAll z (zn z)).toInt64) (nI (amin (fD z) 11 + 1)).toInt64) (nI (amin (fS z) 3)).toInt64) (e8 (amin (fW z 0) 16)).toInt64
def dA3 (z : Nat → Int32) (s : Int64) : Int64 := mx (mx (mx (mx (dA2 z s) (z 56).toInt64) (nI (zbits z)).toInt64) (unl z (-1) (zt z)).toInt64) (zuf z).toInt64
def dA4 (z : Nat → Int32) (s : Int64) : Int64 := mx (mx (mx (dA3 z s) (wst (zharm z) (zt z)).1.toInt64) (z 171).toInt64) (lou z).toInt64
def dA5 (z : Nat → Int32) (h : Int64) : Nat → Int64
  | 0 => h
  | k + 1 => mx (dA5 z h k) (z (51 + k)).toInt64
def dK (z : Nat → Int32) (h : Int64) : Nat → Int64
  | 0 => h
  | k + 1 => mx (mx (mx (mx (dK z h k) (sumv k (zd z) (z0 z) z (z 50) (zc z)).toInt64) (sMany z k (zn z)).toInt64) (sOnly z k (zn z)).toInt64) (zF z k (zc z)).toInt64
def dSw (z : Nat → Int32) (t : Nat) (h : Int64) : Nat → Int64
  | 0 => h
  | k + 1 => mx (dSw z t h k) (zW z t k).toInt64
def dS (z : Nat → Int32) (h : Int64) : Nat → Int64
  | 0 => h
  | t + 1 => dSw z t (mx (mx (dS z h t) (z t).toInt64) (zL z 4 t).toInt64) 4
def dBp (z : Nat → Int32) (b : Nat) (h : Int64) : Nat → Int64
  | 0 => h
  | k + 1 => mx (dBp z b h k) (nI (zpb z k b)).toInt64
def dB (z : Nat → Int32) (h : Int64) : Nat → Int64
  | 0 => h
  | b + 1 => dBp z b (mx (mx (dB z h b) (nI (zkf z b)).toInt64) (zwhy z b).toInt64) 5
def dL1 (z : Nat → Int32) (h : Int64) : Nat → Int64
  | 0 => h
  | b + 1 => mx (mx (dL1 z h b) (z (63 + b)).toInt64) (z (69 + b)).toInt64
def dL2 (z : Nat → Int32) (h : Int64) : Nat → Int64
  | 0 => h
  | t + 1 => mx (mx (dL2 z h t) (z (75 + t)).toInt64) (ear z (-1) t).toInt64
def dbits (h : Int64) (L : List Bool) : Int64 := L.foldl (fun h b => mx h (if b = true then 1 else 0)) h
theorem dbits_app (h : Int64) (A B : List Bool) : dbits h (A ++ B) = dbits (dbits h A) B := by
  unfold dbits
  rw [List.foldl_append]
theorem dbits_take (h : Int64) (L : List Bool) {n : Nat} (hn : n < L.length) : dbits h (L.take (n + 1)) = mx (dbits h (L.take n)) (if L.getD n false = true then 1 else 0) := by
  have e : L.take (n + 1) = L.take n ++ [L.getD n false] := by
    rw [List.take_succ, List.getElem?_eq_getElem hn, List.getD_eq_getElem?_getD, List.getElem?_eq_getElem hn]
    rfl
  rw [e, dbits_app]
  rfl
def zdig (z : Nat → Int32) : Int64 := dbits (dL2 z (dL1 z (dB z (dS z (dK z (dA5 z (dA4 z 798) 4) 5) (zc z)) (zn z)) (zln z)) (zt z)) (lbB z (zt z))
/-- what the digest's parts find made -/
def DG (h : am_HI) (z : Nat → Int32) : Prop := ZB h 2 z ∧ FO h z (zc z + 1) ∧ FP h z (zn z)
abbrev dgS : List Nat := [11, 12, 13, 14, 118, 119, 120, 121, 122]
theorem dg_ro : ∀ k ∈ dgS, k ∈ roS := by decide
theorem DG.mv {hi h : am_HI} {z : Nat → Int32} (a : DG hi z) (f : fr dgS hi h) : DG h z := by
  refine ⟨a.1.ro (f.mono dg_ro), a.2.1.mv (fun k q1 q2 => f k (by simp; omega)), fun b hb kd hk => ?_⟩
  rw [f (27 + kd) (by simp; omega), f (33 + kd) (by simp; omega)]
  exact a.2.2 b hb kd hk
theorem f_unlike {hi : am_HI} {g : am_G} (hI : am_Inv g) {z : Nat → Int32} (hz : ZL hi 5 z) (ok : OKz z) : am_Cr M_X9_unlike [.ref 0] hi g (some (.int (unl z (-1) (zt z)))) (fun h => fr [118, 119, 120] hi h) := by
  refine am_crn (by decide) (Nat.le_of_ble_eq_true rfl) (fun Φ hΦ => ?_)
  show AP M_X9_unlike _ 0 [.ref 0] [] _ g Φ
  refine s_X9_unlike_0 ?_
  refine s_X9_unlike_1 hI rfl (by decide) rfl (by decide) ?_
  refine s_X9_unlike_4 ?_
  refine s_X9_unlike_5 hI rfl (by decide) rfl (by decide) ?_
  refine s_X9_unlike_8 hI rfl (by decide) rfl (by decide) ?_
  refine s_X9_unlike_11 ?_
  refine s_X9_unlike_12 hI rfl (by decide) (Nat.le_of_ble_eq_true rfl) (c_read hI hz ok (-1)) ?_
  intro h5 ⟨g1, hr⟩
  refine s_X9_unlike_15 ?_
  refine s_X9_unlike_16 hI rfl (by decide) rfl (by decide) ?_
  refine s_X9_unlike_19 ?_
  refine s_X9_unlike_20 hI rfl (by decide) rfl (by decide) ?_
  refine s_X9_unlike_23 hI rfl (by decide) rfl (by decide) ?_
  refine s_X9_unlike_26 hI rfl (by decide) (Nat.le_of_ble_eq_true rfl) (c_countUnlike hI (hz.ro (RO.of g1 (by decide))) ok hr) ?_
  intro h9 e9; rw [e9]; clear e9 h9
  exact s_X9_unlike_29 (hΦ _ (g1))
theorem f_firstUnlike {hi : am_HI} {g : am_G} (hI : am_Inv g) {z : Nat → Int32} (hz : ZL hi 5 z) (ok : OKz z) : am_Cr M_X9_firstUnlike [.ref 0] hi g (some (.int (zuf z))) (fun h => fr [118, 119, 120] hi h) := by
  refine am_crn (by decide) (Nat.le_of_ble_eq_true rfl) (fun Φ hΦ => ?_)
  show AP M_X9_firstUnlike _ 0 [.ref 0] [] _ g Φ
  refine s_X9_firstUnlike_0 ?_
  refine s_X9_firstUnlike_1 hI rfl (by decide) rfl (by decide) ?_
  refine s_X9_firstUnlike_4 ?_
  refine s_X9_firstUnlike_5 hI rfl (by decide) rfl (by decide) ?_
  refine s_X9_firstUnlike_8 hI rfl (by decide) rfl (by decide) ?_
  refine s_X9_firstUnlike_11 ?_
  refine s_X9_firstUnlike_12 hI rfl (by decide) (Nat.le_of_ble_eq_true rfl) (c_read hI hz ok (-1)) ?_
  intro h5 ⟨g1, hr⟩
  refine s_X9_firstUnlike_15 ?_
  refine s_X9_firstUnlike_16 hI rfl (by decide) rfl (by decide) ?_
  refine s_X9_firstUnlike_19 ?_
  refine s_X9_firstUnlike_20 hI rfl (by decide) rfl (by decide) ?_
  refine s_X9_firstUnlike_23 hI rfl (by decide) rfl (by decide) ?_
  refine s_X9_firstUnlike_26 hI rfl (by decide) (Nat.le_of_ble_eq_true rfl) (c_findUnlike hI (hz.ro (RO.of g1 (by decide))) ok hr) ?_
  intro h9 e9; rw [e9]; clear e9 h9
  exact s_X9_firstUnlike_29 (hΦ _ (g1))
theorem f_worst {hi : am_HI} {g : am_G} (hI : am_Inv g) {z : Nat → Int32} (hz : ZL hi 5 z) (ok : OKz z) : am_Cr M_X9_worst [.ref 0] hi g (some (.int (wst (zharm z) (zt z)).1)) (fun h => fr [118, 119, 120] hi h) := by
  have h48 := ok.2.2.1
  refine am_crn (by decide) (Nat.le_of_ble_eq_true rfl) (fun Φ hΦ => ?_)
  show AP M_X9_worst _ 0 [.ref 0, jk, jk, jk, jk] [] _ g Φ
  refine s_X9_worst_0 ?_
  refine s_X9_worst_1 rfl ?_
  refine s_X9_worst_2 ?_
  refine s_X9_worst_3 rfl ?_
  refine s_X9_worst_4 ?_
  refine s_X9_worst_5 rfl ?_
  have key := am_for0 (n := zt z) (hi := hi) (fun _ h => fr [118, 119, 120] hi h) (fun t h => ∀ e : Value, AP M_X9_worst (0, 0) 6 [.ref 0, .int (wst (zharm z) t).1, .int (wst (zharm z) t).2, .int (nI t), e] [] h g Φ) fr.rfl ?_ ?_
  · exact key _
  · intro h h1 e
    have hz1 : ZL h 5 z := hz.ro (RO.of h1 (by decide))
    refine s_X9_worst_6 ?_
    refine s_X9_worst_7 ?_
    refine s_X9_worst_8 hI rfl (by decide) rfl (by decide) ?_
    refine s_X9_worst_11 hI rfl (by decide) rfl (by decide) ?_
    refine s_X9_worst_14 hI rfl (by decide) ?_
    rw [hz1.1, ok.2.1]
    refine s_X9_worst_17 (fun _ => ?_) (fun h => absurd ((nI_le (Nat.le_refl _) (by omega))) h)
    refine s_X9_worst_68 ?_
    exact s_X9_worst_69 (hΦ _ (h1))
  · intro t h ht h1 ih e
    have hz1 : ZL h 5 z := hz.ro (RO.of h1 (by decide))
    refine s_X9_worst_6 ?_
    refine s_X9_worst_7 ?_
    refine s_X9_worst_8 hI rfl (by decide) rfl (by decide) ?_
    refine s_X9_worst_11 hI rfl (by decide) rfl (by decide) ?_
    refine s_X9_worst_14 hI rfl (by decide) ?_
    rw [hz1.1, ok.2.1]
    refine s_X9_worst_17 (fun h => absurd h ((nI_ge ht (by omega)))) (fun _ => ?_)
    refine s_X9_worst_20 ?_
    refine s_X9_worst_21 hI rfl (by decide) rfl (by decide) ?_
    refine s_X9_worst_24 ?_
    refine s_X9_worst_25 hI rfl (by decide) rfl (by decide) ?_
    refine s_X9_worst_28 hI rfl (by decide) rfl (by decide) ?_
    refine s_X9_worst_31 ?_
    refine s_X9_worst_32 hI rfl (by decide) (Nat.le_of_ble_eq_true rfl) (c_read hI hz1 ok (nI t)) ?_
    intro h5 ⟨g1, hr⟩
    refine s_X9_worst_35 ?_
    refine s_X9_worst_36 hI rfl (by decide) rfl (by decide) ?_
    refine s_X9_worst_39 ?_
    refine s_X9_worst_40 hI rfl (by decide) rfl (by decide) ?_
    refine s_X9_worst_43 hI rfl (by decide) rfl (by decide) ?_
    have f5 := h1.tr g1
    refine s_X9_worst_46 hI rfl (by decide) (Nat.le_of_ble_eq_true rfl) (c_countUnlike hI (hz.ro (RO.of f5 (by decide))) ok hr) ?_
    intro h9 e9; rw [e9]; clear e9 h9
    refine s_X9_worst_49 rfl ?_
    refine s_X9_worst_51 ?_
    refine s_X9_worst_53 ?_
    have ih' := ih h5 f5
    rw [wst] at ih'
    refine s_X9_worst_54 (fun hc => ?_) (fun hc => ?_)
    · refine s_X9_worst_62 rfl ?_
      refine s_X9_worst_65 ?_
      rw [if_neg (c := (wst (zharm z) t).2 < zharm z t) (Int32.not_lt.mpr hc)] at ih'
      rw [nI_1]
      exact ih' _
    · refine s_X9_worst_57 ?_
      refine s_X9_worst_59 rfl ?_
      refine s_X9_worst_60 ?_
      refine s_X9_worst_61 rfl ?_
      refine s_X9_worst_62 rfl ?_
      refine s_X9_worst_65 ?_
      rw [if_pos (c := (wst (zharm z) t).2 < zharm z t) (Int32.not_le.mp hc)] at ih'
      rw [nI_1]
      exact ih' _
theorem f_loudness {hi : am_HI} {g : am_G} (hI : am_Inv g) {z : Nat → Int32} (hz : ZS hi 2 z) (ok : OKz z) : am_Cr M_X9_loudness [.ref 0] hi g (some (.double (lou z))) (fun h => h = hi) := by
  have hc := (hz.so ok).1
  have h48 := ok.1.2.1
  unfold lou
  by_cases h0 : zc z = 0
  · rw [if_pos h0]
    refine am_crn (by decide) (Nat.le_of_ble_eq_true rfl) (fun Φ hΦ => ?_)
    show AP M_X9_loudness _ 0 [.ref 0, jk, jk] [] _ g Φ
    refine s_X9_loudness_0 ?_
    refine s_X9_loudness_1 hI rfl (by decide) rfl (by decide) ?_
    refine s_X9_loudness_4 hI rfl (by decide) ?_
    rw [hc, h0]
    refine s_X9_loudness_7 (fun h => absurd h (by decide)) (fun _ => ?_)
    refine s_X9_loudness_10 ?_
    exact s_X9_loudness_11 (hΦ _ (rfl))
  · rw [if_neg h0]
    refine am_crn (by decide) (Nat.le_of_ble_eq_true rfl) (fun Φ hΦ => ?_)
    show AP M_X9_loudness _ 0 [.ref 0, jk, jk] [] _ g Φ
    refine s_X9_loudness_0 ?_
    refine s_X9_loudness_1 hI rfl (by decide) rfl (by decide) ?_
    refine s_X9_loudness_4 hI rfl (by decide) ?_
    rw [hc]
    refine s_X9_loudness_7 (fun _ => ?_) (fun h => absurd (nI_lt (a := 0) (b := zc z) (by omega) (by omega)) h)
    refine s_X9_loudness_12 ?_
    refine s_X9_loudness_13 rfl ?_
    refine s_X9_loudness_14 ?_
    refine s_X9_loudness_15 rfl ?_
    have key := am_for0 (n := zc z) (hi := hi) (fun _ h => h = hi) (fun t h => AP M_X9_loudness (0, 0) 16 [.ref 0, .int (lsum z t), .int (nI t)] [] h g Φ) rfl ?_ ?_
    · exact key
    · intro h9 e9
      obtain rfl := e9.symm
      refine s_X9_loudness_16 ?_
      refine s_X9_loudness_17 ?_
      refine s_X9_loudness_18 hI rfl (by decide) rfl (by decide) ?_
      refine s_X9_loudness_21 hI rfl (by decide) ?_
      rw [hc]
      refine s_X9_loudness_24 (fun _ => ?_) (fun h => absurd (nI_le (Nat.le_refl _) (by omega)) h)
      refine s_X9_loudness_47 ?_
      refine s_X9_loudness_48 ?_
      refine s_X9_loudness_49 ?_
      refine s_X9_loudness_50 hI rfl (by decide) rfl (by decide) ?_
      refine s_X9_loudness_53 hI rfl (by decide) ?_
      refine s_X9_loudness_56 ?_
      rw [hc]
      refine s_X9_loudness_57 (n64_ok (lou_div ok h0)) ?_
      exact s_X9_loudness_58 (hΦ _ (rfl))
    · intro t h9 ht e9 ih
      obtain rfl := e9.symm
      refine s_X9_loudness_16 ?_
      refine s_X9_loudness_17 ?_
      refine s_X9_loudness_18 hI rfl (by decide) rfl (by decide) ?_
      refine s_X9_loudness_21 hI rfl (by decide) ?_
      rw [hc]
      refine s_X9_loudness_24 (fun h => absurd h (nI_ge ht (by omega))) (fun _ => ?_)
      refine s_X9_loudness_27 ?_
      refine s_X9_loudness_28 ?_
      refine s_X9_loudness_29 hI rfl (by decide) rfl (by decide) ?_
      refine s_X9_loudness_32 ?_
      refine s_X9_loudness_33 hI rfl (by decide) (Nat.le_of_ble_eq_true rfl) (c_soundAt hI (z := z) (t := t) (c := zc z) hz.1 hc h48 (by omega)) ?_
      intro h9 e9; rw [e9]; clear e9 h9
      rw [if_pos ht]
      refine s_X9_loudness_36 hI (Nat.le_of_ble_eq_true rfl) (c_abs _) ?_
      intro h9 e9; rw [e9]; clear e9 h9
      refine s_X9_loudness_39 ?_
      refine s_X9_loudness_40 rfl ?_
      refine s_X9_loudness_41 rfl ?_
      refine s_X9_loudness_44 ?_
      rw [nI_1]
      exact ih _ rfl
theorem c_hashOfAll {hi : am_HI} {g : am_G} (hI : am_Inv g) {z : Nat → Int32} (dg : DG hi z) (ok : OKz z) (s : Int64) : am_Cr M_X9_hashOfAll [.ref 0, .long s] hi g (some (.long (dA5 z (dA4 z s) 4))) (fun h => fr dgS hi h) := by
  refine am_crn (by decide) (Nat.le_of_ble_eq_true rfl) (fun Φ hΦ => ?_)
  show AP M_X9_hashOfAll _ 0 [.ref 0, .long s, jk, jk, jk, jk] [] _ g Φ
  refine s_X9_hashOfAll_0 ?_
  refine s_X9_hashOfAll_1 ?_
  refine s_X9_hashOfAll_2 hI rfl (by decide) rfl (by decide) ?_
  refine s_X9_hashOfAll_5 hI rfl (by decide) ?_
  refine s_X9_hashOfAll_8 ?_
  refine s_X9_hashOfAll_9 hI (Nat.le_of_ble_eq_true rfl) (c_mix _ _) ?_
  intro h9 e9; rw [e9]; clear e9 h9
  refine s_X9_hashOfAll_12 rfl ?_
  refine s_X9_hashOfAll_13 ?_
  refine s_X9_hashOfAll_14 ?_
  refine s_X9_hashOfAll_15 hI rfl (by decide) rfl (by decide) ?_
  refine s_X9_hashOfAll_18 hI rfl (by decide) ?_
  refine s_X9_hashOfAll_21 ?_
  refine s_X9_hashOfAll_22 hI (Nat.le_of_ble_eq_true rfl) (c_mix _ _) ?_
  intro h9 e9; rw [e9]; clear e9 h9
  refine s_X9_hashOfAll_25 rfl ?_
  refine s_X9_hashOfAll_26 ?_
  refine s_X9_hashOfAll_27 ?_
  refine s_X9_hashOfAll_28 hI rfl (by decide) rfl (by decide) ?_
  refine s_X9_hashOfAll_31 hI rfl (by decide) ?_
  refine s_X9_hashOfAll_34 ?_
  refine s_X9_hashOfAll_35 hI (Nat.le_of_ble_eq_true rfl) (c_mix _ _) ?_
  intro h9 e9; rw [e9]; clear e9 h9
  refine s_X9_hashOfAll_38 rfl ?_
  refine s_X9_hashOfAll_39 ?_
  refine s_X9_hashOfAll_40 ?_
  refine s_X9_hashOfAll_41 hI rfl (by decide) rfl (by decide) ?_
  refine s_X9_hashOfAll_44 hI rfl (by decide) ?_
  refine s_X9_hashOfAll_47 ?_
  refine s_X9_hashOfAll_48 hI (Nat.le_of_ble_eq_true rfl) (c_mix _ _) ?_
  intro h9 e9; rw [e9]; clear e9 h9
  refine s_X9_hashOfAll_51 rfl ?_
  refine s_X9_hashOfAll_52 ?_
  refine s_X9_hashOfAll_53 ?_
  refine s_X9_hashOfAll_54 hI rfl (by decide) rfl (by decide) ?_
  refine s_X9_hashOfAll_57 hI rfl (by decide) (Nat.le_of_ble_eq_true rfl) (c_sumOfBlocks hI dg.1.1 ok dg.2.2) ?_
  intro h9 e9; rw [e9]; clear e9 h9
  refine s_X9_hashOfAll_60 ?_
  refine s_X9_hashOfAll_61 hI (Nat.le_of_ble_eq_true rfl) (c_mix _ _) ?_
  intro h9 e9; rw [e9]; clear e9 h9
  refine s_X9_hashOfAll_64 rfl ?_
  refine s_X9_hashOfAll_65 ?_
  refine s_X9_hashOfAll_66 ?_
  refine s_X9_hashOfAll_67 hI rfl (by decide) rfl (by decide) ?_
  refine s_X9_hashOfAll_70 hI rfl (by decide) (Nat.le_of_ble_eq_true rfl) (c_findDelay hI dg.1.1 ok) ?_
  intro h1 g1
  refine s_X9_hashOfAll_73 ?_
  have dg1 := dg.mv (g1.mono (by decide))
  refine s_X9_hashOfAll_74 hI (Nat.le_of_ble_eq_true rfl) (c_mix _ _) ?_
  intro h9 e9; rw [e9]; clear e9 h9
  refine s_X9_hashOfAll_77 rfl ?_
  refine s_X9_hashOfAll_78 ?_
  refine s_X9_hashOfAll_79 ?_
  refine s_X9_hashOfAll_80 hI rfl (by decide) rfl (by decide) ?_
  refine s_X9_hashOfAll_83 hI rfl (by decide) (Nat.le_of_ble_eq_true rfl) (c_findSpeed hI dg1.1.1 ok) ?_
  intro h2 g2
  refine s_X9_hashOfAll_86 ?_
  have dg2 := dg1.mv (g2.mono (by decide))
  refine s_X9_hashOfAll_87 hI (Nat.le_of_ble_eq_true rfl) (c_mix _ _) ?_
  intro h9 e9; rw [e9]; clear e9 h9
  refine s_X9_hashOfAll_90 rfl ?_
  refine s_X9_hashOfAll_91 ?_
  refine s_X9_hashOfAll_92 ?_
  refine s_X9_hashOfAll_93 hI rfl (by decide) rfl (by decide) ?_
  refine s_X9_hashOfAll_96 ?_
  refine s_X9_hashOfAll_97 hI rfl (by decide) (Nat.le_of_ble_eq_true rfl) (c_findFirst hI dg2.1.1 ok (k := 0) (by decide)) ?_
  intro h3 g3
  refine s_X9_hashOfAll_100 ?_
  have dg3 := dg2.mv (g3.mono (by decide))
  refine s_X9_hashOfAll_101 hI (Nat.le_of_ble_eq_true rfl) (c_mix _ _) ?_
  intro h9 e9; rw [e9]; clear e9 h9
  refine s_X9_hashOfAll_104 rfl ?_
  refine s_X9_hashOfAll_105 ?_
  refine s_X9_hashOfAll_106 ?_
  refine s_X9_hashOfAll_107 hI rfl (by decide) rfl (by decide) ?_
  refine s_X9_hashOfAll_110 hI rfl (by decide) rfl (by decide) ?_
  refine s_X9_hashOfAll_113 hI rfl (by decide) ?_
  refine s_X9_hashOfAll_116 ?_
  refine s_X9_hashOfAll_117 hI (Nat.le_of_ble_eq_true rfl) (c_mix _ _) ?_
  intro h9 e9; rw [e9]; clear e9 h9
  refine s_X9_hashOfAll_120 rfl ?_
  refine s_X9_hashOfAll_121 ?_
  refine s_X9_hashOfAll_122 ?_
  refine s_X9_hashOfAll_123 hI rfl (by decide) rfl (by decide) ?_
  refine s_X9_hashOfAll_126 hI rfl (by decide) rfl (by decide) ?_
  refine s_X9_hashOfAll_129 hI rfl (by decide) (Nat.le_of_ble_eq_true rfl) (c_countLB hI dg3.1.2.1 ok) ?_
  intro h9 e9; rw [e9]; clear e9 h9
  refine s_X9_hashOfAll_132 ?_
  refine s_X9_hashOfAll_133 hI (Nat.le_of_ble_eq_true rfl) (c_mix _ _) ?_
  intro h9 e9; rw [e9]; clear e9 h9
  refine s_X9_hashOfAll_136 rfl ?_
  refine s_X9_hashOfAll_137 ?_
  refine s_X9_hashOfAll_138 ?_
  refine s_X9_hashOfAll_139 hI rfl (by decide) (Nat.le_of_ble_eq_true rfl) (f_unlike hI dg3.1.2.1 ok) ?_
  intro h4 g4
  refine s_X9_hashOfAll_142 ?_
  have dg4 := dg3.mv (g4.mono (by decide))
  refine s_X9_hashOfAll_143 hI (Nat.le_of_ble_eq_true rfl) (c_mix _ _) ?_
  intro h9 e9; rw [e9]; clear e9 h9
  refine s_X9_hashOfAll_146 rfl ?_
  refine s_X9_hashOfAll_147 ?_
  refine s_X9_hashOfAll_148 ?_
  refine s_X9_hashOfAll_149 hI rfl (by decide) (Nat.le_of_ble_eq_true rfl) (f_firstUnlike hI dg4.1.2.1 ok) ?_
  intro h5 g5
  refine s_X9_hashOfAll_152 ?_
  have dg5 := dg4.mv (g5.mono (by decide))
  refine s_X9_hashOfAll_153 hI (Nat.le_of_ble_eq_true rfl) (c_mix _ _) ?_
  intro h9 e9; rw [e9]; clear e9 h9
  refine s_X9_hashOfAll_156 rfl ?_
  refine s_X9_hashOfAll_157 ?_
  refine s_X9_hashOfAll_158 ?_
  refine s_X9_hashOfAll_159 hI rfl (by decide) (Nat.le_of_ble_eq_true rfl) (f_worst hI dg5.1.2.1 ok) ?_
  intro h6 g6
  refine s_X9_hashOfAll_162 ?_
  have dg6 := dg5.mv (g6.mono (by decide))
  refine s_X9_hashOfAll_163 hI (Nat.le_of_ble_eq_true rfl) (c_mix _ _) ?_
  intro h9 e9; rw [e9]; clear e9 h9
  refine s_X9_hashOfAll_166 rfl ?_
  refine s_X9_hashOfAll_167 ?_
  refine s_X9_hashOfAll_168 ?_
  refine s_X9_hashOfAll_169 hI rfl (by decide) rfl (by decide) ?_
  refine s_X9_hashOfAll_172 hI rfl (by decide) ?_
  refine s_X9_hashOfAll_175 ?_
  refine s_X9_hashOfAll_176 hI (Nat.le_of_ble_eq_true rfl) (c_mix _ _) ?_
  intro h9 e9; rw [e9]; clear e9 h9
  refine s_X9_hashOfAll_179 rfl ?_
  refine s_X9_hashOfAll_180 ?_
  refine s_X9_hashOfAll_181 ?_
  refine s_X9_hashOfAll_182 hI rfl (by decide) (Nat.le_of_ble_eq_true rfl) (f_loudness hI dg6.1.1 ok) ?_
  intro h9 e9; rw [e9]; clear e9 h9
  refine s_X9_hashOfAll_185 hI (Nat.le_of_ble_eq_true rfl) (c_bitsOfDouble (lou_ok ok)) ?_
  intro h9 e9; rw [e9]; clear e9 h9
  refine s_X9_hashOfAll_188 hI (Nat.le_of_ble_eq_true rfl) (c_mix _ _) ?_
  intro h9 e9; rw [e9]; clear e9 h9
  refine s_X9_hashOfAll_191 rfl ?_
  refine s_X9_hashOfAll_192 ?_
  refine s_X9_hashOfAll_193 rfl ?_
  rw [dg.1.1.2.1, dg.1.1.2.2.1, dg.1.1.2.2.2.1, dg.1.1.2.2.2.2.2, dg3.1.2.1.1, dg6.1.2.2]
  have f6 : fr dgS hi h6 := (((((g1.mono (by decide)).tr (g2.mono (by decide))).tr (g3.mono (by decide))).tr (g4.mono (by decide))).tr (g5.mono (by decide))).tr (g6.mono (by decide))
  have key := am_for0 (n := 4) (hi := h6) (fun _ h => h = h6) (fun i h => AP M_X9_hashOfAll (0, 0) 195 [.ref 0, .long s, jk, .long (dA5 z (dA4 z s) i), jk, .int (nI (i + 1))] [] h g Φ) rfl ?_ ?_
  · exact key
  · intro h9 e9
    obtain rfl := e9.symm
    refine s_X9_hashOfAll_195 ?_
    refine s_X9_hashOfAll_197 ?_
    refine s_X9_hashOfAll_198 (fun _ => ?_) (fun h => absurd (nI_lt (a := 4) (b := 4 + 1) (by decide) (by decide)) h)
    refine s_X9_hashOfAll_225 ?_
    exact s_X9_hashOfAll_226 (hΦ _ (f6))
  · intro i h9 hi4 e9 ih
    obtain rfl := e9.symm
    refine s_X9_hashOfAll_195 ?_
    refine s_X9_hashOfAll_197 ?_
    refine s_X9_hashOfAll_198 (fun h => absurd h (nI_nlt (a := 4) (b := i + 1) (by omega) (by decide))) (fun _ => ?_)
    refine s_X9_hashOfAll_201 ?_
    refine s_X9_hashOfAll_202 ?_
    refine s_X9_hashOfAll_203 hI rfl (by decide) rfl (by decide) ?_
    refine s_X9_hashOfAll_206 hI rfl (by decide) rfl (by decide) ?_
    refine s_X9_hashOfAll_209 ?_
    refine s_X9_hashOfAll_211 ?_
    refine s_X9_hashOfAll_212 ?_
    refine s_X9_hashOfAll_213 hI rfl (by decide) (by decide) (nI_i1 i) (hi4) ?_
    refine s_X9_hashOfAll_214 ?_
    rw [dg6.1.1.2.2.2.2.1 i hi4]
    refine s_X9_hashOfAll_215 hI (Nat.le_of_ble_eq_true rfl) (c_mix _ _) ?_
    intro h9 e9; rw [e9]; clear e9 h9
    refine s_X9_hashOfAll_218 rfl ?_
    refine s_X9_hashOfAll_219 rfl ?_
    refine s_X9_hashOfAll_222 ?_
    rw [nI_1]
    exact ih _ rfl
theorem c_hashOfKinds {hi : am_HI} {g : am_G} (hI : am_Inv g) {z : Nat → Int32} (dg : DG hi z) (ok : OKz z) (s : Int64) : am_Cr M_X9_hashOfKinds [.ref 0, .long s] hi g (some (.long (dK z s 5))) (fun h => fr dgS hi h) := by
  have h48 := ok.1.2.1
  refine am_crn (by decide) (Nat.le_of_ble_eq_true rfl) (fun Φ hΦ => ?_)
  show AP M_X9_hashOfKinds _ 0 [.ref 0, .long s, jk, jk, jk, jk] [] _ g Φ
  refine s_X9_hashOfKinds_0 ?_
  refine s_X9_hashOfKinds_1 rfl ?_
  refine s_X9_hashOfKinds_2 ?_
  refine s_X9_hashOfKinds_3 rfl ?_
  have key := am_for0 (n := 5) (hi := hi) (fun _ h => fr dgS hi h) (fun i h => AP M_X9_hashOfKinds (0, 0) 5 [.ref 0, .long s, jk, .long (dK z s i), jk, .int (nI i)] [] h g Φ) fr.rfl ?_ ?_
  · exact key
  · intro h f
    refine s_X9_hashOfKinds_5 ?_
    refine s_X9_hashOfKinds_7 ?_
    refine s_X9_hashOfKinds_8 (fun _ => ?_) (fun h => absurd (nI_le (a := 5) (b := 5) (by decide) (by decide)) h)
    refine s_X9_hashOfKinds_86 ?_
    exact s_X9_hashOfKinds_87 (hΦ _ (f))
  · intro i h hi5 f ih
    have dg1 := dg.mv f
    obtain ⟨v1, v2, v3⟩ := hr15 hi5
    have e4 : ∀ k, k < 4 → h 4 k = z0 z k := dg1.1.1.2.2.2.2.1
    have es : sumv i (zd z) (h 4) z (z 50) (zc z) = sumv i (zd z) (z0 z) z (z 50) (zc z) := Wt_sum ok.1.2.2.2.1 e4
    refine s_X9_hashOfKinds_5 ?_
    refine s_X9_hashOfKinds_7 ?_
    refine s_X9_hashOfKinds_8 (fun h => absurd h (nI_ge (a := i) (b := 5) hi5 (by decide))) (fun _ => ?_)
    refine s_X9_hashOfKinds_11 ?_
    refine s_X9_hashOfKinds_12 ?_
    refine s_X9_hashOfKinds_13 hI (by first | assumption | rfl | decide | omega) (by first | assumption | rfl | decide | omega) (by first | assumption | rfl | decide | omega) (by first | assumption | rfl | decide | omega) ?_
    refine s_X9_hashOfKinds_16 ?_
    refine s_X9_hashOfKinds_18 hI (by first | assumption | rfl | decide | omega) (by first | assumption | rfl | decide | omega) (Nat.le_of_ble_eq_true rfl) (c_sumBy hI dg1.1.1 ok (kd := i) (by omega)) ?_
    intro h2 g2
    refine s_X9_hashOfKinds_21 ?_
    have f2 := f.tr (g2.mono (by decide))
    have dg2 := dg.mv f2
    refine s_X9_hashOfKinds_22 hI (Nat.le_of_ble_eq_true rfl) (c_mix _ _) ?_
    intro h9 e9; rw [e9]; clear e9 h9
    refine s_X9_hashOfKinds_25 (by first | assumption | rfl | decide | omega) ?_
    refine s_X9_hashOfKinds_26 ?_
    refine s_X9_hashOfKinds_27 ?_
    refine s_X9_hashOfKinds_28 hI (by first | assumption | rfl | decide | omega) (by first | assumption | rfl | decide | omega) (by first | assumption | rfl | decide | omega) (by first | assumption | rfl | decide | omega) ?_
    refine s_X9_hashOfKinds_31 ?_
    refine s_X9_hashOfKinds_33 hI (by first | assumption | rfl | decide | omega) (by first | assumption | rfl | decide | omega) (Nat.le_of_ble_eq_true rfl) (c_countBlocksWith hI dg2.1.1 ok dg2.2.2 hi5) ?_
    intro h9 e9; rw [e9]; clear e9 h9
    refine s_X9_hashOfKinds_36 ?_
    refine s_X9_hashOfKinds_37 hI (Nat.le_of_ble_eq_true rfl) (c_mix _ _) ?_
    intro h9 e9; rw [e9]; clear e9 h9
    refine s_X9_hashOfKinds_40 (by first | assumption | rfl | decide | omega) ?_
    refine s_X9_hashOfKinds_41 ?_
    refine s_X9_hashOfKinds_42 ?_
    refine s_X9_hashOfKinds_43 hI (by first | assumption | rfl | decide | omega) (by first | assumption | rfl | decide | omega) (by first | assumption | rfl | decide | omega) (by first | assumption | rfl | decide | omega) ?_
    refine s_X9_hashOfKinds_46 ?_
    refine s_X9_hashOfKinds_48 hI (by first | assumption | rfl | decide | omega) (by first | assumption | rfl | decide | omega) (Nat.le_of_ble_eq_true rfl) (c_sumIfOnly hI dg2.1.1 ok dg2.2.2 hi5) ?_
    intro h9 e9; rw [e9]; clear e9 h9
    refine s_X9_hashOfKinds_51 ?_
    refine s_X9_hashOfKinds_52 hI (Nat.le_of_ble_eq_true rfl) (c_mix _ _) ?_
    intro h9 e9; rw [e9]; clear e9 h9
    refine s_X9_hashOfKinds_55 (by first | assumption | rfl | decide | omega) ?_
    refine s_X9_hashOfKinds_56 ?_
    refine s_X9_hashOfKinds_57 ?_
    refine s_X9_hashOfKinds_58 hI (by first | assumption | rfl | decide | omega) (by first | assumption | rfl | decide | omega) (by first | assumption | rfl | decide | omega) (by first | assumption | rfl | decide | omega) ?_
    refine s_X9_hashOfKinds_61 hI (by first | assumption | rfl | decide | omega) (by first | assumption | rfl | decide | omega) (by first | assumption | rfl | decide | omega) (by first | assumption | rfl | decide | omega) ?_
    refine s_X9_hashOfKinds_64 ?_
    refine s_X9_hashOfKinds_66 hI (by first | assumption | rfl | decide | omega) (by first | assumption | rfl | decide | omega) (by first | assumption | rfl | decide | omega) (rfl) (hi5) ((hI.2 15 i (by decide)).trans v1) ?_
    refine s_X9_hashOfKinds_67 ?_
    refine s_X9_hashOfKinds_68 hI (by first | assumption | rfl | decide | omega) (by first | assumption | rfl | decide | omega) (by first | assumption | rfl | decide | omega) (by first | assumption | rfl | decide | omega) ?_
    refine s_X9_hashOfKinds_71 hI (by first | assumption | rfl | decide | omega) (by first | assumption | rfl | decide | omega) ?_
    refine s_X9_hashOfKinds_74 hI (by first | assumption | rfl | decide | omega) (by first | assumption | rfl | decide | omega) (by first | assumption | rfl | decide | omega) ((dg2.1.1.so ok).1) (by omega) ?_
    refine s_X9_hashOfKinds_75 ?_
    rw [(dg2.2.1 (zc z) (by omega)).1 i hi5, es]
    refine s_X9_hashOfKinds_76 hI (Nat.le_of_ble_eq_true rfl) (c_mix _ _) ?_
    intro h9 e9; rw [e9]; clear e9 h9
    refine s_X9_hashOfKinds_79 (by first | assumption | rfl | decide | omega) ?_
    refine s_X9_hashOfKinds_80 (by first | assumption | rfl | decide | omega) ?_
    refine s_X9_hashOfKinds_83 ?_
    rw [nI_1]
    exact ih _ f2
theorem c_hashOfSamples {hi : am_HI} {g : am_G} (hI : am_Inv g) {z : Nat → Int32} (dg : DG hi z) (ok : OKz z) (s : Int64) : am_Cr M_X9_hashOfSamples [.ref 0, .long s] hi g (some (.long (dS z s (zc z)))) (fun h => h = hi) := by
  have h48 := ok.1.2.1
  have hc := (dg.1.1.so ok).1
  refine am_crn (by decide) (Nat.le_of_ble_eq_true rfl) (fun Φ hΦ => ?_)
  show AP M_X9_hashOfSamples _ 0 [.ref 0, .long s, jk, jk, jk, jk, jk] [] _ g Φ
  refine s_X9_hashOfSamples_0 ?_
  refine s_X9_hashOfSamples_1 rfl ?_
  refine s_X9_hashOfSamples_2 ?_
  refine s_X9_hashOfSamples_3 rfl ?_
  have key := am_for0 (n := zc z) (hi := hi) (fun _ h => h = hi) (fun t h => ∀ e : Value, AP M_X9_hashOfSamples (0, 0) 5 [.ref 0, .long s, jk, .long (dS z s t), jk, .int (nI t), e] [] h g Φ) rfl ?_ ?_
  · exact key _
  · intro h eh e
    obtain rfl := eh.symm
    refine s_X9_hashOfSamples_5 ?_
    refine s_X9_hashOfSamples_7 ?_
    refine s_X9_hashOfSamples_8 hI rfl (by decide) rfl (by decide) ?_
    refine s_X9_hashOfSamples_11 hI rfl (by decide) ?_
    rw [hc]
    refine s_X9_hashOfSamples_14 (fun _ => ?_) (fun h => absurd (nI_le (Nat.le_refl _) (by omega)) h)
    refine s_X9_hashOfSamples_90 ?_
    exact s_X9_hashOfSamples_91 (hΦ _ (rfl))
  · intro t h ht eh ih e
    obtain rfl := eh.symm
    refine s_X9_hashOfSamples_5 ?_
    refine s_X9_hashOfSamples_7 ?_
    refine s_X9_hashOfSamples_8 hI rfl (by decide) rfl (by decide) ?_
    refine s_X9_hashOfSamples_11 hI rfl (by decide) ?_
    rw [hc]
    refine s_X9_hashOfSamples_14 (fun h => absurd h (nI_ge ht (by omega))) (fun _ => ?_)
    refine s_X9_hashOfSamples_17 ?_
    refine s_X9_hashOfSamples_18 ?_
    refine s_X9_hashOfSamples_19 hI rfl (by decide) rfl (by decide) ?_
    refine s_X9_hashOfSamples_22 ?_
    refine s_X9_hashOfSamples_24 hI rfl (by decide) (Nat.le_of_ble_eq_true rfl) (c_soundAt hI (z := z) (t := t) (c := zc z) dg.1.1.1 hc h48 (by omega)) ?_
    intro h9 e9; rw [e9]; clear e9 h9
    refine s_X9_hashOfSamples_27 ?_
    rw [if_pos ht]
    refine s_X9_hashOfSamples_28 hI (Nat.le_of_ble_eq_true rfl) (c_mix _ _) ?_
    intro h9 e9; rw [e9]; clear e9 h9
    refine s_X9_hashOfSamples_31 rfl ?_
    refine s_X9_hashOfSamples_32 ?_
    refine s_X9_hashOfSamples_33 ?_
    refine s_X9_hashOfSamples_34 hI rfl (by decide) rfl (by decide) ?_
    refine s_X9_hashOfSamples_37 ?_
    refine s_X9_hashOfSamples_38 ?_
    refine s_X9_hashOfSamples_40 hI rfl (by decide) (Nat.le_of_ble_eq_true rfl) (c_leftZ hI (kd := 4) (t := t) dg.1.1.1 dg.2.1 (by decide) (by omega) (by omega)) ?_
    intro h9 e9; rw [e9]; clear e9 h9
    refine s_X9_hashOfSamples_43 ?_
    refine s_X9_hashOfSamples_44 hI (Nat.le_of_ble_eq_true rfl) (c_mix _ _) ?_
    intro h9 e9; rw [e9]; clear e9 h9
    refine s_X9_hashOfSamples_47 rfl ?_
    refine s_X9_hashOfSamples_48 ?_
    refine s_X9_hashOfSamples_49 rfl ?_
    have key2 := am_for0 (n := 4) (hi := hi) (fun _ h => h = hi) (fun k h => AP M_X9_hashOfSamples (0, 0) 51 [.ref 0, .long s, jk, .long (dSw z t (mx (mx (dS z s t) (z t).toInt64) (zL z 4 t).toInt64) k), jk, .int (nI t), .int (nI (k + 1))] [] h g Φ) rfl ?_ ?_
    · exact key2
    · intro h9 e9
      obtain rfl := e9.symm
      refine s_X9_hashOfSamples_51 ?_
      refine s_X9_hashOfSamples_53 ?_
      refine s_X9_hashOfSamples_54 (fun _ => ?_) (fun h => absurd (nI_lt (a := 4) (b := 4 + 1) (by decide) (by decide)) h)
      refine s_X9_hashOfSamples_84 rfl ?_
      refine s_X9_hashOfSamples_87 ?_
      rw [nI_1]
      exact ih _ rfl _
    · intro k h9 hk e9 ih2
      obtain rfl := e9.symm
      obtain ⟨v1, v2, v3⟩ := hr21 hk
      refine s_X9_hashOfSamples_51 ?_
      refine s_X9_hashOfSamples_53 ?_
      refine s_X9_hashOfSamples_54 (fun h => absurd h (nI_nlt (a := 4) (b := k + 1) (by omega) (by decide))) (fun _ => ?_)
      refine s_X9_hashOfSamples_57 ?_
      refine s_X9_hashOfSamples_58 ?_
      refine s_X9_hashOfSamples_59 hI (by first | assumption | rfl | decide | omega) (by first | assumption | rfl | decide | omega) (by first | assumption | rfl | decide | omega) (by first | assumption | rfl | decide | omega) ?_
      refine s_X9_hashOfSamples_62 hI (by first | assumption | rfl | decide | omega) (by first | assumption | rfl | decide | omega) (by first | assumption | rfl | decide | omega) (by first | assumption | rfl | decide | omega) ?_
      refine s_X9_hashOfSamples_65 ?_
      refine s_X9_hashOfSamples_67 ?_
      refine s_X9_hashOfSamples_68 ?_
      refine s_X9_hashOfSamples_69 hI (by first | assumption | rfl | decide | omega) (by first | assumption | rfl | decide | omega) (by first | assumption | rfl | decide | omega) (nI_i1 k) (hk) ((hI.2 21 k (by decide)).trans v1) ?_
      refine s_X9_hashOfSamples_70 ?_
      refine s_X9_hashOfSamples_72 hI (by first | assumption | rfl | decide | omega) (by first | assumption | rfl | decide | omega) (by first | assumption | rfl | decide | omega) (rfl) (by omega) ?_
      refine s_X9_hashOfSamples_73 ?_
      rw [(dg.2.1 t (by omega)).2 k hk]
      refine s_X9_hashOfSamples_74 hI (Nat.le_of_ble_eq_true rfl) (c_mix _ _) ?_
      intro h9 e9; rw [e9]; clear e9 h9
      refine s_X9_hashOfSamples_77 (by first | assumption | rfl | decide | omega) ?_
      refine s_X9_hashOfSamples_78 (by first | assumption | rfl | decide | omega) ?_
      refine s_X9_hashOfSamples_81 ?_
      rw [nI_1]
      exact ih2 _ rfl
theorem c_hashOfBlocks {hi : am_HI} {g : am_G} (hI : am_Inv g) {z : Nat → Int32} (dg : DG hi z) (ok : OKz z) (s : Int64) : am_Cr M_X9_hashOfBlocks [.ref 0, .long s] hi g (some (.long (dB z s (zn z)))) (fun h => h = hi) := by
  have h6 := zn_lt ok
  refine am_crn (by decide) (Nat.le_of_ble_eq_true rfl) (fun Φ hΦ => ?_)
  show AP M_X9_hashOfBlocks _ 0 [.ref 0, .long s, jk, jk, jk, jk, jk] [] _ g Φ
  refine s_X9_hashOfBlocks_0 ?_
  refine s_X9_hashOfBlocks_1 rfl ?_
  refine s_X9_hashOfBlocks_2 ?_
  refine s_X9_hashOfBlocks_3 rfl ?_
  have key := am_for0 (n := zn z) (hi := hi) (fun _ h => h = hi) (fun t h => ∀ e : Value, AP M_X9_hashOfBlocks (0, 0) 5 [.ref 0, .long s, jk, .long (dB z s t), jk, .int (nI t), e] [] h g Φ) rfl ?_ ?_
  · exact key _
  · intro h eh e
    obtain rfl := eh.symm
    refine s_X9_hashOfBlocks_5 ?_
    refine s_X9_hashOfBlocks_7 ?_
    refine s_X9_hashOfBlocks_8 hI rfl (by decide) rfl (by decide) ?_
    refine s_X9_hashOfBlocks_11 hI rfl (by decide) ?_
    refine s_X9_hashOfBlocks_14 hI (Nat.le_of_ble_eq_true rfl) (c_blocks dg.1.1 ok) ?_
    intro h9 e9; rw [e9]; clear e9 h9
    refine s_X9_hashOfBlocks_17 (fun _ => ?_) (fun h => absurd (nI_le (Nat.le_refl _) (by omega)) h)
    refine s_X9_hashOfBlocks_90 ?_
    exact s_X9_hashOfBlocks_91 (hΦ _ (rfl))
  · intro t h ht eh ih e
    obtain rfl := eh.symm
    refine s_X9_hashOfBlocks_5 ?_
    refine s_X9_hashOfBlocks_7 ?_
    refine s_X9_hashOfBlocks_8 hI rfl (by decide) rfl (by decide) ?_
    refine s_X9_hashOfBlocks_11 hI rfl (by decide) ?_
    refine s_X9_hashOfBlocks_14 hI (Nat.le_of_ble_eq_true rfl) (c_blocks dg.1.1 ok) ?_
    intro h9 e9; rw [e9]; clear e9 h9
    refine s_X9_hashOfBlocks_17 (fun h => absurd h (nI_ge ht (by omega))) (fun _ => ?_)
    refine s_X9_hashOfBlocks_20 ?_
    refine s_X9_hashOfBlocks_21 ?_
    refine s_X9_hashOfBlocks_22 hI rfl (by decide) rfl (by decide) ?_
    refine s_X9_hashOfBlocks_25 ?_
    refine s_X9_hashOfBlocks_27 hI rfl (by decide) (Nat.le_of_ble_eq_true rfl) (c_kindFor hI dg.1.1 ok dg.2.2 ht) ?_
    intro h9 e9; rw [e9]; clear e9 h9
    refine s_X9_hashOfBlocks_30 ?_
    refine s_X9_hashOfBlocks_31 hI (Nat.le_of_ble_eq_true rfl) (c_mix _ _) ?_
    intro h9 e9; rw [e9]; clear e9 h9
    refine s_X9_hashOfBlocks_34 rfl ?_
    refine s_X9_hashOfBlocks_35 ?_
    refine s_X9_hashOfBlocks_36 ?_
    refine s_X9_hashOfBlocks_37 hI rfl (by decide) rfl (by decide) ?_
    refine s_X9_hashOfBlocks_40 ?_
    refine s_X9_hashOfBlocks_42 hI rfl (by decide) (Nat.le_of_ble_eq_true rfl) (c_reasonFor hI dg.1.1 ok dg.2.2 ht) ?_
    intro h9 e9; rw [e9]; clear e9 h9
    refine s_X9_hashOfBlocks_45 ?_
    refine s_X9_hashOfBlocks_46 hI (Nat.le_of_ble_eq_true rfl) (c_mix _ _) ?_
    intro h9 e9; rw [e9]; clear e9 h9
    refine s_X9_hashOfBlocks_49 rfl ?_
    refine s_X9_hashOfBlocks_50 ?_
    refine s_X9_hashOfBlocks_51 rfl ?_
    have key2 := am_for0 (n := 5) (hi := hi) (fun _ h => h = hi) (fun k h => AP M_X9_hashOfBlocks (0, 0) 53 [.ref 0, .long s, jk, .long (dBp z t (mx (mx (dB z s t) (nI (zkf z t)).toInt64) (zwhy z t).toInt64) k), jk, .int (nI t), .int (nI k)] [] h g Φ) rfl ?_ ?_
    · exact key2
    · intro h9 e9
      obtain rfl := e9.symm
      refine s_X9_hashOfBlocks_53 ?_
      refine s_X9_hashOfBlocks_55 ?_
      refine s_X9_hashOfBlocks_56 (fun _ => ?_) (fun h => absurd (nI_le (a := 5) (b := 5) (by decide) (by decide)) h)
      refine s_X9_hashOfBlocks_84 rfl ?_
      refine s_X9_hashOfBlocks_87 ?_
      rw [nI_1]
      exact ih _ rfl _
    · intro k h9 hk e9 ih2
      obtain rfl := e9.symm
      obtain ⟨v1, v2, v3⟩ := hr26 hk
      refine s_X9_hashOfBlocks_53 ?_
      refine s_X9_hashOfBlocks_55 ?_
      refine s_X9_hashOfBlocks_56 (fun h => absurd h (nI_ge (a := k) (b := 5) hk (by decide))) (fun _ => ?_)
      refine s_X9_hashOfBlocks_59 ?_
      refine s_X9_hashOfBlocks_60 ?_
      refine s_X9_hashOfBlocks_61 hI (by first | assumption | rfl | decide | omega) (by first | assumption | rfl | decide | omega) (by first | assumption | rfl | decide | omega) (by first | assumption | rfl | decide | omega) ?_
      refine s_X9_hashOfBlocks_64 hI (by first | assumption | rfl | decide | omega) (by first | assumption | rfl | decide | omega) (by first | assumption | rfl | decide | omega) (by first | assumption | rfl | decide | omega) ?_
      refine s_X9_hashOfBlocks_67 ?_
      refine s_X9_hashOfBlocks_69 hI (by first | assumption | rfl | decide | omega) (by first | assumption | rfl | decide | omega) (by first | assumption | rfl | decide | omega) (rfl) (hk) ((hI.2 26 k (by decide)).trans v1) ?_
      refine s_X9_hashOfBlocks_70 ?_
      refine s_X9_hashOfBlocks_72 hI (by first | assumption | rfl | decide | omega) (by first | assumption | rfl | decide | omega) (by first | assumption | rfl | decide | omega) (rfl) (by omega) ?_
      refine s_X9_hashOfBlocks_73 ?_
      rw [(dg.2.2 t ht k hk).1]
      refine s_X9_hashOfBlocks_74 hI (Nat.le_of_ble_eq_true rfl) (c_mix _ _) ?_
      intro h9 e9; rw [e9]; clear e9 h9
      refine s_X9_hashOfBlocks_77 (by first | assumption | rfl | decide | omega) ?_
      refine s_X9_hashOfBlocks_78 (by first | assumption | rfl | decide | omega) ?_
      refine s_X9_hashOfBlocks_81 ?_
      rw [nI_1]
      exact ih2 _ rfl
theorem c_hashOfLetter {hi : am_HI} {g : am_G} (hI : am_Inv g) {z : Nat → Int32} (hz : ZL hi 5 z) (ok : OKz z) (s : Int64) : am_Cr M_X9_hashOfLetter [.ref 0, .long s] hi g (some (.long (dbits (dL2 z (dL1 z s (zln z)) (zt z)) (lbB z (zt z))))) (fun h => fr [118, 119, 120, 121, 122] hi h) := by
  have h6 := zln_lt ok
  have h48 := ok.2.2.1
  refine am_crn (by decide) (Nat.le_of_ble_eq_true rfl) (fun Φ hΦ => ?_)
  show AP M_X9_hashOfLetter _ 0 [.ref 0, .long s, jk, jk, jk, jk, jk] [] _ g Φ
  refine s_X9_hashOfLetter_0 ?_
  refine s_X9_hashOfLetter_1 hI rfl (by decide) rfl (by decide) ?_
  refine s_X9_hashOfLetter_4 hI rfl (by decide) rfl (by decide) ?_
  refine s_X9_hashOfLetter_7 rfl ?_
  refine s_X9_hashOfLetter_8 ?_
  refine s_X9_hashOfLetter_9 rfl ?_
  refine s_X9_hashOfLetter_11 ?_
  refine s_X9_hashOfLetter_12 rfl ?_
  have key := am_for0 (n := zln z) (hi := hi) (fun _ h => h = hi) (fun b h => AP M_X9_hashOfLetter (0, 0) 14 [.ref 0, .long s, jk, .ref 5, .long (dL1 z s b), jk, .int (nI b)] [] h g Φ) rfl ?_ ?_
  · exact key
  · intro h9 e9
    obtain rfl := e9.symm
    refine s_X9_hashOfLetter_14 ?_
    refine s_X9_hashOfLetter_16 ?_
    refine s_X9_hashOfLetter_17 hI rfl (by decide) ?_
    refine s_X9_hashOfLetter_20 hI (Nat.le_of_ble_eq_true rfl) (c_blocksL hz ok) ?_
    intro h9 e9; rw [e9]; clear e9 h9
    refine s_X9_hashOfLetter_23 (fun _ => ?_) (fun h => absurd (nI_le (Nat.le_refl _) (by omega)) h)
    refine s_X9_hashOfLetter_62 ?_
    refine s_X9_hashOfLetter_63 hI rfl (by decide) rfl (by decide) ?_
    refine s_X9_hashOfLetter_66 ?_
    refine s_X9_hashOfLetter_67 ?_
    refine s_X9_hashOfLetter_68 hI rfl (by decide) (Nat.le_of_ble_eq_true rfl) (c_read hI hz ok (-1)) ?_
    intro h1 ⟨g1, hr⟩
    refine s_X9_hashOfLetter_71 ?_
    refine s_X9_hashOfLetter_72 rfl ?_
    have hz1 : ZL h1 5 z := hz.ro (RO.of g1 (by decide))
    have key2 := am_for0 (n := zt z) (hi := h1) (fun _ h => h = h1) (fun t h => AP M_X9_hashOfLetter (0, 0) 74 [.ref 0, .long s, jk, .ref 5, .long (dL2 z (dL1 z s (zln z)) t), jk, .int (nI t)] [] h g Φ) rfl ?_ ?_
    · exact key2
    · intro h eh
      obtain rfl := eh.symm
      refine s_X9_hashOfLetter_74 ?_
      refine s_X9_hashOfLetter_76 ?_
      refine s_X9_hashOfLetter_77 hI rfl (by decide) ?_
      rw [hz1.1, ok.2.1]
      refine s_X9_hashOfLetter_80 (fun _ => ?_) (fun h => absurd (nI_le (Nat.le_refl _) (by omega)) h)
      refine s_X9_hashOfLetter_121 ?_
      refine s_X9_hashOfLetter_122 hI rfl (by decide) rfl (by decide) ?_
      refine s_X9_hashOfLetter_125 ?_
      refine s_X9_hashOfLetter_126 hI rfl (by decide) (Nat.le_of_ble_eq_true rfl) (c_write hI hz1 ok) ?_
      intro h2 ⟨g2, pb, _⟩
      refine s_X9_hashOfLetter_129 ?_
      refine s_X9_hashOfLetter_130 rfl ?_
      have hl := lbB_max ok h48
      have key3 := am_for0 (n := (lbB z (zt z)).length) (hi := h2) (fun _ h => h = h2) (fun i h => AP M_X9_hashOfLetter (0, 0) 132 [.ref 0, .long s, jk, .ref 5, .long (dbits (dL2 z (dL1 z s (zln z)) (zt z)) ((lbB z (zt z)).take i)), jk, .int (nI i)] [] h g Φ) rfl ?_ ?_
      · exact key3
      · intro h eh
        obtain rfl := eh.symm
        rw [List.take_length]
        refine s_X9_hashOfLetter_132 ?_
        refine s_X9_hashOfLetter_134 ?_
        refine s_X9_hashOfLetter_135 hI rfl (by decide) rfl (by decide) ?_
        refine s_X9_hashOfLetter_138 hI rfl (by decide) ?_
        rw [pb.1]
        refine s_X9_hashOfLetter_141 (fun _ => ?_) (fun h => absurd (nI_le (Nat.le_refl _) (by omega)) h)
        refine s_X9_hashOfLetter_174 ?_
        exact s_X9_hashOfLetter_176 (hΦ _ ((g1.mono (by decide)).tr (g2.mono (by decide))))
      · intro i h hi9 eh ih3
        obtain rfl := eh.symm
        have ih3' := ih3 _ rfl
        rw [dbits_take _ _ hi9] at ih3'
        refine s_X9_hashOfLetter_132 ?_
        refine s_X9_hashOfLetter_134 ?_
        refine s_X9_hashOfLetter_135 hI rfl (by decide) rfl (by decide) ?_
        refine s_X9_hashOfLetter_138 hI rfl (by decide) ?_
        rw [pb.1]
        refine s_X9_hashOfLetter_141 (fun h => absurd h (nI_ge hi9 (by omega))) (fun _ => ?_)
        refine s_X9_hashOfLetter_144 ?_
        refine s_X9_hashOfLetter_146 ?_
        refine s_X9_hashOfLetter_147 hI rfl (by decide) rfl (by decide) ?_
        refine s_X9_hashOfLetter_150 ?_
        refine s_X9_hashOfLetter_152 hI rfl (by decide) (Nat.le_of_ble_eq_true rfl) (c_isOne hI pb hl (i := i) (by omega)) ?_
        intro h9 e9; rw [e9]; clear e9 h9
        refine s_X9_hashOfLetter_155 (fun hb => ?_) (fun hb => ?_)
        · refine s_X9_hashOfLetter_162 ?_
          rw [if_neg (by rw [bI_e0.mp hb]; exact fun e => by cases e)] at ih3'
          refine s_X9_hashOfLetter_163 hI (Nat.le_of_ble_eq_true rfl) (c_mix _ _) ?_
          intro h9 e9; rw [e9]; clear e9 h9
          refine s_X9_hashOfLetter_166 rfl ?_
          refine s_X9_hashOfLetter_168 rfl ?_
          refine s_X9_hashOfLetter_171 ?_
          rw [nI_1]
          exact ih3'
        · refine s_X9_hashOfLetter_158 ?_
          refine s_X9_hashOfLetter_159 ?_
          rw [if_pos (bI_n0.mp hb)] at ih3'
          refine s_X9_hashOfLetter_163 hI (Nat.le_of_ble_eq_true rfl) (c_mix _ _) ?_
          intro h9 e9; rw [e9]; clear e9 h9
          refine s_X9_hashOfLetter_166 rfl ?_
          refine s_X9_hashOfLetter_168 rfl ?_
          refine s_X9_hashOfLetter_171 ?_
          rw [nI_1]
          exact ih3'
    · intro t h ht eh ih2
      obtain rfl := eh.symm
      refine s_X9_hashOfLetter_74 ?_
      refine s_X9_hashOfLetter_76 ?_
      refine s_X9_hashOfLetter_77 hI rfl (by decide) ?_
      rw [hz1.1, ok.2.1]
      refine s_X9_hashOfLetter_80 (fun h => absurd h (nI_ge ht (by omega))) (fun _ => ?_)
      refine s_X9_hashOfLetter_83 ?_
      refine s_X9_hashOfLetter_85 ?_
      refine s_X9_hashOfLetter_86 hI rfl (by decide) rfl (by decide) ?_
      refine s_X9_hashOfLetter_89 ?_
      refine s_X9_hashOfLetter_91 hI rfl (by decide) (by decide) (rfl) (by omega) ?_
      refine s_X9_hashOfLetter_92 ?_
      rw [hz1.2.2.2.2.2.2.1 t (by omega)]
      refine s_X9_hashOfLetter_93 hI (Nat.le_of_ble_eq_true rfl) (c_mix _ _) ?_
      intro h9 e9; rw [e9]; clear e9 h9
      refine s_X9_hashOfLetter_96 rfl ?_
      refine s_X9_hashOfLetter_98 ?_
      refine s_X9_hashOfLetter_100 ?_
      refine s_X9_hashOfLetter_101 hI rfl (by decide) rfl (by decide) ?_
      refine s_X9_hashOfLetter_104 ?_
      refine s_X9_hashOfLetter_106 hI rfl (by decide) (Nat.le_of_ble_eq_true rfl) (c_heardAt hI hr h48 ht) ?_
      intro h9 e9; rw [e9]; clear e9 h9
      refine s_X9_hashOfLetter_109 ?_
      refine s_X9_hashOfLetter_110 hI (Nat.le_of_ble_eq_true rfl) (c_mix _ _) ?_
      intro h9 e9; rw [e9]; clear e9 h9
      refine s_X9_hashOfLetter_113 rfl ?_
      refine s_X9_hashOfLetter_115 rfl ?_
      refine s_X9_hashOfLetter_118 ?_
      rw [nI_1]
      exact ih2 _ rfl
  · intro b h9 hb e9 ih
    obtain rfl := e9.symm
    refine s_X9_hashOfLetter_14 ?_
    refine s_X9_hashOfLetter_16 ?_
    refine s_X9_hashOfLetter_17 hI rfl (by decide) ?_
    refine s_X9_hashOfLetter_20 hI (Nat.le_of_ble_eq_true rfl) (c_blocksL hz ok) ?_
    intro h9 e9; rw [e9]; clear e9 h9
    refine s_X9_hashOfLetter_23 (fun h => absurd h (nI_ge hb (by omega))) (fun _ => ?_)
    refine s_X9_hashOfLetter_26 ?_
    refine s_X9_hashOfLetter_28 ?_
    refine s_X9_hashOfLetter_29 hI rfl (by decide) rfl (by decide) ?_
    refine s_X9_hashOfLetter_32 ?_
    refine s_X9_hashOfLetter_34 hI rfl (by decide) (by decide) (rfl) (by omega) ?_
    refine s_X9_hashOfLetter_35 ?_
    rw [hz.2.2.2.2.1 b (by omega)]
    refine s_X9_hashOfLetter_36 hI (Nat.le_of_ble_eq_true rfl) (c_mix _ _) ?_
    intro h9 e9; rw [e9]; clear e9 h9
    refine s_X9_hashOfLetter_39 rfl ?_
    refine s_X9_hashOfLetter_41 ?_
    refine s_X9_hashOfLetter_43 ?_
    refine s_X9_hashOfLetter_44 hI rfl (by decide) rfl (by decide) ?_
    refine s_X9_hashOfLetter_47 ?_
    refine s_X9_hashOfLetter_49 hI rfl (by decide) (by decide) (rfl) (by omega) ?_
    refine s_X9_hashOfLetter_50 ?_
    rw [hz.2.2.2.2.2.1 b (by omega)]
    refine s_X9_hashOfLetter_51 hI (Nat.le_of_ble_eq_true rfl) (c_mix _ _) ?_
    intro h9 e9; rw [e9]; clear e9 h9
    refine s_X9_hashOfLetter_54 rfl ?_
    refine s_X9_hashOfLetter_56 rfl ?_
    refine s_X9_hashOfLetter_59 ?_
    rw [nI_1]
    exact ih _ rfl
theorem r_digest {hi : am_HI} {g : am_G} (hI : am_Inv g) {z : Nat → Int32} (hz : ZB hi 2 z) (ok : OKz z) : am_Cr M_X9_digest [.ref 0] hi g (some (.long (zdig z))) (fun h => RO hi h) := by
  refine am_crn (by decide) (Nat.le_of_ble_eq_true rfl) (fun Φ hΦ => ?_)
  show AP M_X9_digest _ 0 [.ref 0, jk, jk] [] _ g Φ
  refine s_X9_digest_0 ?_
  refine s_X9_digest_1 hI rfl (by decide) rfl (by decide) ?_
  refine s_X9_digest_4 hI rfl (by decide) (Nat.le_of_ble_eq_true rfl) (c_weighBlocks hI hz.1 ok) ?_
  intro h1 ⟨g1, fo, fp⟩
  refine s_X9_digest_7 ?_
  refine s_X9_digest_8 ?_
  have r1 : RO hi h1 := RO.of g1 (by decide)
  have dg1 : DG h1 z := ⟨hz.ro r1, fo, fp⟩
  refine s_X9_digest_11 hI rfl (by decide) (Nat.le_of_ble_eq_true rfl) (c_hashOfAll hI dg1 ok _) ?_
  intro h2 g2
  refine s_X9_digest_14 rfl ?_
  refine s_X9_digest_15 ?_
  refine s_X9_digest_16 ?_
  have dg2 := dg1.mv g2
  refine s_X9_digest_17 hI rfl (by decide) (Nat.le_of_ble_eq_true rfl) (c_hashOfKinds hI dg2 ok _) ?_
  intro h3 g3
  refine s_X9_digest_20 rfl ?_
  refine s_X9_digest_21 ?_
  refine s_X9_digest_22 ?_
  have dg3 := dg2.mv g3
  refine s_X9_digest_23 hI rfl (by decide) (Nat.le_of_ble_eq_true rfl) (c_hashOfSamples hI dg3 ok _) ?_
  intro h9 e9; rw [e9]; clear e9 h9
  refine s_X9_digest_26 rfl ?_
  refine s_X9_digest_27 ?_
  refine s_X9_digest_28 ?_
  refine s_X9_digest_29 hI rfl (by decide) (Nat.le_of_ble_eq_true rfl) (c_hashOfBlocks hI dg3 ok _) ?_
  intro h9 e9; rw [e9]; clear e9 h9
  refine s_X9_digest_32 rfl ?_
  refine s_X9_digest_33 ?_
  refine s_X9_digest_34 ?_
  refine s_X9_digest_35 hI rfl (by decide) (Nat.le_of_ble_eq_true rfl) (c_hashOfLetter hI dg3.1.2.1 ok _) ?_
  intro h4 g4
  exact s_X9_digest_38 (hΦ _ (((r1.tr (RO.of g2 dg_ro)).tr (RO.of g3 dg_ro)).tr (RO.of g4 (by decide))))
