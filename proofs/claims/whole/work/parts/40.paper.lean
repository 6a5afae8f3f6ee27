/-! ===== the Paper: bits written and read ===== -/
theorem up_up {hi : am_HI} {k j : Nat} {x y : Int32} : am_up (am_up hi k j x) k j y = am_up hi k j y := by
  funext k' j'
  rw [up_r, up_r, up_r]
  by_cases h : k' = k ∧ j' = j
  · rw [if_pos h, if_pos h]
  · rw [if_neg h, if_neg h, if_neg h]
theorem up_sf {hi : am_HI} {k j : Nat} {x : Int32} (h : hi k j = x) : am_up hi k j x = hi := by
  funext k' j'
  rw [up_r]
  by_cases h' : k' = k ∧ j' = j
  · rw [if_pos h', h'.1, h'.2, h]
  · rw [if_neg h']
/-- the n lowest places of a number, the highest of them first -/
def numB (v n : Nat) : List Bool := (List.range n).map (fun i => decide (v / 2 ^ (n - 1 - i) % 2 = 1))
def folB (f p : Nat) : List Bool := List.replicate (f / 2 ^ p) true ++ (false :: numB f p)
def hdB (z : Nat → Int32) (t : Nat) : List Bool := if t % 8 = 0 then numB (lk z (t / 8)) 3 ++ numB (lp z (t / 8)) 3 else []
/-- the bits of a letter ahead of the sample n -/
def lbB (z : Nat → Int32) : Nat → List Bool
  | 0 => []
  | t + 1 => lbB z t ++ (hdB z t ++ folB (lf z t) (lp z (t / 8)))
theorem numB_len (v n : Nat) : (numB v n).length = n := by simp [numB]
theorem folB_len (f p : Nat) : (folB f p).length = f / 2 ^ p + 1 + p := by
  simp [folB, numB_len]
  omega
theorem hdB_len (z : Nat → Int32) (t : Nat) : (hdB z t).length = if t % 8 = 0 then 6 else 0 := by
  unfold hdB
  by_cases h : t % 8 = 0
  · rw [if_pos h, if_pos h, List.length_append, numB_len, numB_len]
  · rw [if_neg h, if_neg h]; rfl
theorem lbB_len (z : Nat → Int32) : ∀ n, (lbB z n).length = (n + 7) / 8 * 6 + lbs z n := by
  intro n
  induction n with
  | zero => rfl
  | succ n ih =>
    rw [lbB, List.length_append, List.length_append, ih, hdB_len, folB_len, lbs]
    show _ = _ + (lbs z n + (lf z n / 2 ^ lp z (n / 8) + 1 + lp z (n / 8)))
    by_cases h : n % 8 = 0
    · rw [if_pos h]; omega
    · rw [if_neg h]; omega
theorem lbB_zb (z : Nat → Int32) : (lbB z (zt z)).length = zbits z := lbB_len z _
theorem numB_at (v n i : Nat) (h : i < n) : (numB v n)[i]? = some (decide (v / 2 ^ (n - 1 - i) % 2 = 1)) := by
  simp [numB, List.getElem?_range h]
/-- on the paper are the bits of L -/
def PB (hi : am_HI) (L : List Bool) : Prop := hi 121 1 = nI L.length ∧ ∀ i, i < L.length → hi 122 i = bI (L.getD i false)
theorem PB.up {hi : am_HI} {L : List Bool} (h : PB hi L) (x : Int32) : PB (am_up hi 121 2 x) L := by
  refine ⟨?_, fun i hi' => ?_⟩
  · rw [up_c, up_n (by decide)]; exact h.1
  · rw [up_k (by decide)]; exact h.2 i hi'
theorem c_writeBit {hi : am_HI} {g : am_G} (hI : am_Inv g) {L : List Bool} (hp : PB hi L) (hl : L.length < 19092) (b : Bool) : am_Cr M_X3_writeBit [.ref 121, .int (bI b)] hi g none (fun h => fr [121, 122] hi h ∧ PB h (L ++ [b]) ∧ h 121 2 = hi 121 2) := by
  refine am_crn (by decide) (Nat.le_of_ble_eq_true rfl) (fun Φ hΦ => ?_)
  show AP M_X3_writeBit _ 0 [.ref 121, .int (bI b)] [] _ g Φ
  refine s_X3_writeBit_0 ?_
  refine s_X3_writeBit_1 hI rfl (by decide) ?_
  refine s_X3_writeBit_4 ?_
  rw [hp.1]
  refine s_X3_writeBit_7 (fun h => absurd h ((nI_ge (a := L.length) (b := 19092) hl (by decide)))) (fun _ => ?_)
  refine s_X3_writeBit_10 ?_
  refine s_X3_writeBit_11 hI rfl (by decide) rfl (by decide) ?_
  refine s_X3_writeBit_14 ?_
  refine s_X3_writeBit_15 hI rfl (by decide) ?_
  refine s_X3_writeBit_18 ?_
  refine s_X3_writeBit_19 hI rfl (by decide) (by decide) (hp.1) (hl) ((by cases b <;> rfl)) ?_
  refine s_X3_writeBit_20 ?_
  refine s_X3_writeBit_21 rfl ?_
  refine s_X3_writeBit_22 hI rfl (by decide) ?_
  refine s_X3_writeBit_25 ?_
  refine s_X3_writeBit_26 ?_
  refine s_X3_writeBit_27 hI rfl (by decide) ?_
  rw [up_k (by decide), hp.1, nI_1]
  refine s_X3_writeBit_30 (hΦ _ (?_))
  refine ⟨((fr.rfl.up (by decide)).up (by decide)), ⟨?_, fun i hi' => ?_⟩, ?_⟩
  · rw [up_c, up_f, List.length_append]; rfl
  · rw [up_k (by decide), up_c]
    by_cases he : i = L.length
    · rw [he, up_f, List.getD_eq_getElem?_getD, List.getElem?_append_right (Nat.le_refl _), Nat.sub_self]; rfl
    · rw [List.length_append] at hi'
      have hi2 : i < L.length := by simp at hi'; omega
      rw [up_n he, hp.2 i hi2, List.getD_eq_getElem?_getD, List.getD_eq_getElem?_getD, List.getElem?_append_left hi2]
  · rw [up_c, up_n (by decide), up_k (by decide)]
theorem and1 {n : Nat} (h : n < 2 ^ 31) : nI n &&& 1 = nI (n % 2) := pk_andN (by omega) 1 (by decide)
theorem c_writeNumber {hi : am_HI} {g : am_G} (hI : am_Inv g) {L : List Bool} (hp : PB hi L) {v n : Nat} (hn : n ≤ 7) (hv : v < 2 ^ 31) (hl : L.length + n ≤ 19092) : am_Cr M_X3_writeNumber [.ref 121, .int (nI v), .int (nI n)] hi g none (fun h => fr [121, 122] hi h ∧ PB h (L ++ numB v n) ∧ h 121 2 = hi 121 2) := by
  refine am_crn (by decide) (Nat.le_of_ble_eq_true rfl) (fun Φ hΦ => ?_)
  show AP M_X3_writeNumber _ 0 [.ref 121, .int (nI v), .int (nI n), jk] [] _ g Φ
  refine s_X3_writeNumber_0 ?_
  refine s_X3_writeNumber_1 ?_
  refine s_X3_writeNumber_2 ?_
  refine s_X3_writeNumber_3 rfl ?_
  have key := am_for0 (n := n) (hi := hi) (fun i h => fr [121, 122] hi h ∧ PB h (L ++ (numB v n).take i) ∧ h 121 2 = hi 121 2) (fun i h => AP M_X3_writeNumber (0, 0) 4 [.ref 121, .int (nI v), .int (nI n), .int (nI (n - i) - 1)] [] h g Φ) ⟨fr.rfl, by rw [List.take_zero, List.append_nil]; exact hp, rfl⟩ ?_ ?_
  · exact key
  · intro h ⟨h1, h2, h3⟩
    rw [Nat.sub_self]
    refine s_X3_writeNumber_4 ?_
    refine s_X3_writeNumber_5 (fun _ => ?_) (fun h => absurd ((by decide)) h)
    exact s_X3_writeNumber_32 (hΦ _ (⟨h1, by rw [List.take_of_length_le (by rw [numB_len]; omega)] at h2; exact h2, h3⟩))
  · intro i h hi' ⟨h1, h2, h3⟩ ih
    have en : n - i = (n - 1 - i) + 1 := by omega
    have st : ∀ c : Bool, c = decide (v / 2 ^ (n - 1 - i) % 2 = 1) → AP M_X3_writeNumber (0, 0) 23 [.ref 121, .int (nI v), .int (nI n), .int (nI (n - 1 - i))] [.int (bI c), .ref 121] h g Φ := by
      intro c hc
      have hll : (L ++ (numB v n).take i).length < 19092 := by rw [List.length_append, List.length_take, numB_len]; omega
      refine s_X3_writeNumber_23 hI rfl (by decide) (Nat.le_of_ble_eq_true rfl) (c_writeBit hI h2 hll c) ?_
      intro h5 ⟨g1, g2, g3⟩
      refine s_X3_writeNumber_26 rfl ?_
      refine s_X3_writeNumber_29 ?_
      have e4 : nI (n - 1 - i) + -1 = nI (n - (i + 1)) - 1 := by
        rw [show n - 1 - i = n - (i + 1) by omega, Int32.sub_eq_add_neg]
      rw [e4]
      refine ih _ ⟨h1.tr g1, ?_, g3.trans h3⟩
      rw [List.append_assoc] at g2
      rw [List.take_succ, numB_at v n i hi', ← hc]
      exact g2
    rw [en, nI_pred]
    refine s_X3_writeNumber_4 ?_
    refine s_X3_writeNumber_5 (fun h => absurd h ((nI_pos (by omega)))) (fun _ => ?_)
    refine s_X3_writeNumber_8 ?_
    refine s_X3_writeNumber_9 ?_
    refine s_X3_writeNumber_10 ?_
    refine s_X3_writeNumber_11 ?_
    refine s_X3_writeNumber_12 ?_
    refine s_X3_writeNumber_13 ?_
    refine s_X3_writeNumber_14 ?_
    rw [shrN (by omega) (by omega), and1 (by have := Nat.div_le_self v (2 ^ (n - 1 - i)); omega)]
    refine s_X3_writeNumber_15 (fun hb => ?_) (fun hb => ?_)
    · refine s_X3_writeNumber_22 ?_
      exact st false (decide_eq_false (fun e => hb (by rw [e]; rfl))).symm
    · refine s_X3_writeNumber_18 ?_
      refine s_X3_writeNumber_19 ?_
      refine st true (decide_eq_true ?_).symm
      have := (nI_eq (a := v / 2 ^ (n - 1 - i) % 2) (b := 1) (by omega) (by decide)).mp hb
      exact this
theorem c_writeFolded {hi : am_HI} {g : am_G} (hI : am_Inv g) {L : List Bool} (hp : PB hi L) {f p : Nat} (hp7 : p ≤ 7) (hf : f ≤ 396) (hl : L.length + (f / 2 ^ p + 1 + p) ≤ 19092) : am_Cr M_X3_writeFolded [.ref 121, .int (nI f), .int (nI p)] hi g none (fun h => fr [121, 122] hi h ∧ PB h (L ++ folB f p) ∧ h 121 2 = hi 121 2) := by
  have hq := Nat.div_le_self f (2 ^ p)
  refine am_crn (by decide) (Nat.le_of_ble_eq_true rfl) (fun Φ hΦ => ?_)
  show AP M_X3_writeFolded _ 0 [.ref 121, .int (nI f), .int (nI p), jk] [] _ g Φ
  refine s_X3_writeFolded_0 ?_
  refine s_X3_writeFolded_1 ?_
  refine s_X3_writeFolded_2 ?_
  refine s_X3_writeFolded_3 rfl ?_
  rw [shrN (by omega) hp7]
  have key := am_for0 (n := f / 2 ^ p) (hi := hi) (fun i h => fr [121, 122] hi h ∧ PB h (L ++ List.replicate i true) ∧ h 121 2 = hi 121 2) (fun i h => AP M_X3_writeFolded (0, 0) 4 [.ref 121, .int (nI f), .int (nI p), .int (nI (f / 2 ^ p - i))] [] h g Φ) ⟨fr.rfl, by rw [List.replicate_zero, List.append_nil]; exact hp, rfl⟩ ?_ ?_
  · exact key
  · intro h ⟨h1, h2, h3⟩
    rw [Nat.sub_self]
    refine s_X3_writeFolded_4 ?_
    refine s_X3_writeFolded_5 (fun _ => ?_) (fun h => absurd ((by decide)) h)
    refine s_X3_writeFolded_19 ?_
    refine s_X3_writeFolded_20 ?_
    refine s_X3_writeFolded_21 hI rfl (by decide) (Nat.le_of_ble_eq_true rfl) (c_writeBit hI h2 (by rw [List.length_append, List.length_replicate]; omega) false) ?_
    intro h5 ⟨g1, g2, g3⟩
    refine s_X3_writeFolded_24 ?_
    refine s_X3_writeFolded_25 ?_
    refine s_X3_writeFolded_26 ?_
    refine s_X3_writeFolded_27 hI rfl (by decide) (Nat.le_of_ble_eq_true rfl) (c_writeNumber hI g2 (v := f) (n := p) hp7 (by omega) (by rw [List.length_append, List.length_append, List.length_replicate]; simp; omega)) ?_
    intro h6 ⟨g4, g5, g6⟩
    exact s_X3_writeFolded_30 (hΦ _ (⟨(h1.tr g1).tr g4, by unfold folB; rw [List.append_assoc, List.append_assoc] at g5; exact g5, (g6.trans g3).trans h3⟩))
  · intro i h hi' ⟨h1, h2, h3⟩ ih
    rw [show f / 2 ^ p - i = (f / 2 ^ p - (i + 1)) + 1 by omega]
    refine s_X3_writeFolded_4 ?_
    refine s_X3_writeFolded_5 (fun h => absurd h ((nI_nle (by omega) (by omega)))) (fun _ => ?_)
    refine s_X3_writeFolded_8 ?_
    refine s_X3_writeFolded_9 ?_
    refine s_X3_writeFolded_10 hI rfl (by decide) (Nat.le_of_ble_eq_true rfl) (c_writeBit hI h2 (by rw [List.length_append, List.length_replicate]; omega) true) ?_
    intro h5 ⟨g1, g2, g3⟩
    refine s_X3_writeFolded_13 rfl ?_
    refine s_X3_writeFolded_16 ?_
    rw [pk_m1]
    refine ih _ ⟨h1.tr g1, ?_, g3.trans h3⟩
    rw [List.append_assoc] at g2
    rw [List.replicate_succ']
    exact g2
theorem lbB_le {z : Nat → Int32} (ok : OKz z) {n m : Nat} (hn : n ≤ m) (hm : m ≤ 48) : (lbB z n).length ≤ (lbB z m).length := by
  induction m with
  | zero => rw [show n = 0 by omega]; exact Nat.le_refl _
  | succ m ih =>
    by_cases h : n = m + 1
    · rw [h]; exact Nat.le_refl _
    · have := ih (by omega) (by omega)
      rw [lbB, List.length_append]
      omega
theorem lbB_max {z : Nat → Int32} (ok : OKz z) {n : Nat} (hn : n ≤ 48) : (lbB z n).length ≤ 19092 := by
  have := lbs_le ok n hn
  rw [lbB_len]
  omega
theorem c_write {hi : am_HI} {g : am_G} (hI : am_Inv g) {z : Nat → Int32} (hz : ZL hi 5 z) (ok : OKz z) : am_Cr M_X3_write [.ref 121, .ref 5] hi g none (fun h => fr [121, 122] hi h ∧ PB h (lbB z (zt z)) ∧ h 121 2 = hi 121 2) := by
  have ht48 := ok.2.2.1
  refine am_crn (by decide) (Nat.le_of_ble_eq_true rfl) (fun Φ hΦ => ?_)
  show AP M_X3_write _ 0 [.ref 121, .ref 5, jk, jk] [] _ g Φ
  refine s_X3_write_0 ?_
  refine s_X3_write_1 ?_
  refine s_X3_write_2 hI rfl (by decide) ?_
  refine s_X3_write_5 ?_
  refine s_X3_write_6 rfl ?_
  have key := am_for0 (n := zt z) (hi := am_up hi 121 1 0) (fun t h => fr [121, 122] hi h ∧ PB h (lbB z t) ∧ h 121 2 = hi 121 2) (fun t h => ∀ e : Value, AP M_X3_write (0, 0) 7 [.ref 121, .ref 5, .int (nI t), e] [] h g Φ) ⟨fr.rfl.up (by decide), ⟨rfl, fun i hi' => absurd hi' (Nat.not_lt_zero _)⟩, rfl⟩ ?_ ?_
  · exact key _
  · intro h ⟨h1, h2⟩ e
    have e5 : h 5 5 = nI (zt z) := by rw [h1 5 (by decide)]; exact hz.1.trans ok.2.1
    refine s_X3_write_7 ?_
    refine s_X3_write_8 ?_
    refine s_X3_write_9 hI rfl (by decide) ?_
    rw [e5]
    refine s_X3_write_12 (fun _ => ?_) (fun h => absurd ((nI_le (Nat.le_refl _) (by omega))) h)
    exact s_X3_write_74 (hΦ _ (⟨h1, h2⟩))
  · intro t h ht ⟨h1, h2, h3⟩ ih e
    have e5 : h 5 5 = nI (zt z) := by rw [h1 5 (by decide)]; exact hz.1.trans ok.2.1
    have hx : ∀ h' : am_HI, fr [121, 122] hi h' → h' 7 (t / 8) = nI (lk z (t / 8)) ∧ h' 8 (t / 8) = nI (lp z (t / 8)) ∧ h' 9 t = z (75 + t) := by
      intro h' hf
      rw [hf 7 (by decide), hf 8 (by decide), hf 9 (by decide)]
      exact ⟨(hz.2.2.2.2.1 _ (by omega)).trans (lk_ok ok (by omega)).1, (hz.2.2.2.2.2.1 _ (by omega)).trans (lp_ok ok (by omega)).1, hz.2.2.2.2.2.2.1 t (by omega)⟩
    have hmax := lbB_le ok (n := t + 1) (m := 48) (by omega) (by omega)
    have hmax2 := lbB_max ok (n := 48) (by decide)
    have hlen : (lbB z (t + 1)).length = (lbB z t).length + ((hdB z t).length + (lf z t / 2 ^ lp z (t / 8) + 1 + lp z (t / 8))) := by rw [lbB, List.length_append, List.length_append, folB_len]
    have hlen7 : (lbB z t).length + (hdB z t).length + 1 ≤ 19092 := by
      generalize lf z t / 2 ^ lp z (t / 8) = q at hlen
      omega
    have st : ∀ h' : am_HI, fr [121, 122] hi h' → PB h' (lbB z t ++ hdB z t) → h' 121 2 = hi 121 2 → AP M_X3_write (0, 0) 49 [.ref 121, .ref 5, .int (nI t), .int (nI (t / 8))] [] h' g Φ := by
      intro h' hf hb h2'
      obtain ⟨x1, x2, x3⟩ := hx h' hf
      refine s_X3_write_49 ?_
      refine s_X3_write_50 ?_
      refine s_X3_write_51 hI rfl (by decide) rfl (by decide) ?_
      refine s_X3_write_54 ?_
      refine s_X3_write_55 hI rfl (by decide) (by decide) (rfl) (by omega) ?_
      rw [x3]
      refine s_X3_write_56 hI (Nat.le_of_ble_eq_true rfl) (c_fold _) ?_
      intro h9 e9; rw [e9]; clear e9 h9
      refine s_X3_write_59 ?_
      refine s_X3_write_60 hI rfl (by decide) rfl (by decide) ?_
      refine s_X3_write_63 ?_
      refine s_X3_write_64 hI rfl (by decide) (by decide) (rfl) (by omega) ?_
      rw [x2, (lf_ok ok (by omega)).1]
      refine s_X3_write_65 hI rfl (by decide) (Nat.le_of_ble_eq_true rfl) (c_writeFolded hI hb (f := lf z t) (p := lp z (t / 8)) (lp_ok ok (by omega)).2 (lf_ok ok (by omega)).2 (by rw [List.length_append]; omega)) ?_
      intro h5 ⟨g1, g2, g3⟩
      refine s_X3_write_68 rfl ?_
      refine s_X3_write_71 ?_
      rw [nI_1]
      refine ih _ ⟨hf.tr g1, ?_, g3.trans h2'⟩ _
      rw [lbB, ← List.append_assoc]
      exact g2
    obtain ⟨x1, x2, x3⟩ := hx h h1
    refine s_X3_write_7 ?_
    refine s_X3_write_8 ?_
    refine s_X3_write_9 hI rfl (by decide) ?_
    rw [e5]
    refine s_X3_write_12 (fun h => absurd h ((nI_ge ht (by omega)))) (fun _ => ?_)
    refine s_X3_write_15 ?_
    refine s_X3_write_16 ?_
    refine s_X3_write_18 (by decide) ?_
    refine s_X3_write_19 rfl ?_
    refine s_X3_write_20 ?_
    refine s_X3_write_21 ?_
    refine s_X3_write_23 (by decide) ?_
    rw [rem8 (by omega), div8 (by omega)]
    refine s_X3_write_24 (fun hm => ?_) (fun hm => ?_)
    · refine st h h1 ?_ h3
      rw [hdB, if_neg (fun e => hm (by rw [e]; rfl)), List.append_nil]
      exact h2
    · refine s_X3_write_27 ?_
      refine s_X3_write_28 ?_
      refine s_X3_write_29 hI rfl (by decide) rfl (by decide) ?_
      refine s_X3_write_32 ?_
      have hm0 : t % 8 = 0 := (nI_eq (a := t % 8) (b := 0) (by omega) (by decide)).mp hm
      have hh6 : (hdB z t).length = 6 := by rw [hdB_len, if_pos hm0]
      refine s_X3_write_33 hI rfl (by decide) (by decide) (rfl) (by omega) ?_
      refine s_X3_write_34 ?_
      rw [x1]
      refine s_X3_write_35 hI rfl (by decide) (Nat.le_of_ble_eq_true rfl) (c_writeNumber hI h2 (v := lk z (t / 8)) (n := 3) (by decide) (by have := (lk_ok ok (b := t / 8) (by omega)).2; omega) (by omega)) ?_
      intro h5 ⟨g1, g2, g3⟩
      refine s_X3_write_38 ?_
      refine s_X3_write_39 ?_
      refine s_X3_write_40 hI rfl (by decide) rfl (by decide) ?_
      refine s_X3_write_43 ?_
      refine s_X3_write_44 hI rfl (by decide) (by decide) (rfl) (by omega) ?_
      refine s_X3_write_45 ?_
      rw [(hx h5 (h1.tr g1)).2.1]
      refine s_X3_write_46 hI rfl (by decide) (Nat.le_of_ble_eq_true rfl) (c_writeNumber hI g2 (v := lp z (t / 8)) (n := 3) (by decide) (by have := (lp_ok ok (b := t / 8) (by omega)).2; omega) (by rw [List.length_append, numB_len]; omega)) ?_
      intro h6 ⟨g4, g5, g6⟩
      refine st h6 ((h1.tr g1).tr g4) ?_ ((g6.trans g3).trans h3)
      rw [hdB, if_pos hm0, ← List.append_assoc]
      exact g5
theorem c_isOne {hi : am_HI} {g : am_G} (hI : am_Inv g) {L : List Bool} (hp : PB hi L) (hl : L.length ≤ 19092) {i : Nat} (hi' : i < 2 ^ 31) : am_Cr M_X3_isOne [.ref 121, .int (nI i)] hi g (some (.int (bI (L.getD i false)))) (fun h => h = hi) := by
  refine am_crn (by decide) (Nat.le_of_ble_eq_true rfl) (fun Φ hΦ => ?_)
  show AP M_X3_isOne _ 0 [.ref 121, .int (nI i)] [] _ g Φ
  refine s_X3_isOne_0 ?_
  refine s_X3_isOne_1 (fun h => absurd h ((nI_pos hi'))) (fun _ => ?_)
  refine s_X3_isOne_4 ?_
  refine s_X3_isOne_5 ?_
  refine s_X3_isOne_6 hI rfl (by decide) ?_
  rw [hp.1]
  refine s_X3_isOne_9 (fun h => ?_) (fun h => ?_)
  · refine s_X3_isOne_25 ?_
    refine s_X3_isOne_26 (by first | exact Or.inl rfl | exact Or.inr rfl | exact bI_01 _) ?_
    rw [nI_leI (by omega) hi'] at h
    rw [List.getD_eq_getElem?_getD, List.getElem?_eq_none h] at hΦ
    exact hΦ _ rfl
  · refine s_X3_isOne_12 ?_
    refine s_X3_isOne_13 hI rfl (by decide) rfl (by decide) ?_
    refine s_X3_isOne_16 ?_
    rw [nI_leI (by omega) hi'] at h
    refine s_X3_isOne_17 hI rfl (by decide) (by decide) (rfl) (by omega) ?_
    rw [hp.2 i (by omega)]
    refine s_X3_isOne_18 (fun hb => ?_) (fun hb => ?_)
    · refine s_X3_isOne_25 ?_
      refine s_X3_isOne_26 (by first | exact Or.inl rfl | exact Or.inr rfl | exact bI_01 _) ?_
      rw [bI_e0.mp hb] at hΦ
      exact hΦ _ rfl
    · refine s_X3_isOne_21 ?_
      refine s_X3_isOne_22 ?_
      refine s_X3_isOne_26 (by first | exact Or.inl rfl | exact Or.inr rfl | exact bI_01 _) ?_
      rw [bI_n0.mp hb] at hΦ
      exact hΦ _ rfl
theorem c_readBit {hi : am_HI} {g : am_G} (hI : am_Inv g) {L : List Bool} (hp : PB hi L) (hl : L.length ≤ 19092) {a : Nat} (ha : hi 121 2 = nI a) (ha' : a < 2 ^ 31) : am_Cr M_X3_readBit [.ref 121] hi g (some (.int (bI (L.getD a false)))) (fun h => h = am_up hi 121 2 (nI (a + 1))) := by
  refine am_crn (by decide) (Nat.le_of_ble_eq_true rfl) (fun Φ hΦ => ?_)
  show AP M_X3_readBit _ 0 [.ref 121, jk] [] _ g Φ
  refine s_X3_readBit_0 ?_
  refine s_X3_readBit_1 ?_
  refine s_X3_readBit_2 hI rfl (by decide) ?_
  rw [ha]
  refine s_X3_readBit_5 hI rfl (by decide) (Nat.le_of_ble_eq_true rfl) (c_isOne hI hp hl ha') ?_
  intro h9 e9; rw [e9]; clear e9 h9
  refine s_X3_readBit_8 rfl ?_
  refine s_X3_readBit_9 ?_
  refine s_X3_readBit_10 rfl ?_
  refine s_X3_readBit_11 hI rfl (by decide) ?_
  refine s_X3_readBit_14 ?_
  refine s_X3_readBit_15 ?_
  refine s_X3_readBit_16 hI rfl (by decide) ?_
  refine s_X3_readBit_19 ?_
  refine s_X3_readBit_20 (by first | exact Or.inl rfl | exact Or.inr rfl | exact bI_01 _) ?_
  rw [ha, nI_1]
  exact hΦ _ rfl
/-- the number that n bits from a on tell -/
def rdN (L : List Bool) (a : Nat) : Nat → Nat
  | 0 => 0
  | i + 1 => 2 * rdN L a i + (L.getD (a + i) false).toNat
theorem c_readNumber {hi : am_HI} {g : am_G} (hI : am_Inv g) {L : List Bool} (hp : PB hi L) (hl : L.length ≤ 19092) {a n : Nat} (ha : hi 121 2 = nI a) (ha' : a ≤ 20000) (hn : n ≤ 7) : am_Cr M_X3_readNumber [.ref 121, .int (nI n)] hi g (some (.int (nI (rdN L a n)))) (fun h => h = am_up hi 121 2 (nI (a + n))) := by
  refine am_crn (by decide) (Nat.le_of_ble_eq_true rfl) (fun Φ hΦ => ?_)
  show AP M_X3_readNumber _ 0 [.ref 121, .int (nI n), jk, jk] [] _ g Φ
  refine s_X3_readNumber_0 ?_
  refine s_X3_readNumber_1 rfl ?_
  refine s_X3_readNumber_2 ?_
  refine s_X3_readNumber_3 rfl ?_
  have key := am_for0 (n := n) (hi := hi) (fun i h => h = am_up hi 121 2 (nI (a + i))) (fun i h => AP M_X3_readNumber (0, 0) 4 [.ref 121, .int (nI n), .int (nI (rdN L a i)), .int (nI i)] [] h g Φ) (up_sf ha).symm ?_ ?_
  · exact key
  · intro h h1
    refine s_X3_readNumber_4 ?_
    refine s_X3_readNumber_5 ?_
    refine s_X3_readNumber_6 (fun _ => ?_) (fun h => absurd ((nI_le (Nat.le_refl _) (by omega))) h)
    refine s_X3_readNumber_32 ?_
    exact s_X3_readNumber_33 (hΦ _ (h1))
  · intro i h hi' h1 ih
    have st : ∀ c : Bool, c = L.getD (a + i) false → AP M_X3_readNumber (0, 0) 24 [.ref 121, .int (nI n), .int (nI (rdN L a i)), .int (nI i)] [.int (bI c), .int (2 * nI (rdN L a i))] (am_up hi 121 2 (nI (a + (i + 1)))) g Φ := by
      intro c hc
      refine s_X3_readNumber_24 ?_
      refine s_X3_readNumber_25 rfl ?_
      refine s_X3_readNumber_26 rfl ?_
      refine s_X3_readNumber_29 ?_
      rw [show 2 * nI (rdN L a i) = nI (2 * rdN L a i) from pk_mul 2 _, show bI c = nI c.toNat from by cases c <;> rfl, nI_add, nI_1]
      have ih' := ih _ rfl
      rw [rdN, ← hc] at ih'
      exact ih'
    refine s_X3_readNumber_4 ?_
    refine s_X3_readNumber_5 ?_
    refine s_X3_readNumber_6 (fun h => absurd h ((nI_ge hi' (by omega)))) (fun _ => ?_)
    refine s_X3_readNumber_9 ?_
    refine s_X3_readNumber_10 ?_
    refine s_X3_readNumber_11 ?_
    refine s_X3_readNumber_12 ?_
    refine s_X3_readNumber_13 hI rfl (by decide) (Nat.le_of_ble_eq_true rfl) (c_readBit hI (L := L) (a := a + i) (by rw [h1]; exact hp.up _) hl (by rw [h1, up_c, up_f]) (by omega)) ?_
    intro h9 e9; rw [e9]; clear e9 h9
    rw [h1, up_up]
    refine s_X3_readNumber_16 (fun hb => ?_) (fun hb => ?_)
    · refine s_X3_readNumber_23 ?_
      exact st false (bI_e0.mp hb).symm
    · refine s_X3_readNumber_19 ?_
      refine s_X3_readNumber_20 ?_
      exact st true (bI_n0.mp hb).symm
theorem rdN_num {L : List Bool} {a v n : Nat} (h : ∀ i, i < n → L.getD (a + i) false = decide (v / 2 ^ (n - 1 - i) % 2 = 1)) : rdN L a n = v % 2 ^ n := by
  have key : ∀ i, i ≤ n → rdN L a i = v / 2 ^ (n - i) % 2 ^ i := by
    intro i
    induction i with
    | zero => intro _; rw [rdN, Nat.pow_zero, Nat.mod_one]
    | succ i ih =>
      intro hi
      rw [rdN, ih (by omega), h i (by omega)]
      have e1 : n - i = (n - (i + 1)) + 1 := by omega
      have e2 : n - 1 - i = n - (i + 1) := by omega
      rw [e1, e2, Nat.pow_succ 2 (n - (i + 1)), ← Nat.div_div_eq_div_mul]
      generalize v / 2 ^ (n - (i + 1)) = w
      have e3 : (decide (w % 2 = 1)).toNat = w % 2 := by
        rcases Nat.mod_two_eq_zero_or_one w with hw | hw <;> rw [hw] <;> rfl
      rw [e3, Nat.pow_succ, Nat.mul_comm (2 ^ i) 2, Nat.mod_mul]
      omega
  have := key n (Nat.le_refl _)
  rw [Nat.sub_self, Nat.pow_zero, Nat.div_one] at this
  exact this
theorem shlN {q p : Nat} (hp : p ≤ 7) (hq : q ≤ 20000) : nI q <<< (nI p &&& 31) = nI (q * 2 ^ p) := by
  rcases (show p = 0 ∨ p = 1 ∨ p = 2 ∨ p = 3 ∨ p = 4 ∨ p = 5 ∨ p = 6 ∨ p = 7 by omega) with rfl | rfl | rfl | rfl | rfl | rfl | rfl | rfl <;> exact pk_shlN _ _ (by decide) (by omega)
theorem c_readFolded {hi : am_HI} {g : am_G} (hI : am_Inv g) {L : List Bool} (hp : PB hi L) (hl : L.length ≤ 19092) {a f p : Nat} (ha : hi 121 2 = nI a) (ha' : a ≤ 19500) (hp7 : p ≤ 7) (hf : f ≤ 396) (h1 : ∀ i, i < f / 2 ^ p → L.getD (a + i) false = true) (h2 : L.getD (a + f / 2 ^ p) false = false) (h3 : ∀ i, i < p → L.getD (a + f / 2 ^ p + 1 + i) false = decide (f / 2 ^ (p - 1 - i) % 2 = 1)) : am_Cr M_X3_readFolded [.ref 121, .int (nI p)] hi g (some (.int (nI f))) (fun h => h = am_up hi 121 2 (nI (a + (f / 2 ^ p + 1 + p)))) := by
  have hq := Nat.div_le_self f (2 ^ p)
  refine am_crn (by decide) (Nat.le_of_ble_eq_true rfl) (fun Φ hΦ => ?_)
  show AP M_X3_readFolded _ 0 [.ref 121, .int (nI p), jk] [] _ g Φ
  refine s_X3_readFolded_0 ?_
  refine s_X3_readFolded_1 rfl ?_
  have key := am_for0 (n := f / 2 ^ p) (hi := hi) (fun i h => h = am_up hi 121 2 (nI (a + i))) (fun i h => AP M_X3_readFolded (0, 0) 2 [.ref 121, .int (nI p), .int (nI i)] [] h g Φ) (up_sf ha).symm ?_ ?_
  · exact key
  · intro h e1
    refine s_X3_readFolded_2 ?_
    refine s_X3_readFolded_3 ?_
    refine s_X3_readFolded_6 (fun h => absurd h ((nI_ge (b := 19092) (by omega) (by decide)))) (fun _ => ?_)
    refine s_X3_readFolded_9 ?_
    refine s_X3_readFolded_10 hI rfl (by decide) (Nat.le_of_ble_eq_true rfl) (c_readBit hI (L := L) (a := a + f / 2 ^ p) (by rw [e1]; exact hp.up _) hl (by rw [e1, up_c, up_f]) (by omega)) ?_
    intro h9 e9; rw [e9]; clear e9 h9
    rw [h2, e1, up_up]
    refine s_X3_readFolded_13 (fun _ => ?_) (fun h => absurd ((by decide)) h)
    refine s_X3_readFolded_22 ?_
    refine s_X3_readFolded_23 ?_
    refine s_X3_readFolded_24 ?_
    refine s_X3_readFolded_25 ?_
    refine s_X3_readFolded_26 ?_
    rw [shlN hp7 (by omega)]
    refine s_X3_readFolded_27 hI rfl (by decide) (Nat.le_of_ble_eq_true rfl) (c_readNumber hI (L := L) (a := a + f / 2 ^ p + 1) (n := p) (hp.up _) hl (by rw [up_c, up_f]) (by omega) hp7) ?_
    intro h9 e9; rw [e9]; clear e9 h9
    refine s_X3_readFolded_30 ?_
    rw [rdN_num h3, up_up, nI_add, Nat.mul_comm, Nat.div_add_mod, show a + f / 2 ^ p + 1 + p = a + (f / 2 ^ p + 1 + p) by omega]
    exact s_X3_readFolded_31 (hΦ _ (rfl))
  · intro i h hi' e1 ih
    refine s_X3_readFolded_2 ?_
    refine s_X3_readFolded_3 ?_
    refine s_X3_readFolded_6 (fun h => absurd h ((nI_ge (b := 19092) (by omega) (by decide)))) (fun _ => ?_)
    refine s_X3_readFolded_9 ?_
    refine s_X3_readFolded_10 hI rfl (by decide) (Nat.le_of_ble_eq_true rfl) (c_readBit hI (L := L) (a := a + i) (by rw [e1]; exact hp.up _) hl (by rw [e1, up_c, up_f]) (by omega)) ?_
    intro h9 e9; rw [e9]; clear e9 h9
    rw [h1 i hi', e1, up_up]
    refine s_X3_readFolded_13 (fun h => absurd h ((by decide))) (fun _ => ?_)
    refine s_X3_readFolded_16 rfl ?_
    refine s_X3_readFolded_19 ?_
    rw [nI_1]
    exact ih _ rfl
theorem unf_fold {x : Int32} (h : -(198 : Int) ≤ x.toInt ∧ x.toInt ≤ 198) : unfI (foldI x) = x := by
  have e0 : (0 : Int32).toInt = 0 := rfl
  have e2 : (2 : Int32).toInt = 2 := rfl
  have e2' : (-2 : Int32).toInt = -2 := rfl
  have e1 : (1 : Int32).toInt = 1 := rfl
  have key : ∀ y : Int, -198 ≤ y → y ≤ 198 → ∀ x : Int32, x = Int32.ofInt y → unfI (foldI x) = x := by
    intro y h1 h2 x hx
    have : ∃ n : Nat, n < 397 ∧ y = (n : Int) - 198 := ⟨(y + 198).toNat, by omega, by omega⟩
    obtain ⟨n, hn, rfl⟩ := this
    subst hx
    have all : (List.range 397).all (fun n => unfI (foldI (Int32.ofInt ((n : Int) - 198))) == Int32.ofInt ((n : Int) - 198)) = true := by decide +kernel
    exact beq_iff_eq.mp (List.all_eq_true.mp all n (List.mem_range.mpr hn))
  exact key x.toInt h.1 h.2 x (Int32.ofInt_toInt x).symm
