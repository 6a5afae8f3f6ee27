/-! ===== the model: send ===== -/
/-- alike in the sound and its settings -/
def al56 (y z : Nat → Int32) : Prop := ∀ j, j < 56 → y j = z j
theorem al_zc {y z : Nat → Int32} (h : al56 y z) : zc y = zc z := by unfold zc; rw [h 48 (by decide)]
theorem al_zL {y z : Nat → Int32} (h : al56 y z) (hd : 1 ≤ zd z) (kd : Nat) {t : Nat} (ht : t < 48) : zL y kd t = zL z kd t := by
  have ed : zd y = zd z := by unfold zd; rw [h 49 (by decide)]
  have ew : ∀ k, k < 4 → z0 y k = z0 z k := fun k hk => h (51 + k) (by omega)
  unfold zL zF zW
  rw [h t (by omega), ed, h 50 (by decide)]
  congr 1
  exact fore_congr hd (Wt_congr ew t (fun i hi => h i (by omega))) (fun i hi => h i (by omega))
theorem bsum_congr {f f' : Nat → Int32} {a : Nat} : ∀ n : Nat, (∀ i, i < n → f (a + i) = f' (a + i)) → bsum f a n = bsum f' a n := by
  intro n
  induction n with
  | zero => intro _; rfl
  | succ n ih => intro h; rw [bsum, bsum, ih (fun i hi => h i (by omega)), h n (by omega)]
theorem al_zbb {y z : Nat → Int32} (h : al56 y z) (ok : OKz z) (kd b p : Nat) : zbb y kd b p = zbb z kd b p := by
  unfold zbb bb
  rw [al_zc h]
  exact bsum_congr _ (fun i hi => by
    have := ok.1.2.1
    show bofI (foldI (zL y kd (8 * b + i))) (nI p) = bofI (foldI (zL z kd (8 * b + i))) (nI p)
    rw [al_zL h ok.1.2.2.2.1 kd (by omega)])
theorem al_zpb {y z : Nat → Int32} (h : al56 y z) (ok : OKz z) (kd b : Nat) : zpb y kd b = zpb z kd b := by
  unfold zpb
  rw [show zbb y kd b = zbb z kd b from funext (fun p => al_zbb h ok kd b p)]
theorem al_zkf {y z : Nat → Int32} (h : al56 y z) (ok : OKz z) (b : Nat) : zkf y b = zkf z b := by
  unfold zkf
  rw [show zal y = zal z from funext (fun k => by unfold zal; rw [h 55 (by decide)]), show (fun kd => zfb y kd b) = (fun kd => zfb z kd b) from funext (fun kd => by unfold zfb; rw [al_zpb h ok, al_zbb h ok])]
/-- the row while the letter is written: a kinds, b parameters, m left-overs, k samples are -/
def zsq (z : Nat → Int32) (a b m k : Nat) : Nat → Int32 := fun j =>
  if j < 56 then z j else if j < 63 then z (j - 8) else if j < 69 then (if j - 63 < a then nI (zkf z (j - 63)) else z j) else if j < 75 then (if j - 69 < b then nI (zpb z (zkf z (j - 69)) (j - 69)) else z j) else if j < 123 then (if j - 75 < m then zL z (zkf z ((j - 75) / 8)) (j - 75) else z j) else if j < 171 then (if j - 123 < k then z (j - 123) else z j) else z j
theorem zsq_al (z : Nat → Int32) (a b m k : Nat) : al56 (zsq z a b m k) z := fun j hj => if_pos hj
theorem zsq_a {z : Nat → Int32} {a b m k : Nat} (ha : a < 6) : upd (zsq z a b m k) (63 + a) (nI (zkf z a)) = zsq z (a + 1) b m k := by
  funext j
  unfold zsq
  by_cases h : j = 63 + a
  · subst h
    rw [up_f, if_neg (by omega), if_neg (by omega), if_pos (by omega), if_pos (by omega), show 63 + a - 63 = a by omega]
  · rw [up_n h]
    repeat' split
    all_goals first | (exfalso; omega) | rfl
theorem zsq_b {z : Nat → Int32} {a b m k : Nat} (hb : b < 6) : upd (zsq z a b m k) (69 + b) (nI (zpb z (zkf z b) b)) = zsq z a (b + 1) m k := by
  funext j
  unfold zsq
  by_cases h : j = 69 + b
  · subst h
    rw [up_f, if_neg (by omega), if_neg (by omega), if_neg (by omega), if_pos (by omega), if_pos (by omega), show 69 + b - 69 = b by omega]
  · rw [up_n h]
    repeat' split
    all_goals first | (exfalso; omega) | rfl
theorem zsq_m {z : Nat → Int32} {a b m k : Nat} (hm : m < 48) : upd (zsq z a b m k) (75 + m) (zL z (zkf z (m / 8)) m) = zsq z a b (m + 1) k := by
  funext j
  unfold zsq
  by_cases h : j = 75 + m
  · subst h
    rw [up_f, if_neg (by omega), if_neg (by omega), if_neg (by omega), if_neg (by omega), if_pos (by omega), if_pos (by omega), show 75 + m - 75 = m by omega]
  · rw [up_n h]
    repeat' split
    all_goals first | (exfalso; omega) | rfl
theorem zsq_k {z : Nat → Int32} {a b m k : Nat} (hk : k < 48) : upd (zsq z a b m k) (123 + k) (z k) = zsq z a b m (k + 1) := by
  funext j
  unfold zsq
  by_cases h : j = 123 + k
  · subst h
    rw [up_f, if_neg (by omega), if_neg (by omega), if_neg (by omega), if_neg (by omega), if_neg (by omega), if_pos (by omega), if_pos (by omega), show 123 + k - 123 = k by omega]
  · rw [up_n h]
    repeat' split
    all_goals first | (exfalso; omega) | rfl
theorem zsq_ok {z : Nat → Int32} (ok : OKz z) {a b m k : Nat} (ha : a ≤ 6) (hb : b ≤ 6) (hm : m ≤ 48) : OKz (zsq z a b m k) := by
  have e48 : zsq z a b m k 48 = z 48 := rfl
  have e49 : zsq z a b m k 49 = z 49 := rfl
  have e55 : zsq z a b m k 55 = z 55 := rfl
  have e56 : zsq z a b m k 56 = z 48 := rfl
  have e57 : zsq z a b m k 57 = z 49 := rfl
  obtain ⟨⟨h1, h2, h3, h4, h5, h6, h7⟩, k1, k2, k3, k4, k5, k6⟩ := id ok
  unfold OKz
  unfold zc zd zt zld at *
  rw [e48, e49, e55, e56, e57]
  refine ⟨⟨h1, h2, h3, h4, h5, fun t ht => by rw [show zsq z a b m k t = z t from if_pos (by omega)]; exact h6 t ht, h7⟩, h1, h2, fun _ => ⟨h3, h4, h5⟩, fun i hi => ?_, fun i hi => ?_, fun t ht => ?_⟩
  · unfold zsq
    rw [if_neg (by omega), if_neg (by omega), if_pos (by omega), show 63 + i - 63 = i by omega]
    split
    · exact ⟨_, rfl, by have := zkf_lt z i; omega⟩
    · exact k4 i hi
  · unfold zsq
    rw [if_neg (by omega), if_neg (by omega), if_neg (by omega), if_pos (by omega), show 69 + i - 69 = i by omega]
    split
    · exact ⟨_, rfl, amin_le _ 7⟩
    · exact k5 i hi
  · unfold zsq
    rw [if_neg (by omega), if_neg (by omega), if_neg (by omega), if_neg (by omega), if_pos (by omega), show 75 + t - 75 = t by omega]
    split
    · exact zL_rng ok ht
    · exact k6 t ht
theorem zsq_end {z : Nat → Int32} : upd (zsq z (zn z) (zn z) (zc z) (zc z)) 171 (z 171 + 1) = zsend z := by
  funext j
  unfold zsq zsend
  by_cases h : j = 171
  · subst h
    rw [up_f]
    rfl
  · rw [up_n h, if_neg (c := j = 171) h]
theorem m_sends {hi : am_HI} {g : am_G} (hI : am_Inv g) {z : Nat → Int32} (hz : hi 124 = z) (ok : OKz z) : am_Cr M_X10_sends [.ref 123] hi g (some (.int (nI (zbits (zsend z))))) (fun h => fr [124, 128, 129] hi h ∧ h 124 = zsend z) := by
  have h48 := ok.1.2.1
  have h6 := zn_lt ok
  refine am_crn (by decide) (Nat.le_of_ble_eq_true rfl) (fun Φ hΦ => ?_)
  show AP M_X10_sends _ 0 [.ref 123, jk, jk, jk] [] _ g Φ
  refine s_X10_sends_0 ?_
  refine s_X10_sends_1 hI rfl (by decide) rfl (by decide) ?_
  refine s_X10_sends_4 ?_
  refine s_X10_sends_6 ?_
  refine s_X10_sends_7 hI rfl (by decide) rfl (by decide) ?_
  refine s_X10_sends_10 ?_
  refine s_X10_sends_12 hI rfl (by decide) (by decide) (by decide : (_ : Int32) = nI 48) (by decide) ?_
  refine s_X10_sends_13 hI rfl (by decide) (by decide) (by decide : (_ : Int32) = nI 56) (by decide) ?_
  refine s_X10_sends_14 ?_
  refine s_X10_sends_15 hI rfl (by decide) rfl (by decide) ?_
  refine s_X10_sends_18 ?_
  refine s_X10_sends_20 ?_
  refine s_X10_sends_21 hI rfl (by decide) rfl (by decide) ?_
  refine s_X10_sends_24 ?_
  refine s_X10_sends_26 hI rfl (by decide) (by decide) (by decide : (_ : Int32) = nI 49) (by decide) ?_
  refine s_X10_sends_27 hI rfl (by decide) (by decide) (by decide : (_ : Int32) = nI 57) (by decide) ?_
  refine s_X10_sends_28 ?_
  refine s_X10_sends_29 hI rfl (by decide) rfl (by decide) ?_
  refine s_X10_sends_32 ?_
  refine s_X10_sends_34 ?_
  refine s_X10_sends_35 hI rfl (by decide) rfl (by decide) ?_
  refine s_X10_sends_38 ?_
  refine s_X10_sends_40 hI rfl (by decide) (by decide) (by decide : (_ : Int32) = nI 50) (by decide) ?_
  refine s_X10_sends_41 hI rfl (by decide) (by decide) (by decide : (_ : Int32) = nI 58) (by decide) ?_
  refine s_X10_sends_42 ?_
  refine s_X10_sends_43 rfl ?_
  rw [up_c, up_c, up_c]
  have e0 : am_up (am_up (am_up hi 124 56 (hi 124 48)) 124 57 (upd (hi 124) 56 (hi 124 48) 49)) 124 58 (upd (upd (hi 124) 56 (hi 124 48)) 57 (upd (hi 124) 56 (hi 124 48) 49) 50) = am_up (am_up (am_up hi 124 56 (z 48)) 124 57 (z 49)) 124 58 (z 50) := by rw [up_n (i := 49) (by decide), up_n (i := 50) (j := 57) (by decide), up_n (i := 50) (by decide), hz]
  rw [e0]
  have key := am_for0 (n := 4) (hi := am_up (am_up (am_up hi 124 56 (z 48)) 124 57 (z 49)) 124 58 (z 50)) (fun i h => fr [124] hi h ∧ ∀ j, h 124 j = if j < 56 then z j else if j < 59 + i then z (j - 8) else z j) (fun i h => ∀ e2 e3 : Value, AP M_X10_sends (0, 0) 44 [.ref 123, .int (nI i), e2, e3] [] h g Φ) ⟨((fr.rfl.up (by decide)).up (by decide)).up (by decide), fun j => ?_⟩ ?_ ?_
  · exact key _ _
  · rw [up_c, up_c, up_c, hz]
    by_cases q1 : j < 56
    · rw [if_pos q1, up_n (by omega), up_n (by omega), up_n (by omega)]
    · rw [if_neg q1]
      by_cases q2 : j < 59
      · rw [if_pos (by omega)]
        rcases (show j = 56 ∨ j = 57 ∨ j = 58 by omega) with rfl | rfl | rfl
        · rw [up_n (by decide), up_n (by decide), up_f]
        · rw [up_n (by decide), up_f]
        · rw [up_f]
      · rw [if_neg (by omega), up_n (by omega), up_n (by omega), up_n (by omega)]
  · intro h ⟨f, e⟩ e2 e3
    have ezq : h 124 = zsq z 0 0 0 0 := by
      funext j
      rw [e j]
      unfold zsq
      by_cases q1 : j < 56
      · rw [if_pos q1, if_pos q1]
      · rw [if_neg q1, if_neg q1]
        by_cases q2 : j < 63
        · rw [if_pos (by omega), if_pos q2]
        · rw [if_neg (by omega), if_neg q2, if_neg (Nat.not_lt_zero _), if_neg (Nat.not_lt_zero _), if_neg (Nat.not_lt_zero _), if_neg (Nat.not_lt_zero _), ite_self, ite_self, ite_self, ite_self]
    refine s_X10_sends_44 ?_
    refine s_X10_sends_45 ?_
    refine s_X10_sends_46 (fun _ => ?_) (fun h => absurd (nI_le (a := 4) (b := 4) (by decide) (by decide)) h)
    refine s_X10_sends_73 ?_
    refine s_X10_sends_74 rfl ?_
    have key2 := am_for0 (n := zn z) (hi := h) (fun b h' => fr [124, 128, 129] hi h' ∧ h' 124 = zsq z b b (min (8 * b) (zc z)) (min (8 * b) (zc z))) (fun b h' => ∀ e2 e3 : Value, AP M_X10_sends (0, 0) 75 [.ref 123, .int (nI b), e2, e3] [] h' g Φ) ⟨f.mono (by decide), ezq⟩ ?_ ?_
    · exact key2 _ _
    · intro h' ⟨f', e'⟩ e2 e3
      have ecm : min (8 * zn z) (zc z) = zc z := by unfold zn; omega
      rw [ecm] at e'
      have e48 : h' 124 48 = nI (zc z) := by rw [e']; exact ok.1.1
      refine s_X10_sends_75 ?_
      refine s_X10_sends_76 ?_
      refine s_X10_sends_77 hI rfl (by decide) rfl (by decide) ?_
      refine s_X10_sends_80 ?_
      refine s_X10_sends_82 hI rfl (by decide) (by decide) (by decide : (_ : Int32) = nI 48) (by decide) ?_
      refine s_X10_sends_83 hI (Nat.le_of_ble_eq_true rfl) (m_blocksOf _) ?_
      intro h9 e9; rw [e9]; clear e9 h9
      rw [e48, show (nI (zc z) + 7) / 8 = nI (zn z) from blk_nI7 (by omega)]
      refine s_X10_sends_86 (fun _ => ?_) (fun h => absurd (nI_le (Nat.le_refl _) (by omega)) h)
      refine s_X10_sends_194 ?_
      refine s_X10_sends_195 hI rfl (by decide) rfl (by decide) ?_
      refine s_X10_sends_198 ?_
      refine s_X10_sends_201 rfl rfl ?_
      refine s_X10_sends_202 hI rfl (by decide) (by decide) (by decide : (171 : Int32) = nI 171) (by decide) ?_
      refine s_X10_sends_203 ?_
      refine s_X10_sends_204 ?_
      refine s_X10_sends_205 hI rfl (by decide) (by decide) (by decide : (171 : Int32) = nI 171) (by decide) ?_
      refine s_X10_sends_206 ?_
      have e9 : am_up h' 124 171 (h' 124 171 + 1) 124 = zsend z := by rw [up_c, e', show zsq z (zn z) (zn z) (zc z) (zc z) 171 = z 171 from rfl, zsq_end]
      refine s_X10_sends_207 hI rfl (by decide) (Nat.le_of_ble_eq_true rfl) (m_letterLength hI e9 (zsend_ok ok)) ?_
      intro h9 e9; rw [e9]; clear e9 h9
      exact s_X10_sends_210 (hΦ _ (⟨f'.up (by decide), e9⟩))
    · intro b h' hb ⟨f', e'⟩ ih e2 e3
      have hb6 : b < 6 := by omega
      have okq := zsq_ok ok (a := b) (b := b) (m := min (8 * b) (zc z)) (k := min (8 * b) (zc z)) (by omega) (by omega) (by omega)
      have alq := zsq_al z b b (min (8 * b) (zc z)) (min (8 * b) (zc z))
      have e48 : h' 124 48 = nI (zc z) := by rw [e']; exact ok.1.1
      have h8b : 8 * b < zc z := by unfold zn at hb; omega
      have em : min (8 * b) (zc z) = 8 * b := by omega
      have ek := al_zkf alq ok b
      have okq2 := zsq_ok ok (a := b + 1) (b := b) (m := min (8 * b) (zc z)) (k := min (8 * b) (zc z)) (by omega) (by omega) (by omega)
      have alq2 := zsq_al z (b + 1) b (min (8 * b) (zc z)) (min (8 * b) (zc z))
      have hk5 := zkf_lt z b
      refine s_X10_sends_75 ?_
      refine s_X10_sends_76 ?_
      refine s_X10_sends_77 hI rfl (by decide) rfl (by decide) ?_
      refine s_X10_sends_80 ?_
      refine s_X10_sends_82 hI rfl (by decide) (by decide) (by decide : (_ : Int32) = nI 48) (by decide) ?_
      refine s_X10_sends_83 hI (Nat.le_of_ble_eq_true rfl) (m_blocksOf _) ?_
      intro h9 e9; rw [e9]; clear e9 h9
      rw [e48, show (nI (zc z) + 7) / 8 = nI (zn z) from blk_nI7 (by omega)]
      refine s_X10_sends_86 (fun h => absurd h (nI_ge hb (by omega))) (fun _ => ?_)
      refine s_X10_sends_89 ?_
      refine s_X10_sends_90 ?_
      refine s_X10_sends_91 hI rfl (by decide) (Nat.le_of_ble_eq_true rfl) (m_kindFor hI e' okq hb6) ?_
      intro h1 g1
      refine s_X10_sends_94 rfl ?_
      refine s_X10_sends_95 ?_
      refine s_X10_sends_96 ?_
      rw [ek]
      have e1 := (g1 124 (by decide)).trans e'
      refine s_X10_sends_97 hI rfl (by decide) (Nat.le_of_ble_eq_true rfl) (m_leavesBy hI e1 okq (kd := zkf z b) (by omega)) ?_
      intro h2 ⟨g2, lf2⟩
      refine s_X10_sends_100 rfl ?_
      refine s_X10_sends_101 ?_
      refine s_X10_sends_102 hI rfl (by decide) rfl (by decide) ?_
      refine s_X10_sends_105 ?_
      refine s_X10_sends_107 ?_
      refine s_X10_sends_108 ?_
      refine s_X10_sends_109 ?_
      have e2' := (g2 124 (by decide)).trans e1
      rw [show 63 + nI b = nI (63 + b) from nI_add 63 b]
      refine s_X10_sends_110 hI rfl (by decide) (by decide) (rfl) (by omega) ?_
      refine s_X10_sends_111 ?_
      refine s_X10_sends_112 hI rfl (by decide) rfl (by decide) ?_
      refine s_X10_sends_115 ?_
      refine s_X10_sends_117 ?_
      refine s_X10_sends_118 ?_
      refine s_X10_sends_119 ?_
      refine s_X10_sends_120 ?_
      rw [show 69 + nI b = nI (69 + b) from nI_add 69 b]
      have e3' : am_up h2 124 (63 + b) (nI (zkf z b)) 124 = zsq z (b + 1) b (min (8 * b) (zc z)) (min (8 * b) (zc z)) := by rw [up_c, e2', zsq_a hb6]
      have lf3 : LF (am_up h2 124 (63 + b) (nI (zkf z b))) (zsq z (b + 1) b (min (8 * b) (zc z)) (min (8 * b) (zc z))) (zkf z b) := fun t ht => by
        rw [al_zc alq2] at ht
        rw [up_k (by decide), lf2 t (by rw [al_zc alq]; exact ht), al_zL alq ok.1.2.2.2.1 _ (by omega), al_zL alq2 ok.1.2.2.2.1 _ (by omega)]
      refine s_X10_sends_121 hI rfl (by decide) (Nat.le_of_ble_eq_true rfl) (m_parameterFor hI e3' okq2 lf3 hb6) ?_
      intro h9 e9; rw [e9]; clear e9 h9
      refine s_X10_sends_124 hI rfl (by decide) (by decide) (rfl) (by omega) ?_
      refine s_X10_sends_125 ?_
      refine s_X10_sends_127 ?_
      refine s_X10_sends_128 ?_
      refine s_X10_sends_129 rfl ?_
      rw [al_zpb alq2 ok, show 8 * nI b = nI (8 * b) from pk_mul 8 b]
      have e4' : am_up (am_up h2 124 (63 + b) (nI (zkf z b))) 124 (69 + b) (nI (zpb z (zkf z b) b)) 124 = zsq z (b + 1) (b + 1) (8 * b) (8 * b) := by rw [up_c, e3', zsq_b hb6, em]
      have f4 : fr [124, 128, 129] hi (am_up (am_up h2 124 (63 + b) (nI (zkf z b))) 124 (69 + b) (nI (zpb z (zkf z b) b))) := (((f'.tr (g1.mono (by decide))).tr (g2.mono (by decide))).up (by decide)).up (by decide)
      have l4 : ∀ t, t < zc z → am_up (am_up h2 124 (63 + b) (nI (zkf z b))) 124 (69 + b) (nI (zpb z (zkf z b) b)) 129 t = zL z (zkf z b) t := fun t ht => by
        rw [up_k (by decide), up_k (by decide), lf2 t (by rw [al_zc alq]; exact ht), al_zL alq ok.1.2.2.2.1 _ (by omega)]
      have key3 := am_for0 (n := min (8 * b + 8) (zc z) - 8 * b) (hi := am_up (am_up h2 124 (63 + b) (nI (zkf z b))) 124 (69 + b) (nI (zpb z (zkf z b) b))) (fun i h9 => fr [124] (am_up (am_up h2 124 (63 + b) (nI (zkf z b))) 124 (69 + b) (nI (zpb z (zkf z b) b))) h9 ∧ h9 124 = zsq z (b + 1) (b + 1) (8 * b + i) (8 * b + i)) (fun i h9 => AP M_X10_sends (0, 0) 130 [.ref 123, .int (nI b), .int (nI (zkf z b)), .int (nI (8 * b + i))] [] h9 g Φ) ⟨fr.rfl, e4'⟩ ?_ ?_
      · exact key3
      · intro h9 ⟨k1, k2⟩
        have e48' : h9 124 48 = nI (zc z) := by rw [k2]; exact ok.1.1
        have ih' := ih h9 ⟨f4.tr (k1.mono (by decide)), by rw [k2, show 8 * b + (min (8 * b + 8) (zc z) - 8 * b) = min (8 * (b + 1)) (zc z) by omega]⟩
        refine s_X10_sends_130 ?_
        refine s_X10_sends_131 ?_
        refine s_X10_sends_132 hI rfl (by decide) rfl (by decide) ?_
        refine s_X10_sends_135 ?_
        refine s_X10_sends_137 hI rfl (by decide) (by decide) (by decide : (_ : Int32) = nI 48) (by decide) ?_
        rw [e48']
        refine s_X10_sends_138 (fun hq => ?_) (fun hq => ?_)
        · refine s_X10_sends_188 rfl ?_
          refine s_X10_sends_191 ?_
          rw [nI_1]
          exact ih' _ _
        · refine s_X10_sends_141 ?_
          refine s_X10_sends_142 ?_
          refine s_X10_sends_144 ?_
          refine s_X10_sends_145 ?_
          refine s_X10_sends_146 ?_
          refine s_X10_sends_148 ?_
          have hq' : ¬ zc z ≤ 8 * b + (min (8 * b + 8) (zc z) - 8 * b) := fun e => hq (nI_le e (by omega))
          rw [show 8 * nI b = nI (8 * b) from pk_mul 8 b, show nI (8 * b) + 8 = nI (8 * b + 8) from nI_add _ _]
          refine s_X10_sends_149 (fun _ => ?_) (fun h => absurd (nI_le (by omega) (by omega)) h)
          refine s_X10_sends_188 rfl ?_
          refine s_X10_sends_191 ?_
          rw [nI_1]
          exact ih' _ _
      · intro i h9 hi9 ⟨k1, k2⟩ ih3
        have e48' : h9 124 48 = nI (zc z) := by rw [k2]; exact ok.1.1
        have ti : (8 * b + i) / 8 = b := by omega
        refine s_X10_sends_130 ?_
        refine s_X10_sends_131 ?_
        refine s_X10_sends_132 hI rfl (by decide) rfl (by decide) ?_
        refine s_X10_sends_135 ?_
        refine s_X10_sends_137 hI rfl (by decide) (by decide) (by decide : (_ : Int32) = nI 48) (by decide) ?_
        rw [e48']
        refine s_X10_sends_138 (fun h => absurd h (nI_ge (by omega) (by omega))) (fun _ => ?_)
        refine s_X10_sends_141 ?_
        refine s_X10_sends_142 ?_
        refine s_X10_sends_144 ?_
        refine s_X10_sends_145 ?_
        refine s_X10_sends_146 ?_
        refine s_X10_sends_148 ?_
        rw [show 8 * nI b = nI (8 * b) from pk_mul 8 b, show nI (8 * b) + 8 = nI (8 * b + 8) from nI_add _ _]
        refine s_X10_sends_149 (fun h => absurd h (nI_ge (by omega) (by omega))) (fun _ => ?_)
        refine s_X10_sends_152 ?_
        refine s_X10_sends_153 hI rfl (by decide) rfl (by decide) ?_
        refine s_X10_sends_156 ?_
        refine s_X10_sends_158 ?_
        refine s_X10_sends_159 ?_
        refine s_X10_sends_160 ?_
        refine s_X10_sends_161 hI rfl (by decide) rfl (by decide) ?_
        refine s_X10_sends_164 ?_
        rw [show 75 + nI (8 * b + i) = nI (75 + (8 * b + i)) from nI_add 75 _]
        refine s_X10_sends_165 hI rfl (by decide) (by decide) (rfl) (by omega) ?_
        refine s_X10_sends_166 hI rfl (by decide) (by decide) (rfl) (by omega) ?_
        refine s_X10_sends_167 ?_
        refine s_X10_sends_168 hI rfl (by decide) rfl (by decide) ?_
        refine s_X10_sends_171 ?_
        refine s_X10_sends_173 ?_
        refine s_X10_sends_174 ?_
        refine s_X10_sends_175 ?_
        refine s_X10_sends_176 hI rfl (by decide) rfl (by decide) ?_
        refine s_X10_sends_179 ?_
        rw [show 123 + nI (8 * b + i) = nI (123 + (8 * b + i)) from nI_add 123 _]
        refine s_X10_sends_180 hI rfl (by decide) (by decide) (rfl) (by omega) ?_
        refine s_X10_sends_181 hI rfl (by decide) (by decide) (rfl) (by omega) ?_
        refine s_X10_sends_182 rfl ?_
        refine s_X10_sends_185 ?_
        rw [nI_1]
        refine ih3 _ ⟨(k1.up (by decide)).up (by decide), ?_⟩
        have el : h9 129 (8 * b + i) = zL z (zkf z ((8 * b + i) / 8)) (8 * b + i) := by rw [k1 129 (by decide), l4 _ (by omega), ti]
        rw [up_c, up_c, k2, el, zsq_m (by omega), show zsq z (b + 1) (b + 1) (8 * b + i + 1) (8 * b + i) (8 * b + i) = z (8 * b + i) from if_pos (by omega), zsq_k (by omega)]
        rfl
  · intro i h hi4 ⟨f, e⟩ ih e2 e3
    refine s_X10_sends_44 ?_
    refine s_X10_sends_45 ?_
    refine s_X10_sends_46 (fun h => absurd h (nI_ge (a := i) (b := 4) hi4 (by decide))) (fun _ => ?_)
    refine s_X10_sends_49 ?_
    refine s_X10_sends_50 hI rfl (by decide) rfl (by decide) ?_
    refine s_X10_sends_53 ?_
    refine s_X10_sends_55 ?_
    refine s_X10_sends_56 ?_
    refine s_X10_sends_57 ?_
    refine s_X10_sends_58 hI rfl (by decide) rfl (by decide) ?_
    refine s_X10_sends_61 ?_
    refine s_X10_sends_63 ?_
    refine s_X10_sends_64 ?_
    rw [show 51 + nI i = nI (51 + i) from nI_add 51 i]
    refine s_X10_sends_65 hI rfl (by decide) (by decide) (rfl) (by omega) ?_
    rw [show 59 + nI i = nI (59 + i) from nI_add 59 i]
    refine s_X10_sends_66 hI rfl (by decide) (by decide) (rfl) (by omega) ?_
    refine s_X10_sends_67 rfl ?_
    refine s_X10_sends_70 ?_
    rw [nI_1]
    refine ih _ ⟨f.up (by decide), fun j => ?_⟩ _ _
    rw [up_r]
    by_cases he : j = 59 + i
    · rw [if_pos ⟨rfl, he⟩, e, if_pos (by omega), if_neg (by omega), if_pos (by omega)]; congr 1; omega
    · rw [if_neg (by omega), e j]
      by_cases q1 : j < 56
      · rw [if_pos q1, if_pos q1]
      · rw [if_neg q1, if_neg q1]
        by_cases q2 : j < 59 + i
        · rw [if_pos q2, if_pos (by omega)]
        · rw [if_neg q2, if_neg (by omega)]
theorem q1_send {hi : am_HI} {g : am_G} (hI : am_Inv g) {z : Nat → Int32} (hz : hi 124 = z) (ok : OKz z) (h0 : ¬ 0 < zc z) : am_Cr M_X10_send [.ref 123] hi g (some (.int 0)) (fun h => MS hi h ∧ h 123 10 = 1) := by
  refine am_crn (by decide) (Nat.le_of_ble_eq_true rfl) (fun Φ hΦ => ?_)
  show AP M_X10_send _ 0 [.ref 123] [] _ g Φ
  refine s_X10_send_0 ?_
  refine s_X10_send_1 ?_
  refine s_X10_send_2 hI rfl (by decide) rfl (by decide) ?_
  refine s_X10_send_5 ?_
  refine s_X10_send_7 hI rfl (by decide) (by decide) (by decide : (_ : Int32) = nI 48) (by decide) ?_
  rw [hz, ok.1.1, show zc z = 0 by omega]
  refine s_X10_send_8 (fun _ => ?_) (fun h => absurd (by decide) h)
  refine s_X10_send_15 ?_
  refine s_X10_send_16 hI rfl (by decide) (Nat.le_of_ble_eq_true rfl) (m_asksF hI) ?_
  intro h9 e9; rw [e9]; clear e9 h9
  refine s_X10_send_19 (fun h => absurd (Eq.refl (0 : Int32)) h) (fun _ => ?_)
  refine s_X10_send_22 ?_
  exact s_X10_send_23 (hΦ _ (MSu))
theorem q_send {hi : am_HI} {g : am_G} (hI : am_Inv g) {z : Nat → Int32} {Z : Nat → Nat → Int32} {p : Nat} {Y : Nat → Nat → Int32} {c : Nat → Bool} {cd : Nat → Nat} {n : Nat} (a : MM hi z Z p Y c cd n) (ok : OKz z) (h0 : 0 < zc z) : am_Cr M_X10_send [.ref 123] hi g (some (.int (nI (zbits (zsend z))))) (fun h => frM hi h ∧ h 123 10 = 0 ∧ MM h (zsend z) (svZ Z p z) (svp p) Y c cd n) := by
  refine am_crn (by decide) (Nat.le_of_ble_eq_true rfl) (fun Φ hΦ => ?_)
  show AP M_X10_send _ 0 [.ref 123] [] _ g Φ
  refine s_X10_send_0 ?_
  refine s_X10_send_1 ?_
  refine s_X10_send_2 hI rfl (by decide) rfl (by decide) ?_
  refine s_X10_send_5 ?_
  refine s_X10_send_7 hI rfl (by decide) (by decide) (by decide : (_ : Int32) = nI 48) (by decide) ?_
  rw [a.1, ok.1.1]
  refine s_X10_send_8 (fun h => absurd h (nI_nle (n := zc z) h0 (by have := ok.1.2.1; omega))) (fun _ => ?_)
  refine s_X10_send_11 ?_
  refine s_X10_send_12 ?_
  refine s_X10_send_16 hI rfl (by decide) (Nat.le_of_ble_eq_true rfl) (m_asksT hI) ?_
  intro h9 e9; rw [e9]; clear e9 h9
  refine s_X10_send_19 (fun _ => ?_) (fun h => absurd h (by decide))
  refine s_X10_send_24 ?_
  have a1 : MM (am_up hi 123 10 0) z Z p Y c cd n := a.ms (MS.up (by decide) (by decide))
  have r1 : frM hi (am_up hi 123 10 0) := (MS.up (by decide) (by decide)).M
  refine s_X10_send_25 hI rfl (by decide) (Nat.le_of_ble_eq_true rfl) (m_record hI a1.1 a1.2.1) ?_
  intro h5 ⟨f5, g5, mp5⟩
  refine s_X10_send_28 ?_
  have m5 := a1.rec f5 g5 mp5
  have t5 : h5 123 10 = 0 := (g5 10 (by decide)).trans u10
  have r5 : frM hi h5 := r1.tr (frM.of f5 (by decide))
  refine s_X10_send_29 hI rfl (by decide) (Nat.le_of_ble_eq_true rfl) (m_sends hI m5.1 ok) ?_
  intro h6 ⟨f6, e6⟩
  exact s_X10_send_32 (hΦ _ (⟨r5.tr (frM.of f6 (by decide)), by rw [f6 123 (by decide)]; exact t5, m5.z (f6.mono (by decide)) e6⟩))
