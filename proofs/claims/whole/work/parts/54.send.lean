/-! ===== the class: echo, the letter is written ===== -/
/-- a tenth, rounded down -/
def e10 (x : Int32) : Int32 := if x < 0 then -((-x + 9) / 10) else x / 10
theorem e10_all : ∀ k : Fin 1783, (if ¬ 0 ≤ ((nI k.val - 891) ^^^ 10) ∧ ¬ (nI k.val - 891) / 10 * 10 = (nI k.val - 891) then (nI k.val - 891) / 10 - 1 else (nI k.val - 891) / 10) = e10 (nI k.val - 891) ∧ -99 ≤ (e10 (nI k.val - 891)).toInt ∧ (e10 (nI k.val - 891)).toInt ≤ 99 := by decide +kernel
theorem e10_ok {x : Int32} (h1 : -891 ≤ x.toInt) (h2 : x.toInt ≤ 891) : (if ¬ 0 ≤ (x ^^^ 10) ∧ ¬ x / 10 * 10 = x then x / 10 - 1 else x / 10) = e10 x ∧ rng (e10 x) := by
  have e : x = nI (x.toInt + 891).toNat - 891 := by
    rw [am_eq, i_sub (by rw [am_nI (by omega), show (891 : Int32).toInt = 891 from rfl]; omega) (by rw [am_nI (by omega), show (891 : Int32).toInt = 891 from rfl]; omega), am_nI (by omega), show (891 : Int32).toInt = 891 from rfl]
    omega
  have := e10_all ⟨(x.toInt + 891).toNat, by omega⟩
  dsimp only at this
  rw [← e] at this
  exact this
theorem c_fd10 {hi : am_HI} {g : am_G} {x : Int32} (h1 : -891 ≤ x.toInt) (h2 : x.toInt ≤ 891) : am_Cr M_J9_floorDiv_7cf53 [.int x, .int 10] hi g (some (.int (e10 x))) (fun h => h = hi) := by
  have e := (e10_ok h1 h2).1
  refine am_crnF (by decide +kernel) rfl (Nat.le_of_ble_eq_true rfl) (fun Φ hΦ => ?_)
  show AP M_J9_floorDiv_7cf53 _ 0 [.int x, .int 10, jk] [] _ g Φ
  refine s_J9_floorDiv_7cf53_0 ?_
  refine s_J9_floorDiv_7cf53_1 ?_
  refine s_J9_floorDiv_7cf53_2 (by decide) ?_
  refine s_J9_floorDiv_7cf53_3 rfl ?_
  refine s_J9_floorDiv_7cf53_4 ?_
  refine s_J9_floorDiv_7cf53_5 ?_
  refine s_J9_floorDiv_7cf53_6 ?_
  refine s_J9_floorDiv_7cf53_7 (fun h3 => ?_) (fun h3 => ?_)
  · refine s_J9_floorDiv_7cf53_21 ?_
    refine s_J9_floorDiv_7cf53_22 ?_
    rw [if_neg (fun z => z.1 h3)] at e
    rw [e]
    exact hΦ _ rfl
  · refine s_J9_floorDiv_7cf53_10 ?_
    refine s_J9_floorDiv_7cf53_11 ?_
    refine s_J9_floorDiv_7cf53_12 ?_
    refine s_J9_floorDiv_7cf53_13 ?_
    refine s_J9_floorDiv_7cf53_14 (fun h4 => ?_) (fun h4 => ?_)
    · refine s_J9_floorDiv_7cf53_21 ?_
      refine s_J9_floorDiv_7cf53_22 ?_
      rw [if_neg (fun z => z.2 h4)] at e
      rw [e]
      exact hΦ _ rfl
    · refine s_J9_floorDiv_7cf53_17 ?_
      refine s_J9_floorDiv_7cf53_18 ?_
      refine s_J9_floorDiv_7cf53_19 ?_
      refine s_J9_floorDiv_7cf53_20 ?_
      rw [if_pos ⟨h3, h4⟩] at e
      rw [e]
      exact hΦ _ rfl
/-- one sample of an echo; an echo of m samples -/
def zev (z : Nat → Int32) (b t : Nat) : Int32 := e10 (nI t * sm z (zc z) b)
def zecho (z : Nat → Int32) (b t : Nat) : Nat → Nat → Int32
  | 0 => z
  | m + 1 => zput (zecho z b t m) (zev (zecho z b t m) b t)
theorem smt_rng {z : Nat → Int32} (ok : OKz z) {b t : Nat} (hb : 1 ≤ b) (ht : t ≤ 9) : -891 ≤ (nI t * sm z (zc z) b).toInt ∧ (nI t * sm z (zc z) b).toInt ≤ 891 := by
  have h := sm_rng (r := z) (t := zc z) hb (fun i hi => ok.1.2.2.2.2.2.1 i (by have := ok.1.2.1; omega))
  have e : (nI t).toInt = t := am_nI (by omega)
  have q1 : (t : Int) * (sm z (zc z) b).toInt ≤ 9 * 99 := by
    rcases (show t = 0 ∨ t = 1 ∨ t = 2 ∨ t = 3 ∨ t = 4 ∨ t = 5 ∨ t = 6 ∨ t = 7 ∨ t = 8 ∨ t = 9 by omega) with rfl | rfl | rfl | rfl | rfl | rfl | rfl | rfl | rfl | rfl <;> omega
  have q2 : -(9 * 99) ≤ (t : Int) * (sm z (zc z) b).toInt := by
    rcases (show t = 0 ∨ t = 1 ∨ t = 2 ∨ t = 3 ∨ t = 4 ∨ t = 5 ∨ t = 6 ∨ t = 7 ∨ t = 8 ∨ t = 9 by omega) with rfl | rfl | rfl | rfl | rfl | rfl | rfl | rfl | rfl | rfl <;> omega
  rw [i_mul (by rw [e]; omega) (by rw [e]; omega), e]
  omega
theorem zecho_ok {z : Nat → Int32} (ok : OKz z) {b t : Nat} (hb : 1 ≤ b) (ht : t ≤ 9) : ∀ m, zc z + m ≤ 48 → OKz (zecho z b t m) ∧ zc (zecho z b t m) = zc z + m := by
  intro m
  induction m with
  | zero => intro _; exact ⟨ok, rfl⟩
  | succ m ih =>
    intro h
    obtain ⟨h1, h2⟩ := ih (by omega)
    have hr := smt_rng h1 hb ht
    exact ⟨zput_ok h1 (by omega) (e10_ok hr.1 hr.2).2, by rw [zecho, zput_c (by omega), h2]; omega⟩
theorem w_echo {hi : am_HI} {g : am_G} (hI : am_Inv g) {z : Nat → Int32} {Z : Nat → Nat → Int32} {p : Nat} {Y : Nat → Nat → Int32} {c : Nat → Bool} {cd : Nat → Nat} {n : Nat} (hs : CS hi g z Z p Y c cd n) (ok : OKz z) {m b t : Nat} (hm : 1 ≤ m ∧ m ≤ 16) (hb : 1 ≤ b ∧ b ≤ 12) (ht : 1 ≤ t ∧ t ≤ 9) (h48 : zc z + m ≤ 48) : am_Cg M_X9_echo [.ref 0, .int (nI m), .int (nI b), .int (nI t)] hi g (some (.int (nI (zc z + m)))) (fun h g' => frC hi h ∧ CS h g' (zecho z b t m) (svZ Z p z) (svp p) Y c cd n) := by
  refine am_cgn (by decide) (Nat.le_of_ble_eq_true rfl) (fun Φ hΦ => ?_)
  show AP M_X9_echo _ 0 [.ref 0, .int (nI m), .int (nI b), .int (nI t), jk] [] _ g Φ
  refine s_X9_echo_0 ?_
  refine s_X9_echo_1 ?_
  refine s_X9_echo_2 ?_
  refine s_X9_echo_4 hI (Nat.le_of_ble_eq_true rfl) (c_isWithin _ _ _) ?_
  intro h9 e9; rw [e9]; clear e9 h9
  rw [show wi (nI m) 1 16 = true from wi_ok (a := 1) (b := 16) hm.1 hm.2 (by decide)]
  refine s_X9_echo_7 hI (Nat.le_of_ble_eq_true rfl) (c_needA1) ?_
  intro h9 e9; rw [e9]; clear e9 h9
  refine s_X9_echo_10 ?_
  refine s_X9_echo_11 ?_
  refine s_X9_echo_12 ?_
  refine s_X9_echo_14 hI (Nat.le_of_ble_eq_true rfl) (c_isWithin _ _ _) ?_
  intro h9 e9; rw [e9]; clear e9 h9
  rw [show wi (nI b) 1 12 = true from wi_ok (a := 1) (b := 12) hb.1 hb.2 (by decide)]
  refine s_X9_echo_17 hI (Nat.le_of_ble_eq_true rfl) (c_needA1) ?_
  intro h9 e9; rw [e9]; clear e9 h9
  refine s_X9_echo_20 ?_
  refine s_X9_echo_21 ?_
  refine s_X9_echo_22 ?_
  refine s_X9_echo_24 hI (Nat.le_of_ble_eq_true rfl) (c_isWithin _ _ _) ?_
  intro h9 e9; rw [e9]; clear e9 h9
  rw [show wi (nI t) 1 9 = true from wi_ok (a := 1) (b := 9) ht.1 ht.2 (by decide)]
  refine s_X9_echo_27 hI (Nat.le_of_ble_eq_true rfl) (c_needA1) ?_
  intro h9 e9; rw [e9]; clear e9 h9
  refine s_X9_echo_30 ?_
  refine s_X9_echo_31 hI rfl (by decide) rfl (by decide) ?_
  refine s_X9_echo_34 ?_
  refine s_X9_echo_35 hI rfl (by decide) (Nat.le_of_ble_eq_true rfl) (c_hasRoom hI (m := m) (hs.so ok) ok.1.2.1 (by omega)) ?_
  intro h9 e9; rw [e9]; clear e9 h9
  rw [decide_eq_true h48]
  refine s_X9_echo_38 hI (Nat.le_of_ble_eq_true rfl) (c_needP1) ?_
  intro h9 e9; rw [e9]; clear e9 h9
  refine s_X9_echo_41 ?_
  refine s_X9_echo_42 hI rfl (by decide) rfl (by decide) ?_
  refine s_X9_echo_45 ?_
  refine s_X9_echo_46 hI rfl (by decide) rfl (by decide) ?_
  refine sg_X9_echo_49 hI rfl (by decide) (Nat.le_of_ble_eq_true rfl) (c_save hI hs.2.1 hs.1) ?_
  intro h5 g5 hI5 ⟨f5, s5⟩
  refine s_X9_echo_52 ?_
  refine s_X9_echo_53 rfl ?_
  have cs5 : CS h5 g5 z _ _ Y c cd n := hs.sv f5 s5
  have key := am_for0 (n := m) (hi := h5) (fun i h => fr nwS h5 h ∧ ZB h 2 (zecho z b t i)) (fun i h => AP M_X9_echo (0, 0) 55 [.ref 0, .int (nI m), .int (nI b), .int (nI t), .int (nI i)] [] h g5 Φ) ⟨fr.rfl, cs5.1⟩ ?_ ?_
  · exact key
  · intro h ⟨h1, h2⟩
    have okm := zecho_ok ok hb.1 ht.2 m h48
    refine s_X9_echo_55 ?_
    refine s_X9_echo_57 ?_
    refine s_X9_echo_58 (fun _ => ?_) (fun h => absurd (nI_le (Nat.le_refl _) (by omega)) h)
    refine s_X9_echo_97 ?_
    refine s_X9_echo_98 hI5 rfl (by decide) rfl (by decide) ?_
    refine s_X9_echo_101 hI5 rfl (by decide) ?_
    rw [(h2.1.so okm.1).1, okm.2]
    exact s_X9_echo_104 (hΦ _ _ hI5 (⟨f5.C.tr (nwC h1), cs5.mvN h1 h2⟩))
  · intro i h him ⟨h1, h2⟩ ih
    obtain ⟨ok1, okc⟩ := zecho_ok ok hb.1 ht.2 i (by omega)
    have hr := smt_rng ok1 hb.1 ht.2
    have hc := (h2.1.so ok1).1
    refine s_X9_echo_55 ?_
    refine s_X9_echo_57 ?_
    refine s_X9_echo_58 (fun h => absurd h (nI_ge him (by omega))) (fun _ => ?_)
    refine s_X9_echo_61 ?_
    refine s_X9_echo_62 hI5 rfl (by decide) rfl (by decide) ?_
    refine s_X9_echo_65 ?_
    refine s_X9_echo_66 hI5 rfl (by decide) rfl (by decide) ?_
    refine s_X9_echo_69 ?_
    refine s_X9_echo_70 hI5 rfl (by decide) rfl (by decide) ?_
    refine s_X9_echo_73 hI5 rfl (by decide) ?_
    refine s_X9_echo_76 ?_
    refine s_X9_echo_77 ?_
    rw [hc]
    refine s_X9_echo_78 hI5 rfl (by decide) (Nat.le_of_ble_eq_true rfl) (c_soundSub hI5 (z := zecho z b t i) (t := zc (zecho z b t i)) (k := b) h2.1.1 hc (by omega) (Nat.le_refl _) hb.1 (by omega)) ?_
    intro h9 e9; rw [e9]; clear e9 h9
    refine s_X9_echo_81 ?_
    refine s_X9_echo_82 ?_
    refine s_X9_echo_83 ?_
    rw [Int32.mul_comm]
    refine s_X9_echo_85 hI5 (Nat.le_of_ble_eq_true rfl) (c_fd10 hr.1 hr.2) ?_
    intro h9 e9; rw [e9]; clear e9 h9
    refine s_X9_echo_88 hI5 rfl (by decide) (Nat.le_of_ble_eq_true rfl) (c_put hI5 (c := zc (zecho z b t i)) hc (by omega)) ?_
    intro h9 e9; rw [e9]; clear e9 h9
    refine s_X9_echo_91 rfl ?_
    refine s_X9_echo_94 ?_
    rw [nI_1]
    exact ih _ ⟨(h1.N (by decide)).N (by decide), h2.put (by omega)⟩
/-! the letter -/
def zsend (z : Nat → Int32) : Nat → Int32 := fun j =>
  if j < 56 then z j else if j < 63 then z (j - 8) else if j < 69 then (if j - 63 < zn z then nI (zkf z (j - 63)) else z j) else if j < 75 then (if j - 69 < zn z then nI (zpb z (zkf z (j - 69)) (j - 69)) else z j) else if j < 123 then (if j - 75 < zc z then zL z (zkf z ((j - 75) / 8)) (j - 75) else z j) else if j < 171 then (if j - 123 < zc z then z (j - 123) else z j) else if j = 171 then z 171 + 1 else z j
theorem zs_0 {z : Nat → Int32} {j : Nat} (h : j < 56) : zsend z j = z j := if_pos h
theorem zs_1 {z : Nat → Int32} {j : Nat} (h : 56 ≤ j ∧ j < 63) : zsend z j = z (j - 8) := by
  unfold zsend
  rw [if_neg (by omega), if_pos (by omega)]
theorem zs_k {z : Nat → Int32} {b : Nat} (h : b < 6) : zsend z (63 + b) = if b < zn z then nI (zkf z b) else z (63 + b) := by
  unfold zsend
  rw [if_neg (by omega), if_neg (by omega), if_pos (by omega), show 63 + b - 63 = b by omega]
theorem zs_p {z : Nat → Int32} {b : Nat} (h : b < 6) : zsend z (69 + b) = if b < zn z then nI (zpb z (zkf z b) b) else z (69 + b) := by
  unfold zsend
  rw [if_neg (by omega), if_neg (by omega), if_neg (by omega), if_pos (by omega), show 69 + b - 69 = b by omega]
theorem zs_l {z : Nat → Int32} {t : Nat} (h : t < 48) : zsend z (75 + t) = if t < zc z then zL z (zkf z (t / 8)) t else z (75 + t) := by
  unfold zsend
  rw [if_neg (by omega), if_neg (by omega), if_neg (by omega), if_neg (by omega), if_pos (by omega), show 75 + t - 75 = t by omega]
theorem zs_o {z : Nat → Int32} {t : Nat} (h : t < 48) : zsend z (123 + t) = if t < zc z then z t else z (123 + t) := by
  unfold zsend
  rw [if_neg (by omega), if_neg (by omega), if_neg (by omega), if_neg (by omega), if_neg (by omega), if_pos (by omega), show 123 + t - 123 = t by omega]
theorem zs_s {z : Nat → Int32} : zsend z 171 = z 171 + 1 := rfl
theorem zsend_ok {z : Nat → Int32} (ok : OKz z) : OKz (zsend z) := by
  have e48 : zsend z 48 = z 48 := rfl
  have e49 : zsend z 49 = z 49 := rfl
  have e55 : zsend z 55 = z 55 := rfl
  have e56 : zsend z 56 = z 48 := rfl
  have e57 : zsend z 57 = z 49 := rfl
  obtain ⟨⟨h1, h2, h3, h4, h5, h6, h7⟩, k1, k2, k3, k4, k5, k6⟩ := id ok
  unfold OKz
  unfold zc zd zt zld at *
  rw [e48, e49, e55, e56, e57]
  refine ⟨⟨h1, h2, h3, h4, h5, fun t ht => by rw [zs_0 (by omega)]; exact h6 t ht, h7⟩, h1, h2, fun _ => ⟨h3, h4, h5⟩, fun b hb => ?_, fun b hb => ?_, fun t ht => ?_⟩
  · rw [zs_k hb]
    split
    · exact ⟨_, rfl, by have := zkf_lt z b; omega⟩
    · exact k4 b hb
  · rw [zs_p hb]
    split
    · exact ⟨_, rfl, amin_le _ 7⟩
    · exact k5 b hb
  · rw [zs_l ht]
    split
    · exact zL_rng ok ht
    · exact k6 t ht
abbrev wlS : List Nat := [5, 6, 7, 8, 9, 10] ++ roS
theorem wl_nw : ∀ k ∈ wlS, k ∈ nwS := by decide
theorem c_writeLetter {hi : am_HI} {g : am_G} (hI : am_Inv g) {z : Nat → Int32} (hz : ZB hi 2 z) (ok : OKz z) (hc : 0 < zc z) : am_Cr M_X9_writeLetter [.ref 0] hi g (some (.int 1)) (fun h => fr nwS hi h ∧ ZB h 2 (zsend z)) := by
  have h48 := ok.1.2.1
  have h6 := zn_lt ok
  have zsF : ∀ {h : am_HI}, fr wlS hi h → ZS h 2 z := fun f => hz.1.mv (f 2 (by decide)) (f 3 (by decide)) (f 4 (by decide))
  refine am_crn (by decide) (Nat.le_of_ble_eq_true rfl) (fun Φ hΦ => ?_)
  show AP M_X9_writeLetter _ 0 [.ref 0, jk, jk, jk] [] _ g Φ
  refine s_X9_writeLetter_0 ?_
  refine s_X9_writeLetter_1 hI rfl (by decide) rfl (by decide) ?_
  refine s_X9_writeLetter_4 hI rfl (by decide) ?_
  rw [(hz.1.so ok).1]
  refine s_X9_writeLetter_7 (fun _ => ?_) (fun h => absurd ((nI_lt (a := 0) (b := zc z) hc (by omega))) h)
  refine s_X9_writeLetter_12 ?_
  refine s_X9_writeLetter_13 hI rfl (by decide) rfl (by decide) ?_
  refine s_X9_writeLetter_16 hI rfl (by decide) (Nat.le_of_ble_eq_true rfl) (c_follow hI hz.1 ok) ?_
  intro h1 ⟨f1, fo1⟩
  refine s_X9_writeLetter_19 ?_
  refine s_X9_writeLetter_20 hI rfl (by decide) rfl (by decide) ?_
  have z1 : ZS h1 2 z := hz.1.ro (RO.of f1 (by decide))
  refine s_X9_writeLetter_23 hI rfl (by decide) (Nat.le_of_ble_eq_true rfl) (c_findParameters hI z1 ok fo1) ?_
  intro h2 ⟨f2, fp2⟩
  refine s_X9_writeLetter_26 ?_
  refine s_X9_writeLetter_27 hI rfl (by decide) rfl (by decide) ?_
  refine s_X9_writeLetter_30 hI rfl (by decide) rfl (by decide) ?_
  refine s_X9_writeLetter_33 rfl ?_
  refine s_X9_writeLetter_34 ?_
  refine s_X9_writeLetter_35 ?_
  refine s_X9_writeLetter_36 hI rfl (by decide) rfl (by decide) ?_
  refine s_X9_writeLetter_39 hI rfl (by decide) ?_
  refine s_X9_writeLetter_42 hI rfl (by decide) ?_
  refine s_X9_writeLetter_45 ?_
  refine s_X9_writeLetter_46 ?_
  refine s_X9_writeLetter_47 hI rfl (by decide) rfl (by decide) ?_
  refine s_X9_writeLetter_50 hI rfl (by decide) ?_
  refine s_X9_writeLetter_53 hI rfl (by decide) ?_
  refine s_X9_writeLetter_56 ?_
  refine s_X9_writeLetter_57 ?_
  refine s_X9_writeLetter_58 hI rfl (by decide) rfl (by decide) ?_
  refine s_X9_writeLetter_61 hI rfl (by decide) ?_
  refine s_X9_writeLetter_64 hI rfl (by decide) ?_
  refine s_X9_writeLetter_67 ?_
  refine s_X9_writeLetter_68 hI rfl (by decide) rfl (by decide) ?_
  refine s_X9_writeLetter_71 hI rfl (by decide) rfl (by decide) ?_
  refine s_X9_writeLetter_74 ?_
  refine s_X9_writeLetter_75 ?_
  refine s_X9_writeLetter_76 hI rfl (by decide) rfl (by decide) ?_
  refine s_X9_writeLetter_79 ?_
  refine s_X9_writeLetter_80 ?_
  refine s_X9_writeLetter_81 hI rfl rfl (by decide) (by decide) (by decide) (Nat.le_of_ble_eq_true rfl) ?_
  refine s_X9_writeLetter_84 ?_
  refine s_X9_writeLetter_85 rfl ?_
  have f12 : fr wlS hi h2 := (f1.mono (by decide)).tr (f2.mono (by decide))
  have fo2 : FO h2 z (zc z + 1) := fo1.mv (fun k q1 q2 => f2 k (by simp; omega))
  have z2 : ZS h2 2 z := zsF f12
  have l2 : ZL h2 5 z := (hz.2.1.ro (RO.of f1 (by decide))).ro (RO.of f2 (by decide))
  rw [up_k (by decide), up_k (by decide)]
  have wf : fr [5, 6] h2 (am_cp (am_up (am_up (am_up h2 5 5 (h2 2 3)) 5 6 (h2 2 4)) 5 7 (h2 2 5)) 4 6 4) := (((fr.rfl.up (by decide)).up (by decide)).up (by decide)).cp (by decide)
  have key := am_for0 (n := zn z) (hi := am_cp (am_up (am_up (am_up h2 5 5 (h2 2 3)) 5 6 (h2 2 4)) 5 7 (h2 2 5)) 4 6 4) (fun b h => fr [5, 6, 7, 8] h2 h ∧ (h 5 5 = z 48 ∧ h 5 6 = z 49 ∧ h 5 7 = z 50 ∧ ∀ k, k < 4 → h 6 k = z (51 + k)) ∧ (∀ j, j < 6 → h 7 j = if j < b then nI (zkf z j) else z (63 + j)) ∧ ∀ j, j < 6 → h 8 j = if j < b then nI (zpb z (zkf z j) j) else z (69 + j)) (fun b h => ∀ e : Value, AP M_X9_writeLetter (0, 0) 86 [.ref 0, .ref 5, .int (nI b), e] [] h g Φ) ⟨wf.mono (by decide), ⟨z2.2.1, z2.2.2.1, z2.2.2.2.1, fun k hk => by rw [cp_c, if_pos hk, up_k (by decide), up_k (by decide), up_k (by decide)]; exact z2.2.2.2.2.1 k hk⟩, fun j hj => by rw [wf 7 (by decide), if_neg (by omega)]; exact l2.2.2.2.2.1 j hj, fun j hj => by rw [wf 8 (by decide), if_neg (by omega)]; exact l2.2.2.2.2.2.1 j hj⟩ ?_ ?_
  · exact key _
  · intro h ⟨p1, p2, p3, p4⟩ e
    have fh : fr wlS hi h := f12.tr (p1.mono (by decide))
    have zh := zsF fh
    refine s_X9_writeLetter_86 ?_
    refine s_X9_writeLetter_87 ?_
    refine s_X9_writeLetter_88 hI rfl (by decide) rfl (by decide) ?_
    refine s_X9_writeLetter_91 hI rfl (by decide) ?_
    refine s_X9_writeLetter_94 hI (Nat.le_of_ble_eq_true rfl) (c_blocks zh ok) ?_
    intro h9 e9; rw [e9]; clear e9 h9
    refine s_X9_writeLetter_97 (fun _ => ?_) (fun h => absurd (nI_le (Nat.le_refl _) (by omega)) h)
    refine s_X9_writeLetter_139 ?_
    refine s_X9_writeLetter_140 rfl ?_
    have key2 := am_for0 (n := zc z) (hi := h) (fun t h' => fr [9, 10] h h' ∧ (∀ u, u < 48 → h' 9 u = if u < t then zL z (zkf z (u / 8)) u else z (75 + u)) ∧ ∀ u, u < 48 → h' 10 u = if u < t then z u else z (123 + u)) (fun t h' => AP M_X9_writeLetter (0, 0) 141 [.ref 0, .ref 5, .int (nI t), e] [] h' g Φ) ⟨fr.rfl, fun u hu => by rw [p1 9 (by decide), if_neg (by omega)]; exact l2.2.2.2.2.2.2.1 u hu, fun u hu => by rw [p1 10 (by decide), if_neg (by omega)]; exact l2.2.2.2.2.2.2.2 u hu⟩ ?_ ?_
    · exact key2
    · intro h' ⟨r1, r2, r3⟩
      have fh' : fr wlS hi h' := fh.tr (r1.mono (by decide))
      have zh' := zsF fh'
      refine s_X9_writeLetter_141 ?_
      refine s_X9_writeLetter_142 ?_
      refine s_X9_writeLetter_143 hI rfl (by decide) rfl (by decide) ?_
      refine s_X9_writeLetter_146 hI rfl (by decide) ?_
      rw [(zh'.so ok).1]
      refine s_X9_writeLetter_149 (fun _ => ?_) (fun h => absurd (nI_le (Nat.le_refl _) (by omega)) h)
      refine s_X9_writeLetter_196 ?_
      refine s_X9_writeLetter_197 hI rfl (by decide) rfl (by decide) ?_
      refine s_X9_writeLetter_200 rfl ?_
      refine s_X9_writeLetter_201 hI rfl (by decide) ?_
      refine s_X9_writeLetter_204 ?_
      refine s_X9_writeLetter_205 ?_
      refine s_X9_writeLetter_206 hI rfl (by decide) ?_
      refine s_X9_writeLetter_209 ?_
      have e27 : h' 2 7 = z 171 := by rw [fh' 2 (by decide)]; exact hz.2.2
      rw [e27]
      have z9 : ZS (am_up h' 2 7 (z 171 + 1)) 2 (zsend z) := ⟨fun t ht => by rw [up_k (by decide), zs_0 (by omega)]; exact zh'.1 t ht, zh'.2.1, zh'.2.2.1, zh'.2.2.2.1, fun k hk => by rw [up_k (by decide), zs_0 (by omega)]; exact zh'.2.2.2.2.1 k hk, zh'.2.2.2.2.2⟩
      have l9 : ZL (am_up h' 2 7 (z 171 + 1)) 5 (zsend z) := by
        refine ZL.mv (hi := h') ⟨?_, fun _ => ?_, ?_, fun k hk => ?_, fun b hb => ?_, fun b hb => ?_, fun t ht => ?_, fun t ht => ?_⟩ (fun i hi' => up_k (by omega))
        · rw [r1 5 (by decide)]; exact p2.1
        · rw [r1 5 (by decide)]; exact p2.2.1
        · rw [r1 5 (by decide)]; exact p2.2.2.1
        · rw [r1 6 (by decide), zs_1 (by omega), show 59 + k - 8 = 51 + k by omega]; exact p2.2.2.2 k hk
        · rw [r1 7 (by decide), zs_k hb]; exact p3 b hb
        · rw [r1 8 (by decide), zs_p hb]; exact p4 b hb
        · rw [zs_l ht]; exact r2 t ht
        · rw [zs_o ht]; exact r3 t ht
      exact s_X9_writeLetter_210 (by first | exact Or.inl rfl | exact Or.inr rfl | exact bI_01 _) (hΦ _ (⟨(fh'.mono wl_nw).N (by decide), z9, l9, by rw [up_c, up_f]; rfl⟩))
    · intro t h' ht ⟨r1, r2, r3⟩ ih2
      have fh' : fr wlS hi h' := fh.tr (r1.mono (by decide))
      have zh' := zsF fh'
      have fo' : FO h' z (zc z + 1) := fo2.mv (fun k q1 q2 => by rw [r1 k (by simp; omega), p1 k (by simp; omega)])
      have hb8 : t / 8 < zn z := by unfold zn; omega
      have e7 : h' 7 (t / 8) = nI (zkf z (t / 8)) := by rw [r1 7 (by decide), p3 _ (by omega), if_pos hb8]
      refine s_X9_writeLetter_141 ?_
      refine s_X9_writeLetter_142 ?_
      refine s_X9_writeLetter_143 hI rfl (by decide) rfl (by decide) ?_
      refine s_X9_writeLetter_146 hI rfl (by decide) ?_
      rw [(zh'.so ok).1]
      refine s_X9_writeLetter_149 (fun h => absurd h (nI_ge ht (by omega))) (fun _ => ?_)
      refine s_X9_writeLetter_152 ?_
      refine s_X9_writeLetter_153 hI rfl (by decide) rfl (by decide) ?_
      refine s_X9_writeLetter_156 ?_
      refine s_X9_writeLetter_157 ?_
      refine s_X9_writeLetter_158 hI rfl (by decide) rfl (by decide) ?_
      refine s_X9_writeLetter_161 hI rfl (by decide) rfl (by decide) ?_
      refine s_X9_writeLetter_164 ?_
      refine s_X9_writeLetter_165 hI rfl (by decide) (by decide) (rfl) (by omega) ?_
      refine s_X9_writeLetter_166 hI rfl (by decide) (by decide) (rfl) (by omega) ?_
      refine s_X9_writeLetter_167 ?_
      refine s_X9_writeLetter_168 hI rfl (by decide) rfl (by decide) ?_
      refine s_X9_writeLetter_171 ?_
      refine s_X9_writeLetter_172 ?_
      refine s_X9_writeLetter_173 hI rfl (by decide) rfl (by decide) ?_
      refine s_X9_writeLetter_176 ?_
      refine s_X9_writeLetter_177 hI rfl (by decide) rfl (by decide) ?_
      refine s_X9_writeLetter_180 ?_
      refine s_X9_writeLetter_181 ?_
      refine s_X9_writeLetter_183 (by decide) ?_
      refine s_X9_writeLetter_184 hI rfl (by decide) (by decide) (div8 (by omega)) (by omega) ?_
      refine s_X9_writeLetter_185 ?_
      rw [up_k (by decide), e7]
      have zh2 : ZS (am_up h' 10 t (h' 3 t)) 2 z := zh'.mv (up_k (by decide)) (up_k (by decide)) (up_k (by decide))
      refine s_X9_writeLetter_186 hI rfl (by decide) (Nat.le_of_ble_eq_true rfl) (c_leftZ hI zh2.1 (fo'.mv (fun k q1 q2 => up_k (by omega))) (zkf_lt z (t / 8)) (by omega) (by omega)) ?_
      intro h9 e9; rw [e9]; clear e9 h9
      refine s_X9_writeLetter_189 hI rfl (by decide) (by decide) (rfl) (by omega) ?_
      refine s_X9_writeLetter_190 rfl ?_
      refine s_X9_writeLetter_193 ?_
      rw [nI_1]
      refine ih2 _ ⟨(r1.up (by decide)).up (by decide), fun u hu => ?_, fun u hu => ?_⟩
      · rw [up_r, up_k (by decide)]
        by_cases he : u = t
        · rw [if_pos ⟨rfl, he⟩, he, if_pos (by omega)]
        · rw [if_neg (by omega), r2 u hu]
          by_cases hu2 : u < t
          · rw [if_pos hu2, if_pos (by omega)]
          · rw [if_neg hu2, if_neg (by omega)]
      · rw [up_k (by decide), up_r]
        by_cases he : u = t
        · rw [if_pos ⟨rfl, he⟩, he, if_pos (by omega)]; exact zh'.1 t (by omega)
        · rw [if_neg (by omega), r3 u hu]
          by_cases hu2 : u < t
          · rw [if_pos hu2, if_pos (by omega)]
          · rw [if_neg hu2, if_neg (by omega)]
  · intro b h hb ⟨p1, p2, p3, p4⟩ ih e
    have fh : fr wlS hi h := f12.tr (p1.mono (by decide))
    have zh := zsF fh
    have fp : FP h z (zn z) := fun b hb kd hk => by rw [p1 (27 + kd) (by simp; omega), p1 (33 + kd) (by simp; omega)]; exact fp2 b hb kd hk
    obtain ⟨v1, v2, v3⟩ := hr26 (zkf_lt z b)
    refine s_X9_writeLetter_86 ?_
    refine s_X9_writeLetter_87 ?_
    refine s_X9_writeLetter_88 hI (by first | assumption | rfl | decide | omega) (by first | assumption | rfl | decide | omega) (by first | assumption | rfl | decide | omega) (by first | assumption | rfl | decide | omega) ?_
    refine s_X9_writeLetter_91 hI (by first | assumption | rfl | decide | omega) (by first | assumption | rfl | decide | omega) ?_
    refine s_X9_writeLetter_94 hI (Nat.le_of_ble_eq_true rfl) (c_blocks zh ok) ?_
    intro h9 e9; rw [e9]; clear e9 h9
    refine s_X9_writeLetter_97 (fun h => absurd h (nI_ge hb (by omega))) (fun _ => ?_)
    refine s_X9_writeLetter_100 ?_
    refine s_X9_writeLetter_101 hI (by first | assumption | rfl | decide | omega) (by first | assumption | rfl | decide | omega) (by first | assumption | rfl | decide | omega) (by first | assumption | rfl | decide | omega) ?_
    refine s_X9_writeLetter_104 ?_
    refine s_X9_writeLetter_105 hI (by first | assumption | rfl | decide | omega) (by first | assumption | rfl | decide | omega) (Nat.le_of_ble_eq_true rfl) (c_kindFor hI zh ok fp hb) ?_
    intro h9 e9; rw [e9]; clear e9 h9
    refine s_X9_writeLetter_108 (by first | assumption | rfl | decide | omega) ?_
    refine s_X9_writeLetter_109 ?_
    refine s_X9_writeLetter_110 hI (by first | assumption | rfl | decide | omega) (by first | assumption | rfl | decide | omega) (by first | assumption | rfl | decide | omega) (by first | assumption | rfl | decide | omega) ?_
    refine s_X9_writeLetter_113 ?_
    refine s_X9_writeLetter_114 ?_
    refine s_X9_writeLetter_115 hI (by first | assumption | rfl | decide | omega) (by first | assumption | rfl | decide | omega) (by first | assumption | rfl | decide | omega) (rfl) (by omega) ?_
    refine s_X9_writeLetter_116 ?_
    refine s_X9_writeLetter_117 hI (by first | assumption | rfl | decide | omega) (by first | assumption | rfl | decide | omega) (by first | assumption | rfl | decide | omega) (by first | assumption | rfl | decide | omega) ?_
    refine s_X9_writeLetter_120 ?_
    refine s_X9_writeLetter_121 ?_
    refine s_X9_writeLetter_122 hI (by first | assumption | rfl | decide | omega) (by first | assumption | rfl | decide | omega) (by first | assumption | rfl | decide | omega) (by first | assumption | rfl | decide | omega) ?_
    refine s_X9_writeLetter_125 hI (by first | assumption | rfl | decide | omega) (by first | assumption | rfl | decide | omega) (by first | assumption | rfl | decide | omega) (by first | assumption | rfl | decide | omega) ?_
    refine s_X9_writeLetter_128 ?_
    refine s_X9_writeLetter_129 hI (by first | assumption | rfl | decide | omega) (by first | assumption | rfl | decide | omega) (by first | assumption | rfl | decide | omega) (rfl) (zkf_lt z b) ((hI.2 26 _ (by decide)).trans v1) ?_
    refine s_X9_writeLetter_130 ?_
    refine s_X9_writeLetter_131 hI (by first | assumption | rfl | decide | omega) (by first | assumption | rfl | decide | omega) (by first | assumption | rfl | decide | omega) (rfl) (by omega) ?_
    refine s_X9_writeLetter_132 hI (by first | assumption | rfl | decide | omega) (by first | assumption | rfl | decide | omega) (by first | assumption | rfl | decide | omega) (rfl) (by omega) ?_
    refine s_X9_writeLetter_133 (by first | assumption | rfl | decide | omega) ?_
    refine s_X9_writeLetter_136 ?_
    rw [nI_1, up_k (by omega), (fp b hb _ (zkf_lt z b)).1]
    refine ih _ ⟨(p1.up (by decide)).up (by decide), ⟨by rw [up_k (by decide), up_k (by decide)]; exact p2.1, by rw [up_k (by decide), up_k (by decide)]; exact p2.2.1, by rw [up_k (by decide), up_k (by decide)]; exact p2.2.2.1, fun k hk => by rw [up_k (by decide), up_k (by decide)]; exact p2.2.2.2 k hk⟩, fun j hj => ?_, fun j hj => ?_⟩ _
    · rw [up_k (by decide), up_r]
      by_cases he : j = b
      · rw [if_pos ⟨rfl, he⟩, he, if_pos (by omega)]
      · rw [if_neg (by omega), p3 j hj]
        by_cases hu2 : j < b
        · rw [if_pos hu2, if_pos (by omega)]
        · rw [if_neg hu2, if_neg (by omega)]
    · rw [up_r, up_k (by decide)]
      by_cases he : j = b
      · rw [if_pos ⟨rfl, he⟩, he, if_pos (by omega)]
      · rw [if_neg (by omega), p4 j hj]
        by_cases hu2 : j < b
        · rw [if_pos hu2, if_pos (by omega)]
        · rw [if_neg hu2, if_neg (by omega)]
