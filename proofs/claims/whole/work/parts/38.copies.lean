/-! ===== states are copied: Letter, State, History, Snapshots ===== -/
abbrev st9 : List Nat := [2, 40, 49, 58, 67, 76, 85, 96, 105]
theorem st9_ok : ∀ B ∈ st9, am_SH B = (0, 6) ∧ am_SH (B + 1) = (1, 48) ∧ am_SH (B + 2) = (1, 4) ∧ am_SH (B + 3) = (0, 2) ∧ am_SH (B + 4) = (1, 4) ∧ am_SH (B + 5) = (1, 6) ∧ am_SH (B + 6) = (1, 6) ∧ am_SH (B + 7) = (1, 48) ∧ am_SH (B + 8) = (1, 48) ∧ am_HRf B 0 = some (B + 1) ∧ am_HRf B 1 = some (B + 2) ∧ am_HRf B 2 = some (B + 3) ∧ am_HRf (B + 3) 0 = some (B + 4) ∧ am_HRf (B + 3) 1 = some (B + 5) ∧ am_HRf (B + 3) 2 = some (B + 6) ∧ am_HRf (B + 3) 3 = some (B + 7) ∧ am_HRf (B + 3) 4 = some (B + 8) ∧ B + 8 < 134 ∧ (B < 3 ∨ 39 < B) := by decide
theorem st9_ne : ∀ D ∈ st9, ∀ S ∈ st9, D ≠ S → D + 9 ≤ S ∨ S + 9 ≤ D := by decide
theorem c_letCopy {hi : am_HI} {g : am_G} (hI : am_Inv g) {D S : Nat} (hD : D ∈ st9) (hS : S ∈ st9) (hne : D ≠ S) : am_Cr M_X2_copyFrom [.ref (D + 3), .ref (S + 3)] hi g none (fun h => fr [D + 3, D + 4, D + 5, D + 6, D + 7, D + 8] hi h ∧ ∀ z, ZL hi (S + 3) z → ZL h (D + 3) z) := by
  obtain ⟨a0, a1, a2, a3, a4, a5, a6, a7, a8, b0, b1, b2, b3, b4, b5, b6, b7, b8, b9⟩ := st9_ok D hD
  obtain ⟨s0, s1, s2, s3, s4, s5, s6, s7, s8, t0, t1, t2, t3, t4, t5, t6, t7, t8, t9⟩ := st9_ok S hS
  have hd := st9_ne D hD S hS hne
  have v1 : D + 3 < 134 ∧ S + 3 < 134 ∧ D + 4 < 134 ∧ S + 4 < 134 ∧ D + 5 < 134 ∧ S + 5 < 134 ∧ D + 6 < 134 ∧ S + 6 < 134 ∧ D + 7 < 134 ∧ S + 7 < 134 ∧ S + 8 < 134 := by omega
  obtain ⟨v1, v2, v3, v4, v5, v6, v7, v8, v9, v10, v11⟩ := v1
  have w1 : D + 3 ≠ 39 := by omega
  have w2 : S + 3 ≠ 39 := by omega
  refine am_crn (by decide) (Nat.le_of_ble_eq_true rfl) (fun Φ hΦ => ?_)
  show AP M_X2_copyFrom _ 0 [.ref (D + 3), .ref (S + 3)] [] _ g Φ
  refine s_X2_copyFrom_0 ?_
  refine s_X2_copyFrom_1 hI (by first | assumption | rfl | decide | omega) (by first | assumption | rfl | decide | omega) (by first | assumption | rfl | decide | omega) (by first | assumption | rfl | decide | omega) ?_
  refine s_X2_copyFrom_4 ?_
  refine s_X2_copyFrom_5 ?_
  refine s_X2_copyFrom_6 hI (by first | assumption | rfl | decide | omega) (by first | assumption | rfl | decide | omega) (by first | assumption | rfl | decide | omega) (by first | assumption | rfl | decide | omega) ?_
  refine s_X2_copyFrom_9 ?_
  refine s_X2_copyFrom_10 ?_
  refine s_X2_copyFrom_11 hI (by first | assumption | rfl | decide | omega) (by first | assumption | rfl | decide | omega) (by first | assumption | rfl | decide | omega) (by first | assumption | rfl | decide | omega) (by first | assumption | rfl | decide | omega) (Nat.le_of_ble_eq_true rfl) ?_
  refine s_X2_copyFrom_14 ?_
  refine s_X2_copyFrom_15 hI (by first | assumption | rfl | decide | omega) (by first | assumption | rfl | decide | omega) (by first | assumption | rfl | decide | omega) (by first | assumption | rfl | decide | omega) ?_
  refine s_X2_copyFrom_18 ?_
  refine s_X2_copyFrom_19 ?_
  refine s_X2_copyFrom_20 hI (by first | assumption | rfl | decide | omega) (by first | assumption | rfl | decide | omega) (by first | assumption | rfl | decide | omega) (by first | assumption | rfl | decide | omega) ?_
  refine s_X2_copyFrom_23 ?_
  refine s_X2_copyFrom_24 ?_
  refine s_X2_copyFrom_26 hI (by first | assumption | rfl | decide | omega) (by first | assumption | rfl | decide | omega) (by first | assumption | rfl | decide | omega) (by first | assumption | rfl | decide | omega) (by first | assumption | rfl | decide | omega) (Nat.le_of_ble_eq_true rfl) ?_
  refine s_X2_copyFrom_29 ?_
  refine s_X2_copyFrom_30 hI (by first | assumption | rfl | decide | omega) (by first | assumption | rfl | decide | omega) (by first | assumption | rfl | decide | omega) (by first | assumption | rfl | decide | omega) ?_
  refine s_X2_copyFrom_33 ?_
  refine s_X2_copyFrom_34 ?_
  refine s_X2_copyFrom_35 hI (by first | assumption | rfl | decide | omega) (by first | assumption | rfl | decide | omega) (by first | assumption | rfl | decide | omega) (by first | assumption | rfl | decide | omega) ?_
  refine s_X2_copyFrom_38 ?_
  refine s_X2_copyFrom_39 ?_
  refine s_X2_copyFrom_41 hI (by first | assumption | rfl | decide | omega) (by first | assumption | rfl | decide | omega) (by first | assumption | rfl | decide | omega) (by first | assumption | rfl | decide | omega) (by first | assumption | rfl | decide | omega) (Nat.le_of_ble_eq_true rfl) ?_
  refine s_X2_copyFrom_44 ?_
  refine s_X2_copyFrom_45 hI (by first | assumption | rfl | decide | omega) (by first | assumption | rfl | decide | omega) (by first | assumption | rfl | decide | omega) (by first | assumption | rfl | decide | omega) ?_
  refine s_X2_copyFrom_48 ?_
  refine s_X2_copyFrom_49 ?_
  refine s_X2_copyFrom_50 hI (by first | assumption | rfl | decide | omega) (by first | assumption | rfl | decide | omega) (by first | assumption | rfl | decide | omega) (by first | assumption | rfl | decide | omega) ?_
  refine s_X2_copyFrom_53 ?_
  refine s_X2_copyFrom_54 ?_
  refine s_X2_copyFrom_56 hI (by first | assumption | rfl | decide | omega) (by first | assumption | rfl | decide | omega) (by first | assumption | rfl | decide | omega) (by first | assumption | rfl | decide | omega) (by first | assumption | rfl | decide | omega) (Nat.le_of_ble_eq_true rfl) ?_
  refine s_X2_copyFrom_59 ?_
  refine s_X2_copyFrom_60 hI (by first | assumption | rfl | decide | omega) (by first | assumption | rfl | decide | omega) (by first | assumption | rfl | decide | omega) (by first | assumption | rfl | decide | omega) ?_
  refine s_X2_copyFrom_63 ?_
  refine s_X2_copyFrom_64 ?_
  refine s_X2_copyFrom_65 hI (by first | assumption | rfl | decide | omega) (by first | assumption | rfl | decide | omega) (by first | assumption | rfl | decide | omega) (by first | assumption | rfl | decide | omega) ?_
  refine s_X2_copyFrom_68 ?_
  refine s_X2_copyFrom_69 ?_
  refine s_X2_copyFrom_71 hI (by first | assumption | rfl | decide | omega) (by first | assumption | rfl | decide | omega) (by first | assumption | rfl | decide | omega) (by first | assumption | rfl | decide | omega) (by first | assumption | rfl | decide | omega) (Nat.le_of_ble_eq_true rfl) ?_
  refine s_X2_copyFrom_74 ?_
  refine s_X2_copyFrom_75 ?_
  refine s_X2_copyFrom_76 hI (by first | assumption | rfl | decide | omega) (by first | assumption | rfl | decide | omega) ?_
  refine s_X2_copyFrom_79 hI (by first | assumption | rfl | decide | omega) (by first | assumption | rfl | decide | omega) ?_
  refine s_X2_copyFrom_82 ?_
  refine s_X2_copyFrom_83 ?_
  refine s_X2_copyFrom_84 hI (by first | assumption | rfl | decide | omega) (by first | assumption | rfl | decide | omega) ?_
  refine s_X2_copyFrom_87 hI (by first | assumption | rfl | decide | omega) (by first | assumption | rfl | decide | omega) ?_
  refine s_X2_copyFrom_90 ?_
  refine s_X2_copyFrom_91 ?_
  refine s_X2_copyFrom_92 hI (by first | assumption | rfl | decide | omega) (by first | assumption | rfl | decide | omega) ?_
  refine s_X2_copyFrom_95 hI (by first | assumption | rfl | decide | omega) (by first | assumption | rfl | decide | omega) ?_
  refine s_X2_copyFrom_98 (hΦ _ (?_))
  refine ⟨((((((((fr.rfl.cp (by simp)).cp (by simp)).cp (by simp)).cp (by simp)).cp (by simp)).up (by simp)).up (by simp)).up (by simp)), fun z hz => ?_⟩
  obtain ⟨z1, z2, z3, z4, z5, z6, z7, z8⟩ := hz
  refine ⟨?_, fun z9 => ?_, ?_, fun k hk => ?_, fun k hk => ?_, fun k hk => ?_, fun k hk => ?_, fun k hk => ?_⟩
  · rw [up_c, up_n (by decide), up_c, up_n (by decide), up_c, up_f, cp_k (by omega), cp_k (by omega), cp_k (by omega), cp_k (by omega), cp_k (by omega)]; exact z1
  · rw [up_c, up_n (by decide), up_c, up_f, up_k (by omega), cp_k (by omega), cp_k (by omega), cp_k (by omega), cp_k (by omega), cp_k (by omega)]; exact z2 z9
  · rw [up_c, up_f, up_k (by omega), up_k (by omega), cp_k (by omega), cp_k (by omega), cp_k (by omega), cp_k (by omega), cp_k (by omega)]; exact z3
  · rw [up_k (by omega), up_k (by omega), up_k (by omega), cp_k (by omega), cp_k (by omega), cp_k (by omega), cp_k (by omega), cp_c, if_pos hk]; exact z4 k hk
  · rw [up_k (by omega), up_k (by omega), up_k (by omega), cp_k (by omega), cp_k (by omega), cp_k (by omega), cp_c, if_pos hk, cp_k (by omega)]; exact z5 k hk
  · rw [up_k (by omega), up_k (by omega), up_k (by omega), cp_k (by omega), cp_k (by omega), cp_c, if_pos hk, cp_k (by omega), cp_k (by omega)]; exact z6 k hk
  · rw [up_k (by omega), up_k (by omega), up_k (by omega), cp_k (by omega), cp_c, if_pos hk, cp_k (by omega), cp_k (by omega), cp_k (by omega)]; exact z7 k hk
  · rw [up_k (by omega), up_k (by omega), up_k (by omega), cp_c, if_pos hk, cp_k (by omega), cp_k (by omega), cp_k (by omega), cp_k (by omega)]; exact z8 k hk
abbrev stS (B : Nat) : List Nat := [B, B + 1, B + 2, B + 3, B + 4, B + 5, B + 6, B + 7, B + 8]
theorem ZL.mv {hi h : am_HI} {B : Nat} {z : Nat → Int32} (a : ZL hi B z) (e : ∀ i, i < 6 → h (B + i) = hi (B + i)) : ZL h B z := by
  unfold ZL
  rw [show h B = hi B from e 0 (by decide), e 1 (by decide), e 2 (by decide), e 3 (by decide), e 4 (by decide), e 5 (by decide)]
  exact a
theorem ZB.mv {hi h : am_HI} {B : Nat} {z : Nat → Int32} (a : ZB hi B z) (e : ∀ i, i < 9 → h (B + i) = hi (B + i)) : ZB h B z :=
  ⟨a.1.mv (e 0 (by decide)) (e 1 (by decide)) (e 2 (by decide)), a.2.1.mv (fun i hi' => by rw [Nat.add_assoc]; exact e _ (by omega)), by rw [show h B = hi B from e 0 (by decide)]; exact a.2.2⟩
theorem c_stCopy {hi : am_HI} {g : am_G} (hI : am_Inv g) {D S : Nat} (hD : D ∈ st9) (hS : S ∈ st9) (hne : D ≠ S) : am_Cr M_X6_copyFrom [.ref D, .ref S] hi g none (fun h => fr (stS D) hi h ∧ ∀ z, ZB hi S z → ZB h D z) := by
  obtain ⟨a0, a1, a2, a3, a4, a5, a6, a7, a8, b0, b1, b2, b3, b4, b5, b6, b7, b8, b9⟩ := st9_ok D hD
  obtain ⟨s0, s1, s2, s3, s4, s5, s6, s7, s8, t0, t1, t2, t3, t4, t5, t6, t7, t8, t9⟩ := st9_ok S hS
  have hd := st9_ne D hD S hS hne
  have v1 : D < 134 ∧ S < 134 ∧ D + 1 < 134 ∧ S + 1 < 134 ∧ D + 2 < 134 ∧ S + 2 < 134 := by omega
  obtain ⟨v1, v2, v3, v4, v5, v6⟩ := v1
  have w1 : D ≠ 39 := by omega
  have w2 : S ≠ 39 := by omega
  refine am_crn (by decide) (Nat.le_of_ble_eq_true rfl) (fun Φ hΦ => ?_)
  show AP M_X6_copyFrom _ 0 [.ref D, .ref S] [] _ g Φ
  refine s_X6_copyFrom_0 ?_
  refine s_X6_copyFrom_1 hI (by first | assumption | rfl | decide | omega) (by first | assumption | rfl | decide | omega) (by first | assumption | rfl | decide | omega) (by first | assumption | rfl | decide | omega) ?_
  refine s_X6_copyFrom_4 ?_
  refine s_X6_copyFrom_5 ?_
  refine s_X6_copyFrom_6 hI (by first | assumption | rfl | decide | omega) (by first | assumption | rfl | decide | omega) (by first | assumption | rfl | decide | omega) (by first | assumption | rfl | decide | omega) ?_
  refine s_X6_copyFrom_9 ?_
  refine s_X6_copyFrom_10 ?_
  refine s_X6_copyFrom_12 hI (by first | assumption | rfl | decide | omega) (by first | assumption | rfl | decide | omega) (by first | assumption | rfl | decide | omega) (by first | assumption | rfl | decide | omega) (by first | assumption | rfl | decide | omega) (Nat.le_of_ble_eq_true rfl) ?_
  refine s_X6_copyFrom_15 ?_
  refine s_X6_copyFrom_16 hI (by first | assumption | rfl | decide | omega) (by first | assumption | rfl | decide | omega) (by first | assumption | rfl | decide | omega) (by first | assumption | rfl | decide | omega) ?_
  refine s_X6_copyFrom_19 ?_
  refine s_X6_copyFrom_20 ?_
  refine s_X6_copyFrom_21 hI (by first | assumption | rfl | decide | omega) (by first | assumption | rfl | decide | omega) (by first | assumption | rfl | decide | omega) (by first | assumption | rfl | decide | omega) ?_
  refine s_X6_copyFrom_24 ?_
  refine s_X6_copyFrom_25 ?_
  refine s_X6_copyFrom_26 hI (by first | assumption | rfl | decide | omega) (by first | assumption | rfl | decide | omega) (by first | assumption | rfl | decide | omega) (by first | assumption | rfl | decide | omega) (by first | assumption | rfl | decide | omega) (Nat.le_of_ble_eq_true rfl) ?_
  refine s_X6_copyFrom_29 ?_
  refine s_X6_copyFrom_30 hI (by first | assumption | rfl | decide | omega) (by first | assumption | rfl | decide | omega) (by first | assumption | rfl | decide | omega) (by first | assumption | rfl | decide | omega) ?_
  refine s_X6_copyFrom_33 ?_
  refine s_X6_copyFrom_34 hI (by first | assumption | rfl | decide | omega) (by first | assumption | rfl | decide | omega) (by first | assumption | rfl | decide | omega) (by first | assumption | rfl | decide | omega) ?_
  refine s_X6_copyFrom_37 hI (by first | assumption | rfl | decide | omega) (by first | assumption | rfl | decide | omega) (Nat.le_of_ble_eq_true rfl) (c_letCopy hI hD hS hne) ?_
  intro h1 ⟨f1, l1⟩
  refine s_X6_copyFrom_40 ?_
  refine s_X6_copyFrom_41 ?_
  refine s_X6_copyFrom_42 hI (by first | assumption | rfl | decide | omega) (by first | assumption | rfl | decide | omega) ?_
  refine s_X6_copyFrom_45 hI (by first | assumption | rfl | decide | omega) (by first | assumption | rfl | decide | omega) ?_
  refine s_X6_copyFrom_48 ?_
  refine s_X6_copyFrom_49 ?_
  refine s_X6_copyFrom_50 hI (by first | assumption | rfl | decide | omega) (by first | assumption | rfl | decide | omega) ?_
  refine s_X6_copyFrom_53 hI (by first | assumption | rfl | decide | omega) (by first | assumption | rfl | decide | omega) ?_
  refine s_X6_copyFrom_56 ?_
  refine s_X6_copyFrom_57 ?_
  refine s_X6_copyFrom_58 hI (by first | assumption | rfl | decide | omega) (by first | assumption | rfl | decide | omega) ?_
  refine s_X6_copyFrom_61 hI (by first | assumption | rfl | decide | omega) (by first | assumption | rfl | decide | omega) ?_
  refine s_X6_copyFrom_64 ?_
  refine s_X6_copyFrom_65 ?_
  refine s_X6_copyFrom_66 hI (by first | assumption | rfl | decide | omega) (by first | assumption | rfl | decide | omega) ?_
  refine s_X6_copyFrom_69 hI (by first | assumption | rfl | decide | omega) (by first | assumption | rfl | decide | omega) ?_
  refine s_X6_copyFrom_72 ?_
  refine s_X6_copyFrom_73 ?_
  refine s_X6_copyFrom_74 hI (by first | assumption | rfl | decide | omega) (by first | assumption | rfl | decide | omega) ?_
  refine s_X6_copyFrom_77 hI (by first | assumption | rfl | decide | omega) (by first | assumption | rfl | decide | omega) ?_
  refine s_X6_copyFrom_80 (hΦ _ (?_))
  have f2 : fr (stS D) hi h1 := ((fr.rfl.cp (by simp)).cp (by simp)).tr (f1.mono (by simp))
  refine ⟨((((f2.up (by simp)).up (by simp)).up (by simp)).up (by simp)).up (by simp), fun z hz => ?_⟩
  obtain ⟨⟨z1, z2, z3, z4, z5, z6⟩, zl, z7⟩ := hz
  have eS : h1 S = hi S := f2 S (by simp; omega)
  have e1 : ∀ t, t < 48 → h1 (D + 1) t = z t := fun t ht => by rw [f1 _ (by simp), cp_k (by omega), cp_c, if_pos ht]; exact z1 t ht
  have e2 : ∀ t, t < 4 → h1 (D + 2) t = z (51 + t) := fun t ht => by rw [f1 _ (by simp), cp_c, if_pos ht, cp_k (by omega)]; exact z5 t ht
  have eL : ZL h1 (D + 3) z := l1 z (zl.mv (fun i hi' => by rw [cp_k (by omega), cp_k (by omega)]))
  refine ⟨⟨fun t ht => ?_, ?_, ?_, ?_, fun t ht => ?_, ?_⟩, eL.mv (fun i hi' => ?_), ?_⟩
  · rw [up_k (by omega), up_k (by omega), up_k (by omega), up_k (by omega), up_k (by omega)]; exact e1 t ht
  · rw [up_c, up_n (by decide), up_c, up_n (by decide), up_c, up_n (by decide), up_c, up_n (by decide), up_c, up_f, eS]; exact z2
  · rw [up_c, up_n (by decide), up_c, up_n (by decide), up_c, up_n (by decide), up_c, up_f, up_k (by omega), eS]; exact z3
  · rw [up_c, up_n (by decide), up_c, up_n (by decide), up_c, up_f, up_k (by omega), up_k (by omega), eS]; exact z4
  · rw [up_k (by omega), up_k (by omega), up_k (by omega), up_k (by omega), up_k (by omega)]; exact e2 t ht
  · rw [up_c, up_n (by decide), up_c, up_f, up_k (by omega), up_k (by omega), up_k (by omega), eS]; exact z6
  · rw [up_k (by omega), up_k (by omega), up_k (by omega), up_k (by omega), up_k (by omega)]
  · rw [up_c, up_f, up_k (by omega), up_k (by omega), up_k (by omega), up_k (by omega), eS]; exact z7
