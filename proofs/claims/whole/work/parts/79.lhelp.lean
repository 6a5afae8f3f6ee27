/-! ===== loudness in the law; what class refuses of echo; how an operation keeps the invariant ===== -/
theorem okd_eq {x : UInt64} (hx : okd x) : FP.dcmp x x = some .eq := by
  rcases hx with rfl | ⟨c, r, h1, -, -, rfl⟩
  · decide +kernel
  · exact dcmp_eq h1
section LD
variable {S : am_S} {b : Nat × Nat} {pc : Nat} {L L' st : List Value} {hi : am_HI} {g : am_G}
theorem am_putD {ls : Array Slot} {n0 i q : Nat} {L : List Value} {v : Value} (h0 : 0 < i) (hv : v.category = 2) (h : lv_has ls 9 ((i, am_cv n0 v) :: ((0, .ref q) :: am_L n0 0 L).filter (fun r => !(r.1 == i) && (!(r.1 == i + 1) && !(r.1 + 1 == i && r.2.category == 2))))) : lv_has ls 9 ((0, .ref q) :: am_L n0 0 (am_st L i v)) := by
  have h1 : lv_has ls 9 (am_L n0 0 (am_st L i v)) := am_put2 hv ⟨h.1, h.2.1, fun r hr => h.2.2 r (by
    rcases List.mem_cons.mp hr with e | e
    · rw [e]; exact List.mem_cons_self
    · obtain ⟨e1, e2⟩ := List.mem_filter.mp e
      exact List.mem_cons_of_mem _ (List.mem_filter.mpr ⟨List.mem_cons_of_mem _ e1, e2⟩))⟩
  refine ⟨h.1, h.2.1, fun r hr => ?_⟩
  rcases List.mem_cons.mp hr with e | e
  · rw [e]
    refine h.2.2 (0, .ref q) (List.mem_cons_of_mem _ (List.mem_filter.mpr ⟨List.mem_cons_self, ?_⟩))
    have : (0 == i) = false := by simp; omega
    simp [this, Value.category]
  · exact h1.2.2 r e
theorem QP.dstore {i : Nat} {x : UInt64} (hd : decode code pc = .ok (.dstore i, 2)) (h0 : 0 < i) (hn : i + 1 < 9) (hL : am_st L i (.double x) = L') (h : QP S b (pc + 2) L' st hi g) : QP S b pc L (.double x :: st) hi g := by
  subst hL
  exact fun l v p e R s m args below meth c H locs cells slots ls Q C X E hl Y => lv_dstore C.1 C.2.1 hd hl hn rfl (fun ls' hl' => h l v p e R s m args below meth c H locs cells slots ls' Q C X E (am_putD (v := .double x) h0 rfl hl') Y)
theorem QP.dload {i : Nat} {x : UInt64} (hd : decode code pc = .ok (.dload i, 2)) (hx : L[i]? = some (.double x)) (h : QP S b (pc + 2) L (.double x :: st) hi g) : QP S b pc L st hi g :=
  QP.pure (fun l v p e R s m args below meth c H locs cells slots ls Q C hl k => lv_dload C.1 C.2.1 hd (am_get hl hx rfl) k) h
theorem QP.dcmp {x y : UInt64} {op : CmpOp} (hd : decode code pc = .ok (.dcmp op, 1)) (h : QP S b (pc + 1) L (.int (Op.cmpValue (FP.dcmp x y) op) :: st) hi g) : QP S b pc L (.double y :: .double x :: st) hi g :=
  QP.pure (fun l v p e R s m args below meth c H locs cells slots ls Q C hl k => lv_dcmp C.1 C.2.1 hd k) h
end LD
theorem lb_loudness {S : am_S} {n j : Nat} {x5 x6 x7 x8 : Value} {hi : am_HI} {g : am_G} {r : UInt64} (hI : am_Inv g) (hr0 : okd r) (ho : OpV M_X9_loudness M_X10_loudness (.double r) hi g) (hn : LN S n j) : QP S (n + 1, 6 * (n + 1)) 1073 (lL j x5 x6 x7 x8) [] hi g := by
  refine QP.less (b' := (n, 6 * n)) ?_ ⟨by show n ≤ n + 1; omega, by show 6 * n ≤ 6 * (n + 1); omega⟩
  obtain ⟨P, hc, hm⟩ := ho
  refine QP.aload_n (i := 1) d_L_law_1073 rfl rfl ?_
  refine QP.callg (As := []) (q := (RX9, TX9, 7)) hI hc k_L_law_204 d_L_law_1074 rfl rfl (by decide) rfl rfl (by decide) (fun h g1 hI1 hP => ?_)
  obtain ⟨Q, hr, hQ⟩ := hm h g1 hI1 hP
  refine QP.dstore (i := 5) d_L_law_1077 (by decide) (by decide) rfl ?_
  refine QP.aload_n (i := 2) d_L_law_1079 rfl rfl ?_
  refine QP.callr (As := []) (q := (RX10, TX10, 15)) hI1 hr k_L_law_208 d_L_law_1080 rfl rfl (by decide) rfl rfl (Nat.le_of_ble_eq_true rfl) (fun h2 q2 => ?_)
  refine QP.dstore (i := 7) d_L_law_1083 (by decide) (by decide) rfl ?_
  refine QP.dload (i := 5) (x := r) d_L_law_1085 rfl ?_
  refine QP.dload (i := 7) (x := r) d_L_law_1087 rfl ?_
  refine QP.dcmp d_L_law_1089 ?_
  rw [okd_eq hr0]
  exact QP.if_eq (tgt := 1111) d_L_law_1090 (by decide) (fun _ => QP.goto (tgt := 2751) d_L_law_1111 (by decide) (hn _ _ _ _ _ _ hI1 (hQ h2 q2))) (fun q => absurd rfl q)
section XE
variable {hi : am_HI} {g : am_G} {z : Nat → Int32} {Z : Nat → Nat → Int32} {p : Nat} {Y : Nat → Nat → Int32} {c : Nat → Bool} {cd : Nat → Nat} {n : Nat}
theorem x1_echo (hI : am_Inv g) (hs : CS hi g z Z p Y c cd n) (ok : OKz z) {m b t : Int32} (h0 : wi m 1 16 = false) : am_Th M_X9_echo [.ref 0, .int m, .int b, .int t] hi g am_x1 (fun h => h = hi) := by
  refine am_thn (by decide) (Nat.le_of_ble_eq_true rfl) (fun Φ hΦ => ?_)
  show AP M_X9_echo _ 0 [.ref 0, .int m, .int b, .int t, jk] [] _ g Φ
  refine s_X9_echo_0 ?_
  refine s_X9_echo_1 ?_
  refine s_X9_echo_2 ?_
  refine s_X9_echo_4 hI (Nat.le_of_ble_eq_true rfl) (c_isWithin m _ _) ?_
  intro h9 e9; rw [e9]; clear e9 h9
  rw [h0]
  exact tx_X9_echo_7 hI (by decide) (by decide) (hΦ _ rfl)
theorem x2_echo (hI : am_Inv g) (hs : CS hi g z Z p Y c cd n) (ok : OKz z) {m b t : Int32} (h0 : wi m 1 16 = true) (h1 : wi b 1 12 = false) : am_Th M_X9_echo [.ref 0, .int m, .int b, .int t] hi g am_x1 (fun h => h = hi) := by
  refine am_thn (by decide) (Nat.le_of_ble_eq_true rfl) (fun Φ hΦ => ?_)
  show AP M_X9_echo _ 0 [.ref 0, .int m, .int b, .int t, jk] [] _ g Φ
  refine s_X9_echo_0 ?_
  refine s_X9_echo_1 ?_
  refine s_X9_echo_2 ?_
  refine s_X9_echo_4 hI (Nat.le_of_ble_eq_true rfl) (c_isWithin m _ _) ?_
  intro h9 e9; rw [e9]; clear e9 h9
  rw [h0]
  refine s_X9_echo_7 hI (Nat.le_of_ble_eq_true rfl) (c_needA1) ?_
  intro h9 e9; rw [e9]; clear e9 h9
  refine s_X9_echo_10 ?_
  refine s_X9_echo_11 ?_
  refine s_X9_echo_12 ?_
  refine s_X9_echo_14 hI (Nat.le_of_ble_eq_true rfl) (c_isWithin b _ _) ?_
  intro h9 e9; rw [e9]; clear e9 h9
  rw [h1]
  exact tx_X9_echo_17 hI (by decide) (by decide) (hΦ _ rfl)
theorem x3_echo (hI : am_Inv g) (hs : CS hi g z Z p Y c cd n) (ok : OKz z) {m b t : Int32} (h0 : wi m 1 16 = true) (h1 : wi b 1 12 = true) (h2 : wi t 1 9 = false) : am_Th M_X9_echo [.ref 0, .int m, .int b, .int t] hi g am_x1 (fun h => h = hi) := by
  refine am_thn (by decide) (Nat.le_of_ble_eq_true rfl) (fun Φ hΦ => ?_)
  show AP M_X9_echo _ 0 [.ref 0, .int m, .int b, .int t, jk] [] _ g Φ
  refine s_X9_echo_0 ?_
  refine s_X9_echo_1 ?_
  refine s_X9_echo_2 ?_
  refine s_X9_echo_4 hI (Nat.le_of_ble_eq_true rfl) (c_isWithin m _ _) ?_
  intro h9 e9; rw [e9]; clear e9 h9
  rw [h0]
  refine s_X9_echo_7 hI (Nat.le_of_ble_eq_true rfl) (c_needA1) ?_
  intro h9 e9; rw [e9]; clear e9 h9
  refine s_X9_echo_10 ?_
  refine s_X9_echo_11 ?_
  refine s_X9_echo_12 ?_
  refine s_X9_echo_14 hI (Nat.le_of_ble_eq_true rfl) (c_isWithin b _ _) ?_
  intro h9 e9; rw [e9]; clear e9 h9
  rw [h1]
  refine s_X9_echo_17 hI (Nat.le_of_ble_eq_true rfl) (c_needA1) ?_
  intro h9 e9; rw [e9]; clear e9 h9
  refine s_X9_echo_20 ?_
  refine s_X9_echo_21 ?_
  refine s_X9_echo_22 ?_
  refine s_X9_echo_24 hI (Nat.le_of_ble_eq_true rfl) (c_isWithin t _ _) ?_
  intro h9 e9; rw [e9]; clear e9 h9
  rw [h2]
  exact tx_X9_echo_27 hI (by decide) (by decide) (hΦ _ rfl)
theorem x4_echo (hI : am_Inv g) (hs : CS hi g z Z p Y c cd n) (ok : OKz z) {m : Nat} {b t : Int32} (hm : m ≤ 16) (h0 : wi (nI m) 1 16 = true) (h1 : wi b 1 12 = true) (h2 : wi t 1 9 = true) (h3 : ¬ zc z + m ≤ 48) : am_Th M_X9_echo [.ref 0, .int (nI m), .int b, .int t] hi g am_x2 (fun h => h = hi) := by
  refine am_thn (by decide) (Nat.le_of_ble_eq_true rfl) (fun Φ hΦ => ?_)
  show AP M_X9_echo _ 0 [.ref 0, .int (nI m), .int b, .int t, jk] [] _ g Φ
  refine s_X9_echo_0 ?_
  refine s_X9_echo_1 ?_
  refine s_X9_echo_2 ?_
  refine s_X9_echo_4 hI (Nat.le_of_ble_eq_true rfl) (c_isWithin (nI m) _ _) ?_
  intro h9 e9; rw [e9]; clear e9 h9
  rw [h0]
  refine s_X9_echo_7 hI (Nat.le_of_ble_eq_true rfl) (c_needA1) ?_
  intro h9 e9; rw [e9]; clear e9 h9
  refine s_X9_echo_10 ?_
  refine s_X9_echo_11 ?_
  refine s_X9_echo_12 ?_
  refine s_X9_echo_14 hI (Nat.le_of_ble_eq_true rfl) (c_isWithin b _ _) ?_
  intro h9 e9; rw [e9]; clear e9 h9
  rw [h1]
  refine s_X9_echo_17 hI (Nat.le_of_ble_eq_true rfl) (c_needA1) ?_
  intro h9 e9; rw [e9]; clear e9 h9
  refine s_X9_echo_20 ?_
  refine s_X9_echo_21 ?_
  refine s_X9_echo_22 ?_
  refine s_X9_echo_24 hI (Nat.le_of_ble_eq_true rfl) (c_isWithin t _ _) ?_
  intro h9 e9; rw [e9]; clear e9 h9
  rw [h2]
  refine s_X9_echo_27 hI (Nat.le_of_ble_eq_true rfl) (c_needA1) ?_
  intro h9 e9; rw [e9]; clear e9 h9
  refine s_X9_echo_30 ?_
  refine s_X9_echo_31 hI rfl (by decide) rfl (by decide) ?_
  refine s_X9_echo_34 ?_
  refine s_X9_echo_35 hI rfl (by decide) (Nat.le_of_ble_eq_true rfl) (c_hasRoom hI (m := m) (hs.so ok) ok.1.2.1 (by omega)) ?_
  intro h9 e9; rw [e9]; clear e9 h9
  rw [decide_eq_false h3]
  exact tx_X9_echo_38 hI (by decide) (by decide) (hΦ _ rfl)
theorem MM.fc {h : am_HI} (a : MM hi z Z p Y c cd n) (f : frC hi h) : MM h z Z p Y c cd n := by
  unfold MM MP MY MT at *
  rw [f 123 (by decide), f 124 (by decide), f 125 (by decide), f 126 (by decide), f 127 (by decide), f 131 (by decide)]
  exact a
theorem CS.fm {h : am_HI} (hs : CS hi g z Z p Y c cd n) (f : frM hi h) : CS h g z Z p Y c cd n :=
  ⟨hs.1.mv (fun i hq => f _ (by omega)), hs.2.1.mv (fun i hq => f _ (by omega)), hs.2.2.1.mv (fun i hq => f _ (by omega)), hs.2.2.2.mv (by rw [f 115 (by omega)]) (f 116 (by omega))⟩
theorem LI.of {h h2 : am_HI} (a : CS h g z Z p Y c cd n) (f : frM h h2) (m : MM h2 (h2 124) Z p Y c cd n) (e : ∀ j, j < 172 → h2 124 j = z j) (ok : OKz z) (okZ : ∀ i, i < p → OKz (Z i)) (okY : ∀ k, k < 2 → c k = true → OKz (Y k)) : LI h2 g :=
  ⟨Z, p, Y, c, cd, n, ⟨(a.fm f).1.cg (fun j hj => (e j hj).symm), (a.fm f).2⟩, m, ok.cg (fun j hj => (e j hj).symm), okZ, okY⟩
end XE
theorem LI.upl {hi : am_HI} {g : am_G} (a : LI hi g) (k j : Nat) (x : Int64) : LI hi (am_upl g k j x) := a
theorem LI.ms {hi h : am_HI} {g : am_G} (a : LI hi g) (f : MS hi h) : LI h g := by
  obtain ⟨Z, p, Y, c, cd, n, hs, hm, ok, okZ, okY⟩ := a
  have e : h 124 = hi 124 := f.1 124 (by decide)
  refine LI.of hs f.M (by rw [e]; exact hm.ms f) (fun j _ => by rw [e]) ok okZ okY
theorem LI.ro {hi h : am_HI} {g : am_G} (a : LI hi g) (f : RO hi h) : LI h g := by
  obtain ⟨Z, p, Y, c, cd, n, hs, hm, ok, okZ, okY⟩ := a
  have fc : frC hi h := frC.of f (by decide)
  have e : h 124 = hi 124 := fc 124 (by decide)
  refine LI.of (hs.ro f) frM.rfl (by rw [e]; exact hm.fc fc) (fun j _ => by rw [e]) ok okZ okY
theorem upl_at (g : am_G) (k j : Nat) (x : Int64) : (am_upl g k j x).2.2 k j = x := by
  show va_up g.2.2 k (vp_updL (g.2.2 k) j x) k j = x
  rw [am_va_at]
  simp [vp_updL]
theorem RO.z {hi h : am_HI} (f : RO hi h) : h 124 = hi 124 := f 124 (by decide)
theorem am_Cg.mono {M : am_M} {av : List Value} {hi : am_HI} {g : am_G} {r : Option Value} {P Q : am_HI → am_G → Prop} (h : am_Cg M av hi g r P) (hm : ∀ h' g', P h' g' → Q h' g') : am_Cg M av hi g r Q :=
  am_Ct.mono h (fun _ _ _ q => ⟨q.1, q.2.1, hm _ _ q.2.2⟩)
section OPS
variable {ML MX MC : am_M} {as : List Value} {hi : am_HI} {g : am_G}
theorem opR {r : Int32} (hI : am_Inv g) (a : LI hi g) (lw : ∀ P : am_HI → am_G → Prop, am_Cg MC (.ref 0 :: as) hi g (some (.int r)) P → am_Cl ML (.ref 0 :: (as ++ [.ref 133])) hi g 0 (fun h g' => ∃ g2, P h g2 ∧ g' = am_upl g2 133 0 r.toInt64))
    (hc : am_Cr MC (.ref 0 :: as) hi g (some (.int r)) (fun h => RO hi h)) (hq : ∀ h g1, am_Inv g1 → h 124 = hi 124 → am_Cr MX (.ref 123 :: as) h g1 (some (.int r)) (fun h2 => MS h h2 ∧ h2 123 10 = 0)) : OpI ML MX as hi g :=
  ⟨0, _, lw _ (hc.g hI), fun h g1 hI1 ⟨g2, ⟨f, e⟩, e2⟩ => ⟨r, _, hq h g1 hI1 f.z, fun h2 ⟨f2, t⟩ => ⟨t, fun _ => by rw [e2]; exact upl_at _ _ _ _, by rw [e2, e]; exact ((a.ro f).ms f2).upl _ _ _⟩⟩⟩
theorem opRB {x : Bool} (hI : am_Inv g) (a : LI hi g) (lw : ∀ P : am_HI → am_G → Prop, am_Cg MC (.ref 0 :: as) hi g (some (.int (bI x))) P → am_Cl ML (.ref 0 :: (as ++ [.ref 133])) hi g 0 (fun h g' => ∃ g2, P h g2 ∧ g' = am_upl g2 133 0 (if x = true then 1 else 0)))
    (hc : am_Cr MC (.ref 0 :: as) hi g (some (.int (bI x))) (fun h => RO hi h)) (hq : ∀ h g1, am_Inv g1 → h 124 = hi 124 → am_Cr MX (.ref 123 :: as) h g1 (some (.int (bI x))) (fun h2 => MS h h2 ∧ h2 123 10 = 0)) : OpB ML MX as hi g :=
  ⟨0, _, lw _ (hc.g hI), fun h g1 hI1 ⟨g2, ⟨f, e⟩, e2⟩ => ⟨x, _, hq h g1 hI1 f.z, fun h2 ⟨f2, t⟩ => ⟨t, fun _ => by rw [e2]; exact upl_at _ _ _ _, by rw [e2, e]; exact ((a.ro f).ms f2).upl _ _ _⟩⟩⟩
theorem opX {E : String} {k : Int32} (hI : am_Inv g) (a : LI hi g) (hk : ¬ k = 0) (lx : ∀ P : am_HI → Prop, am_Th MC (.ref 0 :: as) hi g E P → am_Cl ML (.ref 0 :: (as ++ [.ref 133])) hi g k (fun h g' => P h ∧ g' = g))
    (hc : am_Th MC (.ref 0 :: as) hi g E (fun h => h = hi)) (hq : am_Cr MX (.ref 123 :: as) hi g (some (.int 0)) (fun h2 => MS hi h2 ∧ h2 123 10 = k)) : OpI ML MX as hi g :=
  ⟨k, _, lx _ hc, fun h g1 hI1 ⟨e, e2⟩ => by subst e; subst e2; exact ⟨0, _, hq, fun h2 ⟨f, t⟩ => ⟨t, fun q => absurd q hk, a.ms f⟩⟩⟩
theorem opXB {E : String} {k : Int32} (hI : am_Inv g) (a : LI hi g) (hk : ¬ k = 0) (lx : ∀ P : am_HI → Prop, am_Th MC (.ref 0 :: as) hi g E P → am_Cl ML (.ref 0 :: (as ++ [.ref 133])) hi g k (fun h g' => P h ∧ g' = g))
    (hc : am_Th MC (.ref 0 :: as) hi g E (fun h => h = hi)) (hq : am_Cr MX (.ref 123 :: as) hi g (some (.int 0)) (fun h2 => MS hi h2 ∧ h2 123 10 = k)) : OpB ML MX as hi g :=
  ⟨k, _, lx _ hc, fun h g1 hI1 ⟨e, e2⟩ => by subst e; subst e2; exact ⟨false, _, hq, fun h2 ⟨f, t⟩ => ⟨t, fun q => absurd q hk, a.ms f⟩⟩⟩
variable {z : Nat → Int32} {Z : Nat → Nat → Int32} {p : Nat} {Y : Nat → Nat → Int32} {c : Nat → Bool} {cd : Nat → Nat} {n : Nat}
theorem opW {r : Int32} (lw : ∀ P : am_HI → am_G → Prop, am_Cg MC (.ref 0 :: as) hi g (some (.int r)) P → am_Cl ML (.ref 0 :: (as ++ [.ref 133])) hi g 0 (fun h g' => ∃ g2, P h g2 ∧ g' = am_upl g2 133 0 r.toInt64))
    (hc : am_Cg MC (.ref 0 :: as) hi g (some (.int r)) (fun h g' => frC hi h ∧ CS h g' z Z p Y c cd n)) (hq : ∀ h g1, am_Inv g1 → frC hi h → am_Cr MX (.ref 123 :: as) h g1 (some (.int r)) (fun h2 => frM h h2 ∧ h2 123 10 = 0 ∧ (∀ j, j < 172 → h2 124 j = z j) ∧ MM h2 (h2 124) Z p Y c cd n))
    (ok : OKz z) (okZ : ∀ i, i < p → OKz (Z i)) (okY : ∀ k, k < 2 → c k = true → OKz (Y k)) : OpI ML MX as hi g :=
  ⟨0, _, lw _ hc, fun h g1 hI1 ⟨g2, ⟨f, a⟩, e⟩ => ⟨r, _, hq h g1 hI1 f, fun h2 ⟨f2, t, e2, m⟩ => ⟨t, fun _ => by rw [e]; exact upl_at _ _ _ _, by rw [e]; exact (LI.of a f2 m e2 ok okZ okY).upl _ _ _⟩⟩⟩
theorem opWB {x : Bool} (lw : ∀ P : am_HI → am_G → Prop, am_Cg MC (.ref 0 :: as) hi g (some (.int (bI x))) P → am_Cl ML (.ref 0 :: (as ++ [.ref 133])) hi g 0 (fun h g' => ∃ g2, P h g2 ∧ g' = am_upl g2 133 0 (if x = true then 1 else 0)))
    (hc : am_Cg MC (.ref 0 :: as) hi g (some (.int (bI x))) (fun h g' => frC hi h ∧ CS h g' z Z p Y c cd n)) (hq : ∀ h g1, am_Inv g1 → frC hi h → am_Cr MX (.ref 123 :: as) h g1 (some (.int (bI x))) (fun h2 => frM h h2 ∧ h2 123 10 = 0 ∧ (∀ j, j < 172 → h2 124 j = z j) ∧ MM h2 (h2 124) Z p Y c cd n))
    (ok : OKz z) (okZ : ∀ i, i < p → OKz (Z i)) (okY : ∀ k, k < 2 → c k = true → OKz (Y k)) : OpB ML MX as hi g :=
  ⟨0, _, lw _ hc, fun h g1 hI1 ⟨g2, ⟨f, a⟩, e⟩ => ⟨x, _, hq h g1 hI1 f, fun h2 ⟨f2, t, e2, m⟩ => ⟨t, fun _ => by rw [e]; exact upl_at _ _ _ _, by rw [e]; exact (LI.of a f2 m e2 ok okZ okY).upl _ _ _⟩⟩⟩
theorem opV {r : Value} (hI : am_Inv g) (a : LI hi g) (hc : am_Cr MC [.ref 0] hi g (some r) (fun h => RO hi h)) (hq : ∀ h g1, am_Inv g1 → h 124 = hi 124 → am_Cr MX [.ref 123] h g1 (some r) (fun h2 => MS h h2 ∧ h2 123 10 = 0)) : OpV MC MX r hi g :=
  ⟨_, hc.g hI, fun h g1 hI1 ⟨f, e⟩ => ⟨_, hq h g1 hI1 f.z, fun h2 ⟨f2, _⟩ => by rw [e]; exact (a.ro f).ms f2⟩⟩
theorem opVW {r : Value} (hc : am_Cg MC [.ref 0] hi g (some r) (fun h g' => frC hi h ∧ CS h g' z Z p Y c cd n)) (hq : ∀ h g1, am_Inv g1 → frC hi h → am_Cr MX [.ref 123] h g1 (some r) (fun h2 => frM h h2 ∧ h2 123 10 = 0 ∧ (∀ j, j < 172 → h2 124 j = z j) ∧ MM h2 (h2 124) Z p Y c cd n))
    (ok : OKz z) (okZ : ∀ i, i < p → OKz (Z i)) (okY : ∀ k, k < 2 → c k = true → OKz (Y k)) : OpV MC MX r hi g :=
  ⟨_, hc, fun h g1 hI1 ⟨f, a⟩ => ⟨_, hq h g1 hI1 f, fun h2 ⟨f2, _, e2, m⟩ => LI.of a f2 m e2 ok okZ okY⟩⟩
theorem qW {av : List Value} {r : Option Value} (h : am_Cr MX av hi g r (fun h => frM hi h ∧ h 123 10 = 0 ∧ MM h z Z p Y c cd n)) : am_Cr MX av hi g r (fun h2 => frM hi h2 ∧ h2 123 10 = 0 ∧ (∀ j, j < 172 → h2 124 j = z j) ∧ MM h2 (h2 124) Z p Y c cd n) :=
  h.mono (fun h2 ⟨a, b, m⟩ => ⟨a, b, fun j _ => by rw [m.1], by rw [m.1]; exact m⟩)
theorem crW {av : List Value} {r : Option Value} (hI : am_Inv g) (h : am_Cr MC av hi g r (fun h => frC hi h ∧ CS h g z Z p Y c cd n)) : am_Cg MC av hi g r (fun h g' => frC hi h ∧ CS h g' z Z p Y c cd n) :=
  (h.g hI).mono (fun h' g' ⟨a, e⟩ => by rw [e]; exact a)
end OPS
theorem svZ_ok {Z : Nat → Nat → Int32} {p : Nat} {z : Nat → Int32} (okZ : ∀ i, i < p → OKz (Z i)) (ok : OKz z) : ∀ i, i < svp p → OKz (svZ Z p z i) := by
  intro i hi
  unfold svp at hi
  unfold svZ
  by_cases h : p < 6
  · rw [if_pos h] at hi ⊢
    by_cases e : i = p
    · rw [if_pos e]; exact ok
    · rw [if_neg e]; exact okZ i (by omega)
  · rw [if_neg h] at hi ⊢
    by_cases e : i = 5
    · rw [if_pos e]; exact ok
    · rw [if_neg e]; exact okZ (i + 1) (by omega)
/-! ===== what a check says of an argument ===== -/
section CN
variable {z : Nat → Int32} {x : Int32}
theorem cS (ok : OKz z) (h : wi x 0 (z 48 - 1) = true) : ∃ t, t < zc z ∧ x = nI t := by
  rw [ok.1.1] at h
  exact (wi_lt (by have := ok.1.2.1; omega)).mp h
theorem cT (ok : OKz z) (h : wi x 0 (z 48) = true) : ∃ t, t ≤ zc z ∧ x = nI t := by
  rw [ok.1.1] at h
  obtain ⟨k, -, h2, h3⟩ := wi_nI (a := 0) (by have := ok.1.2.1; omega) h (by decide)
  exact ⟨k, h2, h3⟩
theorem cAB {a b : Nat} (hb : b < 2147483648) (ha : a < 2147483648) (h : wi x (nI a) (nI b) = true) : ∃ k, (a ≤ k ∧ k ≤ b) ∧ x = nI k := by
  obtain ⟨k, h1, h2, h3⟩ := wi_nI hb h ha
  exact ⟨k, ⟨h1, h2⟩, h3⟩
theorem cW4 (h : wi x 1 4 = true) : ∃ k, k < 4 ∧ x = nI (k + 1) := by
  obtain ⟨k, ⟨h1, h2⟩, h3⟩ := cAB (a := 1) (b := 4) (by decide) (by decide) h
  exact ⟨k - 1, by omega, by rw [h3, show k - 1 + 1 = k by omega]⟩
theorem cK5 (h : wi x 0 4 = true) : ∃ k, k < 5 ∧ x = nI k := by
  obtain ⟨k, ⟨h1, h2⟩, h3⟩ := cAB (a := 0) (b := 4) (by decide) (by decide) h
  exact ⟨k, by omega, h3⟩
theorem cP7 (h : wi x 0 7 = true) : ∃ k, k ≤ 7 ∧ x = nI k := by
  obtain ⟨k, ⟨h1, h2⟩, h3⟩ := cAB (a := 0) (b := 7) (by decide) (by decide) h
  exact ⟨k, h2, h3⟩
theorem cK2 (h : wi x 0 1 = true) : ∃ k, k < 2 ∧ x = nI k := by
  obtain ⟨k, ⟨h1, h2⟩, h3⟩ := cAB (a := 0) (b := 1) (by decide) (by decide) h
  exact ⟨k, by omega, h3⟩
theorem cN {c : Nat} (hc : c < 1000000) (h : wi x 0 (nI c - 1) = true) : ∃ t, t < c ∧ x = nI t := (wi_lt hc).mp h
theorem b_f {b : Bool} (h : ¬ b = true) : b = false := by cases b <;> simp_all
end CN
