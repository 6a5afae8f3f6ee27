/-! ===== the law's start ===== -/
section QST
variable {S : am_S} {b : Nat × Nat} {pc : Nat} {L L' st : List Value} {hi : am_HI} {g : am_G}
theorem QP.dup {u : Value} (hd : decode code pc = .ok (.dup, 1)) (hu : u.category = 1) (h : QP S b (pc + 1) L (u :: u :: st) hi g) : QP S b pc L (u :: st) hi g :=
  QP.pure (fun l v p e R s m args below meth c H locs cells slots ls Q C hl k => lv_dup C.1 C.2.1 hd (by rw [am_cv_cat]; exact hu) k) h
theorem QP.astore_n {k : Fin 4} {i : Nat} {x : Nat} (hd : decode code pc = .ok (.astore_n k, 1)) (hi' : (k : Nat) = i) (h0 : 0 < i) (hn : i < 9) (hL : am_st L i (.ref x) = L') (h : QP S b (pc + 1) L' st hi g) : QP S b pc L (.ref x :: st) hi g := by
  subst hL
  exact fun l v p e R s m args below meth c H locs cells slots ls Q C X E hl Y => lv_astore_n C.1 C.2.1 hd hi' hl hn rfl (fun ls' hl' => h l v p e R s m args below meth c H locs cells slots ls' Q C X E (am_putS (v := .ref x) h0 hl') Y)
theorem QP.newo {idx ci n N : Nat} {q : vw_C} (hd : decode code pc = .ok (.new idx, 3)) (hg : g.1 = some n) (hs : am_SH n = (0, ci)) (hq : vwCl[ci]? = some q) (hN : q.2.2 = N) (hw1 : Cond.classLink (am_y M_L_law).cls idx q.1 ∈ am_GT) (hw2 : Cond.instantiable q.1 q.2.2 ∈ am_GT) (hw3 : Cond.initialized q.1 ∈ am_GT) (h : QP S b (pc + 3) L (.ref n :: st) (am_mkI hi n) (am_mk g n)) : QP S (b.1 + 1, b.2 + N) pc L st hi g :=
  fun l v p e R s m args below meth c H locs cells slots ls Q C X E hl Y => am_newW C Y hg hs hq hN hw1 hw2 hw3 hd (fun H1 Y1 => h l v p e R s m args below meth c H1 locs _ _ ls Q C X E hl Y1)
theorem QP.newL {n N : Nat} {x : Int32} (hd : decode code pc = .ok (.newarray .long, 2)) (hg : g.1 = some n) (hs : am_SH n = (4, N)) (hx : x = nI N) (hN : N < 20000) (h : QP S b (pc + 2) L (.ref n :: st) (am_mkI hi n) (am_mk g n)) : QP S (b.1 + 1, b.2 + N) pc L (.int x :: st) hi g :=
  fun l v p e R s m args below meth c H locs cells slots ls Q C X E hl Y => am_arrW (t := 3) (ty := .long) (a0 := (N, .inr (.inl (fun _ => 0)))) C Y hg rfl rfl (fun h => h) (by rw [hs]; rfl) (fun cA => rfl) lw_al hx hN (by decide) hd (fun H1 Y1 => h l v p e R s m args below meth c H1 locs _ _ ls Q C X E hl Y1)
theorem QP.init {M' : am_M} {b' : Nat × Nat} {idx k : Nat} {rest : List Value} {P : am_HI → am_G → Prop} (hd : decode code pc = .ok (.invokespecial idx, 3)) (hc : am_Cn M' b' [.ref k] hi g P) (cs : am_csI M_L_law idx M') (hrest : (rest.map Value.category).sum ≤ 8) (hg : ∀ h g', P h g' → ∀ n, g'.1 = some n → ∃ k, g.1 = some k ∧ k + b'.1 ≤ n)
    (h : ∀ (h' : am_HI) (g' : am_G), P h' g' → QP S b (pc + 3) L rest h' g') : QP S (b.1 + b'.1, b.2 + b'.2) pc L (.ref k :: rest) hi g :=
  fun l v p e R s m args below meth c H locs cells slots ls Q C X E hl Y => am_initW C X.2.2.2 hl.1 Y hc cs hd hrest hg (fun h' g' H1 locs1 hP Y1 => h h' g' hP l v p e R s m args below meth c H1 locs1 _ _ ls Q C X E hl Y1)
/-- all is made -/
theorem QP.made {g' : am_G} (hg : g.1 = some 134) (hg' : g'.1 = none) (hrow : ∀ k, k < 134 → g'.2.1 k = g.2.1 k ∧ g'.2.2 k = g.2.2 k) (h : QP S b pc L st hi g') : QP S b pc L st hi g := by
  intro l v p e R s m args below meth c H locs cells slots ls Q C X E hl Y
  have eN : am_N g'.1 = 134 := by rw [hg']; rfl
  have eM : am_N g.1 = 134 := by rw [hg]; rfl
  have ew : am_ws v.1 v.2.2.1 hi g' = am_ws v.1 v.2.2.1 hi g := by
    unfold am_ws
    rw [eN, eM]
    refine List.map_congr_left (fun k hk => ?_)
    obtain ⟨e1, e2⟩ := hrow k (List.mem_range.mp hk)
    rw [e1, e2]
  refine h l v p e R s m args below meth c H locs cells slots ls Q C X E hl ⟨⟨by rw [ew]; exact Y.1.1, ?_⟩, Y.2.1, Y.2.2.1, Y.2.2.2.1, fun n hn => ?_⟩
  · have := Y.1.2
    rw [eM] at this
    rw [eN]
    exact this
  · rw [hg'] at hn
    cases hn
end QST
theorem rowZ_0 {t : Nat} (h1 : t ≠ 49) (h2 : t ≠ 50) (h3 : t ≠ 51) (h4 : t ≠ 55) : rowZ t = 0 := by
  simp [rowZ, upd, h1, h2, h3, h4]
theorem rowZ_ok : OKz rowZ := by
  refine ⟨⟨by decide, by decide, by decide, by decide, by decide, fun t ht => ?_, 31, by decide, by decide, by decide⟩, by decide, by decide, fun h => absurd (by decide) h, fun b hb => ⟨0, ?_, by decide⟩, fun b hb => ⟨0, ?_, by decide⟩, fun t ht => ?_⟩
  · rw [rowZ_0 (by omega) (by omega) (by omega) (by omega)]
    unfold rng
    decide
  · rw [rowZ_0 (by omega) (by omega) (by omega) (by omega)]; rfl
  · rw [rowZ_0 (by omega) (by omega) (by omega) (by omega)]; rfl
  · rw [rowZ_0 (by omega) (by omega) (by omega) (by omega)]; decide
theorem LI_start {hi : am_HI} {g : am_G} (e : ∀ i, i < 123 → hi i = HI0 i) (ez : hi 124 = rowZ) (e123 : hi 123 = fun _ => 0) (e127 : hi 127 = fun _ => 0) (e39 : g.2.1 39 = HR0 39) : LI hi g := by
  refine ⟨fun _ _ => 0, 0, fun _ _ => 0, fun _ => false, fun _ => 0, 0, ⟨?_, ?_, ?_, ?_⟩, ⟨rfl, ?_, ?_, ?_⟩, ?_, fun i h => by omega, fun k _ h => by cases h⟩
  · rw [ez]
    refine ⟨⟨fun t ht => ?_, ?_, ?_, ?_, fun t ht => ?_, ?_⟩, ⟨?_, fun h => absurd (by decide) h, ?_, fun t ht => ?_, fun t ht => ?_, fun t ht => ?_, fun t ht => ?_, fun t ht => ?_⟩, ?_⟩
    · rw [e 3 (by decide), rowZ_0 (by omega) (by omega) (by omega) (by omega)]; rfl
    · rw [e 2 (by decide)]; decide
    · rw [e 2 (by decide)]; decide
    · rw [e 2 (by decide)]; decide
    · rw [e 4 (by decide)]
      rcases (show t = 0 ∨ t = 1 ∨ t = 2 ∨ t = 3 by omega) with rfl | rfl | rfl | rfl <;> decide
    · rw [e 2 (by decide)]; decide
    · rw [e 5 (by decide)]; decide
    · rw [e 5 (by decide)]; decide
    · rw [e 6 (by decide), rowZ_0 (by omega) (by omega) (by omega) (by omega)]; rfl
    · rw [e 7 (by decide), rowZ_0 (by omega) (by omega) (by omega) (by omega)]; rfl
    · rw [e 8 (by decide), rowZ_0 (by omega) (by omega) (by omega) (by omega)]; rfl
    · rw [e 9 (by decide), rowZ_0 (by omega) (by omega) (by omega) (by omega)]; rfl
    · rw [e 10 (by decide), rowZ_0 (by omega) (by omega) (by omega) (by omega)]; rfl
    · rw [e 2 (by decide)]; decide
  · refine ⟨fun i => 40 + 9 * i, ⟨fun i h => ⟨by rw [e39]; show (if i < 6 then some (40 + 9 * i) else none) = _; rw [if_pos h], ?_⟩, fun i j _ _ h => by have h9 : 40 + 9 * i = 40 + 9 * j := h; omega⟩, by rw [e 38 (by decide)]; decide, by decide, fun i h => by omega⟩
    rcases (show i = 0 ∨ i = 1 ∨ i = 2 ∨ i = 3 ∨ i = 4 ∨ i = 5 by omega) with rfl | rfl | rfl | rfl | rfl | rfl <;> decide
  · intro k hk
    refine ⟨by rw [e 114 (by decide)]; rfl, fun h => by cases h⟩
  · exact ⟨by rw [e 115 (by decide)]; decide, by decide, fun i h => by omega⟩
  · exact ⟨by rw [e123]; rfl, by decide, fun i h => by omega⟩
  · intro k hk
    exact ⟨by rw [e127]; rfl, fun h => by cases h⟩
  · exact ⟨by rw [e123]; rfl, by decide, fun i h => by omega⟩
  · rw [ez]; exact rowZ_ok
theorem ki_law_131 : am_csI M_L_law 131 M_X9_init := ⟨by decide +kernel, rfl, rfl, w_67, am_gt 91 (by decide +kernel) (by decide +kernel), am_gt 90 (by decide +kernel) (by decide +kernel), Or.inl (am_gt 89 (by decide +kernel) (by decide +kernel))⟩
theorem ki_law_134 : am_csI M_L_law 134 M_X10_init := ⟨by decide +kernel, rfl, rfl, w_77, am_gt 1206 (by decide +kernel) (by decide +kernel), am_gt 1205 (by decide +kernel) (by decide +kernel), Or.inl (am_gt 1204 (by decide +kernel) (by decide +kernel))⟩
theorem law_start {S : am_S} (hS : S.2.1 ≤ 2048) {hi : am_HI} {g : am_G} (hg : g.1 = some 0) : QP S (646, 26411) 0 [jk, jk, jk, jk, jk, jk, jk, jk, jk] [] hi g := by
  refine QP.newo (b := (645, 26404)) (n := 0) d_L_law_0 hg rfl (q := (RX9, TX9, 7)) rfl rfl (am_gt 87 (by decide +kernel) (by decide +kernel)) (am_gt 88 (by decide +kernel) (by decide +kernel)) w_67 ?_
  refine QP.dup d_L_law_3 rfl ?_
  refine QP.init (b := (523, 4941)) (b' := (122, 21463)) d_L_law_4 (ci_X9_0 rfl (mkI_at _ _) (mk_at _ _)) ki_law_131 (by decide) (FINP.ph rfl (by decide)) (fun h1 g1 f1 => ?_)
  refine QP.astore_n (i := 1) d_L_law_7 rfl (by decide) (by decide) rfl ?_
  refine QP.newo (b := (522, 4926)) (n := 123) d_L_law_8 f1.1 rfl (q := (RX10, TX10, 15)) rfl rfl (am_gt 1202 (by decide +kernel) (by decide +kernel)) (am_gt 1203 (by decide +kernel) (by decide +kernel)) w_77 ?_
  refine QP.dup d_L_law_11 rfl ?_
  refine QP.init (b := (513, 3073)) (b' := (9, 1853)) d_L_law_12 (ci_X10_123 rfl (mkI_at _ _) (mk_at _ _)) ki_law_134 (by decide) (fun h g' f n' hn => ⟨124, rfl, by have := f.1.symm.trans hn; cases this; decide⟩) (fun h2 g2 f2 => ?_)
  refine QP.astore_n (i := 2) d_L_law_15 rfl (by decide) (by decide) rfl ?_
  refine QP.iconst (x := 1) d_L_law_16 (by decide) ?_
  refine QP.newL (b := (512, 3072)) (n := 133) (N := 1) d_L_law_17 f2.1 rfl rfl (by decide) ?_
  refine QP.astore_n (i := 3) d_L_law_19 rfl (by decide) (by decide) rfl ?_
  refine QP.iconst (x := 0) d_L_law_20 (by decide) ?_
  refine QP.istore (i := 4) d_L_law_21 (by decide) (by decide) rfl ?_
  refine QP.made (g' := (none, fun k => if k < 134 then (am_mk g2 133).2.1 k else fun _ => none, (am_mk g2 133).2.2)) rfl rfl (fun k hk => ⟨if_pos hk, rfl⟩) ?_
  have r1 : ∀ i, i < 123 → h2 i = HI0 i ∧ g2.2.1 i = HR0 i := fun i h => ⟨(f2.2.1 i h).1.trans ((mkI_ne (by omega)).trans (f1.2.2 i (by omega) h).1), (f2.2.1 i h).2.trans ((mk_ne (by omega)).trans (f1.2.2 i (by omega) h).2)⟩
  have r2 : ∀ i, i < 133 → (am_mk g2 133).2.1 i = HR0 i := fun i h => (mk_ne (by omega)).trans (by
    by_cases h9 : i < 123
    · exact (r1 i h9).2
    · exact (f2.2.2 i (by omega) h).2)
  refine law_loop hS 512 0 jk jk jk jk _ _ ⟨rfl, fun k j hk => ?_⟩ (LI_start (fun i h => (mkI_ne (by omega)).trans (r1 i h).1) ((mkI_ne (i := 124) (n := 133) (by decide)).trans (f2.2.2 124 (by decide) (by decide)).1) ((mkI_ne (i := 123) (n := 133) (by decide)).trans (f2.2.2 123 (by decide) (by decide)).1) ((mkI_ne (i := 127) (n := 133) (by decide)).trans (f2.2.2 127 (by decide) (by decide)).1) (show (if 39 < 134 then (am_mk g2 133).2.1 39 else fun _ => none) = HR0 39 from (if_pos (by decide)).trans (r2 39 (by decide)))) (by omega) (by decide)
  show (if k < 134 then (am_mk g2 133).2.1 k else fun _ => none) j = am_HRf k j
  by_cases h1 : k < 133
  · rw [if_pos (by omega), r2 k h1]
    show (if k = 39 then _ else am_HRf k) j = am_HRf k j
    rw [if_neg hk]
  · by_cases h2 : k = 133
    · subst h2
      rw [if_pos (by decide), mk_at]
      rfl
    · have e1 : am_HRL.getD k [] = [] := by
        rw [List.getD_eq_getElem?_getD (l := am_HRL), List.getElem?_eq_none (l := am_HRL) (Nat.le_trans (show am_HRL.length ≤ 134 from by decide +kernel) (by omega))]
        rfl
      rw [if_neg (by omega)]
      unfold am_HRf
      rw [e1]
      rfl
