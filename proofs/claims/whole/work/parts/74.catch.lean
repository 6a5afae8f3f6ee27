/-! ===== a call whose exception is caught here ===== -/
def am_pass (M : am_M) (E : String) (z : Nat × Nat × Nat × Nat) : Prop := z.2.2.2 ≠ 0 ∧ ∃ nm : String, Cond.classLink (am_y M).cls z.2.2.2 nm ∈ am_GT ∧ (E, nm) ∈ am_NC
def am_cg (M : am_M) (pc : Nat) (E : String) (hp : Nat) : Prop := ∃ (pre : List (Nat × Nat × Nat × Nat)) (x : Nat × Nat × Nat × Nat) (suf : List (Nat × Nat × Nat × Nat)) (nm : String), am_hh M = pre ++ x :: suf ∧ (∀ z ∈ pre, am_pass M E z) ∧ (x.1 ≤ pc ∧ pc < x.2.1) ∧ x.2.2.1 = hp ∧ x.2.2.2 ≠ 0 ∧ Cond.classLink (am_y M).cls x.2.2.2 nm ∈ am_GT ∧ Cond.castable E nm ∈ am_NW
/-- the handler begins with a store of what was thrown, into the place i -/
def am_ah (M : am_M) (hp i npc : Nat) : Prop := i < am_nL M ∧ ((∃ k : Fin 4, decode (am_cc M) hp = .ok (.astore_n k, 1) ∧ (k : Nat) = i ∧ hp + 1 = npc) ∨ (decode (am_cc M) hp = .ok (.astore i, 2) ∧ hp + 2 = npc))
theorem am_putx {ls : Array Slot} {nL n0 i : Nat} {L : List Value} {q : Nat} (h : lv_has ls nL ((i, .ref q) :: (am_L n0 0 L).filter (fun r => !(r.1 == i) && !(r.1 + 1 == i && r.2.category == 2)))) : lv_has ls nL (am_L n0 0 (am_st L i jk)) := by
  refine ⟨h.1, h.2.1, fun r hr => h.2.2 r ?_⟩
  obtain ⟨j, w⟩ := r
  obtain ⟨k, u, h1, h2, h3, h4⟩ := (am_L_mem _ 0).mp hr
  have hj : j = k := by omega
  subst hj
  rcases am_st_at h1 h2 with ⟨e1, e2⟩ | ⟨e1, e2, e3, -⟩
  · rw [e2] at h2; cases h2
  · refine List.mem_cons_of_mem _ (List.mem_filter.mpr ⟨(am_L_mem _ 0).mpr ⟨j, u, e2, h2, by omega, h4⟩, ?_⟩)
    rw [h4, am_cv_cat]
    simp only [Bool.and_eq_true, Bool.not_eq_true', beq_eq_false_iff_ne, Bool.and_eq_false_iff]
    refine ⟨e1, ?_⟩
    by_cases h5 : j + 1 = i
    · exact Or.inr (e3 h5)
    · exact Or.inl h5
theorem am_caughtat {M : am_M} {c : Code} {pre suf : List (Nat × Nat × Nat × Nat)} {x : Nat × Nat × Nat × Nat} (h : am_hh M = pre ++ x :: suf) (hx : am_xt M c) :
    ∃ (pre' : List ExceptionTableEntry) (x' : ExceptionTableEntry) (suf' : List ExceptionTableEntry), c.exceptionTable.toList = pre' ++ x' :: suf' ∧ (∀ z ∈ pre', (z.startPc, z.endPc, z.handlerPc, z.catchType) ∈ pre) ∧ (x'.startPc, x'.endPc, x'.handlerPc, x'.catchType) = x := by
  unfold am_xt at hx
  rw [h] at hx
  obtain ⟨p1, p2, e1, e2, e3⟩ := List.map_eq_append_iff.mp hx
  obtain ⟨x', s', e4, e5, e6⟩ := List.map_eq_cons_iff.mp e3
  refine ⟨p1, x', s', by rw [e1, e4], fun z hz => ?_, e5⟩
  rw [← e2]
  exact List.mem_map_of_mem hz
theorem AP.callVX {M M' : am_M} {b b2 : Nat × Nat} {pc : Nat} {L st rest : List Value} {hi : am_HI} {g : am_G} {Φ : am_P} {E : String} {P : am_HI → Prop} {idx k ci hp i npc : Nat} {q : vw_C} {As : List Value} (hI : am_Inv g) (hc : am_Th M' (.ref k :: As) hi g E P) (cs : am_csV M idx M' As.length) (hd : decode (am_cc M) pc = .ok (.invokevirtual idx, 3)) (hst : st = As.reverse ++ .ref k :: rest) (hs : am_SH k = (0, ci)) (hk : k < 134) (hq : vwCl[ci]? = some q) (hC : q.1 = (am_y M').cls) (hrest : (rest.map Value.category).sum ≤ 8)
    (hb : 1 + b2.1 ≤ b.1 ∧ 6 + b2.2 ≤ b.2) (hcg : am_cg M pc E hp) (hah : am_ah M hp i npc) (h : ∀ h' : am_HI, P h' → AP M b2 npc (am_st L i jk) [] h' g Φ) : AP M b pc L st hi g Φ := by
  subst hst
  intro l v p e R s m args below meth c H locs cells slots ls Q C X hl Y
  refine W.bound (fun hH => ?_)
  obtain ⟨c1, c2, c3, c4, c5, c6, c7, c8, c9, c10, c11, c12, c13, c14, c15⟩ := id C
  have hpr := am_pre (av := .ref k :: As) c11 c12 c13 Y hH
  have hrun := vx_runV (p := p) (e := e) (below := below) (meth := meth) (H := H) (locs := locs) (R := R) (cells := cells) (slots := slots) (mc := 1) (ms := 6) (n := As.length) (C := (am_y M').cls) (b := v.1 + k) (As := As.map (am_cv v.1)) (rest := rest.map (am_cv v.1)) (g := F0 m pc ls ((As.reverse ++ .ref k :: rest).map (am_cv v.1))) ⟨c1, c2, c3, c5, c6⟩ (hc l v c14) ⟨cs.1.cb c6 c9 c10 cs.2.1, c6 _ cs.2.2.1, c6 _ cs.2.2.2⟩
    ⟨hpr.1, by rw [← hC]; exact va_recv (q0 := k) (ci := ci) c11.1 Y.1.1 hq (by rw [am_ws_get (hI.lt hk), hs]; rfl), hpr.2⟩ rfl (by simp) hl.1 (by simp [List.map_append, List.map_reverse, am_cv]) (by
      have : (rest.map (am_cv v.1)).map (fun v => v.category) = rest.map Value.category := by rw [List.map_map]; exact List.map_congr_left (fun x _ => am_cv_cat _ x)
      rw [this]
      show 2 * 0 + _ ≤ 8
      omega) hd ⟨by have := Y.2.2.1; omega, by have := Y.2.2.2.1; omega⟩
  refine am_back (b' := (1, 6)) (idx := idx) (b2 := b2) (Ψ := fun r h g' => r = .error E ∧ g' = g ∧ P h) (am_ph.none hI.1 (fun r h' g' h => by rw [h.2.1]; exact hI.1)) hb Y hrun (fun E' hi' g' H1 locs1 q' ce hΨ Y1 h1 h2 h3 => ?_) (fun r hi' g' H1 locs1 hΨ Y1 => by cases hΨ.1)
  obtain ⟨eE, rfl, hP⟩ := hΨ
  cases eE
  obtain ⟨pre, x, suf, nm, e1, e2, e3, e4, e5, e6, e7⟩ := hcg
  obtain ⟨pre', x', suf', f1, f2, f3⟩ := am_caughtat e1 c15
  subst f3
  refine vx_catch (name := nm) c5 pre' x' suf' f1 (fun z hz => ?_) (by simp only [covers, Bool.and_eq_true, decide_eq_true_eq]; exact e3) e5 (c6 _ e6) (am_nw_use e7 (c11.2.2.2.2.1 _ e7)) h1 h2 h3 ?_
  · obtain ⟨a1, nm', a2, a3⟩ := e2 _ (f2 z hz)
    exact Or.inr ⟨a1, nm', c6 _ a2, c11.2.2.2.2.2 _ a3⟩
  · obtain ⟨hn, hah⟩ := hah
    have e4' : x'.handlerPc = hp := e4
    rw [e4']
    rcases hah with ⟨k', d1, d2, d3⟩ | ⟨d1, d3⟩
    · exact lv_astore_n c1 c2 d1 d2 hl hn rfl (fun ls' hl' => by rw [d3]; exact h hi' hP l v p e R s m args below meth c H1 locs1 _ _ ls' Q C X (am_putx hl') Y1)
    · exact lv_astore c1 c2 d1 hl hn rfl (fun ls' hl' => by rw [d3]; exact h hi' hP l v p e R s m args below meth c H1 locs1 _ _ ls' Q C X (am_putx hl') Y1)
/-- a contract of one of the law's own methods: the code that it answers, and the store then -/
def am_Cl (M : am_M) (av : List Value) (hi : am_HI) (g : am_G) (code : Int32) (P : am_HI → am_G → Prop) : Prop := am_Ct M (1, 6) av hi g (fun r h g' => r = .ok (some (.int code)) ∧ am_Inv g' ∧ P h g')
theorem am_cln {M : am_M} {av : List Value} {hi : am_HI} {g : am_G} {code : Int32} {P : am_HI → am_G → Prop} (hpl : plainName (am_y M).cls = true) (hlen : (am_flat av).length ≤ am_nL M) (h : ∀ Φ : am_P, (∀ h' g', am_Inv g' → P h' g' → Φ (.ok (some (.int code))) h' g') → AP M (1, 6) 0 (am_ent (am_nL M) av) [] hi g Φ) : am_Cl M av hi g code P :=
  am_ct hpl hlen (h _ (fun _ _ hi hp => ⟨rfl, hi, hp⟩))
theorem am_Cr.g {M : am_M} {av : List Value} {hi : am_HI} {g : am_G} {r : Option Value} {P : am_HI → Prop} (hI : am_Inv g) (h : am_Cr M av hi g r P) : am_Cg M av hi g r (fun h' g' => P h' ∧ g' = g) :=
  am_Ct.mono h (fun _ _ g' q => ⟨q.1, by rw [q.2.1]; exact hI, q.2.2, q.2.1⟩)
theorem am_Inv.upl {g : am_G} (h : am_Inv g) (k j : Nat) (x : Int64) : am_Inv (am_upl g k j x) := ⟨h.1, h.2⟩
theorem lw_c0 : Cond.castable am_x0 am_x0 ∈ am_NW := am_nw 852 (by decide +kernel) (by decide +kernel)
theorem lw_c1 : Cond.castable am_x1 am_x1 ∈ am_NW := am_nw 737 (by decide +kernel) (by decide +kernel)
theorem lw_c2 : Cond.castable am_x2 am_x2 ∈ am_NW := am_nw 812 (by decide +kernel) (by decide +kernel)
theorem lw_l0 : Cond.classLink "CaveEchoesLaw" 25 am_x0 ∈ am_GT := am_gt 842 (by decide +kernel) (by decide +kernel)
theorem lw_l1 : Cond.classLink "CaveEchoesLaw" 13 am_x1 ∈ am_GT := am_gt 723 (by decide +kernel) (by decide +kernel)
theorem lw_l2 : Cond.classLink "CaveEchoesLaw" 15 am_x2 ∈ am_GT := am_gt 724 (by decide +kernel) (by decide +kernel)
