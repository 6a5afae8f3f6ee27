/-! ===== what the class throws: needIndex, needArgument, needPossible ===== -/
theorem am_thrown {M : am_M} {hi : am_HI} {g : am_G} {E text : String} {names : List String} {ik is ic j : Nat} {Φ : am_P} (hpl : plainName (am_y M).cls = true) (hh : am_hh M = []) (hnL : am_nL M = 1)
    (hcls : Bundle.fit E = true) (hnames : ∀ n ∈ names, Bundle.fit n = true) (hw1 : Cond.classLink (am_y M).cls ik E ∈ am_GT) (hw2 : Cond.initialized E ∈ am_GT)
    (hat1 : ∀ w ∈ (vx_atS (am_y M).cls ic E names).filter goodWord, w ∈ am_GT) (hat2 : ∀ w ∈ (vx_atS (am_y M).cls ic E names).filter (fun w => !goodWord w), w ∈ am_NW)
    (hgood : ∀ w ∈ Cond.classLink (am_y M).cls ik E :: Cond.initialized E :: vx_atS (am_y M).cls ic E names, vx_ot w = true)
    (hstr : ∀ (v : am_E) (U : State), am_K v U → vk_R (am_y M).cls is text (v.2.2.2 j) U)
    (d0 : decode (am_cc M) 0 = .ok (.iload_n 0, 1)) (d1 : decode (am_cc M) 1 = .ok (.ifCond .ne 14, 3)) (d4 : decode (am_cc M) 4 = .ok (.new ik, 3)) (d7 : decode (am_cc M) 7 = .ok (.dup, 1)) (d8 : decode (am_cc M) 8 = .ok (.ldc_w is, 3)) (d11 : decode (am_cc M) 11 = .ok (.invokespecial ic, 3)) (d14 : decode (am_cc M) 14 = .ok (.athrow, 1))
    (hfr : names.length + 3 < am_fr M) (hlo : 13 * (names.length + 1) + 43 ≤ am_lo M) (hN : 0 < am_N g.1) (hg : g.1 = none) (hΦ : Φ (.error E) hi g) : am_Ct M (1, 6) [.int 0] hi g Φ := by
  intro l v hl
  refine vx_ofW (cc := am_cc M) (maxL := am_nL M) (ret := am_rt M) hpl (by unfold am_hd; rw [hh]) ?_
  intro p e s m args below meth c s₁ B hml hxt hp
  obtain ⟨rfl, hK, hZ, hR, hn0, hz⟩ := hp
  have hx := B.exec
  have hb := B.bytes
  have hts0 := atoms_spec (ws := am_hd M :: am_GT) B.pre
  have hts : ∀ w ∈ am_GT, w.before ([Value.int 0].map (am_cv v.1)).toArray s = true := fun w hw => hts0 w (List.mem_cons_of_mem _ hw)
  have hown : s.vm.findClass (am_y M).cls = some m.cls := findClass_of_methodNamed B.named
  have hlocks := B.notSynchronized
  rw [lg_entry_eq]
  have hlen : (lg_sl ([Value.int 0].map (am_cv v.1))).length ≤ am_nL M := by rw [hnL]; exact Nat.le_refl _
  have hle := lv_entry ([Value.int 0].map (am_cv v.1)) hlen
  generalize (lg_sl ([Value.int 0].map (am_cv v.1)) ++ List.replicate (am_nL M - (lg_sl ([Value.int 0].map (am_cv v.1))).length) Slot.unset).toArray = ls at hle ⊢
  have hls : lv_has ls (am_nL M) (am_L v.1 0 (am_ent (am_nL M) [.int 0])) := ⟨hle.1, hle.2.1, fun q hq => hle.2.2 q (am_ent_mem _ _ q hq)⟩
  refine lv_iload_n hx hb d0 rfl (am_get hls (k := 0) (v := .int 0) (by rw [hnL]; rfl) rfl) ?_
  refine lv_if_ne hx hb (tgt := 15) d1 rfl (fun h => absurd rfl h) (fun _ => ?_)
  refine vx_throwSW (own := (am_y M).cls) (cls := E) (text := text) (names := names) (ik := ik) (is := is) (ic := ic) (sa := v.2.2.2 j) (A := am_A v) hx hb hl hown hcls hnames (hts _ hw1) (hts _ hw2) (hstr v s hK) (vx_hat (fun w hw => hts w (hat1 w hw)) hat2 (fun w hw => am_nw_use hw (hK.2.2.2.2.1 w hw))) hgood hZ.1 hZ.2 va_S.rf (hls.1.trans hml.symm) d4 d7 d8 d11 d14 ?_ ?_ ?_ ?_ ?_ hlocks ?_ (fun z hz => by cases hz) ?_ ?_
  · intro x hm
    exact (hxt x hm).elim
  · exact hfr
  · show 0 + _ ≤ am_lo M
    omega
  · exact Nat.le_refl _
  · exact Nat.le_refl _
  · intro t ht h1 h2
    refine ⟨hi, g, hΦ, ⟨hR.1.kept (fun k q hk => h2 _ (hR.1 k q hk).lt), Nat.le_trans hR.2 h1⟩, h1, fun q hq _ => h2 q hq⟩
  · exact Nat.le_refl _
  · exact Nat.le_refl _
/-- a contract of a method that throws this, here -/
def am_Th (M : am_M) (av : List Value) (hi : am_HI) (g : am_G) (E : String) (P : am_HI → Prop) : Prop := am_Ct M (1, 6) av hi g (fun r h g' => r = .error E ∧ g' = g ∧ P h)
theorem am_thn {M : am_M} {av : List Value} {hi : am_HI} {g : am_G} {E : String} {P : am_HI → Prop} (hpl : plainName (am_y M).cls = true) (hlen : (am_flat av).length ≤ am_nL M) (h : ∀ Φ : am_P, (∀ h', P h' → Φ (.error E) h' g) → AP M (1, 6) 0 (am_ent (am_nL M) av) [] hi g Φ) : am_Th M av hi g E P :=
  am_ct hpl hlen (h _ (fun _ hp => ⟨rfl, rfl, hp⟩))
theorem c_needI0 {hi : am_HI} {g : am_G} (hI : am_Inv g) : am_Th M_X9_needIndex [.int 0] hi g am_x0 (fun h => h = hi) :=
  am_thrown (text := "there is no such sample, block, bit or slot") (names := ["java/lang/RuntimeException", "java/lang/Exception"]) (ik := 299) (is := 301) (ic := 303) (j := 0) (by decide) rfl rfl (by decide +kernel) (by decide +kernel) (by decide +kernel) (by decide +kernel) (by decide +kernel) (by decide +kernel) (by decide +kernel) (fun _ _ h => h.2.1) (by decide +kernel) (by decide +kernel) (by decide +kernel) (by decide +kernel) (by decide +kernel) (by decide +kernel) (by decide +kernel) (by decide) (by decide) (hI.lt (k := 0) (by decide)) hI.1 ⟨rfl, rfl, rfl⟩
theorem c_needA0 {hi : am_HI} {g : am_G} (hI : am_Inv g) : am_Th M_X9_needArgument [.int 0] hi g am_x1 (fun h => h = hi) :=
  am_thrown (text := "an argument is out of its range") (names := ["java/lang/RuntimeException", "java/lang/Exception"]) (ik := 306) (is := 308) (ic := 310) (j := 1) (by decide) rfl rfl (by decide +kernel) (by decide +kernel) (by decide +kernel) (by decide +kernel) (by decide +kernel) (by decide +kernel) (by decide +kernel) (fun _ _ h => h.2.2.1) (by decide +kernel) (by decide +kernel) (by decide +kernel) (by decide +kernel) (by decide +kernel) (by decide +kernel) (by decide +kernel) (by decide) (by decide) (hI.lt (k := 0) (by decide)) hI.1 ⟨rfl, rfl, rfl⟩
theorem c_needP0 {hi : am_HI} {g : am_G} (hI : am_Inv g) : am_Th M_X9_needPossible [.int 0] hi g am_x2 (fun h => h = hi) :=
  am_thrown (text := "the call is not possible as things are") (names := ["java/lang/RuntimeException", "java/lang/Exception"]) (ik := 311) (is := 313) (ic := 315) (j := 2) (by decide) rfl rfl (by decide +kernel) (by decide +kernel) (by decide +kernel) (by decide +kernel) (by decide +kernel) (by decide +kernel) (by decide +kernel) (fun _ _ h => h.2.2.2.1) (by decide +kernel) (by decide +kernel) (by decide +kernel) (by decide +kernel) (by decide +kernel) (by decide +kernel) (by decide +kernel) (by decide) (by decide) (hI.lt (k := 0) (by decide)) hI.1 ⟨rfl, rfl, rfl⟩
theorem c_need1 {M : am_M} {hi : am_HI} {g : am_G} (hpl : plainName (am_y M).cls = true) (hnL : am_nL M = 1) (hrt : am_rt M = none) (d0 : decode (am_cc M) 0 = .ok (.iload_n 0, 1)) (d1 : decode (am_cc M) 1 = .ok (.ifCond .ne 14, 3)) (d15 : decode (am_cc M) 15 = .ok (.return_, 1)) : am_Cr M [.int 1] hi g none (fun h => h = hi) := by
  refine am_crn hpl (by rw [hnL]; exact Nat.le_refl _) (fun Φ hΦ => ?_)
  refine AP.iload_n (x := 1) (i := 0) d0 rfl (by rw [hnL]; rfl) ?_
  refine AP.if_ne (tgt := 15) d1 rfl (fun _ => ?_) (fun h => absurd h (by decide))
  exact AP.vret d15 hrt (hΦ _ rfl)
theorem c_needI1 {hi : am_HI} {g : am_G} : am_Cr M_X9_needIndex [.int 1] hi g none (fun h => h = hi) := c_need1 (by decide) rfl rfl (by decide +kernel) (by decide +kernel) (by decide +kernel)
theorem c_needA1 {hi : am_HI} {g : am_G} : am_Cr M_X9_needArgument [.int 1] hi g none (fun h => h = hi) := c_need1 (by decide) rfl rfl (by decide +kernel) (by decide +kernel) (by decide +kernel)
theorem c_needP1 {hi : am_HI} {g : am_G} : am_Cr M_X9_needPossible [.int 1] hi g none (fun h => h = hi) := c_need1 (by decide) rfl rfl (by decide +kernel) (by decide +kernel) (by decide +kernel)
theorem AP.thrS {M M' : am_M} {b : Nat × Nat} {pc : Nat} {L rest : List Value} {hi : am_HI} {g : am_G} {Φ : am_P} {idx : Nat} {E : String} (hI : am_Inv g) (hh : am_hh M = []) (hb : 1 ≤ b.1 ∧ 6 ≤ b.2) (hc : am_Th M' [.int 0] hi g E (fun h => h = hi)) (cs : am_csS M idx M' 1) (hd : decode (am_cc M) pc = .ok (.invokestatic idx, 3)) (hrest : (rest.map Value.category).sum ≤ 8) (hΦ : Φ (.error E) hi g) : AP M b pc L (.int 0 :: rest) hi g Φ :=
  AP.callS (b2 := (0, 0)) (As := [.int 0]) hc cs hd rfl hrest ⟨hb.1, hb.2⟩ (am_ph.none hI.1 (fun r h g' q => by rw [q.2.1]; exact hI.1)) (fun E' h' g' q => by
    obtain ⟨q1, rfl, rfl⟩ := q
    cases q1
    exact ⟨hΦ, hh⟩) (fun r h' g' q => by cases q.1)
/-! the callers: by program -/
