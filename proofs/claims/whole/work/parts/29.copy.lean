/-! ===== arraycopy of ints; switches: by program ===== -/
/-! a member of a class that the machine has entries for, itself without an entry -/
theorem am_ofWF {l : Launch} {y : MethodName} {ws ws' : List Cond} {rm : Room} {Pc : Array Value → State → Prop} {Qc : Array Value → State → Outcome → State → Prop} {XC : String → State → State → Prop} {mc ms : Nat} {free : Addr → Prop} {cc : ByteArray} {maxL : Nat} {ret : Option FieldType}
    (hy : plainFor y = true) (hw : ws = Cond.code y cc maxL ret :: ws')
    (body : ∀ p e s m args below meth c s₁, BodyLoose p l y (headSpec ws rm) cc maxL ret e s m args below meth c s₁ → c.maxLocals = maxL → (∀ x ∈ c.exceptionTable.toList, False) → Pc args s →
      W p l e (headSpec ws rm).room s m args below meth c s.heap [] 0 0 (vx_MQ below Qc XC args s mc ms free) (entryFrame m args maxL)) : vx_Met l y ws rm Pc Qc XC mc ms free := by
  refine MetFree.of_bodySF (code := cc) (maxLocals := maxL) (ret := ret) hy ?_ ?_
  · intro args s m h hn
    obtain ⟨meth, c, h1, h2, h3, h4, h5, h6, -, -⟩ := Cond.code_spec hn (atoms_spec (ws := ws) h _ (by rw [hw]; exact List.mem_cons_self))
    exact ⟨meth, c, h1, h2, h3, h4, h5, h6⟩
  · intro p e s m args below meth c s₁ B hml hP _
    have hh0 : s₁.heap = s.heap := by rw [B.state]; rfl
    have ht : ∀ x ∈ c.exceptionTable.toList, False := by
      obtain ⟨meth9, c9, h1, h2, -, -, -, -, h7, -⟩ := Cond.code_spec B.named (atoms_spec (ws := ws) B.pre _ (by rw [hw]; exact List.mem_cons_self))
      cases Option.some.inj (h1.symm.trans B.method)
      cases Option.some.inj (h2.symm.trans (Stand.of_body B).code)
      intro x hx
      rw [Array.isEmpty_iff.mp h7] at hx
      cases hx
    obtain ⟨t, a1, o, b1, b2, b3⟩ := body p e s m args below meth c s₁ B hml ht hP s₁ hh0 (Stand.of_body B)
    exact ⟨t, o, a1, b1, b2, b3⟩
theorem am_ct0F {M : am_M} {b : Nat × Nat} {av : List Value} {hi : am_HI} {g : am_G} {Φ : am_P} {l : Launch} {v : am_E} (hl : l.stackTraces = false) (hlen : (lg_sl (av.map (am_cv v.1))).length ≤ am_nL M) (h : AP M b 0 (am_ent (am_nL M) av) [] hi g Φ)
    {p : Program} {e : Env} {s : State} {m : MethodId} {args : Array Value} {below : List Frame} {meth : Method} {c : Code} {s₁ : State} (B : BodyLoose p l (am_y M) (headSpec (am_hd M :: am_GT) ({ frames := am_fr M, cells := b.1, slots := b.2, locals := am_lo M })) (am_cc M) (am_nL M) (am_rt M) e s m args below meth c s₁) (hml : c.maxLocals = am_nL M) (hxt : am_xt M c) (hp : am_Pc v av hi g args s) :
    W p l e (headSpec (am_hd M :: am_GT) ({ frames := am_fr M, cells := b.1, slots := b.2, locals := am_lo M })).room s m args below meth c s.heap [] 0 0 (vx_MQ below (am_Qc v Φ) (am_XC v Φ) args s b.1 b.2 (am_A v)) (entryFrame m args (am_nL M)) := by
  obtain ⟨rfl, hK, hZ, hR, hn0, hz⟩ := hp
  have hx := B.exec
  have hb := B.bytes
  have hr := B.returns
  have hts0 := atoms_spec (ws := am_hd M :: am_GT) B.pre
  have hown : s.vm.findClass (am_y M).cls = some m.cls := findClass_of_methodNamed B.named
  have hlocks := B.notSynchronized
  rw [lg_entry_eq]
  have hle := lv_entry (av.map (am_cv v.1)) hlen
  refine h l v p e _ s m _ below meth c s.heap [] 0 0 _ _ ⟨hx, hb, hml, hr, hown, fun w hw => hts0 w (List.mem_cons_of_mem _ hw), hlocks, (name_of_methodNamed B.named B.method).1, Nat.le_refl _, Nat.le_refl _, hK, hZ, hn0, hl, hxt⟩ ⟨?_, ?_⟩ ⟨hle.1, hle.2.1, fun q hq => hle.2.2 q (am_ent_mem _ _ q hq)⟩ ⟨hR, va_S.rf, by show 0 + b.1 ≤ b.1; omega, by show 0 + b.2 ≤ b.2; omega, hz⟩
  · intro r hi' g' H locs cells slots pc ls hΦ hvt hRp hS hc hs hd
    refine W.widen (k := b.1) (n := b.2) hc hs (vx_ret ?_)
    have hq : ∀ t : State, t.heap = H → s.WarmedH t.vm → am_Qc v Φ (av.map (am_cv v.1)).toArray s (.returned (r.map (am_cv v.1))) t := fun t ht _ => ⟨r, hi', g', rfl, hΦ, by rw [ht]; exact hRp, hS.F ht⟩
    generalize hrt : am_rt M = rt at hr hvt hd
    unfold am_vt at hvt
    split at hvt
    · exact W.vret hx hb hr hq hS.2.2 hd hlocks
    · exact W.iret hx hb hr hq hS.2.2 hd hlocks
    · rename_i x
      exact W.zret (v := x) hx hb hr (by rcases hvt with rfl | rfl <;> decide) hq hS.2.2 hd hlocks
    · exact W.lret hx hb hr hq hS.2.2 hd hlocks
    · exact W.dret hx hb hr hq hS.2.2 hd hlocks
    · exact hvt.elim
  · intro E hi' g' H locs cells slots pc ls rest q ce hΦ hRp hS hc hs hout hcell hcv hcl
    exact vx_out hout hlocks hcell hcv hcl (fun t ht _ => ⟨hi', g', hΦ, by rw [ht]; exact hRp, hS.F ht⟩) hS.2.2 hc hs
theorem am_ctF {M : am_M} {b : Nat × Nat} {av : List Value} {hi : am_HI} {g : am_G} {Φ : am_P} (hpl : plainFor (am_y M) = true) (hh : am_hh M = []) (hlen : (am_flat av).length ≤ am_nL M) (h : AP M b 0 (am_ent (am_nL M) av) [] hi g Φ) : am_Ct M b av hi g Φ := by
  intro l v hl
  have hlen' : (lg_sl (av.map (am_cv v.1))).length ≤ am_nL M := by rw [am_sl_len]; exact hlen
  refine am_ofWF (cc := am_cc M) (maxL := am_nL M) (ret := am_rt M) hpl (by unfold am_hd; rw [hh]) ?_
  intro p e s m args below meth c s₁ B hml hxt hp
  refine am_ct0F hl hlen' h B hml ?_ hp
  unfold am_xt
  rw [hh]
  cases hc : c.exceptionTable.toList with
  | nil => rfl
  | cons x xs => exact (hxt x (by rw [hc]; exact List.mem_cons_self)).elim
theorem am_crnF {M : am_M} {av : List Value} {hi : am_HI} {g : am_G} {r : Option Value} {P : am_HI → Prop} (hpl : plainFor (am_y M) = true) (hh : am_hh M = []) (hlen : (am_flat av).length ≤ am_nL M) (h : ∀ Φ : am_P, (∀ h', P h' → Φ (.ok r) h' g) → AP M (0, 0) 0 (am_ent (am_nL M) av) [] hi g Φ) : am_Cr M av hi g r P :=
  am_ctF hpl hh hlen (h _ (fun _ hp => ⟨rfl, rfl, hp⟩))
theorem wcp_385 : Cond.native (⟨"java/lang/System", "arraycopy", "(Ljava/lang/Object;ILjava/lang/Object;II)V"⟩ : MethodName) ∈ am_GT := am_gt 385 (by decide +kernel) (by decide +kernel)
theorem wcp_384 : Cond.static (⟨"java/lang/System", "arraycopy", "(Ljava/lang/Object;ILjava/lang/Object;II)V"⟩ : MethodName) ∈ am_GT := am_gt 384 (by decide +kernel) (by decide +kernel)
theorem wcp_83 : Cond.initialized "java/lang/System" ∈ am_GT := am_gt 83 (by decide +kernel) (by decide +kernel)
/-- a stretch of ints goes from one row into another -/
def am_cp (hi : am_HI) (k0 k1 n : Nat) : am_HI := va_up hi k1 (va_cpy (hi k0) (hi k1) 0 0 n)
theorem AP.copyi {M : am_M} {b : Nat × Nat} {pc : Nat} {L st : List Value} {hi : am_HI} {g : am_G} {Φ : am_P} {idx k0 k1 n0 n1 n : Nat} {x : Int32} (hd : decode (am_cc M) pc = .ok (.invokestatic idx, 3)) (hl : Cond.methodLink (am_y M).cls idx arraycopyName ∈ am_GT) (hf : 1 ≤ am_fr M) (hlo : 45 ≤ am_lo M) (hst : (st.map Value.category).sum ≤ 8) (hI : am_Inv g) (hs0 : am_SH k0 = (1, n0)) (hs1 : am_SH k1 = (1, n1)) (hk0 : k0 < 134) (hk1 : k1 < 134) (hx : x = nI n) (h4 : n ≤ n0 ∧ n ≤ n1 ∧ n < 1000)
    (h : AP M b (pc + 3) L st (am_cp hi k0 k1 n) g Φ) : AP M b pc L (.int x :: .int 0 :: .ref k1 :: .int 0 :: .ref k0 :: st) hi g Φ :=
  AP.hput rfl (by have := hI.lt hk0; omega) (fun l v p e R s m args below meth c H locs cells slots ls Q C hz hP hD hS kk => by
    obtain ⟨c1, c2, c3, c4, c5, c6, c7, c8, c9, c10, c11, c12, c13, c14, c15⟩ := id C
    subst hx
    have e0 : (0 : Int32).toNatClampNeg = 0 := by decide
    have en : (nI n).toNatClampNeg = n := nI_clamp (by omega)
    refine va_copyi (ty := .int) c1 c2 (c3.trans hz.symm) (own := (am_y M).cls) (index := idx) c5 (c6 _ hl) (c6 _ wcp_385) (c6 _ wcp_384) (c6 _ wcp_83) c11.1 hP hD hS k0 k1 0 0 (c0 := v.2.2.1 0) (c1 := v.2.2.1 0) (n0 := n0) (n1 := n1) (f := hi k0) (g := hi k1) (by rw [am_ws_get (hI.lt hk0), hs0]; rfl) (by rw [am_ws_get (hI.lt hk1), hs1]; rfl) rfl rfl rfl (by decide) (by decide) (nI_pos (by omega)) (by rw [e0, en]; omega) (by rw [e0, en]; omega) (fun i _ => rfl) (by omega) ?_ hd (fun H1 locs1 hP1 _ hS1 => ?_)
    · have : (st.map (am_cv v.1)).map (fun v => v.category) = st.map Value.category := by rw [List.map_map]; exact List.map_congr_left (fun x _ => am_cv_cat _ x)
      rw [this]
      have : nativeFrameWords "java/lang/System" "arraycopy" 5 + 11 ≤ 37 := by decide
      omega
    · rw [e0, en, am_ws_setI (va_cpy (hi k0) (hi k1) 0 0 n) (hI.lt hk1) (by rw [hs1]; rfl)] at hP1
      exact kk H1 locs1 hP1 hS1) h
theorem wcp_442 : Cond.methodLink "CaveEchoes$Foreteller" 31 (⟨"java/lang/System", "arraycopy", "(Ljava/lang/Object;ILjava/lang/Object;II)V"⟩ : MethodName) ∈ am_GT := am_gt 442 (by decide +kernel) (by decide +kernel)
theorem s_X0_begin_8 {b : Nat × Nat} {st : List Value} {hi : am_HI} {g : am_G} {Φ : am_P} {x0 x1 x2 x3 : Value} {k0 k1 n0 n1 : Nat} (hI : am_Inv g) (hs0 : am_SH k0 = (1, n0)) (hs1 : am_SH k1 = (1, n1)) (hk0 : k0 < 134) (hk1 : k1 < 134) (h4 : 4 ≤ n0 ∧ 4 ≤ n1 ∧ 4 < 1000) (hst : (st.map Value.category).sum ≤ 8) (h : AP M_X0_begin b 11 [x0, x1, x2, x3] st (am_cp hi k0 k1 4) g Φ) : AP M_X0_begin b 8 [x0, x1, x2, x3] (.int 4 :: .int 0 :: .ref k1 :: .int 0 :: .ref k0 :: st) hi g Φ := AP.copyi d_X0_begin_8 wcp_442 (by decide) (by decide) hst hI hs0 hs1 hk0 hk1 (by decide) h4 h
theorem wcp_390 : Cond.methodLink "CaveEchoes$Letter" 37 (⟨"java/lang/System", "arraycopy", "(Ljava/lang/Object;ILjava/lang/Object;II)V"⟩ : MethodName) ∈ am_GT := am_gt 390 (by decide +kernel) (by decide +kernel)
theorem s_X2_copyFrom_11 {b : Nat × Nat} {st : List Value} {hi : am_HI} {g : am_G} {Φ : am_P} {x0 x1 : Value} {k0 k1 n0 n1 : Nat} (hI : am_Inv g) (hs0 : am_SH k0 = (1, n0)) (hs1 : am_SH k1 = (1, n1)) (hk0 : k0 < 134) (hk1 : k1 < 134) (h4 : 4 ≤ n0 ∧ 4 ≤ n1 ∧ 4 < 1000) (hst : (st.map Value.category).sum ≤ 8) (h : AP M_X2_copyFrom b 14 [x0, x1] st (am_cp hi k0 k1 4) g Φ) : AP M_X2_copyFrom b 11 [x0, x1] (.int 4 :: .int 0 :: .ref k1 :: .int 0 :: .ref k0 :: st) hi g Φ := AP.copyi d_X2_copyFrom_11 wcp_390 (by decide) (by decide) hst hI hs0 hs1 hk0 hk1 (by decide) h4 h
theorem s_X2_copyFrom_26 {b : Nat × Nat} {st : List Value} {hi : am_HI} {g : am_G} {Φ : am_P} {x0 x1 : Value} {k0 k1 n0 n1 : Nat} (hI : am_Inv g) (hs0 : am_SH k0 = (1, n0)) (hs1 : am_SH k1 = (1, n1)) (hk0 : k0 < 134) (hk1 : k1 < 134) (h4 : 6 ≤ n0 ∧ 6 ≤ n1 ∧ 6 < 1000) (hst : (st.map Value.category).sum ≤ 8) (h : AP M_X2_copyFrom b 29 [x0, x1] st (am_cp hi k0 k1 6) g Φ) : AP M_X2_copyFrom b 26 [x0, x1] (.int 6 :: .int 0 :: .ref k1 :: .int 0 :: .ref k0 :: st) hi g Φ := AP.copyi d_X2_copyFrom_26 wcp_390 (by decide) (by decide) hst hI hs0 hs1 hk0 hk1 (by decide) h4 h
theorem s_X2_copyFrom_41 {b : Nat × Nat} {st : List Value} {hi : am_HI} {g : am_G} {Φ : am_P} {x0 x1 : Value} {k0 k1 n0 n1 : Nat} (hI : am_Inv g) (hs0 : am_SH k0 = (1, n0)) (hs1 : am_SH k1 = (1, n1)) (hk0 : k0 < 134) (hk1 : k1 < 134) (h4 : 6 ≤ n0 ∧ 6 ≤ n1 ∧ 6 < 1000) (hst : (st.map Value.category).sum ≤ 8) (h : AP M_X2_copyFrom b 44 [x0, x1] st (am_cp hi k0 k1 6) g Φ) : AP M_X2_copyFrom b 41 [x0, x1] (.int 6 :: .int 0 :: .ref k1 :: .int 0 :: .ref k0 :: st) hi g Φ := AP.copyi d_X2_copyFrom_41 wcp_390 (by decide) (by decide) hst hI hs0 hs1 hk0 hk1 (by decide) h4 h
theorem s_X2_copyFrom_56 {b : Nat × Nat} {st : List Value} {hi : am_HI} {g : am_G} {Φ : am_P} {x0 x1 : Value} {k0 k1 n0 n1 : Nat} (hI : am_Inv g) (hs0 : am_SH k0 = (1, n0)) (hs1 : am_SH k1 = (1, n1)) (hk0 : k0 < 134) (hk1 : k1 < 134) (h4 : 48 ≤ n0 ∧ 48 ≤ n1 ∧ 48 < 1000) (hst : (st.map Value.category).sum ≤ 8) (h : AP M_X2_copyFrom b 59 [x0, x1] st (am_cp hi k0 k1 48) g Φ) : AP M_X2_copyFrom b 56 [x0, x1] (.int 48 :: .int 0 :: .ref k1 :: .int 0 :: .ref k0 :: st) hi g Φ := AP.copyi d_X2_copyFrom_56 wcp_390 (by decide) (by decide) hst hI hs0 hs1 hk0 hk1 (by decide) h4 h
theorem s_X2_copyFrom_71 {b : Nat × Nat} {st : List Value} {hi : am_HI} {g : am_G} {Φ : am_P} {x0 x1 : Value} {k0 k1 n0 n1 : Nat} (hI : am_Inv g) (hs0 : am_SH k0 = (1, n0)) (hs1 : am_SH k1 = (1, n1)) (hk0 : k0 < 134) (hk1 : k1 < 134) (h4 : 48 ≤ n0 ∧ 48 ≤ n1 ∧ 48 < 1000) (hst : (st.map Value.category).sum ≤ 8) (h : AP M_X2_copyFrom b 74 [x0, x1] st (am_cp hi k0 k1 48) g Φ) : AP M_X2_copyFrom b 71 [x0, x1] (.int 48 :: .int 0 :: .ref k1 :: .int 0 :: .ref k0 :: st) hi g Φ := AP.copyi d_X2_copyFrom_71 wcp_390 (by decide) (by decide) hst hI hs0 hs1 hk0 hk1 (by decide) h4 h
theorem wcp_383 : Cond.methodLink "CaveEchoes$State" 41 (⟨"java/lang/System", "arraycopy", "(Ljava/lang/Object;ILjava/lang/Object;II)V"⟩ : MethodName) ∈ am_GT := am_gt 383 (by decide +kernel) (by decide +kernel)
theorem s_X6_copyFrom_12 {b : Nat × Nat} {st : List Value} {hi : am_HI} {g : am_G} {Φ : am_P} {x0 x1 : Value} {k0 k1 n0 n1 : Nat} (hI : am_Inv g) (hs0 : am_SH k0 = (1, n0)) (hs1 : am_SH k1 = (1, n1)) (hk0 : k0 < 134) (hk1 : k1 < 134) (h4 : 48 ≤ n0 ∧ 48 ≤ n1 ∧ 48 < 1000) (hst : (st.map Value.category).sum ≤ 8) (h : AP M_X6_copyFrom b 15 [x0, x1] st (am_cp hi k0 k1 48) g Φ) : AP M_X6_copyFrom b 12 [x0, x1] (.int 48 :: .int 0 :: .ref k1 :: .int 0 :: .ref k0 :: st) hi g Φ := AP.copyi d_X6_copyFrom_12 wcp_383 (by decide) (by decide) hst hI hs0 hs1 hk0 hk1 (by decide) h4 h
theorem s_X6_copyFrom_26 {b : Nat × Nat} {st : List Value} {hi : am_HI} {g : am_G} {Φ : am_P} {x0 x1 : Value} {k0 k1 n0 n1 : Nat} (hI : am_Inv g) (hs0 : am_SH k0 = (1, n0)) (hs1 : am_SH k1 = (1, n1)) (hk0 : k0 < 134) (hk1 : k1 < 134) (h4 : 4 ≤ n0 ∧ 4 ≤ n1 ∧ 4 < 1000) (hst : (st.map Value.category).sum ≤ 8) (h : AP M_X6_copyFrom b 29 [x0, x1] st (am_cp hi k0 k1 4) g Φ) : AP M_X6_copyFrom b 26 [x0, x1] (.int 4 :: .int 0 :: .ref k1 :: .int 0 :: .ref k0 :: st) hi g Φ := AP.copyi d_X6_copyFrom_26 wcp_383 (by decide) (by decide) hst hI hs0 hs1 hk0 hk1 (by decide) h4 h
theorem wcp_652 : Cond.methodLink "CaveEchoes$Study" 94 (⟨"java/lang/System", "arraycopy", "(Ljava/lang/Object;ILjava/lang/Object;II)V"⟩ : MethodName) ∈ am_GT := am_gt 652 (by decide +kernel) (by decide +kernel)
theorem s_X7_findFirst_14 {b : Nat × Nat} {st : List Value} {hi : am_HI} {g : am_G} {Φ : am_P} {x0 x1 x2 x3 x4 x5 : Value} {k0 k1 n0 n1 : Nat} (hI : am_Inv g) (hs0 : am_SH k0 = (1, n0)) (hs1 : am_SH k1 = (1, n1)) (hk0 : k0 < 134) (hk1 : k1 < 134) (h4 : 4 ≤ n0 ∧ 4 ≤ n1 ∧ 4 < 1000) (hst : (st.map Value.category).sum ≤ 8) (h : AP M_X7_findFirst b 17 [x0, x1, x2, x3, x4, x5] st (am_cp hi k0 k1 4) g Φ) : AP M_X7_findFirst b 14 [x0, x1, x2, x3, x4, x5] (.int 4 :: .int 0 :: .ref k1 :: .int 0 :: .ref k0 :: st) hi g Φ := AP.copyi d_X7_findFirst_14 wcp_652 (by decide) (by decide) hst hI hs0 hs1 hk0 hk1 (by decide) h4 h
theorem wcp_926 : Cond.methodLink "CaveEchoes" 322 (⟨"java/lang/System", "arraycopy", "(Ljava/lang/Object;ILjava/lang/Object;II)V"⟩ : MethodName) ∈ am_GT := am_gt 926 (by decide +kernel) (by decide +kernel)
theorem s_X9_writeLetter_81 {b : Nat × Nat} {st : List Value} {hi : am_HI} {g : am_G} {Φ : am_P} {x0 x1 x2 x3 : Value} {k0 k1 n0 n1 : Nat} (hI : am_Inv g) (hs0 : am_SH k0 = (1, n0)) (hs1 : am_SH k1 = (1, n1)) (hk0 : k0 < 134) (hk1 : k1 < 134) (h4 : 4 ≤ n0 ∧ 4 ≤ n1 ∧ 4 < 1000) (hst : (st.map Value.category).sum ≤ 8) (h : AP M_X9_writeLetter b 84 [x0, x1, x2, x3] st (am_cp hi k0 k1 4) g Φ) : AP M_X9_writeLetter b 81 [x0, x1, x2, x3] (.int 4 :: .int 0 :: .ref k1 :: .int 0 :: .ref k0 :: st) hi g Φ := AP.copyi d_X9_writeLetter_81 wcp_926 (by decide) (by decide) hst hI hs0 hs1 hk0 hk1 (by decide) h4 h
theorem s_X0_foretell_1_1 {b : Nat × Nat} {st : List Value} {hi : am_HI} {g : am_G} {Φ : am_P} {x0 x1 : Value} (h : AP M_X0_foretell b 32 [x0, x1] st hi g Φ) : AP M_X0_foretell b 1 [x0, x1] (.int 1 :: st) hi g Φ := AP.tableIn (off := 31) d_X0_foretell_1 (by decide) (by decide) (by decide) (by decide) h
theorem s_X0_foretell_1_2 {b : Nat × Nat} {st : List Value} {hi : am_HI} {g : am_G} {Φ : am_P} {x0 x1 : Value} (h : AP M_X0_foretell b 38 [x0, x1] st hi g Φ) : AP M_X0_foretell b 1 [x0, x1] (.int 2 :: st) hi g Φ := AP.tableIn (off := 37) d_X0_foretell_1 (by decide) (by decide) (by decide) (by decide) h
theorem s_X0_foretell_1_3 {b : Nat × Nat} {st : List Value} {hi : am_HI} {g : am_G} {Φ : am_P} {x0 x1 : Value} (h : AP M_X0_foretell b 55 [x0, x1] st hi g Φ) : AP M_X0_foretell b 1 [x0, x1] (.int 3 :: st) hi g Φ := AP.tableIn (off := 54) d_X0_foretell_1 (by decide) (by decide) (by decide) (by decide) h
theorem s_X0_foretell_1_4 {b : Nat × Nat} {st : List Value} {hi : am_HI} {g : am_G} {Φ : am_P} {x0 x1 : Value} (h : AP M_X0_foretell b 64 [x0, x1] st hi g Φ) : AP M_X0_foretell b 1 [x0, x1] (.int 4 :: st) hi g Φ := AP.tableIn (off := 63) d_X0_foretell_1 (by decide) (by decide) (by decide) (by decide) h
theorem s_X0_foretell_1_d {b : Nat × Nat} {st : List Value} {hi : am_HI} {g : am_G} {Φ : am_P} {x0 x1 : Value} {x : Int32} (hx : x.toInt < 1 ∨ 4 < x.toInt) (h : AP M_X0_foretell b 69 [x0, x1] st hi g Φ) : AP M_X0_foretell b 1 [x0, x1] (.int x :: st) hi g Φ := AP.tableOut d_X0_foretell_1 hx (by decide) h
theorem s_X8_readWork_12_43 {b : Nat × Nat} {st : List Value} {hi : am_HI} {g : am_G} {Φ : am_P} {x0 : Value} (h : AP M_X8_readWork b 96 [x0] st hi g Φ) : AP M_X8_readWork b 12 [x0] (.int 43 :: st) hi g Φ := AP.lookup (off := 84) d_X8_readWork_12 (by decide) (by decide) (by decide) h
theorem s_X8_readWork_12_45 {b : Nat × Nat} {st : List Value} {hi : am_HI} {g : am_G} {Φ : am_P} {x0 : Value} (h : AP M_X8_readWork b 96 [x0] st hi g Φ) : AP M_X8_readWork b 12 [x0] (.int 45 :: st) hi g Φ := AP.lookup (off := 84) d_X8_readWork_12 (by decide) (by decide) (by decide) h
theorem s_X8_readWork_12_100 {b : Nat × Nat} {st : List Value} {hi : am_HI} {g : am_G} {Φ : am_P} {x0 : Value} (h : AP M_X8_readWork b 123 [x0] st hi g Φ) : AP M_X8_readWork b 12 [x0] (.int 100 :: st) hi g Φ := AP.lookup (off := 111) d_X8_readWork_12 (by decide) (by decide) (by decide) h
theorem s_X8_readWork_12_107 {b : Nat × Nat} {st : List Value} {hi : am_HI} {g : am_G} {Φ : am_P} {x0 : Value} (h : AP M_X8_readWork b 176 [x0] st hi g Φ) : AP M_X8_readWork b 12 [x0] (.int 107 :: st) hi g Φ := AP.lookup (off := 164) d_X8_readWork_12 (by decide) (by decide) (by decide) h
theorem s_X8_readWork_12_115 {b : Nat × Nat} {st : List Value} {hi : am_HI} {g : am_G} {Φ : am_P} {x0 : Value} (h : AP M_X8_readWork b 274 [x0] st hi g Φ) : AP M_X8_readWork b 12 [x0] (.int 115 :: st) hi g Φ := AP.lookup (off := 262) d_X8_readWork_12 (by decide) (by decide) (by decide) h
theorem s_X8_readWork_12_116 {b : Nat × Nat} {st : List Value} {hi : am_HI} {g : am_G} {Φ : am_P} {x0 : Value} (h : AP M_X8_readWork b 237 [x0] st hi g Φ) : AP M_X8_readWork b 12 [x0] (.int 116 :: st) hi g Φ := AP.lookup (off := 225) d_X8_readWork_12 (by decide) (by decide) (by decide) h
theorem s_X8_readWork_12_118 {b : Nat × Nat} {st : List Value} {hi : am_HI} {g : am_G} {Φ : am_P} {x0 : Value} (h : AP M_X8_readWork b 150 [x0] st hi g Φ) : AP M_X8_readWork b 12 [x0] (.int 118 :: st) hi g Φ := AP.lookup (off := 138) d_X8_readWork_12 (by decide) (by decide) (by decide) h
theorem s_X8_readWork_12_119 {b : Nat × Nat} {st : List Value} {hi : am_HI} {g : am_G} {Φ : am_P} {x0 : Value} (h : AP M_X8_readWork b 202 [x0] st hi g Φ) : AP M_X8_readWork b 12 [x0] (.int 119 :: st) hi g Φ := AP.lookup (off := 190) d_X8_readWork_12 (by decide) (by decide) (by decide) h
theorem s_X8_readWork_12_120 {b : Nat × Nat} {st : List Value} {hi : am_HI} {g : am_G} {Φ : am_P} {x0 : Value} (h : AP M_X8_readWork b 274 [x0] st hi g Φ) : AP M_X8_readWork b 12 [x0] (.int 120 :: st) hi g Φ := AP.lookup (off := 262) d_X8_readWork_12 (by decide) (by decide) (by decide) h
theorem s_X8_readWork_12_d {b : Nat × Nat} {st : List Value} {hi : am_HI} {g : am_G} {Φ : am_P} {x0 : Value} {x : Int32} (hx : ¬ x.toInt = 43 ∧ ¬ x.toInt = 45 ∧ ¬ x.toInt = 100 ∧ ¬ x.toInt = 107 ∧ ¬ x.toInt = 115 ∧ ¬ x.toInt = 116 ∧ ¬ x.toInt = 118 ∧ ¬ x.toInt = 119 ∧ ¬ x.toInt = 120) (h : AP M_X8_readWork b 283 [x0] st hi g Φ) : AP M_X8_readWork b 12 [x0] (.int x :: st) hi g Φ := AP.lookup (off := 271) d_X8_readWork_12 (by decide) (by
    obtain ⟨h0, h1, h2, h3, h4, h5, h6, h7, h8⟩ := hx
    simp [Op.lookupswitch.offset, List.find?, eq_comm, h0, h1, h2, h3, h4, h5, h6, h7, h8, Ne.symm h0, Ne.symm h1, Ne.symm h2, Ne.symm h3, Ne.symm h4, Ne.symm h5, Ne.symm h6, Ne.symm h7, Ne.symm h8]) (by decide) h
theorem s_X9_doWork_7_43 {b : Nat × Nat} {st : List Value} {hi : am_HI} {g : am_G} {Φ : am_P} {x0 : Value} (h : AP M_X9_doWork b 88 [x0] st hi g Φ) : AP M_X9_doWork b 7 [x0] (.int 43 :: st) hi g Φ := AP.lookup (off := 81) d_X9_doWork_7 (by decide) (by decide) (by decide) h
theorem s_X9_doWork_7_45 {b : Nat × Nat} {st : List Value} {hi : am_HI} {g : am_G} {Φ : am_P} {x0 : Value} (h : AP M_X9_doWork b 100 [x0] st hi g Φ) : AP M_X9_doWork b 7 [x0] (.int 45 :: st) hi g Φ := AP.lookup (off := 93) d_X9_doWork_7 (by decide) (by decide) (by decide) h
theorem s_X9_doWork_7_100 {b : Nat × Nat} {st : List Value} {hi : am_HI} {g : am_G} {Φ : am_P} {x0 : Value} (h : AP M_X9_doWork b 149 [x0] st hi g Φ) : AP M_X9_doWork b 7 [x0] (.int 100 :: st) hi g Φ := AP.lookup (off := 142) d_X9_doWork_7 (by decide) (by decide) (by decide) h
theorem s_X9_doWork_7_107 {b : Nat × Nat} {st : List Value} {hi : am_HI} {g : am_G} {Φ : am_P} {x0 : Value} (h : AP M_X9_doWork b 113 [x0] st hi g Φ) : AP M_X9_doWork b 7 [x0] (.int 107 :: st) hi g Φ := AP.lookup (off := 106) d_X9_doWork_7 (by decide) (by decide) (by decide) h
theorem s_X9_doWork_7_115 {b : Nat × Nat} {st : List Value} {hi : am_HI} {g : am_G} {Φ : am_P} {x0 : Value} (h : AP M_X9_doWork b 125 [x0] st hi g Φ) : AP M_X9_doWork b 7 [x0] (.int 115 :: st) hi g Φ := AP.lookup (off := 118) d_X9_doWork_7 (by decide) (by decide) (by decide) h
theorem s_X9_doWork_7_116 {b : Nat × Nat} {st : List Value} {hi : am_HI} {g : am_G} {Φ : am_P} {x0 : Value} (h : AP M_X9_doWork b 130 [x0] st hi g Φ) : AP M_X9_doWork b 7 [x0] (.int 116 :: st) hi g Φ := AP.lookup (off := 123) d_X9_doWork_7 (by decide) (by decide) (by decide) h
theorem s_X9_doWork_7_118 {b : Nat × Nat} {st : List Value} {hi : am_HI} {g : am_G} {Φ : am_P} {x0 : Value} (h : AP M_X9_doWork b 165 [x0] st hi g Φ) : AP M_X9_doWork b 7 [x0] (.int 118 :: st) hi g Φ := AP.lookup (off := 158) d_X9_doWork_7 (by decide) (by decide) (by decide) h
theorem s_X9_doWork_7_119 {b : Nat × Nat} {st : List Value} {hi : am_HI} {g : am_G} {Φ : am_P} {x0 : Value} (h : AP M_X9_doWork b 181 [x0] st hi g Φ) : AP M_X9_doWork b 7 [x0] (.int 119 :: st) hi g Φ := AP.lookup (off := 174) d_X9_doWork_7 (by decide) (by decide) (by decide) h
theorem s_X9_doWork_7_120 {b : Nat × Nat} {st : List Value} {hi : am_HI} {g : am_G} {Φ : am_P} {x0 : Value} (h : AP M_X9_doWork b 200 [x0] st hi g Φ) : AP M_X9_doWork b 7 [x0] (.int 120 :: st) hi g Φ := AP.lookup (off := 193) d_X9_doWork_7 (by decide) (by decide) (by decide) h
theorem s_X9_doWork_7_d {b : Nat × Nat} {st : List Value} {hi : am_HI} {g : am_G} {Φ : am_P} {x0 : Value} {x : Int32} (hx : ¬ x.toInt = 43 ∧ ¬ x.toInt = 45 ∧ ¬ x.toInt = 100 ∧ ¬ x.toInt = 107 ∧ ¬ x.toInt = 115 ∧ ¬ x.toInt = 116 ∧ ¬ x.toInt = 118 ∧ ¬ x.toInt = 119 ∧ ¬ x.toInt = 120) (h : AP M_X9_doWork b 210 [x0] st hi g Φ) : AP M_X9_doWork b 7 [x0] (.int x :: st) hi g Φ := AP.lookup (off := 203) d_X9_doWork_7 (by decide) (by
    obtain ⟨h0, h1, h2, h3, h4, h5, h6, h7, h8⟩ := hx
    simp [Op.lookupswitch.offset, List.find?, eq_comm, h0, h1, h2, h3, h4, h5, h6, h7, h8, Ne.symm h0, Ne.symm h1, Ne.symm h2, Ne.symm h3, Ne.symm h4, Ne.symm h5, Ne.symm h6, Ne.symm h7, Ne.symm h8]) (by decide) h
