/-! ===== a method's entry and ends; calls ===== -/
theorem am_K.at' {v : am_E} {s U : State} (hW : s.WarmedH U.vm) (h : am_K v s) : am_K v U := ⟨va_K.moved hW.alike h.1, h.2.1.warm hW, h.2.2.1.warm hW, h.2.2.2.1.warm hW, fun w hw => am_nw_warm hw hW (h.2.2.2.2.1 w hw), fun q hq => (h.2.2.2.2.2 q hq).moved hW.alike⟩
theorem am_K.same {v : am_E} {s U : State} (hv : U.vm = s.vm) (h : am_K v s) : am_K v U := ⟨va_K.moved (by rw [hv]; exact Vm.Alike.refl _) h.1, h.2.1.same hv, h.2.2.1.same hv, h.2.2.2.1.same hv, fun w hw => am_nw_same hw hv (h.2.2.2.2.1 w hw), fun q hq => (h.2.2.2.2.2 q hq).moved (by rw [hv]; exact Vm.Alike.refl _)⟩
theorem am_Z.at' {v : am_E} {s U : State} {H : Heap} (hA : s.vm.Alike U.vm) (hH : ∀ q : Nat, q < s.heap.size → ¬ am_A v q → H[q]? = s.heap[q]?) (h : am_Z v s s.heap) : am_Z v U H := ⟨(h.1.kept hH).moved hA, (h.2.kept hH).moved hA⟩
theorem am_blind (v : am_E) (av : List Value) (hi : am_HI) (g : am_G) : FrameBlind (am_Pc v av hi g) := by
  intro a U g' mk ⟨h1, h2, h3, h4⟩
  exact ⟨h1, am_K.same (s := U) rfl h2, ⟨h3.1.moved (u := U) (Vm.Alike.refl _), h3.2.moved (u := U) (Vm.Alike.refl _)⟩, h4⟩
theorem am_ct0 {M : am_M} {b : Nat × Nat} {av : List Value} {hi : am_HI} {g : am_G} {Φ : am_P} {l : Launch} {v : am_E} (hl : l.stackTraces = false) (hpl : plainName (am_y M).cls = true) (hlen : (lg_sl (av.map (am_cv v.1))).length ≤ am_nL M) (h : AP M b 0 (am_ent (am_nL M) av) [] hi g Φ)
    {p : Program} {e : Env} {s : State} {m : MethodId} {args : Array Value} {below : List Frame} {meth : Method} {c : Code} {s₁ : State} (B : BodyLoose p l (am_y M) (headSpec (am_hd M :: am_GT) ({ frames := am_fr M, cells := b.1, slots := b.2, locals := am_lo M })) (am_cc M) (am_nL M) (am_rt M) e s m args below meth c s₁) (hml : c.maxLocals = am_nL M) (hxt : am_xt M c) (hp : am_Pc v av hi g args s) :
    W p l e (headSpec (am_hd M :: am_GT) ({ frames := am_fr M, cells := b.1, slots := b.2, locals := am_lo M })).room s m args below meth c s.heap [] 0 0 (vx_MQ below (am_Qc v Φ) (am_XC v Φ) args s b.1 b.2 (am_A v)) (entryFrame m args (am_nL M)) := by
  obtain ⟨rfl, hK, hZ, hR, hn0, hz⟩ := hp
  have hx := B.exec
  have hb := B.bytes
  have hr := B.returns
  have hts0 := atoms_spec (ws := am_hd M :: am_GT) B.pre
  have hown : s.vm.findClass (am_y M).cls = some m.cls := findClass_of_methodNamed B.named
  have hlocks := B.notSynchronized
  rw [lg_entry_eq]
  have hle := lv_entry (av.map (am_cv v.1)) hlen
  refine h l v p e _ s m _ below meth c s.heap [] 0 0 _ _ ⟨hx, hb, hml, hr, hown, fun w hw => hts0 w (List.mem_cons_of_mem _ hw), hlocks, (name_of_methodNamed B.named B.method).1, Nat.le_refl _, Nat.le_refl _, hK, hZ, hn0, hl, hxt⟩ ⟨?_, ?_⟩ ⟨hle.1, hle.2.1, fun q hq => hle.2.2 q (am_ent_mem _ _ q hq)⟩ ⟨hR, va_S.rf, by show 0 + b.1 ≤ b.1; omega, by show 0 + b.2 ≤ b.2; omega, hz⟩
  · intro r hi' g' H locs cells slots pc ls hΦ hvt hRp hS hc hs hd
    refine W.widen (k := b.1) (n := b.2) hc hs (vx_ret ?_)
    have hq : ∀ t : State, t.heap = H → s.WarmedH t.vm → am_Qc v Φ (av.map (am_cv v.1)).toArray s (.returned (r.map (am_cv v.1))) t := fun t ht _ => ⟨r, hi', g', rfl, hΦ, by rw [ht]; exact hRp, hS.F ht⟩
    generalize hrt : am_rt M = rt at hr hvt hd
    unfold am_vt at hvt
    split at hvt
    · exact W.vret hx hb hr hq hS.2.2 hd hlocks
    · exact W.iret hx hb hr hq hS.2.2 hd hlocks
    · rename_i x
      exact W.zret (v := x) hx hb hr (by rcases hvt with rfl | rfl <;> decide) hq hS.2.2 hd hlocks
    · exact W.lret hx hb hr hq hS.2.2 hd hlocks
    · exact W.dret hx hb hr hq hS.2.2 hd hlocks
    · exact hvt.elim
  · intro E hi' g' H locs cells slots pc ls rest q ce hΦ hRp hS hc hs hout hcell hcv hcl
    exact vx_out hout hlocks hcell hcv hcl (fun t ht _ => ⟨hi', g', hΦ, by rw [ht]; exact hRp, hS.F ht⟩) hS.2.2 hc hs
theorem am_sl_len (n0 : Nat) (av : List Value) : (lg_sl (av.map (am_cv n0))).length = (am_flat av).length := by
  induction av with
  | nil => rfl
  | cons x xs ih =>
    rw [List.map_cons, show lg_sl (am_cv n0 x :: xs.map (am_cv n0)) = (if (am_cv n0 x).category = 2 then [.val (am_cv n0 x), .second] else [.val (am_cv n0 x)]) ++ lg_sl (xs.map (am_cv n0)) from rfl, am_cv_cat, List.length_append, ih]
    by_cases h : x.category = 2
    · rw [if_pos h, am_flat, if_pos h]; simp; omega
    · rw [if_neg h, am_flat, if_neg h]; simp; omega
/-- a contract out of the point at the entry -/
theorem am_ct {M : am_M} {b : Nat × Nat} {av : List Value} {hi : am_HI} {g : am_G} {Φ : am_P} (hpl : plainName (am_y M).cls = true) (hlen : (am_flat av).length ≤ am_nL M) (h : AP M b 0 (am_ent (am_nL M) av) [] hi g Φ) : am_Ct M b av hi g Φ := by
  intro l v hl
  have hlen' : (lg_sl (av.map (am_cv v.1))).length ≤ am_nL M := by rw [am_sl_len]; exact hlen
  cases hh : am_hh M with
  | nil =>
    refine vx_ofW (cc := am_cc M) (maxL := am_nL M) (ret := am_rt M) hpl (by unfold am_hd; rw [hh]) ?_
    intro p e s m args below meth c s₁ B hml hxt hp
    refine am_ct0 hl hpl hlen' h B hml ?_ hp
    unfold am_xt
    rw [hh]
    cases hc : c.exceptionTable.toList with
    | nil => rfl
    | cons x xs => exact (hxt x (by rw [hc]; exact List.mem_cons_self)).elim
  | cons h1 h2 =>
    refine vx_ofWH (cc := am_cc M) (maxL := am_nL M) (ret := am_rt M) (hh := h1 :: h2) hpl (by unfold am_hd; rw [hh]) ?_
    intro p e s m args below meth c s₁ B hml hp
    refine am_ct0 hl hpl hlen' h B hml ?_ hp
    have hw : (Cond.codeWith (am_y M) (am_cc M) (am_nL M) (am_rt M) (h1 :: h2)).before args s = true := by
      have := atoms_spec (ws := am_hd M :: am_GT) B.pre (am_hd M) List.mem_cons_self
      unfold am_hd at this
      rw [hh] at this
      exact this
    obtain ⟨m9, meth9, c9, n1, n2, n3, -, -, n5, -⟩ := Cond.codeWith_spec hw
    cases n1.symm.trans B.named
    cases Option.some.inj (n2.symm.trans B.method)
    cases Option.some.inj (n3.symm.trans (Stand.of_body B).code)
    unfold am_xt
    rw [hh]
    exact n5
section CALLS
variable {M M' : am_M} {b b' b2 : Nat × Nat} {pc : Nat} {L st rest : List Value} {hi : am_HI} {g : am_G} {Φ Ψ : am_P}
theorem AP.vret (hd : decode (am_cc M) pc = .ok (.return_, 1)) (hr : am_rt M = none) (hΦ : Φ (.ok none) hi g) : AP M b pc L [] hi g Φ :=
  fun l v p e R s m args below meth c H locs cells slots ls Q C X hl Y => X.1 none hi g H locs cells slots pc ls hΦ (by rw [hr]; trivial) Y.1 Y.2.1 (by have := Y.2.2.1; omega) (by have := Y.2.2.2.1; omega) (by rw [hr]; exact hd)
theorem AP.iret {x : Int32} (hd : decode (am_cc M) pc = .ok (.ireturn, 1)) (hr : am_rt M = some .int) (hΦ : Φ (.ok (some (.int x))) hi g) : AP M b pc L [.int x] hi g Φ :=
  fun l v p e R s m args below meth c H locs cells slots ls Q C X hl Y => X.1 (some (.int x)) hi g H locs cells slots pc ls hΦ (by rw [hr]; trivial) Y.1 Y.2.1 (by have := Y.2.2.1; omega) (by have := Y.2.2.2.1; omega) (by rw [hr]; exact hd)
theorem AP.zret {x : Int32} (hd : decode (am_cc M) pc = .ok (.ireturn, 1)) (hr : am_rt M = some .boolean) (hx : x = 0 ∨ x = 1) (hΦ : Φ (.ok (some (.int x))) hi g) : AP M b pc L [.int x] hi g Φ :=
  fun l v p e R s m args below meth c H locs cells slots ls Q C X hl Y => X.1 (some (.int x)) hi g H locs cells slots pc ls hΦ (by rw [hr]; exact hx) Y.1 Y.2.1 (by have := Y.2.2.1; omega) (by have := Y.2.2.2.1; omega) (by rw [hr]; exact hd)
theorem AP.lret {x : Int64} (hd : decode (am_cc M) pc = .ok (.lreturn, 1)) (hr : am_rt M = some .long) (hΦ : Φ (.ok (some (.long x))) hi g) : AP M b pc L [.long x] hi g Φ :=
  fun l v p e R s m args below meth c H locs cells slots ls Q C X hl Y => X.1 (some (.long x)) hi g H locs cells slots pc ls hΦ (by rw [hr]; trivial) Y.1 Y.2.1 (by have := Y.2.2.1; omega) (by have := Y.2.2.2.1; omega) (by rw [hr]; exact hd)
theorem AP.dret {x : UInt64} (hd : decode (am_cc M) pc = .ok (.dreturn, 1)) (hr : am_rt M = some .double) (hΦ : Φ (.ok (some (.double x))) hi g) : AP M b pc L [.double x] hi g Φ :=
  fun l v p e R s m args below meth c H locs cells slots ls Q C X hl Y => X.1 (some (.double x)) hi g H locs cells slots pc ls hΦ (by rw [hr]; trivial) Y.1 Y.2.1 (by have := Y.2.2.1; omega) (by have := Y.2.2.2.1; omega) (by rw [hr]; exact hd)
theorem am_gtall {ws : List Cond} (h : ∀ w ∈ ws, w ∈ am_GT) : GoodIn am_GT ws := fun w hw => ⟨h w hw, good_of_word (List.mem_filter.mp (h w hw)).2⟩
/-- how the phase moves: while cells are being made, the callee makes as many as it may -/
def am_ph (b : Nat × Nat) (g : am_G) (Ψ : am_P) : Prop := ∀ r hi' g', Ψ r hi' g' → ∀ n, g'.1 = some n → ∃ k, g.1 = some k ∧ k + b.1 ≤ n
theorem am_ph.none (hg : g.1 = none) (h : ∀ r hi' g', Ψ r hi' g' → g'.1 = none) : am_ph b' g Ψ := fun r hi' g' hq n hn => by rw [h r hi' g' hq] at hn; cases hn
/-- behind a call: what came back, and the way on -/
theorem am_back {idx : Nat} {l : Launch} {v : am_E} {p : Program} {e : Env} {R : Room} {s : State} {m : MethodId} {args : Array Value} {below : List Frame} {meth : Method} {c : Code} {H : Heap} {locs : List Loc} {cells slots : Nat} {ls : Array Slot} {Q : State → Prop} {a : Array Value} {st0 : List Value}
    (hg : am_ph b' g Ψ) (hb : b'.1 + b2.1 ≤ b.1 ∧ b'.2 + b2.2 ≤ b.2) (Y : am_Dy v R s b hi g H locs cells slots)
    (hr : vx_Run p l e R s m args below meth c H locs cells slots b'.1 b'.2 (F0 m pc ls st0) (rest.map (am_cv v.1)) (am_Qc v Ψ a) (am_XC v Ψ) (am_A v))
    (kx : ∀ (E : String) (hi' : am_HI) (g' : am_G) (H1 : Heap) (locs1 : List Loc) (q : Addr) (ce : Cell), Ψ (.error E) hi' g' → am_Dy v R s b2 hi' g' H1 locs1 (cells + b'.1) (slots + b'.2) → H1[q]? = some ce → ce.vm = .none → s.vm.findClass E = some ce.cls → vx_W p l e R s m args below meth c H1 locs1 (cells + b'.1) (slots + b'.2) Q (F0 m pc ls (rest.map (am_cv v.1))) q)
    (kk : ∀ (r : Option Value) (hi' : am_HI) (g' : am_G) (H1 : Heap) (locs1 : List Loc), Ψ (.ok r) hi' g' → am_Dy v R s b2 hi' g' H1 locs1 (cells + b'.1) (slots + b'.2) → W p l e R s m args below meth c H1 locs1 (cells + b'.1) (slots + b'.2) Q (F0 m (pc + 3) ls ((r.toList ++ rest).map (am_cv v.1)))) :
    W p l e R s m args below meth c H locs cells slots Q (F0 m pc ls st0) := by
  obtain ⟨hR, hS, hc, hs, hz⟩ := Y
  have hD : ∀ {r : Except String (Option Value)} {hi' : am_HI} {g' : am_G} {st₀ t T' : State} {L9 : List Loc}, Ψ r hi' g' → am_Rep v hi' g' t.heap → st₀.heap = H → T'.heap = t.heap → va_F (am_A v) st₀ t → (∀ q ∈ L9, am_A v q.base) → am_Dy v R s b2 hi' g' T'.heap (locs ++ L9) (cells + b'.1) (slots + b'.2) := by
    intro r hi' g' st₀ t T' L9 h1 h2 h3 h4 h5 h6
    obtain ⟨-, -, k3⟩ := vx_keep h3 h4 hS (fun q _ h => h) (fun q h => h) h6 h5
    refine ⟨by rw [h4]; exact h2, k3, by omega, by omega, fun n hn => ?_⟩
    obtain ⟨k, e1, e2⟩ := hg r hi' g' h1 n hn
    have := hz k e1
    omega
  intro T hT X
  rcases hr T hT X with ⟨v', st₀, t, T', L9, h0, X', hL, e1, e2, ⟨r, hi', g', ho, hΨ, hRp, hF⟩, sto⟩ | ⟨q, st₀, t, T', L9, E, ce, h0, X', hL, e1, e2, ⟨hi', g', hΨ, hRp, hF⟩, hce, hcv, hcl, sto⟩
  · cases ho
    obtain ⟨t2, a1, b1⟩ := kk r hi' g' T'.heap (locs ++ L9) hΨ (hD hΨ hRp h0 e1 hF hL) T' rfl X'
    refine ⟨t2, sto t2 ?_, b1⟩
    have e9 : (r.toList ++ rest).map (am_cv v.1) = (r.map (am_cv v.1)).toList ++ rest.map (am_cv v.1) := by cases r <;> rfl
    rw [e9] at a1
    exact a1
  · obtain ⟨t2, a1, b1⟩ := kx E hi' g' T'.heap (locs ++ L9) q ce hΨ (hD hΨ hRp h0 e1 hF hL) (by rw [e1]; exact hce) hcv hcl T' rfl X'
    exact ⟨t2, sto.trans a1, b1⟩
/-- the callee's start, out of the caller's point -/
theorem am_pre {v : am_E} {R : Room} {s : State} {H : Heap} {locs : List Loc} {cells slots : Nat} {av : List Value} (hK : am_K v s) (hZ : am_Z v s s.heap) (hn0 : v.1 ≤ s.heap.size) (Y : am_Dy v R s b hi g H locs cells slots) (hH : H.size ≤ s.heap.size + cells) : PreS s H (am_Pc v av hi g) (av.map (am_cv v.1)) :=
  ⟨am_blind v av hi g, fun U hU hW => ⟨rfl, hK.at' hW, hZ.at' hW.alike (by rw [hU]; exact Y.2.1.2.1), by rw [hU]; exact Y.1, by rw [hU]; exact Nat.le_trans hn0 Y.2.1.1, fun n hn => by have := Y.2.2.2.2 n hn; rw [hU]; omega⟩⟩
theorem W.bound {p : Program} {l : Launch} {e : Env} {R : Room} {s : State} {m : MethodId} {args : Array Value} {below : List Frame} {meth : Method} {c : Code} {H : Heap} {locs : List Loc} {cells slots : Nat} {Q : State → Prop} {g : JFrame} (k : H.size ≤ s.heap.size + cells → W p l e R s m args below meth c H locs cells slots Q g) : W p l e R s m args below meth c H locs cells slots Q g :=
  fun T hT X => k (by rw [← hT]; exact X.heapSize) T hT X
def am_csb (M : am_M) (M' : am_M) (n : Nat) : Bool := (am_hh M').isEmpty && ((am_y M').cls != "java/lang/invoke/MethodHandle") && ((am_y M').cls != "java/lang/invoke/VarHandle") && ((parseMethodDescriptor (am_y M').desc).map (fun d => d.parameters.length) == some n) && Nat.ble (am_fr M' + 1) (am_fr M) && Nat.ble (8 + (am_nL M' + 11) + am_lo M') (am_lo M)
def am_csB (M : am_M) (M' : am_M) (n : Nat) : Prop := am_csb M M' n = true ∧ Cond.initialized (am_y M').cls ∈ am_GT ∧ am_hd M' ∈ am_GT
theorem am_csB.all {M M' : am_M} {n : Nat} (h : am_csB M M' n) : am_hh M' = [] ∧ Cond.initialized (am_y M').cls ∈ am_GT ∧ am_hd M' ∈ am_GT ∧ (am_y M').cls ≠ "java/lang/invoke/MethodHandle" ∧ (am_y M').cls ≠ "java/lang/invoke/VarHandle" ∧ (parseMethodDescriptor (am_y M').desc).map (fun d => d.parameters.length) = some n ∧ am_fr M' + 1 ≤ am_fr M ∧ 8 + (am_nL M' + 11) + am_lo M' ≤ am_lo M := by
  obtain ⟨h1, h2, h3⟩ := h
  unfold am_csb at h1
  simp only [Bool.and_eq_true, bne_iff_ne, beq_iff_eq, List.isEmpty_iff] at h1
  obtain ⟨⟨⟨⟨⟨a1, a2⟩, a3⟩, a4⟩, a5⟩, a6⟩ := h1
  exact ⟨a1, h2, h3, a2, a3, a4, Nat.le_of_ble_eq_true a5, Nat.le_of_ble_eq_true a6⟩
def am_csV (M : am_M) (idx : Nat) (M' : am_M) (n : Nat) : Prop := am_csB M M' n ∧ Cond.methodLink (am_y M).cls idx (am_y M') ∈ am_GT ∧ Cond.instanceMethod (am_y M') ∈ am_GT ∧ Cond.selects (am_y M').cls (am_y M') (am_y M') ∈ am_GT
def am_csS (M : am_M) (idx : Nat) (M' : am_M) (n : Nat) : Prop := am_csB M M' n ∧ Cond.methodLink (am_y M).cls idx (am_y M') ∈ am_GT ∧ Cond.static (am_y M') ∈ am_GT
def am_csN (M : am_M) (idx : Nat) (M' : am_M) (n : Nat) : Prop := am_csB M M' n ∧ Cond.methodLinkNest (am_y M).cls idx (am_y M') RX9 ∈ am_NW ∧ Cond.static (am_y M') ∈ am_GT
theorem am_csB.cb {idx n : Nat} {R : Room} {s : State} {args : Array Value} (h : am_csB M M' n) (hts : ∀ w ∈ am_GT, w.before args s = true) (hf : am_fr M ≤ R.frames) (hlo : am_lo M ≤ R.locals) (hl : Cond.methodLink (am_y M).cls idx (am_y M') ∈ am_GT) :
    CallB R s args (am_y M).cls idx (am_y M') (am_cc M') (am_nL M') (am_rt M') (am_hd M' :: am_GT) ({ frames := am_fr M', cells := b'.1, slots := b'.2, locals := am_lo M' }) b'.1 b'.2 n := by
  obtain ⟨h1, h2, h3, h4, h5, h6, h7, h8⟩ := h.all
  have e : am_hd M' = .code (am_y M') (am_cc M') (am_nL M') (am_rt M') := by unfold am_hd; rw [h1]
  exact callB_of (ws' := am_GT) n hts (am_gtin _ h3 (fun w h => h)) (by rw [e]) rfl rfl (hts _ h2) (hts _ hl) ⟨h4, h5, h6⟩ ⟨by show am_fr M' + 1 ≤ _; omega, by show 8 + (am_nL M' + 11) + am_lo M' ≤ _; omega⟩
/-- a throw that this method doesn't catch -/
theorem am_uncaught {c : Code} (h : am_hh M = []) (hx : am_xt M c) (pc : Nat) : ∀ x ∈ c.exceptionTable.toList, covers x pc = false := by
  intro x hm
  unfold am_xt at hx
  rw [h] at hx
  have : c.exceptionTable.toList = [] := List.map_eq_nil_iff.mp hx
  rw [this] at hm
  cases hm
theorem AP.callV {idx k ci : Nat} {q : vw_C} {As : List Value} (hc : am_Ct M' b' (.ref k :: As) hi g Ψ) (cs : am_csV M idx M' As.length) (hd : decode (am_cc M) pc = .ok (.invokevirtual idx, 3)) (hst : st = As.reverse ++ .ref k :: rest) (hs : am_SH k = (0, ci)) (hk : k < am_N g.1) (hq : vwCl[ci]? = some q) (hC : q.1 = (am_y M').cls) (hrest : (rest.map Value.category).sum ≤ 8) (hb : b'.1 + b2.1 ≤ b.1 ∧ b'.2 + b2.2 ≤ b.2) (hg : am_ph b' g Ψ)
    (hx : ∀ E hi' g', Ψ (.error E) hi' g' → Φ (.error E) hi' g' ∧ am_hh M = []) (h : ∀ r hi' g', Ψ (.ok r) hi' g' → AP M b2 (pc + 3) L (r.toList ++ rest) hi' g' Φ) : AP M b pc L st hi g Φ := by
  subst hst
  intro l v p e R s m args below meth c H locs cells slots ls Q C X hl Y
  refine W.bound (fun hH => ?_)
  obtain ⟨c1, c2, c3, c4, c5, c6, c7, c8, c9, c10, c11, c12, c13, c14, c15⟩ := id C
  have hp := am_pre (av := .ref k :: As) c11 c12 c13 Y hH
  have hrun := vx_runV (p := p) (e := e) (below := below) (meth := meth) (H := H) (locs := locs) (R := R) (cells := cells) (slots := slots) (mc := b'.1) (ms := b'.2) (n := As.length) (C := (am_y M').cls) (b := v.1 + k) (As := As.map (am_cv v.1)) (rest := rest.map (am_cv v.1)) (g := F0 m pc ls ((As.reverse ++ .ref k :: rest).map (am_cv v.1))) ⟨c1, c2, c3, c5, c6⟩ (hc l v c14) ⟨cs.1.cb c6 c9 c10 cs.2.1, c6 _ cs.2.2.1, c6 _ cs.2.2.2⟩
    ⟨hp.1, by rw [← hC]; exact va_recv (q0 := k) (ci := ci) c11.1 Y.1.1 hq (by rw [am_ws_get hk, hs]; rfl), hp.2⟩ rfl (by simp) hl.1 (by simp [List.map_append, List.map_reverse, am_cv]) (by
      have : (rest.map (am_cv v.1)).map (fun v => v.category) = rest.map Value.category := by rw [List.map_map]; exact List.map_congr_left (fun x _ => am_cv_cat _ x)
      rw [this]
      show 2 * 0 + _ ≤ 8
      omega) hd ⟨by have := Y.2.2.1; omega, by have := Y.2.2.2.1; omega⟩
  refine am_back (idx := idx) (b2 := b2) hg hb Y hrun (fun E hi' g' H1 locs1 q' ce hΨ Y1 h1 h2 h3 => ?_) (fun r hi' g' H1 locs1 hΨ Y1 => h r hi' g' hΨ l v p e R s m args below meth c H1 locs1 _ _ ls Q C X hl Y1)
  obtain ⟨hΦ, hh⟩ := hx E hi' g' hΨ
  exact X.2 E hi' g' H1 locs1 _ _ pc ls _ q' ce hΦ Y1.1 Y1.2.1 (by have := Y1.2.2.1; omega) (by have := Y1.2.2.2.1; omega) (am_uncaught hh c15 pc) h1 h2 h3
theorem AP.callS {idx : Nat} {As : List Value} (hc : am_Ct M' b' As hi g Ψ) (cs : am_csS M idx M' As.length) (hd : decode (am_cc M) pc = .ok (.invokestatic idx, 3)) (hst : st = As.reverse ++ rest) (hrest : (rest.map Value.category).sum ≤ 8) (hb : b'.1 + b2.1 ≤ b.1 ∧ b'.2 + b2.2 ≤ b.2) (hg : am_ph b' g Ψ)
    (hx : ∀ E hi' g', Ψ (.error E) hi' g' → Φ (.error E) hi' g' ∧ am_hh M = []) (h : ∀ r hi' g', Ψ (.ok r) hi' g' → AP M b2 (pc + 3) L (r.toList ++ rest) hi' g' Φ) : AP M b pc L st hi g Φ := by
  subst hst
  intro l v p e R s m args below meth c H locs cells slots ls Q C X hl Y
  refine W.bound (fun hH => ?_)
  obtain ⟨c1, c2, c3, c4, c5, c6, c7, c8, c9, c10, c11, c12, c13, c14, c15⟩ := id C
  have hp := am_pre (av := As) c11 c12 c13 Y hH
  have hrun := vx_runS (p := p) (e := e) (below := below) (meth := meth) (H := H) (locs := locs) (R := R) (cells := cells) (slots := slots) (mc := b'.1) (ms := b'.2) (n := As.length) (As := As.map (am_cv v.1)) (rest := rest.map (am_cv v.1)) (g := F0 m pc ls ((As.reverse ++ rest).map (am_cv v.1))) ⟨c1, c2, c3, c5, c6⟩ (hc l v c14) ⟨cs.1.cb c6 c9 c10 cs.2.1, c6 _ cs.2.2⟩
    hp rfl (by simp) hl.1 (by simp [List.map_append, List.map_reverse]) (by
      have : (rest.map (am_cv v.1)).map (fun v => v.category) = rest.map Value.category := by rw [List.map_map]; exact List.map_congr_left (fun x _ => am_cv_cat _ x)
      rw [this]
      show 2 * 0 + _ ≤ 8
      omega) hd ⟨by have := Y.2.2.1; omega, by have := Y.2.2.2.1; omega⟩
  refine am_back (idx := idx) (b2 := b2) hg hb Y hrun (fun E hi' g' H1 locs1 q' ce hΨ Y1 h1 h2 h3 => ?_) (fun r hi' g' H1 locs1 hΨ Y1 => h r hi' g' hΨ l v p e R s m args below meth c H1 locs1 _ _ ls Q C X hl Y1)
  obtain ⟨hΦ, hh⟩ := hx E hi' g' hΨ
  exact X.2 E hi' g' H1 locs1 _ _ pc ls _ q' ce hΦ Y1.1 Y1.2.1 (by have := Y1.2.2.1; omega) (by have := Y1.2.2.2.1; omega) (am_uncaught hh c15 pc) h1 h2 h3
theorem AP.callSN {idx : Nat} {As : List Value} (hc : am_Ct M' b' As hi g Ψ) (cs : am_csN M idx M' As.length) (hd : decode (am_cc M) pc = .ok (.invokestatic idx, 3)) (hst : st = As.reverse ++ rest) (hrest : (rest.map Value.category).sum ≤ 8) (hb : b'.1 + b2.1 ≤ b.1 ∧ b'.2 + b2.2 ≤ b.2) (hg : am_ph b' g Ψ)
    (hx : ∀ E hi' g', Ψ (.error E) hi' g' → Φ (.error E) hi' g' ∧ am_hh M = []) (h : ∀ r hi' g', Ψ (.ok r) hi' g' → AP M b2 (pc + 3) L (r.toList ++ rest) hi' g' Φ) : AP M b pc L st hi g Φ := by
  subst hst
  intro l v p e R s m args below meth c H locs cells slots ls Q C X hl Y
  refine W.bound (fun hH => ?_)
  obtain ⟨c1, c2, c3, c4, c5, c6, c7, c8, c9, c10, c11, c12, c13, c14, c15⟩ := id C
  obtain ⟨csB, cn, cst⟩ := cs
  obtain ⟨h1, h2, h3, h4, h5, h6, h7, h8⟩ := csB.all
  have e0 : am_hd M' = .code (am_y M') (am_cc M') (am_nL M') (am_rt M') := by unfold am_hd; rw [h1]
  have hp := am_pre (av := As) c11 c12 c13 Y hH
  have hrun := vx_runSN (p := p) (e := e) (below := below) (meth := meth) (H := H) (locs := locs) (R := R) (cells := cells) (slots := slots) (bytes := am_cc M') (maxL := am_nL M') (ret := am_rt M') (n := As.length) (mc := b'.1) (ms := b'.2) (As := As.map (am_cv v.1)) (rest := rest.map (am_cv v.1)) (g := F0 m pc ls ((As.reverse ++ rest).map (am_cv v.1))) (host := RX9) ⟨c1, c2, c3, c5, c6⟩ (hc l v c14)
    ⟨⟨⟨rfl, rfl, by show am_fr M' + 1 ≤ _; omega, by show 8 + (am_nL M' + 11) + am_lo M' ≤ _; omega, pay_in c6 (am_gtin _ h3 (fun w h => h)), by rw [e0]; exact List.mem_cons_self⟩, by rw [← e0]; exact c6 _ h3, c6 _ h2, ⟨h4, h5⟩, fun sig hsig => by rw [hsig] at h6; exact (Option.some.inj h6).symm, am_nw_use cn (c11.2.2.2.2.1 _ cn)⟩, c6 _ cst, trivial⟩
    hp rfl (by simp) hl.1 (by simp [List.map_append, List.map_reverse]) (by
      have : (rest.map (am_cv v.1)).map (fun v => v.category) = rest.map Value.category := by rw [List.map_map]; exact List.map_congr_left (fun x _ => am_cv_cat _ x)
      rw [this]
      show 2 * 0 + _ ≤ 8
      omega) hd ⟨by have := Y.2.2.1; omega, by have := Y.2.2.2.1; omega⟩
  refine am_back (idx := idx) (b2 := b2) hg hb Y hrun (fun E hi' g' H1 locs1 q' ce hΨ Y1 h1 h2 h3 => ?_) (fun r hi' g' H1 locs1 hΨ Y1 => h r hi' g' hΨ l v p e R s m args below meth c H1 locs1 _ _ ls Q C X hl Y1)
  obtain ⟨hΦ, hh⟩ := hx E hi' g' hΨ
  exact X.2 E hi' g' H1 locs1 _ _ pc ls _ q' ce hΦ Y1.1 Y1.2.1 (by have := Y1.2.2.1; omega) (by have := Y1.2.2.2.1; omega) (am_uncaught hh c15 pc) h1 h2 h3
end CALLS
