/-! ===== the law's own body: as AP, with the script at the place 0 (jk in the list of places) ===== -/
/-- the script: where it lies, how long it is, its ints -/
abbrev am_S : Type := Nat × Nat × (Nat → Int32)
/-- the classes of arrays of references that constructors need -/
def am_AO (s : State) : Prop := va_AO RX6 s ∧ (Cond.arrayOver (.array .int)).before #[] s = true
def am_LX (S : am_S) (v : am_E) (s : State) : Prop := va_X S.1 S.2.1 S.2.2 s s.heap ∧ S.1 < s.heap.size ∧ ¬ am_A v S.1 ∧ am_AO s
def am_LE (l : Launch) (v : am_E) (p : Program) (e : Env) (R : Room) (s : State) (m : MethodId) (args : Array Value) (below : List Frame) (meth : Method) (c : Code) (Q : State → Prop) : Prop :=
  ∀ (H : Heap) (locs : List Loc) (cells slots pc : Nat) (ls : Array Slot), va_S (am_A v) s.heap H locs → cells ≤ R.cells → slots ≤ R.slots → decode code pc = .ok (.ireturn, 1) → W p l e R s m args below meth c H locs cells slots Q (F0 m pc ls [.int 1])
def QP (S : am_S) (b : Nat × Nat) (pc : Nat) (L st : List Value) (hi : am_HI) (g : am_G) : Prop :=
  ∀ (l : Launch) (v : am_E) (p : Program) (e : Env) (R : Room) (s : State) (m : MethodId) (args : Array Value) (below : List Frame) (meth : Method) (c : Code) (H : Heap) (locs : List Loc) (cells slots : Nat) (ls : Array Slot) (Q : State → Prop),
    am_Cx M_L_law l v p R s m args meth c → am_LX S v s → am_LE l v p e R s m args below meth c Q → lv_has ls 9 ((0, .ref S.1) :: am_L v.1 0 L) → am_Dy v R s b hi g H locs cells slots →
    W p l e R s m args below meth c H locs cells slots Q (F0 m pc ls (st.map (am_cv v.1)))
section LROWS
variable {S : am_S} {b : Nat × Nat} {pc pc' : Nat} {L L' st st' : List Value} {hi : am_HI} {g : am_G}
theorem am_lh {ls : Array Slot} {q : Nat × Value} {xs : List (Nat × Value)} (h : lv_has ls 9 (q :: xs)) : lv_has ls 9 xs := ⟨h.1, h.2.1, fun r hr => h.2.2 r (List.mem_cons_of_mem _ hr)⟩
theorem QP.pure (k : ∀ (l : Launch) (v : am_E) (p : Program) (e : Env) (R : Room) (s : State) (m : MethodId) (args : Array Value) (below : List Frame) (meth : Method) (c : Code) (H : Heap) (locs : List Loc) (cells slots : Nat) (ls : Array Slot) (Q : State → Prop),
    am_Cx M_L_law l v p R s m args meth c → lv_has ls 9 (am_L v.1 0 L) → W p l e R s m args below meth c H locs cells slots Q (F0 m pc' ls (st'.map (am_cv v.1))) → W p l e R s m args below meth c H locs cells slots Q (F0 m pc ls (st.map (am_cv v.1))))
    (h : QP S b pc' L st' hi g) : QP S b pc L st hi g :=
  fun l v p e R s m args below meth c H locs cells slots ls Q C X E hl Y => k l v p e R s m args below meth c H locs cells slots ls Q C (am_lh hl) (h l v p e R s m args below meth c H locs cells slots ls Q C X E hl Y)
theorem QP.fork {c1 c2 : Prop} {pc1 pc2 : Nat} (k : ∀ (l : Launch) (v : am_E) (p : Program) (e : Env) (R : Room) (s : State) (m : MethodId) (args : Array Value) (below : List Frame) (meth : Method) (c : Code) (H : Heap) (locs : List Loc) (cells slots : Nat) (ls : Array Slot) (Q : State → Prop),
    am_Cx M_L_law l v p R s m args meth c → (c1 → W p l e R s m args below meth c H locs cells slots Q (F0 m pc1 ls (st'.map (am_cv v.1)))) → (c2 → W p l e R s m args below meth c H locs cells slots Q (F0 m pc2 ls (st'.map (am_cv v.1)))) → W p l e R s m args below meth c H locs cells slots Q (F0 m pc ls (st.map (am_cv v.1))))
    (h1 : c1 → QP S b pc1 L st' hi g) (h2 : c2 → QP S b pc2 L st' hi g) : QP S b pc L st hi g :=
  fun l v p e R s m args below meth c H locs cells slots ls Q C X E hl Y => k l v p e R s m args below meth c H locs cells slots ls Q C (fun z => h1 z l v p e R s m args below meth c H locs cells slots ls Q C X E hl Y) (fun z => h2 z l v p e R s m args below meth c H locs cells slots ls Q C X E hl Y)
theorem QP.aload_n {k : Fin 4} {i : Nat} {x : Nat} (hd : decode code pc = .ok (.aload_n k, 1)) (hi' : (k : Nat) = i) (hx : L[i]? = some (.ref x)) (h : QP S b (pc + 1) L (.ref x :: st) hi g) : QP S b pc L st hi g :=
  QP.pure (fun l v p e R s m args below meth c H locs cells slots ls Q C hl k => lv_aload_n C.1 C.2.1 hd hi' (am_get hl hx rfl) k) h
theorem QP.iload {i : Nat} {x : Int32} (hd : decode code pc = .ok (.iload i, 2)) (hx : L[i]? = some (.int x)) (h : QP S b (pc + 2) L (.int x :: st) hi g) : QP S b pc L st hi g :=
  QP.pure (fun l v p e R s m args below meth c H locs cells slots ls Q C hl k => lv_iload C.1 C.2.1 hd (am_get hl hx rfl) k) h
theorem QP.iconst {n : Int} {x : Int32} (hd : decode code pc = .ok (.iconst n, 1)) (hv : Int32.ofInt n = x) (h : QP S b (pc + 1) L (.int x :: st) hi g) : QP S b pc L st hi g :=
  QP.pure (fun l v p e R s m args below meth c H locs cells slots ls Q C hl k => lv_iconst C.1 C.2.1 hd hv k) h
theorem QP.bipush {n : Int} {x : Int32} (hd : decode code pc = .ok (.bipush n, 2)) (hv : (Int8.ofInt n).toInt32 = x) (h : QP S b (pc + 2) L (.int x :: st) hi g) : QP S b pc L st hi g :=
  QP.pure (fun l v p e R s m args below meth c H locs cells slots ls Q C hl k => lv_bipush C.1 C.2.1 hd hv k) h
theorem QP.lconst {n : Fin 2} {x : Int64} (hd : decode code pc = .ok (.lconst n, 1)) (hv : Int64.ofNat (n : Nat) = x) (h : QP S b (pc + 1) L (.long x :: st) hi g) : QP S b pc L st hi g :=
  QP.pure (fun l v p e R s m args below meth c H locs cells slots ls Q C hl k => lv_lconst C.1 C.2.1 hd hv k) h
theorem QP.goto {off : Int} {tgt : Nat} (hd : decode code pc = .ok (.goto off, 3)) (ht : (pc : Int) + off = (tgt : Int)) (h : QP S b tgt L st hi g) : QP S b pc L st hi g :=
  QP.pure (fun l v p e R s m args below meth c H locs cells slots ls Q C hl k => lv_goto C.1 C.2.1 hd ht k) h
theorem QP.isub {x y : Int32} (hd : decode code pc = .ok (.isub, 1)) (h : QP S b (pc + 1) L (.int (x - y) :: st) hi g) : QP S b pc L (.int y :: .int x :: st) hi g :=
  QP.pure (fun l v p e R s m args below meth c H locs cells slots ls Q C hl k => lv_isub C.1 C.2.1 hd k) h
theorem QP.iand {x y : Int32} (hd : decode code pc = .ok (.iand, 1)) (h : QP S b (pc + 1) L (.int (x &&& y) :: st) hi g) : QP S b pc L (.int y :: .int x :: st) hi g :=
  QP.pure (fun l v p e R s m args below meth c H locs cells slots ls Q C hl k => lv_iand C.1 C.2.1 hd k) h
theorem QP.i2l {x : Int32} (hd : decode code pc = .ok (.i2l, 1)) (h : QP S b (pc + 1) L (.long x.toInt64 :: st) hi g) : QP S b pc L (.int x :: st) hi g :=
  QP.pure (fun l v p e R s m args below meth c H locs cells slots ls Q C hl k => lv_i2l C.1 C.2.1 hd rfl k) h
theorem QP.lcmp {x y : Int64} (hd : decode code pc = .ok (.lcmp, 1)) (h : QP S b (pc + 1) L (.int (lg_cmp x y) :: st) hi g) : QP S b pc L (.long y :: .long x :: st) hi g :=
  QP.pure (fun l v p e R s m args below meth c H locs cells slots ls Q C hl k => W.lcmp C.1 C.2.1 hd k) h
theorem QP.icmp_eq {x y : Int32} {off : Int} {tgt : Nat} (hd : decode code pc = .ok (.if_icmp .eq off, 3)) (ht : (pc : Int) + off = (tgt : Int)) (h1 : x = y → QP S b tgt L st hi g) (h2 : ¬ x = y → QP S b (pc + 3) L st hi g) : QP S b pc L (.int y :: .int x :: st) hi g :=
  QP.fork (fun l v p e R s m args below meth c H locs cells slots ls Q C k1 k2 => lv_icmp_eq C.1 C.2.1 hd ht k1 k2) h1 h2
theorem QP.icmp_gt {x y : Int32} {off : Int} {tgt : Nat} (hd : decode code pc = .ok (.if_icmp .gt off, 3)) (ht : (pc : Int) + off = (tgt : Int)) (h1 : y < x → QP S b tgt L st hi g) (h2 : ¬ y < x → QP S b (pc + 3) L st hi g) : QP S b pc L (.int y :: .int x :: st) hi g :=
  QP.fork (fun l v p e R s m args below meth c H locs cells slots ls Q C k1 k2 => lv_icmp_gt C.1 C.2.1 hd ht k1 k2) h1 h2
theorem QP.if_eq {x : Int32} {off : Int} {tgt : Nat} (hd : decode code pc = .ok (.ifCond .eq off, 3)) (ht : (pc : Int) + off = (tgt : Int)) (h1 : x = 0 → QP S b tgt L st hi g) (h2 : ¬ x = 0 → QP S b (pc + 3) L st hi g) : QP S b pc L (.int x :: st) hi g :=
  QP.fork (fun l v p e R s m args below meth c H locs cells slots ls Q C k1 k2 => lv_if_eq C.1 C.2.1 hd ht k1 k2) h1 h2
theorem QP.if_ne {x : Int32} {off : Int} {tgt : Nat} (hd : decode code pc = .ok (.ifCond .ne off, 3)) (ht : (pc : Int) + off = (tgt : Int)) (h1 : ¬ x = 0 → QP S b tgt L st hi g) (h2 : x = 0 → QP S b (pc + 3) L st hi g) : QP S b pc L (.int x :: st) hi g :=
  QP.fork (fun l v p e R s m args below meth c H locs cells slots ls Q C k1 k2 => lv_if_ne C.1 C.2.1 hd ht k1 k2) h1 h2
theorem QP.tableIn {dflt lo up : Int} {offs : Array Int} {len : Nat} {x : Int32} {off : Int} {tgt : Nat} (hd : decode code pc = .ok (.tableswitch dflt lo up offs, len)) (h1 : ¬ x.toInt < lo) (h2 : ¬ up < x.toInt) (ho : offs[(x.toInt - lo).toNat]? = some off) (ht : (pc : Int) + off = (tgt : Int)) (h : QP S b tgt L st hi g) : QP S b pc L (.int x :: st) hi g :=
  QP.pure (fun l v p e R s m args below meth c H locs cells slots ls Q C hl k => lv_tableIn C.1 C.2.1 hd h1 h2 ho ht k) h
theorem QP.tableOut {dflt lo up : Int} {offs : Array Int} {len : Nat} {x : Int32} {tgt : Nat} (hd : decode code pc = .ok (.tableswitch dflt lo up offs, len)) (h1 : x.toInt < lo ∨ up < x.toInt) (ht : (pc : Int) + dflt = (tgt : Int)) (h : QP S b tgt L st hi g) : QP S b pc L (.int x :: st) hi g :=
  QP.pure (fun l v p e R s m args below meth c H locs cells slots ls Q C hl k => lv_tableOut C.1 C.2.1 hd h1 ht k) h
/-- a store of an int into a place that isn't the first -/
theorem am_putS {ls : Array Slot} {n0 i q : Nat} {L : List Value} {v : Value} (h0 : 0 < i) (h : lv_has ls 9 ((i, am_cv n0 v) :: ((0, .ref q) :: am_L n0 0 L).filter (fun r => !(r.1 == i) && !(r.1 + 1 == i && r.2.category == 2)))) : lv_has ls 9 ((0, .ref q) :: am_L n0 0 (am_st L i v)) := by
  have h1 : lv_has ls 9 (am_L n0 0 (am_st L i v)) := am_put1 ⟨h.1, h.2.1, fun r hr => h.2.2 r (by
    rcases List.mem_cons.mp hr with e | e
    · rw [e]; exact List.mem_cons_self
    · obtain ⟨e1, e2⟩ := List.mem_filter.mp e
      exact List.mem_cons_of_mem _ (List.mem_filter.mpr ⟨List.mem_cons_of_mem _ e1, e2⟩))⟩
  refine ⟨h.1, h.2.1, fun r hr => ?_⟩
  rcases List.mem_cons.mp hr with e | e
  · rw [e]
    refine h.2.2 (0, .ref q) (List.mem_cons_of_mem _ (List.mem_filter.mpr ⟨List.mem_cons_self, ?_⟩))
    have : (0 == i) = false := by simp; omega
    simp [this, Value.category]
  · exact h1.2.2 r e
theorem QP.istore {i : Nat} {x : Int32} (hd : decode code pc = .ok (.istore i, 2)) (h0 : 0 < i) (hn : i < 9) (hL : am_st L i (.int x) = L') (h : QP S b (pc + 2) L' st hi g) : QP S b pc L (.int x :: st) hi g := by
  subst hL
  exact fun l v p e R s m args below meth c H locs cells slots ls Q C X E hl Y => lv_istore C.1 C.2.1 hd hl hn rfl (fun ls' hl' => h l v p e R s m args below meth c H locs cells slots ls' Q C X E (am_putS (v := .int x) h0 hl') Y)
theorem QP.iinc {i : Nat} {n : Int} {x y : Int32} (hd : decode code pc = .ok (.iinc i n, 3)) (hx : L[i]? = some (.int x)) (hy : x + Int32.ofInt n = y) (h0 : 0 < i) (hn : i < 9) (hL : am_st L i (.int y) = L') (h : QP S b (pc + 3) L' st hi g) : QP S b pc L st hi g := by
  subst hL
  exact fun l v p e R s m args below meth c H locs cells slots ls Q C X E hl Y => by
    obtain ⟨k9, hk⟩ := am_L_idx (n0 := v.1) L hx
    exact lv_iinc C.1 C.2.1 hd hl (k := k9 + 1) (by rw [List.getElem?_cons_succ]; exact hk) hy hn rfl (fun ls' hl' => h l v p e R s m args below meth c H locs cells slots ls' Q C X E (am_putS (v := .int y) h0 hl') Y)
theorem QP.lald {k n j : Nat} {i : Int32} (hd : decode code pc = .ok (.laload, 1)) (hs : am_SH k = (4, n)) (hk : k < am_N g.1) (hn : n < 2 ^ 31) (hx : i = nI j) (hj : j < n)
    (h : QP S b (pc + 1) L (.long (g.2.2 k j) :: st) hi g) : QP S b pc L (.int i :: .ref k :: st) hi g :=
  fun l v p e R s m args below meth c H locs cells slots ls Q C X E hl Y => by
    subst hx
    refine va_lald C.1 C.2.1 C.2.2.2.2.2.2.2.2.2.2.1.1 Y.1.1 k 3 (cA := v.2.2.1 3) (n := n) (f := g.2.2 k) (by rw [am_ws_get hk, hs]; rfl) rfl (vp_in_nI hj hn) hd ?_
    rw [nI_clamp (by omega)]
    exact h l v p e R s m args below meth c H locs cells slots ls Q C X E hl Y
theorem QP.ret (hd : decode code pc = .ok (.ireturn, 1)) : QP S b pc L [.int 1] hi g :=
  fun l v p e R s m args below meth c H locs cells slots ls Q C X E hl Y => E H locs cells slots pc ls Y.2.1 (by have := Y.2.2.1; omega) (by have := Y.2.2.2.1; omega) hd
/-- script.length -/
theorem QP.slen (h0 : decode code pc = .ok (.aload_n 0, 1)) (h1 : decode code (pc + 1) = .ok (.arraylength, 1)) (h : QP S b (pc + 2) L (.int (Int32.ofNat S.2.1) :: st) hi g) : QP S b pc L st hi g :=
  fun l v p e R s m args below meth c H locs cells slots ls Q C X E hl Y =>
    lv_aload_n (i := 0) C.1 C.2.1 h0 rfl (hl.2.2 _ List.mem_cons_self) (va_slen C.1 C.2.1 X.1 X.2.1 X.2.2.1 Y.2.1 h1 (h l v p e R s m args below meth c H locs cells slots ls Q C X E hl Y))
theorem QP.rd0 {j : Nat} (h0 : decode code pc = .ok (.aload_n 0, 1)) (h1 : decode code (pc + 1) = .ok (.iload 4, 2)) (h3 : decode code (pc + 3) = .ok (.iaload, 1)) (hx : L[4]? = some (.int (nI j))) (hj : j < S.2.1) (hL : S.2.1 ≤ 2048) (h : QP S b (pc + 4) L (.int (S.2.2 j) :: st) hi g) : QP S b pc L st hi g :=
  fun l v p e R s m args below meth c H locs cells slots ls Q C X E hl Y =>
    lv_aload_n (i := 0) C.1 C.2.1 h0 rfl (hl.2.2 _ List.mem_cons_self) (lv_iload C.1 C.2.1 h1 (am_get (am_lh hl) hx rfl) (va_sld C.1 C.2.1 X.1 X.2.1 X.2.2.1 Y.2.1 (vp_in_nI hj (by omega)) h3 (by
      rw [nI_clamp (by omega)]
      exact h l v p e R s m args below meth c H locs cells slots ls Q C X E hl Y)))
theorem QP.rdk {j k : Nat} (h0 : decode code pc = .ok (.aload_n 0, 1)) (h1 : decode code (pc + 1) = .ok (.iload 4, 2)) (h3 : decode code (pc + 3) = .ok (.iconst k, 1)) (h4 : decode code (pc + 4) = .ok (.iadd, 1)) (h5 : decode code (pc + 5) = .ok (.iaload, 1)) (hx : L[4]? = some (.int (nI j))) (hj : j + k < S.2.1) (hL : S.2.1 ≤ 2048) (h : QP S b (pc + 6) L (.int (S.2.2 (j + k)) :: st) hi g) : QP S b pc L st hi g :=
  fun l v p e R s m args below meth c H locs cells slots ls Q C X E hl Y =>
    lv_aload_n (i := 0) C.1 C.2.1 h0 rfl (hl.2.2 _ List.mem_cons_self) (lv_iload C.1 C.2.1 h1 (am_get (am_lh hl) hx rfl) (lv_iconst (v := nI k) C.1 C.2.1 h3 (by rfl) (lv_iadd C.1 C.2.1 h4 (by
      have e9 : nI j + nI k = nI (j + k) := nI_add j k
      rw [e9]
      refine va_sld C.1 C.2.1 X.1 X.2.1 X.2.2.1 Y.2.1 (vp_in_nI hj (by omega)) h5 ?_
      rw [nI_clamp (by omega)]
      exact h l v p e R s m args below meth c H locs cells slots ls Q C X E hl Y))))
end LROWS
section LCALLS
variable {M' : am_M} {S : am_S} {b b' b2 : Nat × Nat} {pc : Nat} {L st rest : List Value} {hi : am_HI} {g : am_G} {Ψ : am_P}
theorem QP.callV {idx k ci : Nat} {q : vw_C} {As : List Value} (hc : am_Ct M' b' (.ref k :: As) hi g Ψ) (cs : am_csV M_L_law idx M' As.length) (hd : decode code pc = .ok (.invokevirtual idx, 3)) (hst : st = As.reverse ++ .ref k :: rest) (hs : am_SH k = (0, ci)) (hk : k < am_N g.1) (hq : vwCl[ci]? = some q) (hC : q.1 = (am_y M').cls) (hrest : (rest.map Value.category).sum ≤ 8) (hb : b'.1 + b2.1 ≤ b.1 ∧ b'.2 + b2.2 ≤ b.2) (hg : am_ph b' g Ψ)
    (hx : ∀ E hi' g', ¬ Ψ (.error E) hi' g') (h : ∀ r hi' g', Ψ (.ok r) hi' g' → QP S b2 (pc + 3) L (r.toList ++ rest) hi' g') : QP S b pc L st hi g := by
  subst hst
  intro l v p e R s m args below meth c H locs cells slots ls Q C X EX hl Y
  refine W.bound (fun hH => ?_)
  obtain ⟨c1, c2, c3, c4, c5, c6, c7, c8, c9, c10, c11, c12, c13, c14, c15⟩ := id C
  have hp := am_pre (av := .ref k :: As) c11 c12 c13 Y hH
  have hrun := vx_runV (p := p) (e := e) (below := below) (meth := meth) (H := H) (locs := locs) (R := R) (cells := cells) (slots := slots) (mc := b'.1) (ms := b'.2) (n := As.length) (C := (am_y M').cls) (b := v.1 + k) (As := As.map (am_cv v.1)) (rest := rest.map (am_cv v.1)) (g := F0 m pc ls ((As.reverse ++ .ref k :: rest).map (am_cv v.1))) ⟨c1, c2, c3, c5, c6⟩ (hc l v c14) ⟨cs.1.cb c6 c9 c10 cs.2.1, c6 _ cs.2.2.1, c6 _ cs.2.2.2⟩
    ⟨hp.1, by rw [← hC]; exact va_recv (q0 := k) (ci := ci) c11.1 Y.1.1 hq (by rw [am_ws_get hk, hs]; rfl), hp.2⟩ rfl (by simp) hl.1 (by simp [List.map_append, List.map_reverse, am_cv]) (by
      have : (rest.map (am_cv v.1)).map (fun v => v.category) = rest.map Value.category := by rw [List.map_map]; exact List.map_congr_left (fun x _ => am_cv_cat _ x)
      rw [this]
      show 2 * 0 + _ ≤ 8
      omega) hd ⟨by have := Y.2.2.1; omega, by have := Y.2.2.2.1; omega⟩
  exact am_back (idx := idx) (b2 := b2) hg hb Y hrun (fun E hi' g' H1 locs1 q' ce hΨ Y1 h1 h2 h3 => absurd hΨ (hx E hi' g')) (fun r hi' g' H1 locs1 hΨ Y1 => h r hi' g' hΨ l v p e R s m args below meth c H1 locs1 _ _ ls Q C X EX hl Y1)
def am_csxb (M : am_M) (M' : am_M) (n : Nat) : Bool := (!(am_hh M').isEmpty) && ((am_y M').cls != "java/lang/invoke/MethodHandle") && ((am_y M').cls != "java/lang/invoke/VarHandle") && ((parseMethodDescriptor (am_y M').desc).map (fun d => d.parameters.length) == some n) && Nat.ble (am_fr M' + 1) (am_fr M) && Nat.ble (8 + (am_nL M' + 11) + am_lo M') (am_lo M)
def am_csX (M : am_M) (idx : Nat) (M' : am_M) (n : Nat) : Prop := am_csxb M M' n = true ∧ Cond.initialized (am_y M').cls ∈ am_GT ∧ am_hd M' ∈ am_GT ∧ Cond.methodLink (am_y M).cls idx (am_y M') ∈ am_GT ∧ Cond.static (am_y M') ∈ am_GT
theorem QP.callX {idx : Nat} {As : List Value} (hc : am_Ct M' b' As hi g Ψ) (cs : am_csX M_L_law idx M' As.length) (hd : decode code pc = .ok (.invokestatic idx, 3)) (hst : st = As.reverse ++ rest) (hrest : (rest.map Value.category).sum ≤ 8) (hb : b'.1 + b2.1 ≤ b.1 ∧ b'.2 + b2.2 ≤ b.2) (hg : am_ph b' g Ψ)
    (hx : ∀ E hi' g', ¬ Ψ (.error E) hi' g') (h : ∀ r hi' g', Ψ (.ok r) hi' g' → QP S b2 (pc + 3) L (r.toList ++ rest) hi' g') : QP S b pc L st hi g := by
  subst hst
  intro l v p e R s m args below meth c H locs cells slots ls Q C X EX hl Y
  refine W.bound (fun hH => ?_)
  obtain ⟨c1, c2, c3, c4, c5, c6, c7, c8, c9, c10, c11, c12, c13, c14, c15⟩ := id C
  obtain ⟨csb, ci, ch, cl, cst⟩ := cs
  unfold am_csxb at csb
  simp only [Bool.and_eq_true, bne_iff_ne, beq_iff_eq, Bool.not_eq_true', List.isEmpty_eq_false_iff] at csb
  obtain ⟨⟨⟨⟨⟨a1, a2⟩, a3⟩, a4⟩, a5⟩, a6⟩ := csb
  have a5 := Nat.le_of_ble_eq_true a5
  have a6 := Nat.le_of_ble_eq_true a6
  have e0 : am_hd M' = .codeWith (am_y M') (am_cc M') (am_nL M') (am_rt M') (am_hh M') := by
    unfold am_hd
    cases hh : am_hh M' with
    | nil => exact absurd hh a1
    | cons x xs => rfl
  have hp := am_pre (av := As) c11 c12 c13 Y hH
  have hrun := vx_runSX (p := p) (e := e) (below := below) (meth := meth) (H := H) (locs := locs) (R := R) (cells := cells) (slots := slots) (bytes := am_cc M') (maxL := am_nL M') (ret := am_rt M') (hh := am_hh M') (n := As.length) (mc := b'.1) (ms := b'.2) (As := As.map (am_cv v.1)) (rest := rest.map (am_cv v.1)) (g := F0 m pc ls ((As.reverse ++ rest).map (am_cv v.1))) ⟨c1, c2, c3, c5, c6⟩ (hc l v c14)
    ⟨⟨rfl, rfl, by show am_fr M' + 1 ≤ _; omega, by show 8 + (am_nL M' + 11) + am_lo M' ≤ _; omega, pay_in c6 (am_gtin _ ch (fun w h => h)), by rw [e0]; exact List.mem_cons_self⟩, by rw [← e0]; exact c6 _ ch, c6 _ ci, ⟨a2, a3⟩, fun sig hsig => by rw [hsig] at a4; exact (Option.some.inj a4).symm, c6 _ cl, c6 _ cst⟩
    hp rfl (by simp) hl.1 (by simp [List.map_append, List.map_reverse]) (by
      have : (rest.map (am_cv v.1)).map (fun v => v.category) = rest.map Value.category := by rw [List.map_map]; exact List.map_congr_left (fun x _ => am_cv_cat _ x)
      rw [this]
      show 2 * 0 + _ ≤ 8
      omega) hd ⟨by have := Y.2.2.1; omega, by have := Y.2.2.2.1; omega⟩
  exact am_back (idx := idx) (b2 := b2) hg hb Y hrun (fun E hi' g' H1 locs1 q' ce hΨ Y1 h1 h2 h3 => absurd hΨ (hx E hi' g')) (fun r hi' g' H1 locs1 hΨ Y1 => h r hi' g' hΨ l v p e R s m args below meth c H1 locs1 _ _ ls Q C X EX hl Y1)
theorem QP.callr {idx k ci : Nat} {q : vw_C} {As : List Value} {r : Option Value} {P : am_HI → Prop} (hI : am_Inv g) (hc : am_Cr M' (.ref k :: As) hi g r P) (cs : am_csV M_L_law idx M' As.length) (hd : decode code pc = .ok (.invokevirtual idx, 3)) (hst : st = As.reverse ++ .ref k :: rest) (hs : am_SH k = (0, ci)) (hk : k < 134) (hq : vwCl[ci]? = some q) (hC : q.1 = (am_y M').cls) (hrest : (rest.map Value.category).sum ≤ 8)
    (h : ∀ hi' : am_HI, P hi' → QP S b (pc + 3) L (r.toList ++ rest) hi' g) : QP S b pc L st hi g :=
  QP.callV (b2 := b) hc cs hd hst hs (hI.lt hk) hq hC hrest ⟨by show 0 + b.1 ≤ b.1; omega, by show 0 + b.2 ≤ b.2; omega⟩ (am_ph.none hI.1 (fun r hi' g' h => by rw [h.2.1]; exact hI.1)) (fun E hi' g' h => by cases h.1) (fun r' hi' g' h' => by
    obtain ⟨h1, rfl, h3⟩ := h'
    cases h1
    exact h hi' h3)
theorem QP.callg {idx k ci : Nat} {q : vw_C} {As : List Value} {r : Option Value} {P : am_HI → am_G → Prop} (hI : am_Inv g) (hc : am_Cg M' (.ref k :: As) hi g r P) (cs : am_csV M_L_law idx M' As.length) (hd : decode code pc = .ok (.invokevirtual idx, 3)) (hst : st = As.reverse ++ .ref k :: rest) (hs : am_SH k = (0, ci)) (hk : k < 134) (hq : vwCl[ci]? = some q) (hC : q.1 = (am_y M').cls) (hrest : (rest.map Value.category).sum ≤ 8)
    (h : ∀ (h' : am_HI) (g' : am_G), am_Inv g' → P h' g' → QP S b (pc + 3) L (r.toList ++ rest) h' g') : QP S b pc L st hi g :=
  QP.callV (b2 := b) hc cs hd hst hs (hI.lt hk) hq hC hrest ⟨by show 0 + b.1 ≤ b.1; omega, by show 0 + b.2 ≤ b.2; omega⟩ (am_ph.none hI.1 (fun r h' g' h => h.2.1.1)) (fun E h' g' h => by cases h.1) (fun r' h' g' h' => by
    obtain ⟨h1, h2, h3⟩ := h'
    cases h1
    exact h _ _ h2 h3)
theorem QP.calll {idx n : Nat} {As : List Value} {cd : Int32} {P : am_HI → am_G → Prop} (hI : am_Inv g) (hc : am_Cl M' As hi g cd P) (cs : am_csX M_L_law idx M' As.length) (hd : decode code pc = .ok (.invokestatic idx, 3)) (hst : st = As.reverse ++ rest) (hrest : (rest.map Value.category).sum ≤ 8)
    (h : ∀ (h' : am_HI) (g' : am_G), am_Inv g' → P h' g' → QP S (n, 6 * n) (pc + 3) L (.int cd :: rest) h' g') : QP S (n + 1, 6 * (n + 1)) pc L st hi g :=
  QP.callX (b' := (1, 6)) (b2 := (n, 6 * n)) hc cs hd hst hrest ⟨by show 1 + n ≤ n + 1; omega, by show 6 + 6 * n ≤ 6 * (n + 1); omega⟩ (am_ph.none hI.1 (fun r h' g' h => h.2.1.1)) (fun E h' g' h => by cases h.1) (fun r' h' g' h' => by
    obtain ⟨h1, h2, h3⟩ := h'
    cases h1
    exact h _ _ h2 h3)
end LCALLS
