/-! ===== A POINT OF A METHOD: from here, over this store, the run ends as Φ says ===== -/
def am_xt (M : am_M) (c : Code) : Prop := c.exceptionTable.toList.map (fun h => (h.startPc, h.endPc, h.handlerPc, h.catchType)) = am_hh M
def am_Cx (M : am_M) (l : Launch) (v : am_E) (p : Program) (R : Room) (s : State) (m : MethodId) (args : Array Value) (meth : Method) (c : Code) : Prop :=
  p.tables.exec = Jvm.exec ∧ c.code = am_cc M ∧ c.maxLocals = am_nL M ∧ meth.sig.returnType = am_rt M ∧ s.vm.findClass (am_y M).cls = some m.cls ∧ (∀ w ∈ am_GT, w.before args s = true) ∧ meth.locks = false ∧ meth.name = (am_y M).name ∧ am_fr M ≤ R.frames ∧ am_lo M ≤ R.locals ∧ am_K v s ∧ am_Z v s s.heap ∧ v.1 ≤ s.heap.size ∧ l.stackTraces = false ∧ am_xt M c
/-- which values an answer of a type may have -/
def am_vt : Option FieldType → Option Value → Prop
  | none, none => True
  | some .int, some (.int _) => True
  | some .boolean, some (.int x) => x = 0 ∨ x = 1
  | some .long, some (.long _) => True
  | some .double, some (.double _) => True
  | _, _ => False
def am_ri : Option FieldType → Instr
  | none => .return_
  | some .long => .lreturn
  | some .double => .dreturn
  | _ => .ireturn
/-- what the end of the run is good for -/
def am_Ex (M : am_M) (l : Launch) (v : am_E) (p : Program) (e : Env) (R : Room) (s : State) (m : MethodId) (args : Array Value) (below : List Frame) (meth : Method) (c : Code) (Φ : am_P) (Q : State → Prop) : Prop :=
  (∀ (r : Option Value) (hi : am_HI) (g : am_G) (H : Heap) (locs : List Loc) (cells slots pc : Nat) (ls : Array Slot), Φ (.ok r) hi g → am_vt (am_rt M) r → am_Rep v hi g H → va_S (am_A v) s.heap H locs → cells ≤ R.cells → slots ≤ R.slots → decode (am_cc M) pc = .ok (am_ri (am_rt M), 1) →
    W p l e R s m args below meth c H locs cells slots Q (F0 m pc ls ((r.map (am_cv v.1)).toList))) ∧
  (∀ (E : String) (hi : am_HI) (g : am_G) (H : Heap) (locs : List Loc) (cells slots pc : Nat) (ls : Array Slot) (rest : List Value) (q : Addr) (ce : Cell), Φ (.error E) hi g → am_Rep v hi g H → va_S (am_A v) s.heap H locs → cells ≤ R.cells → slots ≤ R.slots → (∀ x ∈ c.exceptionTable.toList, covers x pc = false) → H[q]? = some ce → ce.vm = .none → s.vm.findClass E = some ce.cls →
    vx_W p l e R s m args below meth c H locs cells slots Q (F0 m pc ls rest) q)
/-- the store at a point of a run from s -/
def am_Dy (v : am_E) (R : Room) (s : State) (b : Nat × Nat) (hi : am_HI) (g : am_G) (H : Heap) (locs : List Loc) (cells slots : Nat) : Prop :=
  am_Rep v hi g H ∧ va_S (am_A v) s.heap H locs ∧ cells + b.1 ≤ R.cells ∧ slots + b.2 ≤ R.slots ∧ ∀ n, g.1 = some n → s.heap.size + cells ≤ v.1 + n
def AP (M : am_M) (b : Nat × Nat) (pc : Nat) (L st : List Value) (hi : am_HI) (g : am_G) (Φ : am_P) : Prop :=
  ∀ (l : Launch) (v : am_E) (p : Program) (e : Env) (R : Room) (s : State) (m : MethodId) (args : Array Value) (below : List Frame) (meth : Method) (c : Code) (H : Heap) (locs : List Loc) (cells slots : Nat) (ls : Array Slot) (Q : State → Prop),
    am_Cx M l v p R s m args meth c → am_Ex M l v p e R s m args below meth c Φ Q → lv_has ls (am_nL M) (am_L v.1 0 L) → am_Dy v R s b hi g H locs cells slots →
    W p l e R s m args below meth c H locs cells slots Q (F0 m pc ls (st.map (am_cv v.1)))
section PURE
variable {M : am_M} {b : Nat × Nat} {pc pc' : Nat} {L L' st st' : List Value} {hi : am_HI} {g : am_G} {Φ : am_P}
/-- an instruction that touches the stack alone -/
theorem AP.pure (k : ∀ (l : Launch) (v : am_E) (p : Program) (e : Env) (R : Room) (s : State) (m : MethodId) (args : Array Value) (below : List Frame) (meth : Method) (c : Code) (H : Heap) (locs : List Loc) (cells slots : Nat) (ls : Array Slot) (Q : State → Prop),
    am_Cx M l v p R s m args meth c → lv_has ls (am_nL M) (am_L v.1 0 L) → W p l e R s m args below meth c H locs cells slots Q (F0 m pc' ls (st'.map (am_cv v.1))) → W p l e R s m args below meth c H locs cells slots Q (F0 m pc ls (st.map (am_cv v.1))))
    (h : AP M b pc' L st' hi g Φ) : AP M b pc L st hi g Φ :=
  fun l v p e R s m args below meth c H locs cells slots ls Q C X hl Y => k l v p e R s m args below meth c H locs cells slots ls Q C hl (h l v p e R s m args below meth c H locs cells slots ls Q C X hl Y)
/-- a store into a place -/
theorem AP.stl (k : ∀ (l : Launch) (v : am_E) (p : Program) (e : Env) (R : Room) (s : State) (m : MethodId) (args : Array Value) (below : List Frame) (meth : Method) (c : Code) (H : Heap) (locs : List Loc) (cells slots : Nat) (ls : Array Slot) (Q : State → Prop),
    am_Cx M l v p R s m args meth c → lv_has ls (am_nL M) (am_L v.1 0 L) → (∀ ls' : Array Slot, lv_has ls' (am_nL M) (am_L v.1 0 L') → W p l e R s m args below meth c H locs cells slots Q (F0 m pc' ls' (st'.map (am_cv v.1)))) → W p l e R s m args below meth c H locs cells slots Q (F0 m pc ls (st.map (am_cv v.1))))
    (h : AP M b pc' L' st' hi g Φ) : AP M b pc L st hi g Φ :=
  fun l v p e R s m args below meth c H locs cells slots ls Q C X hl Y => k l v p e R s m args below meth c H locs cells slots ls Q C hl (fun ls' hl' => h l v p e R s m args below meth c H locs cells slots ls' Q C X hl' Y)
/-- a fork -/
theorem AP.fork {c1 c2 : Prop} {pc1 pc2 : Nat} (k : ∀ (l : Launch) (v : am_E) (p : Program) (e : Env) (R : Room) (s : State) (m : MethodId) (args : Array Value) (below : List Frame) (meth : Method) (c : Code) (H : Heap) (locs : List Loc) (cells slots : Nat) (ls : Array Slot) (Q : State → Prop),
    am_Cx M l v p R s m args meth c → (c1 → W p l e R s m args below meth c H locs cells slots Q (F0 m pc1 ls (st'.map (am_cv v.1)))) → (c2 → W p l e R s m args below meth c H locs cells slots Q (F0 m pc2 ls (st'.map (am_cv v.1)))) → W p l e R s m args below meth c H locs cells slots Q (F0 m pc ls (st.map (am_cv v.1))))
    (h1 : c1 → AP M b pc1 L st' hi g Φ) (h2 : c2 → AP M b pc2 L st' hi g Φ) : AP M b pc L st hi g Φ :=
  fun l v p e R s m args below meth c H locs cells slots ls Q C X hl Y => k l v p e R s m args below meth c H locs cells slots ls Q C (fun z => h1 z l v p e R s m args below meth c H locs cells slots ls Q C X hl Y) (fun z => h2 z l v p e R s m args below meth c H locs cells slots ls Q C X hl Y)
theorem AP.iload_n {k : Fin 4} {i : Nat} {x : Int32} (hd : decode (am_cc M) pc = .ok (.iload_n k, 1)) (hi' : (k : Nat) = i) (hx : L[i]? = some (.int x)) (h : AP M b (pc + 1) L (.int x :: st) hi g Φ) : AP M b pc L st hi g Φ :=
  AP.pure (fun l v p e R s m args below meth c H locs cells slots ls Q C hl k => lv_iload_n C.1 C.2.1 hd hi' (am_get hl hx rfl) k) h
theorem AP.iload {i : Nat} {x : Int32} (hd : decode (am_cc M) pc = .ok (.iload i, 2)) (hx : L[i]? = some (.int x)) (h : AP M b (pc + 2) L (.int x :: st) hi g Φ) : AP M b pc L st hi g Φ :=
  AP.pure (fun l v p e R s m args below meth c H locs cells slots ls Q C hl k => lv_iload C.1 C.2.1 hd (am_get hl hx rfl) k) h
theorem AP.lload_n {k : Fin 4} {i : Nat} {x : Int64} (hd : decode (am_cc M) pc = .ok (.lload_n k, 1)) (hi' : (k : Nat) = i) (hx : L[i]? = some (.long x)) (h : AP M b (pc + 1) L (.long x :: st) hi g Φ) : AP M b pc L st hi g Φ :=
  AP.pure (fun l v p e R s m args below meth c H locs cells slots ls Q C hl k => lv_lload_n C.1 C.2.1 hd hi' (am_get hl hx rfl) k) h
theorem AP.lload {i : Nat} {x : Int64} (hd : decode (am_cc M) pc = .ok (.lload i, 2)) (hx : L[i]? = some (.long x)) (h : AP M b (pc + 2) L (.long x :: st) hi g Φ) : AP M b pc L st hi g Φ :=
  AP.pure (fun l v p e R s m args below meth c H locs cells slots ls Q C hl k => lv_lload C.1 C.2.1 hd (am_get hl hx rfl) k) h
theorem AP.dload_n {k : Fin 4} {i : Nat} {x : UInt64} (hd : decode (am_cc M) pc = .ok (.dload_n k, 1)) (hi' : (k : Nat) = i) (hx : L[i]? = some (.double x)) (h : AP M b (pc + 1) L (.double x :: st) hi g Φ) : AP M b pc L st hi g Φ :=
  AP.pure (fun l v p e R s m args below meth c H locs cells slots ls Q C hl k => lv_dload_n C.1 C.2.1 hd hi' (am_get hl hx rfl) k) h
theorem AP.dload {i : Nat} {x : UInt64} (hd : decode (am_cc M) pc = .ok (.dload i, 2)) (hx : L[i]? = some (.double x)) (h : AP M b (pc + 2) L (.double x :: st) hi g Φ) : AP M b pc L st hi g Φ :=
  AP.pure (fun l v p e R s m args below meth c H locs cells slots ls Q C hl k => lv_dload C.1 C.2.1 hd (am_get hl hx rfl) k) h
theorem AP.aload_n {k : Fin 4} {i : Nat} {x : Nat} (hd : decode (am_cc M) pc = .ok (.aload_n k, 1)) (hi' : (k : Nat) = i) (hx : L[i]? = some (.ref x)) (h : AP M b (pc + 1) L (.ref x :: st) hi g Φ) : AP M b pc L st hi g Φ :=
  AP.pure (fun l v p e R s m args below meth c H locs cells slots ls Q C hl k => lv_aload_n C.1 C.2.1 hd hi' (am_get hl hx rfl) k) h
theorem AP.aload {i : Nat} {x : Nat} (hd : decode (am_cc M) pc = .ok (.aload i, 2)) (hx : L[i]? = some (.ref x)) (h : AP M b (pc + 2) L (.ref x :: st) hi g Φ) : AP M b pc L st hi g Φ :=
  AP.pure (fun l v p e R s m args below meth c H locs cells slots ls Q C hl k => lv_aload C.1 C.2.1 hd (am_get hl hx rfl) k) h
theorem AP.istore_n {k : Fin 4} {i : Nat} {x : Int32} (hd : decode (am_cc M) pc = .ok (.istore_n k, 1)) (hi' : (k : Nat) = i) (hn : i < am_nL M) (hL : am_st L i (.int x) = L') (h : AP M b (pc + 1) L' st hi g Φ) : AP M b pc L (.int x :: st) hi g Φ := by
  subst hL
  exact AP.stl (fun l v p e R s m args below meth c H locs cells slots ls Q C hl k => lv_istore_n C.1 C.2.1 hd hi' hl hn rfl (fun ls' hl' => k ls' (am_put1 (v := .int x) hl'))) h
theorem AP.istore {i : Nat} {x : Int32} (hd : decode (am_cc M) pc = .ok (.istore i, 2)) (hn : i < am_nL M) (hL : am_st L i (.int x) = L') (h : AP M b (pc + 2) L' st hi g Φ) : AP M b pc L (.int x :: st) hi g Φ := by
  subst hL
  exact AP.stl (fun l v p e R s m args below meth c H locs cells slots ls Q C hl k => lv_istore C.1 C.2.1 hd hl hn rfl (fun ls' hl' => k ls' (am_put1 (v := .int x) hl'))) h
theorem AP.astore_n {k : Fin 4} {i : Nat} {x : Nat} (hd : decode (am_cc M) pc = .ok (.astore_n k, 1)) (hi' : (k : Nat) = i) (hn : i < am_nL M) (hL : am_st L i (.ref x) = L') (h : AP M b (pc + 1) L' st hi g Φ) : AP M b pc L (.ref x :: st) hi g Φ := by
  subst hL
  exact AP.stl (fun l v p e R s m args below meth c H locs cells slots ls Q C hl k => lv_astore_n C.1 C.2.1 hd hi' hl hn rfl (fun ls' hl' => k ls' (am_put1 (v := .ref x) hl'))) h
theorem AP.astore {i : Nat} {x : Nat} (hd : decode (am_cc M) pc = .ok (.astore i, 2)) (hn : i < am_nL M) (hL : am_st L i (.ref x) = L') (h : AP M b (pc + 2) L' st hi g Φ) : AP M b pc L (.ref x :: st) hi g Φ := by
  subst hL
  exact AP.stl (fun l v p e R s m args below meth c H locs cells slots ls Q C hl k => lv_astore C.1 C.2.1 hd hl hn rfl (fun ls' hl' => k ls' (am_put1 (v := .ref x) hl'))) h
theorem AP.lstore_n {k : Fin 4} {i : Nat} {x : Int64} (hd : decode (am_cc M) pc = .ok (.lstore_n k, 1)) (hi' : (k : Nat) = i) (hn : i + 1 < am_nL M) (hL : am_st L i (.long x) = L') (h : AP M b (pc + 1) L' st hi g Φ) : AP M b pc L (.long x :: st) hi g Φ := by
  subst hL
  exact AP.stl (fun l v p e R s m args below meth c H locs cells slots ls Q C hl k => lv_lstore_n C.1 C.2.1 hd hi' hl hn rfl (fun ls' hl' => k ls' (am_put2 (v := .long x) rfl hl'))) h
theorem AP.lstore {i : Nat} {x : Int64} (hd : decode (am_cc M) pc = .ok (.lstore i, 2)) (hn : i + 1 < am_nL M) (hL : am_st L i (.long x) = L') (h : AP M b (pc + 2) L' st hi g Φ) : AP M b pc L (.long x :: st) hi g Φ := by
  subst hL
  exact AP.stl (fun l v p e R s m args below meth c H locs cells slots ls Q C hl k => lv_lstore C.1 C.2.1 hd hl hn rfl (fun ls' hl' => k ls' (am_put2 (v := .long x) rfl hl'))) h
theorem AP.dstore_n {k : Fin 4} {i : Nat} {x : UInt64} (hd : decode (am_cc M) pc = .ok (.dstore_n k, 1)) (hi' : (k : Nat) = i) (hn : i + 1 < am_nL M) (hL : am_st L i (.double x) = L') (h : AP M b (pc + 1) L' st hi g Φ) : AP M b pc L (.double x :: st) hi g Φ := by
  subst hL
  exact AP.stl (fun l v p e R s m args below meth c H locs cells slots ls Q C hl k => lv_dstore_n C.1 C.2.1 hd hi' hl hn rfl (fun ls' hl' => k ls' (am_put2 (v := .double x) rfl hl'))) h
theorem AP.dstore {i : Nat} {x : UInt64} (hd : decode (am_cc M) pc = .ok (.dstore i, 2)) (hn : i + 1 < am_nL M) (hL : am_st L i (.double x) = L') (h : AP M b (pc + 2) L' st hi g Φ) : AP M b pc L (.double x :: st) hi g Φ := by
  subst hL
  exact AP.stl (fun l v p e R s m args below meth c H locs cells slots ls Q C hl k => lv_dstore C.1 C.2.1 hd hl hn rfl (fun ls' hl' => k ls' (am_put2 (v := .double x) rfl hl'))) h
theorem am_L_idx {n0 : Nat} {x : Int32} {i : Nat} (L : List Value) (h : L[i]? = some (Value.int x)) : ∃ k : Nat, (am_L n0 0 L)[k]? = some (i, Value.int x) := List.getElem?_of_mem ((am_L_mem (n0 := n0) (j := i) (w := Value.int x) L 0).mpr ⟨i, Value.int x, h, rfl, (Nat.zero_add i).symm, rfl⟩)
theorem AP.iinc {i : Nat} {n : Int} {x y : Int32} (hd : decode (am_cc M) pc = .ok (.iinc i n, 3)) (hx : L[i]? = some (.int x)) (hy : x + Int32.ofInt n = y) (hn : i < am_nL M) (hL : am_st L i (.int y) = L') (h : AP M b (pc + 3) L' st hi g Φ) : AP M b pc L st hi g Φ := by
  subst hL
  exact AP.stl (fun l v p e R s m args below meth c H locs cells slots ls Q C hl k => by
    obtain ⟨k9, hk⟩ := am_L_idx (n0 := v.1) L hx
    exact lv_iinc C.1 C.2.1 hd hl hk hy hn rfl (fun ls' hl' => k ls' (am_put1 (v := .int y) hl'))) h
theorem AP.iconst {n : Int} {x : Int32} (hd : decode (am_cc M) pc = .ok (.iconst n, 1)) (hv : Int32.ofInt n = x) (h : AP M b (pc + 1) L (.int x :: st) hi g Φ) : AP M b pc L st hi g Φ :=
  AP.pure (fun l v p e R s m args below meth c H locs cells slots ls Q C hl k => lv_iconst C.1 C.2.1 hd hv k) h
theorem AP.bipush {n : Int} {x : Int32} (hd : decode (am_cc M) pc = .ok (.bipush n, 2)) (hv : (Int8.ofInt n).toInt32 = x) (h : AP M b (pc + 2) L (.int x :: st) hi g Φ) : AP M b pc L st hi g Φ :=
  AP.pure (fun l v p e R s m args below meth c H locs cells slots ls Q C hl k => lv_bipush C.1 C.2.1 hd hv k) h
theorem AP.sipush {n : Int} {x : Int32} (hd : decode (am_cc M) pc = .ok (.sipush n, 3)) (hv : (Int16.ofInt n).toInt32 = x) (h : AP M b (pc + 3) L (.int x :: st) hi g Φ) : AP M b pc L st hi g Φ :=
  AP.pure (fun l v p e R s m args below meth c H locs cells slots ls Q C hl k => lv_sipush C.1 C.2.1 hd hv k) h
theorem AP.lconst {n : Fin 2} {x : Int64} (hd : decode (am_cc M) pc = .ok (.lconst n, 1)) (hv : Int64.ofNat (n : Nat) = x) (h : AP M b (pc + 1) L (.long x :: st) hi g Φ) : AP M b pc L st hi g Φ :=
  AP.pure (fun l v p e R s m args below meth c H locs cells slots ls Q C hl k => lv_lconst C.1 C.2.1 hd hv k) h
theorem AP.ldc {i : Nat} {x : Int32} (hd : decode (am_cc M) pc = .ok (.ldc i, 2)) (hw : Cond.constant (am_y M).cls i x ∈ am_GT) (h : AP M b (pc + 2) L (.int x :: st) hi g Φ) : AP M b pc L st hi g Φ :=
  AP.pure (fun l v p e R s m args below meth c H locs cells slots ls Q C hl k => lv_ldc C.1 C.2.1 C.2.2.2.2.1 (C.2.2.2.2.2.1 _ hw) hd k) h
theorem AP.ldc2 {i : Nat} {x : Int64} (hd : decode (am_cc M) pc = .ok (.ldc2_w i, 3)) (hw : Cond.constantLong (am_y M).cls i x ∈ am_GT) (h : AP M b (pc + 3) L (.long x :: st) hi g Φ) : AP M b pc L st hi g Φ :=
  AP.pure (fun l v p e R s m args below meth c H locs cells slots ls Q C hl k => lv_ldc2 C.1 C.2.1 C.2.2.2.2.1 (C.2.2.2.2.2.1 _ hw) hd k) h
theorem AP.ldc2d {i : Nat} {x : UInt64} (hd : decode (am_cc M) pc = .ok (.ldc2_w i, 3)) (hw : Cond.constantDouble (am_y M).cls i x ∈ am_GT) (h : AP M b (pc + 3) L (.double x :: st) hi g Φ) : AP M b pc L st hi g Φ :=
  AP.pure (fun l v p e R s m args below meth c H locs cells slots ls Q C hl k => lv_ldc2d C.1 C.2.1 C.2.2.2.2.1 (C.2.2.2.2.2.1 _ hw) hd k) h
theorem AP.dup {u : Value} (hd : decode (am_cc M) pc = .ok (.dup, 1)) (hu : u.category = 1) (h : AP M b (pc + 1) L (u :: u :: st) hi g Φ) : AP M b pc L (u :: st) hi g Φ :=
  AP.pure (fun l v p e R s m args below meth c H locs cells slots ls Q C hl k => lv_dup C.1 C.2.1 hd (by rw [am_cv_cat]; exact hu) k) h
theorem AP.dup2 {u w : Value} (hd : decode (am_cc M) pc = .ok (.dup2, 1)) (hu : u.category = 1) (hw : w.category = 1) (h : AP M b (pc + 1) L (u :: w :: u :: w :: st) hi g Φ) : AP M b pc L (u :: w :: st) hi g Φ :=
  AP.pure (fun l v p e R s m args below meth c H locs cells slots ls Q C hl k => lv_dup2_11 C.1 C.2.1 hd (by rw [am_cv_cat]; exact hu) (by rw [am_cv_cat]; exact hw) k) h
theorem AP.pop {u : Value} (hd : decode (am_cc M) pc = .ok (.pop, 1)) (hu : u.category = 1) (h : AP M b (pc + 1) L st hi g Φ) : AP M b pc L (u :: st) hi g Φ :=
  AP.pure (fun l v p e R s m args below meth c H locs cells slots ls Q C hl k => lv_pop C.1 C.2.1 hd (by rw [am_cv_cat]; exact hu) k) h
theorem AP.goto {off : Int} {tgt : Nat} (hd : decode (am_cc M) pc = .ok (.goto off, 3)) (ht : (pc : Int) + off = (tgt : Int)) (h : AP M b tgt L st hi g Φ) : AP M b pc L st hi g Φ :=
  AP.pure (fun l v p e R s m args below meth c H locs cells slots ls Q C hl k => lv_goto C.1 C.2.1 hd ht k) h
theorem AP.iadd {x y : Int32} (hd : decode (am_cc M) pc = .ok (.iadd, 1)) (h : AP M b (pc + 1) L (.int (x + y) :: st) hi g Φ) : AP M b pc L (.int y :: .int x :: st) hi g Φ :=
  AP.pure (fun l v p e R s m args below meth c H locs cells slots ls Q C hl k => lv_iadd C.1 C.2.1 hd k) h
theorem AP.isub {x y : Int32} (hd : decode (am_cc M) pc = .ok (.isub, 1)) (h : AP M b (pc + 1) L (.int (x - y) :: st) hi g Φ) : AP M b pc L (.int y :: .int x :: st) hi g Φ :=
  AP.pure (fun l v p e R s m args below meth c H locs cells slots ls Q C hl k => lv_isub C.1 C.2.1 hd k) h
theorem AP.imul {x y : Int32} (hd : decode (am_cc M) pc = .ok (.imul, 1)) (h : AP M b (pc + 1) L (.int (x * y) :: st) hi g Φ) : AP M b pc L (.int y :: .int x :: st) hi g Φ :=
  AP.pure (fun l v p e R s m args below meth c H locs cells slots ls Q C hl k => lv_imul C.1 C.2.1 hd k) h
theorem AP.iand {x y : Int32} (hd : decode (am_cc M) pc = .ok (.iand, 1)) (h : AP M b (pc + 1) L (.int (x &&& y) :: st) hi g Φ) : AP M b pc L (.int y :: .int x :: st) hi g Φ :=
  AP.pure (fun l v p e R s m args below meth c H locs cells slots ls Q C hl k => lv_iand C.1 C.2.1 hd k) h
theorem AP.ixor {x y : Int32} (hd : decode (am_cc M) pc = .ok (.ixor, 1)) (h : AP M b (pc + 1) L (.int (x ^^^ y) :: st) hi g Φ) : AP M b pc L (.int y :: .int x :: st) hi g Φ :=
  AP.pure (fun l v p e R s m args below meth c H locs cells slots ls Q C hl k => lv_ixor C.1 C.2.1 hd k) h
theorem AP.ladd {x y : Int64} (hd : decode (am_cc M) pc = .ok (.ladd, 1)) (h : AP M b (pc + 1) L (.long (x + y) :: st) hi g Φ) : AP M b pc L (.long y :: .long x :: st) hi g Φ :=
  AP.pure (fun l v p e R s m args below meth c H locs cells slots ls Q C hl k => lv_ladd C.1 C.2.1 hd k) h
theorem AP.lsub {x y : Int64} (hd : decode (am_cc M) pc = .ok (.lsub, 1)) (h : AP M b (pc + 1) L (.long (x - y) :: st) hi g Φ) : AP M b pc L (.long y :: .long x :: st) hi g Φ :=
  AP.pure (fun l v p e R s m args below meth c H locs cells slots ls Q C hl k => lv_lsub C.1 C.2.1 hd k) h
theorem AP.lmul {x y : Int64} (hd : decode (am_cc M) pc = .ok (.lmul, 1)) (h : AP M b (pc + 1) L (.long (x * y) :: st) hi g Φ) : AP M b pc L (.long y :: .long x :: st) hi g Φ :=
  AP.pure (fun l v p e R s m args below meth c H locs cells slots ls Q C hl k => lv_lmul C.1 C.2.1 hd k) h
theorem AP.lor {x y : Int64} (hd : decode (am_cc M) pc = .ok (.lor, 1)) (h : AP M b (pc + 1) L (.long (x ||| y) :: st) hi g Φ) : AP M b pc L (.long y :: .long x :: st) hi g Φ :=
  AP.pure (fun l v p e R s m args below meth c H locs cells slots ls Q C hl k => lv_lor C.1 C.2.1 hd k) h
theorem AP.icmp_eq {x y : Int32} {off : Int} {tgt : Nat} (hd : decode (am_cc M) pc = .ok (.if_icmp .eq off, 3)) (ht : (pc : Int) + off = (tgt : Int)) (h1 : x = y → AP M b tgt L st hi g Φ) (h2 : ¬ x = y → AP M b (pc + 3) L st hi g Φ) : AP M b pc L (.int y :: .int x :: st) hi g Φ :=
  AP.fork (fun l v p e R s m args below meth c H locs cells slots ls Q C k1 k2 => lv_icmp_eq C.1 C.2.1 hd ht k1 k2) h1 h2
theorem AP.icmp_ne {x y : Int32} {off : Int} {tgt : Nat} (hd : decode (am_cc M) pc = .ok (.if_icmp .ne off, 3)) (ht : (pc : Int) + off = (tgt : Int)) (h1 : ¬ x = y → AP M b tgt L st hi g Φ) (h2 : x = y → AP M b (pc + 3) L st hi g Φ) : AP M b pc L (.int y :: .int x :: st) hi g Φ :=
  AP.fork (fun l v p e R s m args below meth c H locs cells slots ls Q C k1 k2 => lv_icmp_ne C.1 C.2.1 hd ht k1 k2) h1 h2
theorem AP.icmp_lt {x y : Int32} {off : Int} {tgt : Nat} (hd : decode (am_cc M) pc = .ok (.if_icmp .lt off, 3)) (ht : (pc : Int) + off = (tgt : Int)) (h1 : x < y → AP M b tgt L st hi g Φ) (h2 : ¬ x < y → AP M b (pc + 3) L st hi g Φ) : AP M b pc L (.int y :: .int x :: st) hi g Φ :=
  AP.fork (fun l v p e R s m args below meth c H locs cells slots ls Q C k1 k2 => lv_icmp_lt C.1 C.2.1 hd ht k1 k2) h1 h2
theorem AP.icmp_ge {x y : Int32} {off : Int} {tgt : Nat} (hd : decode (am_cc M) pc = .ok (.if_icmp .ge off, 3)) (ht : (pc : Int) + off = (tgt : Int)) (h1 : y ≤ x → AP M b tgt L st hi g Φ) (h2 : ¬ y ≤ x → AP M b (pc + 3) L st hi g Φ) : AP M b pc L (.int y :: .int x :: st) hi g Φ :=
  AP.fork (fun l v p e R s m args below meth c H locs cells slots ls Q C k1 k2 => lv_icmp_ge C.1 C.2.1 hd ht k1 k2) h1 h2
theorem AP.icmp_gt {x y : Int32} {off : Int} {tgt : Nat} (hd : decode (am_cc M) pc = .ok (.if_icmp .gt off, 3)) (ht : (pc : Int) + off = (tgt : Int)) (h1 : y < x → AP M b tgt L st hi g Φ) (h2 : ¬ y < x → AP M b (pc + 3) L st hi g Φ) : AP M b pc L (.int y :: .int x :: st) hi g Φ :=
  AP.fork (fun l v p e R s m args below meth c H locs cells slots ls Q C k1 k2 => lv_icmp_gt C.1 C.2.1 hd ht k1 k2) h1 h2
theorem AP.icmp_le {x y : Int32} {off : Int} {tgt : Nat} (hd : decode (am_cc M) pc = .ok (.if_icmp .le off, 3)) (ht : (pc : Int) + off = (tgt : Int)) (h1 : x ≤ y → AP M b tgt L st hi g Φ) (h2 : ¬ x ≤ y → AP M b (pc + 3) L st hi g Φ) : AP M b pc L (.int y :: .int x :: st) hi g Φ :=
  AP.fork (fun l v p e R s m args below meth c H locs cells slots ls Q C k1 k2 => lv_icmp_le C.1 C.2.1 hd ht k1 k2) h1 h2
theorem AP.if_eq {x : Int32} {off : Int} {tgt : Nat} (hd : decode (am_cc M) pc = .ok (.ifCond .eq off, 3)) (ht : (pc : Int) + off = (tgt : Int)) (h1 : x = 0 → AP M b tgt L st hi g Φ) (h2 : ¬ x = 0 → AP M b (pc + 3) L st hi g Φ) : AP M b pc L (.int x :: st) hi g Φ :=
  AP.fork (fun l v p e R s m args below meth c H locs cells slots ls Q C k1 k2 => lv_if_eq C.1 C.2.1 hd ht k1 k2) h1 h2
theorem AP.if_ne {x : Int32} {off : Int} {tgt : Nat} (hd : decode (am_cc M) pc = .ok (.ifCond .ne off, 3)) (ht : (pc : Int) + off = (tgt : Int)) (h1 : ¬ x = 0 → AP M b tgt L st hi g Φ) (h2 : x = 0 → AP M b (pc + 3) L st hi g Φ) : AP M b pc L (.int x :: st) hi g Φ :=
  AP.fork (fun l v p e R s m args below meth c H locs cells slots ls Q C k1 k2 => lv_if_ne C.1 C.2.1 hd ht k1 k2) h1 h2
theorem AP.if_lt {x : Int32} {off : Int} {tgt : Nat} (hd : decode (am_cc M) pc = .ok (.ifCond .lt off, 3)) (ht : (pc : Int) + off = (tgt : Int)) (h1 : x < 0 → AP M b tgt L st hi g Φ) (h2 : ¬ x < 0 → AP M b (pc + 3) L st hi g Φ) : AP M b pc L (.int x :: st) hi g Φ :=
  AP.fork (fun l v p e R s m args below meth c H locs cells slots ls Q C k1 k2 => lv_if_lt C.1 C.2.1 hd ht k1 k2) h1 h2
theorem AP.if_ge {x : Int32} {off : Int} {tgt : Nat} (hd : decode (am_cc M) pc = .ok (.ifCond .ge off, 3)) (ht : (pc : Int) + off = (tgt : Int)) (h1 : 0 ≤ x → AP M b tgt L st hi g Φ) (h2 : ¬ 0 ≤ x → AP M b (pc + 3) L st hi g Φ) : AP M b pc L (.int x :: st) hi g Φ :=
  AP.fork (fun l v p e R s m args below meth c H locs cells slots ls Q C k1 k2 => lv_if_ge C.1 C.2.1 hd ht k1 k2) h1 h2
theorem AP.if_gt {x : Int32} {off : Int} {tgt : Nat} (hd : decode (am_cc M) pc = .ok (.ifCond .gt off, 3)) (ht : (pc : Int) + off = (tgt : Int)) (h1 : 0 < x → AP M b tgt L st hi g Φ) (h2 : ¬ 0 < x → AP M b (pc + 3) L st hi g Φ) : AP M b pc L (.int x :: st) hi g Φ :=
  AP.fork (fun l v p e R s m args below meth c H locs cells slots ls Q C k1 k2 => lv_if_gt C.1 C.2.1 hd ht k1 k2) h1 h2
theorem AP.if_le {x : Int32} {off : Int} {tgt : Nat} (hd : decode (am_cc M) pc = .ok (.ifCond .le off, 3)) (ht : (pc : Int) + off = (tgt : Int)) (h1 : x ≤ 0 → AP M b tgt L st hi g Φ) (h2 : ¬ x ≤ 0 → AP M b (pc + 3) L st hi g Φ) : AP M b pc L (.int x :: st) hi g Φ :=
  AP.fork (fun l v p e R s m args below meth c H locs cells slots ls Q C k1 k2 => lv_if_le C.1 C.2.1 hd ht k1 k2) h1 h2
end PURE
