/-! ===== the rows of arithmetic that are left, and switches ===== -/
section PURE2
variable {M : am_M} {b : Nat × Nat} {pc pc' : Nat} {L L' st st' : List Value} {hi : am_HI} {g : am_G} {Φ : am_P}
theorem AP.ishl {x y : Int32} (hd : decode (am_cc M) pc = .ok (.ishl, 1)) (h : AP M b (pc + 1) L (.int (x <<< (y &&& 31)) :: st) hi g Φ) : AP M b pc L (.int y :: .int x :: st) hi g Φ :=
  AP.pure (fun l v p e R s m args below meth c H locs cells slots ls Q C hl k => lv_ishl C.1 C.2.1 hd k) h
theorem AP.ishr {x y : Int32} (hd : decode (am_cc M) pc = .ok (.ishr, 1)) (h : AP M b (pc + 1) L (.int (x >>> (y &&& 31)) :: st) hi g Φ) : AP M b pc L (.int y :: .int x :: st) hi g Φ :=
  AP.pure (fun l v p e R s m args below meth c H locs cells slots ls Q C hl k => lv_ishr C.1 C.2.1 hd k) h
theorem AP.lshl {x : Int64} {y : Int32} (hd : decode (am_cc M) pc = .ok (.lshl, 1)) (h : AP M b (pc + 1) L (.long (x <<< (y.toInt64 &&& 63)) :: st) hi g Φ) : AP M b pc L (.int y :: .long x :: st) hi g Φ :=
  AP.pure (fun l v p e R s m args below meth c H locs cells slots ls Q C hl k => lv_lshl C.1 C.2.1 hd rfl k) h
theorem AP.ineg {x : Int32} (hd : decode (am_cc M) pc = .ok (.ineg, 1)) (h : AP M b (pc + 1) L (.int (-x) :: st) hi g Φ) : AP M b pc L (.int x :: st) hi g Φ :=
  AP.pure (fun l v p e R s m args below meth c H locs cells slots ls Q C hl k => lv_ineg C.1 C.2.1 hd k) h
theorem AP.idiv {x y : Int32} (hd : decode (am_cc M) pc = .ok (.idiv, 1)) (hy : ¬ y = 0) (h : AP M b (pc + 1) L (.int (x / y) :: st) hi g Φ) : AP M b pc L (.int y :: .int x :: st) hi g Φ :=
  AP.pure (fun l v p e R s m args below meth c H locs cells slots ls Q C hl k => lv_idiv C.1 C.2.1 hd hy k) h
theorem AP.irem {x y : Int32} (hd : decode (am_cc M) pc = .ok (.irem, 1)) (hy : ¬ y = 0) (h : AP M b (pc + 1) L (.int (x - x / y * y) :: st) hi g Φ) : AP M b pc L (.int y :: .int x :: st) hi g Φ :=
  AP.pure (fun l v p e R s m args below meth c H locs cells slots ls Q C hl k => lv_irem C.1 C.2.1 hd hy k) h
theorem AP.i2l {x : Int32} (hd : decode (am_cc M) pc = .ok (.i2l, 1)) (h : AP M b (pc + 1) L (.long x.toInt64 :: st) hi g Φ) : AP M b pc L (.int x :: st) hi g Φ :=
  AP.pure (fun l v p e R s m args below meth c H locs cells slots ls Q C hl k => lv_i2l C.1 C.2.1 hd rfl k) h
theorem AP.i2c {x : Int32} (hd : decode (am_cc M) pc = .ok (.i2c, 1)) (h : AP M b (pc + 1) L (.int ((x.toUInt32 % 65536).toInt32) :: st) hi g Φ) : AP M b pc L (.int x :: st) hi g Φ :=
  AP.pure (fun l v p e R s m args below meth c H locs cells slots ls Q C hl k => lv_i2c C.1 C.2.1 hd rfl k) h
theorem AP.i2d {x : Int32} (hd : decode (am_cc M) pc = .ok (.i2d, 1)) (h : AP M b (pc + 1) L (.double (FP.i2d x) :: st) hi g Φ) : AP M b pc L (.int x :: st) hi g Φ :=
  AP.pure (fun l v p e R s m args below meth c H locs cells slots ls Q C hl k => lv_i2d C.1 C.2.1 hd k) h
theorem AP.d2l {x : UInt64} (hd : decode (am_cc M) pc = .ok (.d2l, 1)) (h : AP M b (pc + 1) L (.long (FP.d2l x) :: st) hi g Φ) : AP M b pc L (.double x :: st) hi g Φ :=
  AP.pure (fun l v p e R s m args below meth c H locs cells slots ls Q C hl k => lv_d2l C.1 C.2.1 hd k) h
theorem AP.lcmp {x y : Int64} (hd : decode (am_cc M) pc = .ok (.lcmp, 1)) (h : AP M b (pc + 1) L (.int (lg_cmp x y) :: st) hi g Φ) : AP M b pc L (.long y :: .long x :: st) hi g Φ :=
  AP.pure (fun l v p e R s m args below meth c H locs cells slots ls Q C hl k => W.lcmp C.1 C.2.1 hd k) h
theorem AP.dcmp {x y : UInt64} {op : CmpOp} (hd : decode (am_cc M) pc = .ok (.dcmp op, 1)) (h : AP M b (pc + 1) L (.int (Op.cmpValue (FP.dcmp x y) op) :: st) hi g Φ) : AP M b pc L (.double y :: .double x :: st) hi g Φ :=
  AP.pure (fun l v p e R s m args below meth c H locs cells slots ls Q C hl k => lv_dcmp C.1 C.2.1 hd k) h
theorem AP.ddiv {x y : UInt64} (hd : decode (am_cc M) pc = .ok (.ddiv, 1)) (hn : vf_n64 (FP.ddiv x y)) (h : AP M b (pc + 1) L (.double (FP.ddiv x y) :: st) hi g Φ) : AP M b pc L (.double y :: .double x :: st) hi g Φ :=
  AP.pure (fun l v p e R s m args below meth c H locs cells slots ls Q C hl k => lv_ddiv C.1 C.2.1 hd hn k) h
theorem AP.dmul {x y : UInt64} (hd : decode (am_cc M) pc = .ok (.dmul, 1)) (hn : vf_n64 (FP.dmul x y)) (h : AP M b (pc + 1) L (.double (FP.dmul x y) :: st) hi g Φ) : AP M b pc L (.double y :: .double x :: st) hi g Φ :=
  AP.pure (fun l v p e R s m args below meth c H locs cells slots ls Q C hl k => lv_dmul C.1 C.2.1 hd hn k) h
theorem AP.dsub {x y : UInt64} (hd : decode (am_cc M) pc = .ok (.dsub, 1)) (hn : vf_n64 (FP.dsub x y)) (h : AP M b (pc + 1) L (.double (FP.dsub x y) :: st) hi g Φ) : AP M b pc L (.double y :: .double x :: st) hi g Φ :=
  AP.pure (fun l v p e R s m args below meth c H locs cells slots ls Q C hl k => lv_dsub C.1 C.2.1 hd hn k) h
theorem AP.dconst0 (hd : decode (am_cc M) pc = .ok (.dconst 0, 1)) (h : AP M b (pc + 1) L (.double FP.dconst0 :: st) hi g Φ) : AP M b pc L st hi g Φ :=
  AP.pure (fun l v p e R s m args below meth c H locs cells slots ls Q C hl k => lv_dconst0 C.1 C.2.1 hd k) h
theorem AP.dconst1 (hd : decode (am_cc M) pc = .ok (.dconst 1, 1)) (h : AP M b (pc + 1) L (.double FP.dconst1 :: st) hi g Φ) : AP M b pc L st hi g Φ :=
  AP.pure (fun l v p e R s m args below meth c H locs cells slots ls Q C hl k => lv_dconst1 C.1 C.2.1 hd k) h
theorem AP.lookup {dflt : Int} {ps : Array (Int × Int)} {len : Nat} {x : Int32} {off : Int} {tgt : Nat} (hd : decode (am_cc M) pc = .ok (.lookupswitch dflt ps, len)) (hp : (ps.toList.zip (ps.toList.drop 1)).all (fun (a, next) => a.1 < next.1) = true) (ho : Op.lookupswitch.offset ps.toList dflt x.toInt = off) (ht : (pc : Int) + off = (tgt : Int)) (h : AP M b tgt L st hi g Φ) : AP M b pc L (.int x :: st) hi g Φ :=
  AP.pure (fun l v p e R s m args below meth c H locs cells slots ls Q C hl k => lv_lookup C.1 C.2.1 hd hp ho ht k) h
theorem AP.tableIn {dflt lo up : Int} {offs : Array Int} {len : Nat} {x : Int32} {off : Int} {tgt : Nat} (hd : decode (am_cc M) pc = .ok (.tableswitch dflt lo up offs, len)) (h1 : ¬ x.toInt < lo) (h2 : ¬ up < x.toInt) (ho : offs[(x.toInt - lo).toNat]? = some off) (ht : (pc : Int) + off = (tgt : Int)) (h : AP M b tgt L st hi g Φ) : AP M b pc L (.int x :: st) hi g Φ :=
  AP.pure (fun l v p e R s m args below meth c H locs cells slots ls Q C hl k => lv_tableIn C.1 C.2.1 hd h1 h2 ho ht k) h
theorem AP.tableOut {dflt lo up : Int} {offs : Array Int} {len : Nat} {x : Int32} {tgt : Nat} (hd : decode (am_cc M) pc = .ok (.tableswitch dflt lo up offs, len)) (h1 : x.toInt < lo ∨ up < x.toInt) (ht : (pc : Int) + dflt = (tgt : Int)) (h : AP M b tgt L st hi g Φ) : AP M b pc L (.int x :: st) hi g Φ :=
  AP.pure (fun l v p e R s m args below meth c H locs cells slots ls Q C hl k => lv_tableOut C.1 C.2.1 hd h1 ht k) h
end PURE2
/-! ===== the store's cells ===== -/
theorem am_ws_len (n0 : Nat) (ca : Nat → ClassId) (hi : am_HI) (g : am_G) : (am_ws n0 ca hi g).length = am_N g.1 := by simp [am_ws]
theorem am_ws_get {n0 : Nat} {ca : Nat → ClassId} {hi : am_HI} {g : am_G} {k : Nat} (hk : k < am_N g.1) : (am_ws n0 ca hi g)[k]? = some (n0 + k, am_cell n0 ca (hi k) (g.2.1 k) (g.2.2 k) (am_SH k)) := by
  simp [am_ws, List.getElem?_map, List.getElem?_range hk]
theorem am_ws_is {n0 : Nat} {ca : Nat → ClassId} {hi : am_HI} {g : am_G} {k : Nat} {q : Nat × va_E} (h : (am_ws n0 ca hi g)[k]? = some q) : k < am_N g.1 ∧ q = (n0 + k, am_cell n0 ca (hi k) (g.2.1 k) (g.2.2 k) (am_SH k)) := by
  have hk : k < am_N g.1 := by rw [← am_ws_len n0 ca hi g]; exact (List.getElem?_eq_some_iff.mp h).1
  rw [am_ws_get hk] at h
  exact ⟨hk, (Option.some.inj h).symm⟩
theorem am_ws_D (v : am_E) (ca : Nat → ClassId) (hi : am_HI) (g : am_G) : va_D (am_A v) (am_ws v.1 ca hi g) := by
  refine ⟨fun i j p q hp hq he => ?_, fun k q hq => ?_⟩
  · obtain ⟨-, rfl⟩ := am_ws_is hp
    obtain ⟨-, rfl⟩ := am_ws_is hq
    have : v.1 + i = v.1 + j := he
    omega
  · obtain ⟨-, rfl⟩ := am_ws_is hq
    exact Nat.le_add_right _ _
theorem am_va_self {α : Type} (f : Nat → α) (k : Nat) : va_up f k (f k) = f := by
  funext j
  unfold va_up
  by_cases h : j = k
  · rw [if_pos h, h]
  · rw [if_neg h]
theorem am_va_at {α : Type} (f : Nat → α) (k : Nat) (x : α) : va_up f k x k = x := if_pos rfl
theorem am_va_ne {α : Type} {f : Nat → α} {k j : Nat} {x : α} (h : j ≠ k) : va_up f k x j = f j := if_neg h
theorem am_ws_set {n0 : Nat} {ca : Nat → ClassId} {hi : am_HI} {g : am_G} {k : Nat} {e : va_E} (ri : Nat → Int32) (rr : Nat → Option Nat) (rl : Nat → Int64) (hk : k < am_N g.1) (he : e = am_cell n0 ca ri rr rl (am_SH k)) : (am_ws n0 ca hi g).set k (n0 + k, e) = am_ws n0 ca (va_up hi k ri) (g.1, va_up g.2.1 k rr, va_up g.2.2 k rl) := by
  apply List.ext_getElem?
  intro j
  rw [List.getElem?_set]
  by_cases h : k = j
  · subst h
    rw [if_pos rfl, am_ws_len, if_pos hk, am_ws_get (g := (g.1, va_up g.2.1 k rr, va_up g.2.2 k rl)) hk]
    dsimp only
    rw [am_va_at, am_va_at, am_va_at, he]
  · rw [if_neg h]
    by_cases hj : j < am_N g.1
    · rw [am_ws_get hj, am_ws_get (g := (g.1, va_up g.2.1 k rr, va_up g.2.2 k rl)) hj]
      dsimp only
      rw [am_va_ne (Ne.symm h), am_va_ne (Ne.symm h), am_va_ne (Ne.symm h)]
    · rw [List.getElem?_eq_none (by rw [am_ws_len]; omega), List.getElem?_eq_none (by rw [am_ws_len]; exact Nat.not_lt.mp hj)]
/-- one number of the cell k changes -/
def am_up (hi : am_HI) (k j : Nat) (x : Int32) : am_HI := va_up hi k (upd (hi k) j x)
theorem am_ws_setI {n0 : Nat} {ca : Nat → ClassId} {hi : am_HI} {g : am_G} {k : Nat} {e : va_E} (ri : Nat → Int32) (hk : k < am_N g.1) (he : e = am_cell n0 ca ri (g.2.1 k) (g.2.2 k) (am_SH k)) : (am_ws n0 ca hi g).set k (n0 + k, e) = am_ws n0 ca (va_up hi k ri) g := by
  rw [am_ws_set ri (g.2.1 k) (g.2.2 k) hk he, am_va_self, am_va_self]
theorem am_Rep.lt {v : am_E} {hi : am_HI} {g : am_G} {H : Heap} (h : va_P v.2.1 vwCl (am_ws v.1 v.2.2.1 hi g) H) (hN : 0 < am_N g.1) : v.1 + am_N g.1 ≤ H.size := by
  have h1 := (h (am_N g.1 - 1) _ (am_ws_get (by omega))).lt
  have h2 : v.1 + (am_N g.1 - 1) < H.size := h1
  omega
def am_ty (ci : Nat) : Nat → FieldType := [tyX0, tyX1, tyX2, tyX3, tyX4, tyX5, tyX6, tyX7, tyX8, tyX9, tyX10].getD ci tyX0
theorem am_in0 : ∀ w ∈ u_ws RX0 TX0 6, w ∈ am_GT := by decide +kernel
theorem am_in1 : ∀ w ∈ u_ws RX1 TX1 2, w ∈ am_GT := by decide +kernel
theorem am_in2 : ∀ w ∈ u_ws RX2 TX2 8, w ∈ am_GT := by decide +kernel
theorem am_in3 : ∀ w ∈ u_ws RX3 TX3 3, w ∈ am_GT := by decide +kernel
theorem am_in4 : ∀ w ∈ u_ws RX4 TX4 1, w ∈ am_GT := by decide +kernel
theorem am_in5 : ∀ w ∈ u_ws RX5 TX5 2, w ∈ am_GT := by decide +kernel
theorem am_in6 : ∀ w ∈ u_ws RX6 TX6 8, w ∈ am_GT := by decide +kernel
theorem am_in7 : ∀ w ∈ u_ws RX7 TX7 7, w ∈ am_GT := by decide +kernel
theorem am_in8 : ∀ w ∈ u_ws RX8 TX8 6, w ∈ am_GT := by decide +kernel
theorem am_in9 : ∀ w ∈ u_ws RX9 TX9 7, w ∈ am_GT := by decide +kernel
theorem am_in10 : ∀ w ∈ u_ws RX10 TX10 15, w ∈ am_GT := by decide +kernel
theorem am_cin {ci : Nat} {q : vw_C} (h : vwCl[ci]? = some q) : (∀ w ∈ u_ws q.1 q.2.1 q.2.2, w ∈ am_GT) ∧ (∀ k, k < q.2.2 → parseFieldDescriptor (q.2.1 k).2.2.1 = some (am_ty ci k)) ∧ (∀ a, a < q.2.2 → ∀ b, b < q.2.2 → a ≠ b → (q.2.1 a).2.1 ≠ (q.2.1 b).2.1) ∧ vwCl.getD ci (RX0, TX0, 6) = q := by
  have hl : ci < 11 := (List.getElem?_eq_some_iff.mp h).1
  refine ⟨?_, ?_, ?_, by rw [List.getD_eq_getElem?_getD, h]; rfl⟩
  all_goals (rcases (show ci = 0 ∨ ci = 1 ∨ ci = 2 ∨ ci = 3 ∨ ci = 4 ∨ ci = 5 ∨ ci = 6 ∨ ci = 7 ∨ ci = 8 ∨ ci = 9 ∨ ci = 10 by omega) with rfl | rfl | rfl | rfl | rfl | rfl | rfl | rfl | rfl | rfl | rfl <;> cases h)
  · exact am_in0
  · exact am_in1
  · exact am_in2
  · exact am_in3
  · exact am_in4
  · exact am_in5
  · exact am_in6
  · exact am_in7
  · exact am_in8
  · exact am_in9
  · exact am_in10
  · exact tyX0_ok
  · exact tyX1_ok
  · exact tyX2_ok
  · exact tyX3_ok
  · exact tyX4_ok
  · exact tyX5_ok
  · exact tyX6_ok
  · exact tyX7_ok
  · exact tyX8_ok
  · exact tyX9_ok
  · exact tyX10_ok
  · exact nmX0
  · exact nmX1
  · exact nmX2
  · exact nmX3
  · exact nmX4
  · exact nmX5
  · exact nmX6
  · exact nmX7
  · exact nmX8
  · exact nmX9
  · exact nmX10
section HEAP
variable {M : am_M} {b : Nat × Nat} {pc pc' : Nat} {L L' st st' : List Value} {hi hi' : am_HI} {g g' : am_G} {Φ : am_P}
/-- an instruction that reads the store -/
theorem AP.hget (k : ∀ (l : Launch) (v : am_E) (p : Program) (e : Env) (R : Room) (s : State) (m : MethodId) (args : Array Value) (below : List Frame) (meth : Method) (c : Code) (H : Heap) (locs : List Loc) (cells slots : Nat) (ls : Array Slot) (Q : State → Prop),
    am_Cx M l v p R s m args meth c → va_P v.2.1 vwCl (am_ws v.1 v.2.2.1 hi g) H → W p l e R s m args below meth c H locs cells slots Q (F0 m pc' ls (st'.map (am_cv v.1))) → W p l e R s m args below meth c H locs cells slots Q (F0 m pc ls (st.map (am_cv v.1))))
    (h : AP M b pc' L st' hi g Φ) : AP M b pc L st hi g Φ :=
  fun l v p e R s m args below meth c H locs cells slots ls Q C X hl Y => k l v p e R s m args below meth c H locs cells slots ls Q C Y.1.1 (h l v p e R s m args below meth c H locs cells slots ls Q C X hl Y)
/-- an instruction that writes it -/
theorem AP.hput (hg : g'.1 = g.1) (hN : 0 < am_N g.1) (k : ∀ (l : Launch) (v : am_E) (p : Program) (e : Env) (R : Room) (s : State) (m : MethodId) (args : Array Value) (below : List Frame) (meth : Method) (c : Code) (H : Heap) (locs : List Loc) (cells slots : Nat) (ls : Array Slot) (Q : State → Prop),
    am_Cx M l v p R s m args meth c → ls.size = am_nL M → va_P v.2.1 vwCl (am_ws v.1 v.2.2.1 hi g) H → va_D (am_A v) (am_ws v.1 v.2.2.1 hi g) → va_S (am_A v) s.heap H locs →
    (∀ (H1 : Heap) (locs1 : List Loc), va_P v.2.1 vwCl (am_ws v.1 v.2.2.1 hi' g') H1 → va_S (am_A v) s.heap H1 locs1 → W p l e R s m args below meth c H1 locs1 cells slots Q (F0 m pc' ls (st'.map (am_cv v.1)))) →
    W p l e R s m args below meth c H locs cells slots Q (F0 m pc ls (st.map (am_cv v.1))))
    (h : AP M b pc' L st' hi' g' Φ) : AP M b pc L st hi g Φ :=
  fun l v p e R s m args below meth c H locs cells slots ls Q C X hl Y => k l v p e R s m args below meth c H locs cells slots ls Q C hl.1 Y.1.1 (am_ws_D v _ _ _) Y.2.1
    (fun H1 locs1 hP hS => h l v p e R s m args below meth c H1 locs1 cells slots ls Q C X hl ⟨⟨hP, am_Rep.lt hP (by rw [hg]; exact hN)⟩, hS, Y.2.2.1, Y.2.2.2.1, fun n hn => Y.2.2.2.2 n (by rw [← hg]; exact hn)⟩)
end HEAP
