/-! ===== the making of cells ===== -/
theorem am_AO.moved {u U : State} (hvm : u.vm.Alike U.vm) (h : am_AO u) : am_AO U := by
  refine ⟨va_AO.moved hvm h.1, ?_⟩
  obtain ⟨comp, c, k, h1, h2, h3, h4⟩ := Cond.arrayOver_specA h.2
  sorry
/-- the row n is made, all of it null -/
def am_mkI (hi : am_HI) (n : Nat) : am_HI := va_up hi n (fun _ => 0)
def am_mk (g : am_G) (n : Nat) : am_G := (some (n + 1), va_up g.2.1 n (fun _ => none), va_up g.2.2 n (fun _ => 0))
theorem am_grow {v : am_E} {hi hi' : am_HI} {g g' : am_G} {n k : Nat} {H H1 : Heap} (hg : g.1 = some n) (hg' : g'.1 = some (n + k)) (hrow : ∀ i, i < n → hi' i = hi i ∧ g'.2.1 i = g.2.1 i ∧ g'.2.2 i = g.2.2 i) (hold : ∀ q : Nat, q < H.size → H1[q]? = H[q]?) (hP : va_P v.2.1 vwCl (am_ws v.1 v.2.2.1 hi g) H)
    (hnew : ∀ i, i < k → va_P v.2.1 vwCl [(v.1 + (n + i), am_cell v.1 v.2.2.1 (hi' (n + i)) (g'.2.1 (n + i)) (g'.2.2 (n + i)) (am_SH (n + i)))] H1) : va_P v.2.1 vwCl (am_ws v.1 v.2.2.1 hi' g') H1 := by
  intro j q hq
  obtain ⟨hj, rfl⟩ := am_ws_is hq
  have hj2 : j < n + k := by rw [hg'] at hj; exact hj
  by_cases h : j < n
  · have hj3 : j < am_N g.1 := by rw [hg]; exact h
    have := (hP.kept (fun i x hx => hold x.1 ((hP i x hx).lt))) j _ (am_ws_get hj3)
    obtain ⟨e1, e2, e3⟩ := hrow j h
    rw [e1, e2, e3]
    exact this
  · have := hnew (j - n) (by omega) 0 _ rfl
    rw [show n + (j - n) = j by omega] at this
    exact this
theorem am_fs_none (n0 ci : Nat) : am_fs n0 (fun _ => 0) (fun _ => none) ci = am_fs 0 (fun _ => 0) (fun _ => none) ci := rfl
theorem am_bornv {ci : Nat} {q : vw_C} (h : vwCl[ci]? = some q) (n0 : Nat) : ∀ j, j < q.2.2 → defaultValue (am_ty ci j) = vp_V (am_fs n0 (fun _ => 0) (fun _ => none) ci) j := by
  have hl : ci < 11 := (List.getElem?_eq_some_iff.mp h).1
  rw [am_fs_none]
  rcases (show ci = 0 ∨ ci = 1 ∨ ci = 2 ∨ ci = 3 ∨ ci = 4 ∨ ci = 5 ∨ ci = 6 ∨ ci = 7 ∨ ci = 8 ∨ ci = 9 ∨ ci = 10 by omega) with rfl | rfl | rfl | rfl | rfl | rfl | rfl | rfl | rfl | rfl | rfl <;> cases h <;> decide +kernel
theorem am_sizeof {v : am_E} {R : Room} {s : State} {b : Nat × Nat} {hi : am_HI} {g : am_G} {H : Heap} {locs : List Loc} {cells slots n : Nat} (Y : am_Dy v R s b hi g H locs cells slots) (hg : g.1 = some n) (hH : H.size ≤ s.heap.size + cells) : H.size = v.1 + n := by
  have h1 := Y.1.2
  rw [hg] at h1
  have h2 := Y.2.2.2.2 n hg
  have h3 : v.1 + n ≤ H.size := h1
  omega
section MKW
variable {M : am_M} {l : Launch} {v : am_E} {p : Program} {e : Env} {R : Room} {s : State} {m : MethodId} {args : Array Value} {below : List Frame} {meth : Method} {c : Code} {H : Heap} {locs : List Loc} {cells slots : Nat} {ls : Array Slot} {Q : State → Prop} {b : Nat × Nat} {hi : am_HI} {g : am_G} {pc n : Nat} {st : List Value}
theorem am_newW {idx ci N : Nat} {q : vw_C} (C : am_Cx M l v p R s m args meth c) (Y : am_Dy v R s (b.1 + 1, b.2 + N) hi g H locs cells slots) (hg : g.1 = some n) (hs : am_SH n = (0, ci)) (hq : vwCl[ci]? = some q) (hN : q.2.2 = N) (hw1 : Cond.classLink (am_y M).cls idx q.1 ∈ am_GT) (hw2 : Cond.instantiable q.1 q.2.2 ∈ am_GT) (hw3 : Cond.initialized q.1 ∈ am_GT) (hd : decode (am_cc M) pc = .ok (.new idx, 3))
    (kk : ∀ H1 : Heap, am_Dy v R s b (am_mkI hi n) (am_mk g n) H1 locs (cells + 1) (slots + N) → W p l e R s m args below meth c H1 locs (cells + 1) (slots + N) Q (F0 m (pc + 3) ls ((Value.ref n :: st).map (am_cv v.1)))) : W p l e R s m args below meth c H locs cells slots Q (F0 m pc ls (st.map (am_cv v.1))) := by
  refine W.bound (fun hH => ?_)
  have hz := am_sizeof Y hg hH
  subst hN
  obtain ⟨c1, c2, c3, c4, c5, c6, c7, c8, c9, c10, c11, c12, c13, c14, c15⟩ := id C
  have hKn := c11.1.1 ci _ hq
  refine W.newcK c1 c2 c5 (c6 _ hw1) (c6 _ hw2) (c6 _ hw3) rfl hd (by have := Y.2.2.1; dsimp only at this; omega) (by have := Y.2.2.2.1; dsimp only at this; omega) hKn.2.1 rfl fun H1 kC hkC e1 z1 o1 => ?_
  obtain ⟨h1, h2, h3, h4⟩ := am_cin hq
  refine W.eq (g2 := F0 m (pc + 3) ls ((Value.ref n :: st).map (am_cv v.1))) (by rw [hz]; rfl) (kk H1 ⟨⟨?_, ?_⟩, ?_, ?_, ?_, ?_⟩)
  · refine am_grow (g' := am_mk g n) (k := 1) hg rfl (fun i hi' => ⟨am_va_ne (by omega), am_va_ne (by omega), am_va_ne (by omega)⟩) o1 Y.1.1 (fun i hi' => ?_)
    have e0 : i = 0 := by omega
    subst e0
    show va_P v.2.1 vwCl [(v.1 + n, am_cell v.1 v.2.2.1 (va_up hi n (fun _ => 0) n) (va_up g.2.1 n (fun _ => none) n) (va_up g.2.2 n (fun _ => 0) n) (am_SH n))] H1
    rw [am_va_at, am_va_at, am_va_at, hs]
    intro k x hx
    have hk0 : k < 1 := (List.getElem?_eq_some_iff.mp hx).1
    rw [show k = 0 by omega] at hx
    cases hx
    rw [hz] at e1
    exact ⟨_, hq, (u_born (am_ty ci) c6 h1 hKn hkC e1 h2).to (am_bornv hq v.1)⟩
  · show v.1 + (n + 1) ≤ H1.size
    omega
  · have hS := Y.2.1
    exact ⟨Nat.le_trans hS.1 (by omega), fun x a1 a2 => (o1 x (Nat.lt_of_lt_of_le a1 hS.1)).trans (hS.2.1 x a1 a2), hS.2.2⟩
  · have := Y.2.2.1; dsimp only at this; omega
  · have := Y.2.2.2.1; dsimp only at this; omega
  · intro n' hn'
    have e9 : n + 1 = n' := Option.some.inj hn'
    have := Y.2.2.2.2 n hg
    omega
/-- an array of numbers -/
theorem am_arrW {atype : ArrayType} {N t : Nat} {ty : FieldType} {a0 : vp_A} {x : Int32} (C : am_Cx M l v p R s m args meth c) (Y : am_Dy v R s (b.1 + 1, b.2 + N) hi g H locs cells slots) (hg : g.1 = some n) (hty : newarray.typeOf atype = ty) (ht : (am_tys v.2.2.1)[t]? = some (v.2.2.1 t, ty)) (hno : va_RA s (v.2.2.1 t) ty → s.vm.findClass ("[" ++ ty.toString) = some (v.2.2.1 t))
    (hcell : am_cell v.1 v.2.2.1 (fun _ => 0) (fun _ => none) (fun _ => 0) (am_SH n) = .inl (v.2.2.1 t, a0)) (ha : ∀ cA : ClassId, vp_cell cA a0 = arrV cA N (fun _ => defaultValue ty)) (hw : Cond.arrayClass ty ∈ am_GT) (hx : x = nI N) (hN : N < 20000) (hb8 : componentBytes ty ≤ 8) (hd : decode (am_cc M) pc = .ok (.newarray atype, 2))
    (kk : ∀ H1 : Heap, am_Dy v R s b (am_mkI hi n) (am_mk g n) H1 locs (cells + 1) (slots + N) → W p l e R s m args below meth c H1 locs (cells + 1) (slots + N) Q (F0 m (pc + 2) ls ((Value.ref n :: st).map (am_cv v.1)))) : W p l e R s m args below meth c H locs cells slots Q (F0 m pc ls ((Value.int x :: st).map (am_cv v.1))) := by
  refine W.bound (fun hH => ?_)
  have hz := am_sizeof Y hg hH
  subst hty
  subst hx
  obtain ⟨c1, c2, c3, c4, c5, c6, c7, c8, c9, c10, c11, c12, c13, c14, c15⟩ := id C
  have hge : ¬ nI N < 0 := by
    rw [am_lt, am_nI (by omega)]
    show ¬ (N : Int) < 0
    omega
  refine va_newaK (N := N) c1 c2 (c6 _ hw) rfl hd rfl hge (nI_clamp (by omega)) (Nat.le_trans (Nat.mul_le_mul (Nat.le_of_lt hN) hb8) (by decide)) (by have := Y.2.2.1; dsimp only at this; omega) (by have := Y.2.2.2.1; dsimp only at this; omega) hz fun H1 cA e1 z1 o1 hAr hNm => ?_
  have hcA : v.2.2.1 t = cA := Option.some.inj ((hno (c11.1.2 t _ ht).2).symm.trans hNm)
  refine W.eq (g2 := F0 m (pc + 2) ls ((Value.ref n :: st).map (am_cv v.1))) rfl (kk H1 ⟨⟨?_, ?_⟩, ?_, ?_, ?_, ?_⟩)
  · refine am_grow (g' := am_mk g n) (k := 1) hg rfl (fun i hi' => ⟨am_va_ne (by omega), am_va_ne (by omega), am_va_ne (by omega)⟩) (fun q hq => o1 q (by omega)) Y.1.1 (fun i hi' => ?_)
    have e0 : i = 0 := by omega
    subst e0
    show va_P v.2.1 vwCl [(v.1 + n, am_cell v.1 v.2.2.1 (va_up hi n (fun _ => 0) n) (va_up g.2.1 n (fun _ => none) n) (va_up g.2.2 n (fun _ => 0) n) (am_SH n))] H1
    rw [am_va_at, am_va_at, am_va_at, hcell]
    intro k x hx
    have hk0 : k < 1 := (List.getElem?_eq_some_iff.mp hx).1
    rw [show k = 0 by omega] at hx
    cases hx
    show H1[v.1 + n]? = some (vp_cell _ _)
    rw [ha, hcA]
    exact e1
  · show v.1 + (n + 1) ≤ H1.size
    omega
  · have hS := Y.2.1
    exact ⟨Nat.le_trans hS.1 (by omega), fun x a1 a2 => (o1 x (by have := hS.1; omega)).trans (hS.2.1 x a1 a2), hS.2.2⟩
  · have := Y.2.2.1; dsimp only at this; omega
  · have := Y.2.2.2.1; dsimp only at this; omega
  · intro n' hn'
    have e9 : n + 1 = n' := Option.some.inj hn'
    have := Y.2.2.2.2 n hg
    omega
/-- an array of states -/
theorem am_refW {idx N : Nat} {x : Int32} (C : am_Cx M l v p R s m args meth c) (hao : am_AO s) (Y : am_Dy v R s (b.1 + 1, b.2 + N) hi g H locs cells slots) (hg : g.1 = some n) (hs : am_SH n = (5, N)) (hw : Cond.classLink (am_y M).cls idx RX6 ∈ am_GT) (hx : x = nI N) (hN : N < 20000) (hd : decode (am_cc M) pc = .ok (.anewarray idx, 3))
    (kk : ∀ H1 : Heap, am_Dy v R s b (am_mkI hi n) (am_mk g n) H1 locs (cells + 1) (slots + N) → W p l e R s m args below meth c H1 locs (cells + 1) (slots + N) Q (F0 m (pc + 3) ls ((Value.ref n :: st).map (am_cv v.1)))) : W p l e R s m args below meth c H locs cells slots Q (F0 m pc ls ((Value.int x :: st).map (am_cv v.1))) := by
  refine W.bound (fun hH => ?_)
  have hz := am_sizeof Y hg hH
  subst hx
  obtain ⟨c1, c2, c3, c4, c5, c6, c7, c8, c9, c10, c11, c12, c13, c14, c15⟩ := id C
  have hge : ¬ nI N < 0 := by
    rw [am_lt, am_nI (by omega)]
    show ¬ (N : Int) < 0
    omega
  have hcl : (nI N).toNatClampNeg = N := nI_clamp (by omega)
  refine W.anew (n := nI N) (rest := st.map (am_cv v.1)) c1 c2 c5 (c6 _ hw) (va_AO.use hao.1) rfl hd rfl hge (by rw [hcl]; omega) (by have := Y.2.2.1; dsimp only at this; omega) (by rw [hcl]; have := Y.2.2.2.1; dsimp only at this; omega) fun cA kA comp f1 f2 f3 f4 => ?_
  rw [hcl]
  obtain ⟨kA', comp', -, -, -, hNm⟩ := (c11.1.2 4 _ rfl).2
  have hcA : v.2.2.1 4 = cA := Option.some.inj (hNm.symm.trans f1)
  generalize hH1 : H.push ({ cls := cA, slots := Array.replicate N .null, vm := .none } : Cell) = H1
  have z1 : H1.size = H.size + 1 := by rw [← hH1, Array.size_push]
  have e1 : H1[H.size]? = some (arrV cA N (fun _ => .null)) := by rw [← hH1, Array.getElem?_push_size, ← arrV_new]
  have o1 : ∀ q : Nat, q < H.size → H1[q]? = H[q]? := fun q hq => by rw [← hH1, Array.getElem?_push, if_neg (Nat.ne_of_lt hq)]
  refine W.eq (g2 := F0 m (pc + 3) ls ((Value.ref n :: st).map (am_cv v.1))) (by rw [hz]; rfl) (kk H1 ⟨⟨?_, ?_⟩, ?_, ?_, ?_, ?_⟩)
  · refine am_grow (g' := am_mk g n) (k := 1) hg rfl (fun i hi' => ⟨am_va_ne (by omega), am_va_ne (by omega), am_va_ne (by omega)⟩) o1 Y.1.1 (fun i hi' => ?_)
    have e0 : i = 0 := by omega
    subst e0
    show va_P v.2.1 vwCl [(v.1 + n, am_cell v.1 v.2.2.1 (va_up hi n (fun _ => 0) n) (va_up g.2.1 n (fun _ => none) n) (va_up g.2.2 n (fun _ => 0) n) (am_SH n))] H1
    rw [am_va_at, am_va_at, am_va_at, hs]
    intro k x hx
    have hk0 : k < 1 := (List.getElem?_eq_some_iff.mp hx).1
    rw [show k = 0 by omega] at hx
    cases hx
    show H1[v.1 + n]? = some (vp_cell _ _)
    rw [← hz, e1, hcA]
    rfl
  · show v.1 + (n + 1) ≤ H1.size
    omega
  · have hS := Y.2.1
    exact ⟨Nat.le_trans hS.1 (by omega), fun x a1 a2 => (o1 x (Nat.lt_of_lt_of_le a1 hS.1)).trans (hS.2.1 x a1 a2), hS.2.2⟩
  · have := Y.2.2.1; dsimp only at this; omega
  · have := Y.2.2.2.1; dsimp only at this; omega
  · intro n' hn'
    have e9 : n + 1 = n' := Option.some.inj hn'
    have := Y.2.2.2.2 n hg
    omega
end MKW
