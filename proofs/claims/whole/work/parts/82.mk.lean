/-! ===== the making of cells ===== -/
theorem am_over {t : FieldType} {A : Array Value} {u : State} (h : (Cond.arrayOver (.array t)).before A u = true) : ∃ comp c k, u.vm.findClass (FieldType.array t).toString = some comp ∧ (u.vm.classes.findIdx? fun (x : Class) => match x.kind with | .array component _ => component == comp | _ => false) = some c ∧ u.vm.classes[c]? = some k ∧ k.kind = .array comp (.array t) ∧ u.vm.findClass ("[" ++ (FieldType.array t).toString) = some c := by
  unfold Cond.before at h
  simp only [Cond.holds, Cond.value, beq_iff_eq] at h
  cases hc : u.vm.findClass (FieldType.array t).toString with
  | none => simp [hc] at h
  | some comp =>
    simp only [hc, Option.bind_some, Option.bind_eq_some_iff, Option.map_eq_some_iff] at h
    obtain ⟨c, hi, k, hk, hb⟩ := h
    obtain ⟨hlt, hp, -⟩ := Array.findIdx?_eq_some_iff_getElem.mp hi
    have hkk : u.vm.classes[c] = k := (Array.getElem?_eq_some_iff.mp hk).2
    rw [hkk] at hp
    cases hkind : k.kind with
    | array component ty =>
      rw [hkind] at hb hp
      simp at hb hp
      exact ⟨comp, c, k, rfl, hi, hk, by rw [hkind, hp, hb.1], hb.2⟩
    | _ => rw [hkind] at hb; simp at hb
theorem am_AO.moved {u U : State} (hvm : u.vm.Alike U.vm) (h : am_AO u) : am_AO U := by
  refine ⟨va_AO.moved hvm h.1, ?_⟩
  obtain ⟨comp, c, k, h1, h2, h3, h4, h5⟩ := am_over h.2
  obtain ⟨k', hk', he⟩ := hvm.2.2 _ _ h3
  have hi : (U.vm.classes.findIdx? fun (x : Class) => match x.kind with | .array component _ => component == comp | _ => false) = some c := by
    have a1 := va_idx_bare U.vm comp
    have a2 := va_idx_bare u.vm comp
    have a3 : U.vm.bare = u.vm.bare := by first | exact hvm.bare_eq | exact hvm.bare_eq.symm
    rw [a3] at a1
    exact (a1.symm.trans a2).trans h2
  have hkind : k'.kind = .array comp (.array .int) := by rw [he]; exact h4
  have f1 : U.vm.findClass (FieldType.array .int).toString = some comp := by rw [hvm.findClass]; exact h1
  have f2 : U.vm.findClass ("[" ++ (FieldType.array .int).toString) = some c := by rw [hvm.findClass]; exact h5
  unfold Cond.before Cond.holds
  simp only [Cond.value]
  rw [f1, Option.bind_some]
  refine (congrArg (fun o : Option Nat => (o.bind (fun c => (U.vm.classes[c]?).map fun (k : Class) => match k.kind with | .array _ ty => decide (ty = FieldType.array .int) && decide (U.vm.findClass ("[" ++ (FieldType.array .int).toString) = some c) | _ => false) == some true)) hi).trans ?_
  simp [hk', hkind, f2]
/-- the row n is made, all of it null -/
def am_mkI (hi : am_HI) (n : Nat) : am_HI := va_up hi n (fun _ => 0)
def am_mk (g : am_G) (n : Nat) : am_G := (some (n + 1), va_up g.2.1 n (fun _ => none), va_up g.2.2 n (fun _ => 0))
theorem am_grow {v : am_E} {hi hi' : am_HI} {g g' : am_G} {n k : Nat} {H H1 : Heap} (hg : g.1 = some n) (hg' : g'.1 = some (n + k)) (hrow : ∀ i, i < n → hi' i = hi i ∧ g'.2.1 i = g.2.1 i ∧ g'.2.2 i = g.2.2 i) (hold : ∀ q : Nat, q < H.size → H1[q]? = H[q]?) (hP : va_P v.2.1 vwCl (am_ws v.1 v.2.2.1 hi g) H)
    (hnew : ∀ i, i < k → va_P v.2.1 vwCl [(v.1 + (n + i), am_cell v.1 v.2.2.1 (hi' (n + i)) (g'.2.1 (n + i)) (g'.2.2 (n + i)) (am_SH (n + i)))] H1) : va_P v.2.1 vwCl (am_ws v.1 v.2.2.1 hi' g') H1 := by
  intro j q hq
  obtain ⟨hj, rfl⟩ := am_ws_is hq
  have hj2 : j < n + k := by rw [hg'] at hj; exact hj
  by_cases h : j < n
  · have hj3 : j < am_N g.1 := by rw [hg]; exact h
    have := (hP.kept (fun i x hx => hold x.1 ((hP i x hx).lt))) j _ (am_ws_get hj3)
    obtain ⟨e1, e2, e3⟩ := hrow j h
    rw [e1, e2, e3]
    exact this
  · have := hnew (j - n) (by omega) 0 _ rfl
    rw [show n + (j - n) = j by omega] at this
    exact this
theorem am_fs_none (n0 ci : Nat) : am_fs n0 (fun _ => 0) (fun _ => none) ci = am_fs 0 (fun _ => 0) (fun _ => none) ci := rfl
theorem am_bornv {ci : Nat} {q : vw_C} (h : vwCl[ci]? = some q) (n0 : Nat) : ∀ j, j < q.2.2 → defaultValue (am_ty ci j) = vp_V (am_fs n0 (fun _ => 0) (fun _ => none) ci) j := by
  have hl : ci < 11 := (List.getElem?_eq_some_iff.mp h).1
  rw [am_fs_none]
  rcases (show ci = 0 ∨ ci = 1 ∨ ci = 2 ∨ ci = 3 ∨ ci = 4 ∨ ci = 5 ∨ ci = 6 ∨ ci = 7 ∨ ci = 8 ∨ ci = 9 ∨ ci = 10 by omega) with rfl | rfl | rfl | rfl | rfl | rfl | rfl | rfl | rfl | rfl | rfl <;> cases h <;> decide +kernel
theorem am_sizeof {v : am_E} {R : Room} {s : State} {b : Nat × Nat} {hi : am_HI} {g : am_G} {H : Heap} {locs : List Loc} {cells slots n : Nat} (Y : am_Dy v R s b hi g H locs cells slots) (hg : g.1 = some n) (hH : H.size ≤ s.heap.size + cells) : H.size = v.1 + n := by
  have h1 := Y.1.2
  rw [hg] at h1
  have h2 := Y.2.2.2.2 n hg
  have h3 : v.1 + n ≤ H.size := h1
  omega
section MKW
variable {M : am_M} {l : Launch} {v : am_E} {p : Program} {e : Env} {R : Room} {s : State} {m : MethodId} {args : Array Value} {below : List Frame} {meth : Method} {c : Code} {H : Heap} {locs : List Loc} {cells slots : Nat} {ls : Array Slot} {Q : State → Prop} {b : Nat × Nat} {hi : am_HI} {g : am_G} {pc n : Nat} {st : List Value}
theorem am_newW {idx ci N : Nat} {q : vw_C} (C : am_Cx M l v p R s m args meth c) (Y : am_Dy v R s (b.1 + 1, b.2 + N) hi g H locs cells slots) (hg : g.1 = some n) (hs : am_SH n = (0, ci)) (hq : vwCl[ci]? = some q) (hN : q.2.2 = N) (hw1 : Cond.classLink (am_y M).cls idx q.1 ∈ am_GT) (hw2 : Cond.instantiable q.1 q.2.2 ∈ am_GT) (hw3 : Cond.initialized q.1 ∈ am_GT) (hd : decode (am_cc M) pc = .ok (.new idx, 3))
    (kk : ∀ H1 : Heap, am_Dy v R s b (am_mkI hi n) (am_mk g n) H1 locs (cells + 1) (slots + N) → W p l e R s m args below meth c H1 locs (cells + 1) (slots + N) Q (F0 m (pc + 3) ls ((Value.ref n :: st).map (am_cv v.1)))) : W p l e R s m args below meth c H locs cells slots Q (F0 m pc ls (st.map (am_cv v.1))) := by
  refine W.bound (fun hH => ?_)
  have hz := am_sizeof Y hg hH
  subst hN
  obtain ⟨c1, c2, c3, c4, c5, c6, c7, c8, c9, c10, c11, c12, c13, c14, c15⟩ := id C
  have hKn := c11.1.1 ci _ hq
  refine W.newcK c1 c2 c5 (c6 _ hw1) (c6 _ hw2) (c6 _ hw3) rfl hd (by have := Y.2.2.1; dsimp only at this; omega) (by have := Y.2.2.2.1; dsimp only at this; omega) hKn.2.1 rfl fun H1 kC hkC e1 z1 o1 => ?_
  obtain ⟨h1, h2, h3, h4⟩ := am_cin hq
  refine W.eq (g2 := F0 m (pc + 3) ls ((Value.ref n :: st).map (am_cv v.1))) (by rw [hz]; rfl) (kk H1 ⟨⟨?_, ?_⟩, ?_, ?_, ?_, ?_⟩)
  · refine am_grow (g' := am_mk g n) (k := 1) hg rfl (fun i hi' => ⟨am_va_ne (by omega), am_va_ne (by omega), am_va_ne (by omega)⟩) o1 Y.1.1 (fun i hi' => ?_)
    have e0 : i = 0 := by omega
    subst e0
    show va_P v.2.1 vwCl [(v.1 + n, am_cell v.1 v.2.2.1 (va_up hi n (fun _ => 0) n) (va_up g.2.1 n (fun _ => none) n) (va_up g.2.2 n (fun _ => 0) n) (am_SH n))] H1
    rw [am_va_at, am_va_at, am_va_at, hs]
    intro k x hx
    have hk0 : k < 1 := (List.getElem?_eq_some_iff.mp hx).1
    rw [show k = 0 by omega] at hx
    cases hx
    rw [hz] at e1
    exact ⟨_, hq, (u_born (am_ty ci) c6 h1 hKn hkC e1 h2).to (am_bornv hq v.1)⟩
  · show v.1 + (n + 1) ≤ H1.size
    omega
  · have hS := Y.2.1
    exact ⟨Nat.le_trans hS.1 (by omega), fun x a1 a2 => (o1 x (Nat.lt_of_lt_of_le a1 hS.1)).trans (hS.2.1 x a1 a2), hS.2.2⟩
  · have := Y.2.2.1; dsimp only at this; omega
  · have := Y.2.2.2.1; dsimp only at this; omega
  · intro n' hn'
    have e9 : n + 1 = n' := Option.some.inj hn'
    have := Y.2.2.2.2 n hg
    omega
/-- an array of numbers -/
theorem am_arrW {atype : ArrayType} {N t : Nat} {ty : FieldType} {a0 : vp_A} {x : Int32} (C : am_Cx M l v p R s m args meth c) (Y : am_Dy v R s (b.1 + 1, b.2 + N) hi g H locs cells slots) (hg : g.1 = some n) (hty : newarray.typeOf atype = ty) (ht : (am_tys v.2.2.1)[t]? = some (v.2.2.1 t, ty)) (hno : va_RA s (v.2.2.1 t) ty → s.vm.findClass ("[" ++ ty.toString) = some (v.2.2.1 t))
    (hcell : am_cell v.1 v.2.2.1 (fun _ => 0) (fun _ => none) (fun _ => 0) (am_SH n) = .inl (v.2.2.1 t, a0)) (ha : ∀ cA : ClassId, vp_cell cA a0 = arrV cA N (fun _ => defaultValue ty)) (hw : Cond.arrayClass ty ∈ am_GT) (hx : x = nI N) (hN : N < 20000) (hb8 : componentBytes ty ≤ 8) (hd : decode (am_cc M) pc = .ok (.newarray atype, 2))
    (kk : ∀ H1 : Heap, am_Dy v R s b (am_mkI hi n) (am_mk g n) H1 locs (cells + 1) (slots + N) → W p l e R s m args below meth c H1 locs (cells + 1) (slots + N) Q (F0 m (pc + 2) ls ((Value.ref n :: st).map (am_cv v.1)))) : W p l e R s m args below meth c H locs cells slots Q (F0 m pc ls ((Value.int x :: st).map (am_cv v.1))) := by
  refine W.bound (fun hH => ?_)
  have hz := am_sizeof Y hg hH
  subst hty
  subst hx
  obtain ⟨c1, c2, c3, c4, c5, c6, c7, c8, c9, c10, c11, c12, c13, c14, c15⟩ := id C
  have hge : ¬ nI N < 0 := by
    rw [am_lt, am_nI (by omega)]
    show ¬ (N : Int) < 0
    omega
  refine va_newaK (N := N) c1 c2 (c6 _ hw) rfl hd rfl hge (nI_clamp (by omega)) (Nat.le_trans (Nat.mul_le_mul (Nat.le_of_lt hN) hb8) (by decide)) (by have := Y.2.2.1; dsimp only at this; omega) (by have := Y.2.2.2.1; dsimp only at this; omega) hz fun H1 cA e1 z1 o1 hAr hNm => ?_
  have hcA : v.2.2.1 t = cA := Option.some.inj ((hno (c11.1.2 t _ ht).2).symm.trans hNm)
  refine W.eq (g2 := F0 m (pc + 2) ls ((Value.ref n :: st).map (am_cv v.1))) rfl (kk H1 ⟨⟨?_, ?_⟩, ?_, ?_, ?_, ?_⟩)
  · refine am_grow (g' := am_mk g n) (k := 1) hg rfl (fun i hi' => ⟨am_va_ne (by omega), am_va_ne (by omega), am_va_ne (by omega)⟩) (fun q hq => o1 q (by omega)) Y.1.1 (fun i hi' => ?_)
    have e0 : i = 0 := by omega
    subst e0
    show va_P v.2.1 vwCl [(v.1 + n, am_cell v.1 v.2.2.1 (va_up hi n (fun _ => 0) n) (va_up g.2.1 n (fun _ => none) n) (va_up g.2.2 n (fun _ => 0) n) (am_SH n))] H1
    rw [am_va_at, am_va_at, am_va_at, hcell]
    intro k x hx
    have hk0 : k < 1 := (List.getElem?_eq_some_iff.mp hx).1
    rw [show k = 0 by omega] at hx
    cases hx
    show H1[v.1 + n]? = some (vp_cell _ _)
    rw [ha, hcA]
    exact e1
  · show v.1 + (n + 1) ≤ H1.size
    omega
  · have hS := Y.2.1
    exact ⟨Nat.le_trans hS.1 (by omega), fun x a1 a2 => (o1 x (by have := hS.1; omega)).trans (hS.2.1 x a1 a2), hS.2.2⟩
  · have := Y.2.2.1; dsimp only at this; omega
  · have := Y.2.2.2.1; dsimp only at this; omega
  · intro n' hn'
    have e9 : n + 1 = n' := Option.some.inj hn'
    have := Y.2.2.2.2 n hg
    omega
/-- an array of states -/
theorem am_refW {idx N : Nat} {x : Int32} (C : am_Cx M l v p R s m args meth c) (hao : am_AO s) (Y : am_Dy v R s (b.1 + 1, b.2 + N) hi g H locs cells slots) (hg : g.1 = some n) (hs : am_SH n = (5, N)) (hw : Cond.classLink (am_y M).cls idx RX6 ∈ am_GT) (hx : x = nI N) (hN : N < 20000) (hd : decode (am_cc M) pc = .ok (.anewarray idx, 3))
    (kk : ∀ H1 : Heap, am_Dy v R s b (am_mkI hi n) (am_mk g n) H1 locs (cells + 1) (slots + N) → W p l e R s m args below meth c H1 locs (cells + 1) (slots + N) Q (F0 m (pc + 3) ls ((Value.ref n :: st).map (am_cv v.1)))) : W p l e R s m args below meth c H locs cells slots Q (F0 m pc ls ((Value.int x :: st).map (am_cv v.1))) := by
  refine W.bound (fun hH => ?_)
  have hz := am_sizeof Y hg hH
  subst hx
  obtain ⟨c1, c2, c3, c4, c5, c6, c7, c8, c9, c10, c11, c12, c13, c14, c15⟩ := id C
  have hge : ¬ nI N < 0 := by
    rw [am_lt, am_nI (by omega)]
    show ¬ (N : Int) < 0
    omega
  have hcl : (nI N).toNatClampNeg = N := nI_clamp (by omega)
  refine W.anew (n := nI N) (rest := st.map (am_cv v.1)) c1 c2 c5 (c6 _ hw) (va_AO.use hao.1) rfl hd rfl hge (by rw [hcl]; omega) (by have := Y.2.2.1; dsimp only at this; omega) (by rw [hcl]; have := Y.2.2.2.1; dsimp only at this; omega) fun cA kA comp f1 f2 f3 f4 => ?_
  rw [hcl]
  obtain ⟨kA', comp', -, -, -, hNm⟩ := (c11.1.2 4 _ rfl).2
  have hcA : v.2.2.1 4 = cA := Option.some.inj (hNm.symm.trans f1)
  generalize hH1 : H.push ({ cls := cA, slots := Array.replicate N .null, vm := .none } : Cell) = H1
  have z1 : H1.size = H.size + 1 := by rw [← hH1, Array.size_push]
  have e1 : H1[H.size]? = some (arrV cA N (fun _ => .null)) := by rw [← hH1, Array.getElem?_push_size, ← arrV_new]
  have o1 : ∀ q : Nat, q < H.size → H1[q]? = H[q]? := fun q hq => by rw [← hH1, Array.getElem?_push, if_neg (Nat.ne_of_lt hq)]
  refine W.eq (g2 := F0 m (pc + 3) ls ((Value.ref n :: st).map (am_cv v.1))) (by rw [hz]; rfl) (kk H1 ⟨⟨?_, ?_⟩, ?_, ?_, ?_, ?_⟩)
  · refine am_grow (g' := am_mk g n) (k := 1) hg rfl (fun i hi' => ⟨am_va_ne (by omega), am_va_ne (by omega), am_va_ne (by omega)⟩) o1 Y.1.1 (fun i hi' => ?_)
    have e0 : i = 0 := by omega
    subst e0
    show va_P v.2.1 vwCl [(v.1 + n, am_cell v.1 v.2.2.1 (va_up hi n (fun _ => 0) n) (va_up g.2.1 n (fun _ => none) n) (va_up g.2.2 n (fun _ => 0) n) (am_SH n))] H1
    rw [am_va_at, am_va_at, am_va_at, hs]
    intro k x hx
    have hk0 : k < 1 := (List.getElem?_eq_some_iff.mp hx).1
    rw [show k = 0 by omega] at hx
    cases hx
    show H1[v.1 + n]? = some (vp_cell _ _)
    rw [← hz, e1, hcA]
    rfl
  · show v.1 + (n + 1) ≤ H1.size
    omega
  · have hS := Y.2.1
    exact ⟨Nat.le_trans hS.1 (by omega), fun x a1 a2 => (o1 x (Nat.lt_of_lt_of_le a1 hS.1)).trans (hS.2.1 x a1 a2), hS.2.2⟩
  · have := Y.2.2.1; dsimp only at this; omega
  · have := Y.2.2.2.1; dsimp only at this; omega
  · intro n' hn'
    have e9 : n + 1 = n' := Option.some.inj hn'
    have := Y.2.2.2.2 n hg
    omega
end MKW
def am_mkIs (hi : am_HI) (n k : Nat) : am_HI := fun i => if n ≤ i ∧ i < n + k then (fun _ => 0) else hi i
def am_mks (g : am_G) (n N : Nat) : am_G := (some (n + (1 + N)), fun i => if i = n then (fun j => if j < N then some (n + 1 + j) else none) else if n ≤ i ∧ i < n + (1 + N) then (fun _ => none) else g.2.1 i, fun i => if n ≤ i ∧ i < n + (1 + N) then (fun _ => 0) else g.2.2 i)
theorem am_inner (c : ClassId) (K : Nat) : Jvm.Free.Multi.innerC c K (defaultValue .int) = vp_cell c (K, .inl (fun _ => 0)) := by
  show ({ cls := c, slots := Array.replicate K (.int 0), vm := .none } : Cell) = arrV c K (fun _ => .int 0)
  rw [← arrV_new]
section MKM
variable {M : am_M} {l : Launch} {v : am_E} {p : Program} {e : Env} {R : Room} {s : State} {m : MethodId} {args : Array Value} {below : List Frame} {meth : Method} {c : Code} {H : Heap} {locs : List Loc} {cells slots : Nat} {ls : Array Slot} {Q : State → Prop} {b : Nat × Nat} {hi : am_HI} {g : am_G} {pc n : Nat} {st : List Value}
/-- a grid: rows of ints -/
theorem am_gridW {idx N K : Nat} {x y : Int32} (C : am_Cx M l v p R s m args meth c) (hao : am_AO s) (Y : am_Dy v R s (b.1 + (1 + N), b.2 + (N + N * K)) hi g H locs cells slots) (hg : g.1 = some n) (hs : am_SH n = (6, N)) (hsr : ∀ i, i < N → am_SH (n + (1 + i)) = (1, K)) (hw : Cond.classLink (am_y M).cls idx ("[" ++ (FieldType.array .int).toString) ∈ am_GT) (hwi : Cond.arrayClass .int ∈ am_GT) (hx : x = nI N) (hy : y = nI K) (hN : N < 20000) (hK : K < 20000) (hd : decode (am_cc M) pc = .ok (.multianewarray idx 2, 4))
    (kk : ∀ H1 : Heap, am_Dy v R s b (am_mkIs hi n (1 + N)) (am_mks g n N) H1 locs (cells + (1 + N)) (slots + (N + N * K)) → W p l e R s m args below meth c H1 locs (cells + (1 + N)) (slots + (N + N * K)) Q (F0 m (pc + 4) ls ((Value.ref n :: st).map (am_cv v.1)))) : W p l e R s m args below meth c H locs cells slots Q (F0 m pc ls ((Value.int y :: Value.int x :: st).map (am_cv v.1))) := by
  refine W.bound (fun hH => ?_)
  have hz := am_sizeof Y hg hH
  subst hx
  subst hy
  obtain ⟨c1, c2, c3, c4, c5, c6, c7, c8, c9, c10, c11, c12, c13, c14, c15⟩ := id C
  have hge : ∀ N : Nat, N < 20000 → ¬ nI N < 0 := fun N hN => by
    rw [am_lt, am_nI (by omega)]
    show ¬ (N : Int) < 0
    omega
  have hcN : (nI N).toNatClampNeg = N := nI_clamp (by omega)
  have hcK : (nI K).toNatClampNeg = K := nI_clamp (by omega)
  intro T hT Xs
  obtain ⟨vm₁, cA, comp, -, fA, fC, hO, -, X', step⟩ := Xs.multianewarray2F c1 c5 (c6 _ hw) (va_AOA.use hao.2) (c6 _ hwi) (g := F0 m pc ls ((Value.int (nI K) :: Value.int (nI N) :: st).map (am_cv v.1))) rfl (by rw [c2]; exact hd) rfl (hge N hN) (hge K hK) (by rw [hcN]; omega) (by rw [hcK]; show K * 4 ≤ _; omega) (by rw [hcK]; omega) rfl rfl (by rw [hcN]; have := Y.2.2.1; dsimp only at this; omega) (by rw [hcN, hcK]; have := Y.2.2.2.1; dsimp only at this; omega)
  rw [hcN, hcK] at X' step
  have e5 : v.2.2.1 5 = cA := Option.some.inj ((c11.1.2 5 _ rfl).2.symm.trans fA)
  have e0 : v.2.2.1 0 = comp := Option.some.inj ((c11.1.2 0 _ rfl).2.symm.trans fC)
  generalize hF : Jvm.Free.Multi.fill (T.setVm vm₁) cA comp N K (defaultValue .int) N = F at X' step
  have hTh : (T.setVm vm₁).heap = H := hT
  obtain ⟨f1, f2, -, -⟩ := Jvm.Free.Multi.fill_facts (T.setVm vm₁) cA comp N K (defaultValue .int) N
  rw [hF, hTh] at f1 f2
  have hold : ∀ x : Nat, x < H.size → F.heap[x]? = H[x]? := fun x hx => by
    have := Jvm.Free.Multi.fill_old (T.setVm vm₁) cA comp N K (defaultValue .int) (a := x) (by rw [hTh]; exact hx) N
    rw [hF, hTh] at this
    exact this
  have hrow : ∀ j : Nat, j < N → F.heap[H.size + 1 + j]? = some (vp_cell comp (K, .inl (fun _ => 0))) := fun j hj => by
    have := Jvm.Free.Multi.fill_inner (T.setVm vm₁) cA comp N K (defaultValue .int) N j hj
    rw [hF, hTh, am_inner] at this
    exact this
  have hout : Jvm.Free.Multi.outerC cA N H.size N = vp_cell cA (N, .inr (.inr (.inr (.inr (fun i => if i < N then some (H.size + 1 + i) else none))))) := by
    rw [vp_cell_q]
    exact vr_outer cA N H.size N
  rw [hout] at f2
  have key := kk F.heap ⟨⟨?_, ?_⟩, ?_, ?_, ?_, ?_⟩ F rfl (by rw [show cells + (1 + N) = cells + 1 + N by omega, show slots + (N + N * K) = slots + N + N * K by omega]; exact X')
  · obtain ⟨t, a1, b1⟩ := key
    refine ⟨t, step t ?_, b1⟩
    have e9 : T.heap.size = v.1 + n := by rw [hT]; exact hz
    rw [e9]
    exact a1
  · refine am_grow (g' := am_mks g n N) (k := 1 + N) hg rfl (fun i hi' => ⟨if_neg (by omega), (if_neg (by omega)).trans (if_neg (by omega)), if_neg (by omega)⟩) hold Y.1.1 (fun i hi' => ?_)
    intro k x hx
    have hk0 : k < 1 := (List.getElem?_eq_some_iff.mp hx).1
    rw [show k = 0 by omega] at hx
    cases hx
    have r1 : am_mkIs hi n (1 + N) (n + i) = fun _ => 0 := if_pos ⟨by omega, by omega⟩
    have r3 : (am_mks g n N).2.2 (n + i) = fun _ => 0 := if_pos ⟨by omega, by omega⟩
    rw [r1, r3]
    cases i with
    | zero =>
      have r2 : (am_mks g n N).2.1 (n + 0) = fun j => if j < N then some (n + 1 + j) else none := if_pos rfl
      rw [r2, Nat.add_zero, hs]
      show F.heap[v.1 + n]? = some (vp_cell (v.2.2.1 5) _)
      rw [← hz, f2, e5]
      refine congrArg (fun f => some (vp_cell cA (N, .inr (.inr (.inr (.inr f)))))) (funext fun j => ?_)
      show (if j < N then some (H.size + 1 + j) else none) = am_ad v.1 (if j < N then some (n + 1 + j) else none)
      by_cases hj : j < N
      · rw [if_pos hj, if_pos hj, hz]
        show some (v.1 + n + 1 + j) = some (v.1 + (n + 1 + j))
        rw [show v.1 + n + 1 + j = v.1 + (n + 1 + j) by omega]
      · rw [if_neg hj, if_neg hj]
        rfl
    | succ i =>
      have r2 : (am_mks g n N).2.1 (n + (i + 1)) = fun _ => none := (if_neg (by omega)).trans (if_pos ⟨by omega, by omega⟩)
      rw [r2, show n + (i + 1) = n + (1 + i) by omega, hsr i (by omega)]
      show F.heap[v.1 + (n + (1 + i))]? = some (vp_cell (v.2.2.1 0) _)
      rw [e0, show v.1 + (n + (1 + i)) = H.size + 1 + i by omega]
      exact hrow i (by omega)
  · show v.1 + (n + (1 + N)) ≤ F.heap.size
    rw [f1]
    omega
  · have hS := Y.2.1
    exact ⟨by rw [f1]; have := hS.1; omega, fun x a1 a2 => (hold x (by have := hS.1; omega)).trans (hS.2.1 x a1 a2), hS.2.2⟩
  · have := Y.2.2.1; dsimp only at this; omega
  · have := Y.2.2.2.1; dsimp only at this; omega
  · intro n' hn'
    have e9 : n + (1 + N) = n' := Option.some.inj hn'
    have := Y.2.2.2.2 n hg
    omega
end MKM
