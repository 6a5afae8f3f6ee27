/-! ===== reading and writing the store ===== -/
theorem am_fs_get {n0 : Nat} {ri : Nat → Int32} {rr : Nat → Option Nat} {ci j : Nat} {q : vw_C} (h : vwCl.getD ci (RX0, TX0, 6) = q) (hj : j < q.2.2) : (am_fs n0 ri rr ci)[j]? = some (am_fv n0 ri rr ci j) := by
  unfold am_fs
  rw [h]
  simp [List.getElem?_map, List.getElem?_range hj]
theorem am_fs_len {n0 : Nat} {ri : Nat → Int32} {rr : Nat → Option Nat} {ci : Nat} {q : vw_C} (h : vwCl.getD ci (RX0, TX0, 6) = q) : (am_fs n0 ri rr ci).length = q.2.2 := by
  unfold am_fs
  rw [h]
  simp
theorem am_fv_I {n0 : Nat} {ri : Nat → Int32} {rr : Nat → Option Nat} {ci j : Nat} {q : vw_C} (h : vwCl.getD ci (RX0, TX0, 6) = q) (hI : am_isI (q.2.1 j).2.2.1 = true) : am_fv n0 ri rr ci j = .int (ri j) := by
  unfold am_fv
  rw [h, if_pos hI]
theorem am_fv_R {n0 : Nat} {ri : Nat → Int32} {rr : Nat → Option Nat} {ci j : Nat} {q : vw_C} (h : vwCl.getD ci (RX0, TX0, 6) = q) (hI : am_isI (q.2.1 j).2.2.1 = false) : am_fv n0 ri rr ci j = va_rf (am_ad n0 (rr j)) := by
  unfold am_fv
  rw [h, if_neg (by rw [hI]; exact fun z => by cases z)]
theorem am_fs_setI {n0 : Nat} {ri : Nat → Int32} {rr : Nat → Option Nat} {ci j : Nat} {q : vw_C} {x : Int32} (h : vwCl.getD ci (RX0, TX0, 6) = q) (hj : j < q.2.2) (hI : am_isI (q.2.1 j).2.2.1 = true) : (am_fs n0 ri rr ci).set j (.int x) = am_fs n0 (upd ri j x) rr ci := by
  apply List.ext_getElem?
  intro i
  rw [List.getElem?_set, am_fs_len h]
  by_cases e : j = i
  · subst e
    rw [if_pos rfl, if_pos hj, am_fs_get h hj, am_fv_I h hI]
    simp [upd]
  · rw [if_neg e]
    by_cases hi : i < q.2.2
    · rw [am_fs_get h hi, am_fs_get h hi]
      unfold am_fv
      simp [upd, Ne.symm e]
    · rw [List.getElem?_eq_none (by rw [am_fs_len h]; omega), List.getElem?_eq_none (by rw [am_fs_len h]; omega)]
theorem am_fs_setR {n0 : Nat} {ri : Nat → Int32} {rr : Nat → Option Nat} {ci j r : Nat} {q : vw_C} (h : vwCl.getD ci (RX0, TX0, 6) = q) (hj : j < q.2.2) (hI : am_isI (q.2.1 j).2.2.1 = false) : (am_fs n0 ri rr ci).set j (.ref (n0 + r)) = am_fs n0 ri (va_up rr j (some r)) ci := by
  apply List.ext_getElem?
  intro i
  rw [List.getElem?_set, am_fs_len h]
  by_cases e : j = i
  · subst e
    rw [if_pos rfl, if_pos hj, am_fs_get h hj, am_fv_R h hI, am_va_at]
    rfl
  · rw [if_neg e]
    by_cases hi : i < q.2.2
    · rw [am_fs_get h hi, am_fs_get h hi]
      unfold am_fv
      rw [am_va_ne (Ne.symm e)]
    · rw [List.getElem?_eq_none (by rw [am_fs_len h]; omega), List.getElem?_eq_none (by rw [am_fs_len h]; omega)]
/-- one reference of the cell k changes -/
def am_upr (g : am_G) (k j r : Nat) : am_G := (g.1, va_up g.2.1 k (va_up (g.2.1 k) j (some r)), g.2.2)
def am_upl (g : am_G) (k j : Nat) (x : Int64) : am_G := (g.1, g.2.1, va_up g.2.2 k (vp_updL (g.2.2 k) j x))
section ROWS
variable {M : am_M} {b : Nat × Nat} {pc : Nat} {L st : List Value} {hi : am_HI} {g : am_G} {Φ : am_P}
theorem AP.getI {k ci j idx : Nat} {q : vw_C} (hd : decode (am_cc M) pc = .ok (.getfield idx, 3)) (hs : am_SH k = (0, ci)) (hk : k < am_N g.1) (hq : vwCl[ci]? = some q) (hj : j < q.2.2) (hI : am_isI (q.2.1 j).2.2.1 = true) (hw : Cond.fieldLink (am_y M).cls idx (q.2.1 j).1 (q.2.1 j).2.1 (q.2.1 j).2.2.1 ∈ am_GT)
    (h : AP M b (pc + 3) L (.int (hi k j) :: st) hi g Φ) : AP M b pc L (.ref k :: st) hi g Φ :=
  AP.hget (fun l v p e R s m args below meth c H locs cells slots ls Q C hP kk => by
    obtain ⟨h1, -, -, h4⟩ := am_cin hq
    exact va_get C.1 C.2.1 (Ts := am_GT) C.2.2.2.2.2.1 h1 C.2.2.2.2.1 C.2.2.2.2.2.2.2.2.2.2.1.1 hP k (fs := am_fs v.1 (hi k) (g.2.1 k) ci) (by rw [am_ws_get hk, hs]; rfl) hq j hj (C.2.2.2.2.2.1 _ hw) (fun _ h => h) (v := .int (hi k j)) (by rw [am_fs_get h4 hj, am_fv_I h4 hI]) hd kk) h
theorem AP.getR {k ci j idx r : Nat} {q : vw_C} (hd : decode (am_cc M) pc = .ok (.getfield idx, 3)) (hs : am_SH k = (0, ci)) (hk : k < am_N g.1) (hq : vwCl[ci]? = some q) (hj : j < q.2.2) (hI : am_isI (q.2.1 j).2.2.1 = false) (hw : Cond.fieldLink (am_y M).cls idx (q.2.1 j).1 (q.2.1 j).2.1 (q.2.1 j).2.2.1 ∈ am_GT) (hr : g.2.1 k j = some r)
    (h : AP M b (pc + 3) L (.ref r :: st) hi g Φ) : AP M b pc L (.ref k :: st) hi g Φ :=
  AP.hget (fun l v p e R s m args below meth c H locs cells slots ls Q C hP kk => by
    obtain ⟨h1, -, -, h4⟩ := am_cin hq
    exact va_get C.1 C.2.1 (Ts := am_GT) C.2.2.2.2.2.1 h1 C.2.2.2.2.1 C.2.2.2.2.2.2.2.2.2.2.1.1 hP k (fs := am_fs v.1 (hi k) (g.2.1 k) ci) (by rw [am_ws_get hk, hs]; rfl) hq j hj (C.2.2.2.2.2.1 _ hw) (fun _ h => h) (v := .ref (v.1 + r)) (by rw [am_fs_get h4 hj, am_fv_R h4 hI, hr]; rfl) hd kk) h
theorem AP.putI {k ci j idx : Nat} {q : vw_C} {x : Int32} (hd : decode (am_cc M) pc = .ok (.putfield idx, 3)) (hs : am_SH k = (0, ci)) (hk : k < am_N g.1) (hq : vwCl[ci]? = some q) (hj : j < q.2.2) (hI : (q.2.1 j).2.2.1 = "I") (hf : (q.2.1 j).2.2.2 = false) (hw : Cond.fieldLink (am_y M).cls idx (q.2.1 j).1 (q.2.1 j).2.1 (q.2.1 j).2.2.1 ∈ am_GT)
    (h : AP M b (pc + 3) L st (am_up hi k j x) g Φ) : AP M b pc L (.int x :: .ref k :: st) hi g Φ :=
  AP.hput rfl (by omega) (fun l v p e R s m args below meth c H locs cells slots ls Q C hz hP hD hS kk => by
    obtain ⟨h1, h2, h3, h4⟩ := am_cin hq
    have hI' : am_isI (q.2.1 j).2.2.1 = true := by rw [hI]; decide
    refine va_put C.1 C.2.1 (Ts := am_GT) C.2.2.2.2.2.1 h1 (am_ty ci) h2 h3 C.2.2.2.2.1 C.2.2.2.2.2.2.2.2.2.2.1.1 hP hD hS k (fs := am_fs v.1 (hi k) (g.2.1 k) ci) (by rw [am_ws_get hk, hs]; rfl) hq j hj (C.2.2.2.2.2.1 _ hw) (fun _ h => h) hf (ty := .int) (v := .int x) (by rw [hI]; decide) rfl rfl (by rw [am_fs_len h4]; exact hj) hd (fun H1 locs1 hP1 _ hS1 => ?_)
    rw [am_fs_setI h4 hj hI', am_ws_setI (upd (hi k) j x) hk (by rw [hs]; rfl)] at hP1
    exact kk H1 locs1 hP1 hS1) h
theorem AP.putRF {k ci j idx r : Nat} {q : vw_C} {ty : FieldType} (hd : decode (am_cc M) pc = .ok (.putfield idx, 3)) (hs : am_SH k = (0, ci)) (hk : k < am_N g.1) (hq : vwCl[ci]? = some q) (hj : j < q.2.2) (hI : am_isI (q.2.1 j).2.2.1 = false) (hf : (q.2.1 j).2.2.2 = true) (hn : (am_y M).name = "<init>") (hc : (q.2.1 j).1 = (am_y M).cls) (hty : parseFieldDescriptor (q.2.1 j).2.2.1 = some ty) (hrf : ∀ a, fits ty (.ref a) = true) (hnr : ∀ a, narrow ty (.ref a) = .ref a) (hw : Cond.fieldLink (am_y M).cls idx (q.2.1 j).1 (q.2.1 j).2.1 (q.2.1 j).2.2.1 ∈ am_GT)
    (h : AP M b (pc + 3) L st hi (am_upr g k j r) Φ) : AP M b pc L (.ref r :: .ref k :: st) hi g Φ :=
  AP.hput (g' := am_upr g k j r) rfl (by omega) (fun l v p e R s m args below meth c H locs cells slots ls Q C hz hP hD hS kk => by
    obtain ⟨h1, h2, h3, h4⟩ := am_cin hq
    refine va_putF C.1 C.2.1 (Ts := am_GT) C.2.2.2.2.2.1 h1 (am_ty ci) h2 h3 C.2.2.2.2.1 C.2.2.2.2.2.2.2.2.2.2.1.1 hP hD hS k (fs := am_fs v.1 (hi k) (g.2.1 k) ci) (by rw [am_ws_get hk, hs]; rfl) hq j hj (C.2.2.2.2.2.1 _ hw) (fun _ h => h) hf (C.2.2.2.2.2.2.2.1.trans hn) hc (ty := ty) (v := .ref (v.1 + r)) hty (hnr _) (hrf _) (by rw [am_fs_len h4]; exact hj) hd (fun H1 locs1 hP1 _ hS1 => ?_)
    rw [am_fs_setR h4 hj hI, am_ws_set (hi k) (va_up (g.2.1 k) j (some r)) (g.2.2 k) hk (by rw [hs]; rfl), am_va_self, am_va_self] at hP1
    exact kk H1 locs1 hP1 hS1) h
theorem am_at1 {v : am_E} {k n t : Nat} {sh : Nat × Nat} (hk : k < am_N g.1) (hs : am_SH k = sh) : (am_ws v.1 v.2.2.1 hi g)[k]? = some (v.1 + k, am_cell v.1 v.2.2.1 (hi k) (g.2.1 k) (g.2.2 k) sh) := by
  rw [am_ws_get hk, hs]
theorem AP.iald {k n j : Nat} {i : Int32} (hd : decode (am_cc M) pc = .ok (.iaload, 1)) (hs : am_SH k = (1, n)) (hk : k < am_N g.1) (hn : n < 2 ^ 31) (hx : i = nI j) (hj : j < n)
    (h : AP M b (pc + 1) L (.int (hi k j) :: st) hi g Φ) : AP M b pc L (.int i :: .ref k :: st) hi g Φ :=
  AP.hget (fun l v p e R s m args below meth c H locs cells slots ls Q C hP kk => by
    subst hx
    refine va_iald C.1 C.2.1 C.2.2.2.2.2.2.2.2.2.2.1.1 hP k 0 (cA := v.2.2.1 0) (n := n) (f := hi k) (by rw [am_ws_get hk, hs]; rfl) rfl (vp_in_nI hj hn) hd ?_
    rw [nI_clamp (by omega)]
    exact kk) h
theorem AP.zald {k n j : Nat} {i : Int32} (hd : decode (am_cc M) pc = .ok (.baload, 1)) (hs : am_SH k = (2, n)) (hk : k < am_N g.1) (hn : n < 2 ^ 31) (hx : i = nI j) (hj : j < n)
    (h : AP M b (pc + 1) L (.int (hi k j) :: st) hi g Φ) : AP M b pc L (.int i :: .ref k :: st) hi g Φ :=
  AP.hget (fun l v p e R s m args below meth c H locs cells slots ls Q C hP kk => by
    subst hx
    refine va_zald C.1 C.2.1 C.2.2.2.2.2.2.2.2.2.2.1.1 hP k 1 (cA := v.2.2.1 1) (n := n) (f := hi k) (by rw [am_ws_get hk, hs]; rfl) rfl (vp_in_nI hj hn) hd ?_
    rw [nI_clamp (by omega)]
    exact kk) h
theorem AP.cald {k n j : Nat} {i : Int32} (hd : decode (am_cc M) pc = .ok (.caload, 1)) (hs : am_SH k = (3, n)) (hk : k < am_N g.1) (hn : n < 2 ^ 31) (hx : i = nI j) (hj : j < n)
    (h : AP M b (pc + 1) L (.int (hi k j) :: st) hi g Φ) : AP M b pc L (.int i :: .ref k :: st) hi g Φ :=
  AP.hget (fun l v p e R s m args below meth c H locs cells slots ls Q C hP kk => by
    subst hx
    refine va_cald C.1 C.2.1 C.2.2.2.2.2.2.2.2.2.2.1.1 hP k 2 (cA := v.2.2.1 2) (n := n) (f := hi k) (by rw [am_ws_get hk, hs]; rfl) rfl (vp_in_nI hj hn) hd ?_
    rw [nI_clamp (by omega)]
    exact kk) h
theorem AP.lald {k n j : Nat} {i : Int32} (hd : decode (am_cc M) pc = .ok (.laload, 1)) (hs : am_SH k = (4, n)) (hk : k < am_N g.1) (hn : n < 2 ^ 31) (hx : i = nI j) (hj : j < n)
    (h : AP M b (pc + 1) L (.long (g.2.2 k j) :: st) hi g Φ) : AP M b pc L (.int i :: .ref k :: st) hi g Φ :=
  AP.hget (fun l v p e R s m args below meth c H locs cells slots ls Q C hP kk => by
    subst hx
    refine va_lald C.1 C.2.1 C.2.2.2.2.2.2.2.2.2.2.1.1 hP k 3 (cA := v.2.2.1 3) (n := n) (f := g.2.2 k) (by rw [am_ws_get hk, hs]; rfl) rfl (vp_in_nI hj hn) hd ?_
    rw [nI_clamp (by omega)]
    exact kk) h
theorem AP.aald {k n j r : Nat} {i : Int32} (hd : decode (am_cc M) pc = .ok (.aaload, 1)) (hs : am_SH k = (5, n)) (hk : k < am_N g.1) (hn : n < 2 ^ 31) (hx : i = nI j) (hj : j < n) (hr : g.2.1 k j = some r)
    (h : AP M b (pc + 1) L (.ref r :: st) hi g Φ) : AP M b pc L (.int i :: .ref k :: st) hi g Φ :=
  AP.hget (fun l v p e R s m args below meth c H locs cells slots ls Q C hP kk => by
    subst hx
    refine va_aldq C.1 C.2.1 C.2.2.2.2.2.2.2.2.2.2.1.1 hP k 4 (cA := v.2.2.1 4) (C := RX6) (n := n) (f := fun i => am_ad v.1 (g.2.1 k i)) (by rw [am_ws_get hk, hs]; rfl) rfl (vp_in_nI hj hn) hd ?_
    rw [nI_clamp (by omega), hr]
    exact kk) h
theorem AP.rald {k n j r : Nat} {i : Int32} (hd : decode (am_cc M) pc = .ok (.aaload, 1)) (hs : am_SH k = (6, n)) (hk : k < am_N g.1) (hn : n < 2 ^ 31) (hx : i = nI j) (hj : j < n) (hr : g.2.1 k j = some r)
    (h : AP M b (pc + 1) L (.ref r :: st) hi g Φ) : AP M b pc L (.int i :: .ref k :: st) hi g Φ :=
  AP.hget (fun l v p e R s m args below meth c H locs cells slots ls Q C hP kk => by
    subst hx
    have hlt : (nI j).toNatClampNeg < n := by rw [nI_clamp (by omega)]; exact hj
    have ha : (am_ws v.1 v.2.2.1 hi g)[k]? = some (v.1 + k, .inl (v.2.2.1 5, n, .inr (.inr (.inr (.inr (fun i => am_ad v.1 (g.2.1 k i))))))) := by rw [am_ws_get hk, hs]; rfl
    refine W.aald (v := va_rf (am_ad v.1 (g.2.1 k (nI j).toNatClampNeg))) (ty := .array .int) C.1 C.2.1 (hP k _ ha) ((C.2.2.2.2.2.2.2.2.2.2.1.1.2 5 _ rfl).1 n (fun j => va_rf (am_ad v.1 (g.2.1 k j)))) rfl (fun q => by cases q) (by show ¬ (_ < 0 ∨ (arrV _ _ _).slots.size ≤ _); rw [arrV_size]; exact vp_in_nI hj hn) (by show (arrV _ _ _).slots[_]? = _; rw [arrV_read _ _ hlt]) rfl rfl hd ?_
    rw [nI_clamp (by omega), hr]
    exact kk) h
theorem AP.iast {k n j : Nat} {i x : Int32} (hd : decode (am_cc M) pc = .ok (.iastore, 1)) (hs : am_SH k = (1, n)) (hk : k < am_N g.1) (hn : n < 2 ^ 31) (hx : i = nI j) (hj : j < n)
    (h : AP M b (pc + 1) L st (am_up hi k j x) g Φ) : AP M b pc L (.int x :: .int i :: .ref k :: st) hi g Φ :=
  AP.hput rfl (by omega) (fun l v p e R s m args below meth c H locs cells slots ls Q C hz hP hD hS kk => by
    subst hx
    refine va_iast C.1 C.2.1 C.2.2.2.2.2.2.2.2.2.2.1.1 hP hD hS k 0 (cA := v.2.2.1 0) (n := n) (f := hi k) (by rw [am_ws_get hk, hs]; rfl) rfl (vp_in_nI hj hn) hd (fun H1 locs1 hP1 _ hS1 => ?_)
    rw [nI_clamp (by omega), am_ws_setI (upd (hi k) j x) hk (by rw [hs]; rfl)] at hP1
    exact kk H1 locs1 hP1 hS1) h
theorem AP.zast {k n j : Nat} {i x : Int32} (hd : decode (am_cc M) pc = .ok (.bastore, 1)) (hs : am_SH k = (2, n)) (hk : k < am_N g.1) (hn : n < 2 ^ 31) (hx : i = nI j) (hj : j < n) (hb : vp_nar .boolean x = x)
    (h : AP M b (pc + 1) L st (am_up hi k j x) g Φ) : AP M b pc L (.int x :: .int i :: .ref k :: st) hi g Φ :=
  AP.hput rfl (by omega) (fun l v p e R s m args below meth c H locs cells slots ls Q C hz hP hD hS kk => by
    subst hx
    refine va_zast C.1 C.2.1 C.2.2.2.2.2.2.2.2.2.2.1.1 hP hD hS k 1 (cA := v.2.2.1 1) (n := n) (f := hi k) (by rw [am_ws_get hk, hs]; rfl) rfl (vp_in_nI hj hn) hd (fun H1 locs1 hP1 _ hS1 => ?_)
    rw [nI_clamp (by omega), hb, am_ws_setI (upd (hi k) j x) hk (by rw [hs]; rfl)] at hP1
    exact kk H1 locs1 hP1 hS1) h
theorem AP.cast {k n j : Nat} {i x : Int32} (hd : decode (am_cc M) pc = .ok (.castore, 1)) (hs : am_SH k = (3, n)) (hk : k < am_N g.1) (hn : n < 2 ^ 31) (hx : i = nI j) (hj : j < n) (hb : vp_nar .char x = x)
    (h : AP M b (pc + 1) L st (am_up hi k j x) g Φ) : AP M b pc L (.int x :: .int i :: .ref k :: st) hi g Φ :=
  AP.hput rfl (by omega) (fun l v p e R s m args below meth c H locs cells slots ls Q C hz hP hD hS kk => by
    subst hx
    refine va_cast C.1 C.2.1 C.2.2.2.2.2.2.2.2.2.2.1.1 hP hD hS k 2 (cA := v.2.2.1 2) (n := n) (f := hi k) (by rw [am_ws_get hk, hs]; rfl) rfl (vp_in_nI hj hn) hd (fun H1 locs1 hP1 _ hS1 => ?_)
    rw [nI_clamp (by omega), hb, am_ws_setI (upd (hi k) j x) hk (by rw [hs]; rfl)] at hP1
    exact kk H1 locs1 hP1 hS1) h
theorem AP.last {k n j : Nat} {i : Int32} {x : Int64} (hd : decode (am_cc M) pc = .ok (.lastore, 1)) (hs : am_SH k = (4, n)) (hk : k < am_N g.1) (hn : n < 2 ^ 31) (hx : i = nI j) (hj : j < n)
    (h : AP M b (pc + 1) L st hi (am_upl g k j x) Φ) : AP M b pc L (.long x :: .int i :: .ref k :: st) hi g Φ :=
  AP.hput (g' := am_upl g k j x) rfl (by omega) (fun l v p e R s m args below meth c H locs cells slots ls Q C hz hP hD hS kk => by
    subst hx
    refine va_last C.1 C.2.1 C.2.2.2.2.2.2.2.2.2.2.1.1 hP hD hS k 3 (cA := v.2.2.1 3) (n := n) (f := g.2.2 k) (by rw [am_ws_get hk, hs]; rfl) rfl (vp_in_nI hj hn) hd (fun H1 locs1 hP1 _ hS1 => ?_)
    rw [nI_clamp (by omega), am_ws_set (hi k) (g.2.1 k) (vp_updL (g.2.2 k) j x) hk (by rw [hs]; rfl), am_va_self, am_va_self] at hP1
    exact kk H1 locs1 hP1 hS1) h
theorem AP.aast {k n j r : Nat} {i : Int32} (hd : decode (am_cc M) pc = .ok (.aastore, 1)) (hs : am_SH k = (5, n)) (hk : k < am_N g.1) (hn : n < 2 ^ 31) (hx : i = nI j) (hj : j < n) (hr : am_SH r = (0, 6)) (hrk : r < am_N g.1)
    (h : AP M b (pc + 1) L st hi (am_upr g k j r) Φ) : AP M b pc L (.ref r :: .int i :: .ref k :: st) hi g Φ :=
  AP.hput (g' := am_upr g k j r) rfl (by omega) (fun l v p e R s m args below meth c H locs cells slots ls Q C hz hP hD hS kk => by
    subst hx
    refine va_astq C.1 C.2.1 C.2.2.2.2.2.2.2.2.2.2.1.1 hP hD hS k 4 r 6 (cA := v.2.2.1 4) (r := (RX6, TX6, 8)) (n := n) (v := v.1 + r) (vs := am_fs v.1 (hi r) (g.2.1 r) 6) (f := fun i => am_ad v.1 (g.2.1 k i)) (by rw [am_ws_get hk, hs]; rfl) rfl (by rw [am_ws_get hrk, hr]; rfl) rfl (vp_in_nI hj hn) hd (fun H1 locs1 hP1 _ hS1 => ?_)
    have e : va_up (fun i => am_ad v.1 (g.2.1 k i)) (nI j).toNatClampNeg (some (v.1 + r)) = fun i => am_ad v.1 (va_up (g.2.1 k) j (some r) i) := by
      rw [nI_clamp (by omega)]
      funext q
      unfold va_up
      by_cases hq : q = j
      · rw [if_pos hq, if_pos hq]; rfl
      · rw [if_neg hq, if_neg hq]
    rw [e, am_ws_set (hi k) (va_up (g.2.1 k) j (some r)) (g.2.2 k) hk (by rw [hs]; rfl), am_va_self, am_va_self] at hP1
    exact kk H1 locs1 hP1 hS1) h
end ROWS
