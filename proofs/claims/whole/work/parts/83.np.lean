/-! ===== a point of a constructor ===== -/
def NP (M : am_M) (b : Nat × Nat) (pc : Nat) (L st : List Value) (hi : am_HI) (g : am_G) (Φ : am_P) : Prop :=
  ∀ (l : Launch) (v : am_E) (p : Program) (e : Env) (R : Room) (s : State) (m : MethodId) (args : Array Value) (below : List Frame) (meth : Method) (c : Code) (H : Heap) (locs : List Loc) (cells slots : Nat) (ls : Array Slot) (Q : State → Prop),
    am_Cx M l v p R s m args meth c → am_Ex M l v p e R s m args below meth c Φ Q → lv_has ls (am_nL M) (am_L v.1 0 L) → am_Dy v R s b hi g H locs cells slots → am_AO s →
    W p l e R s m args below meth c H locs cells slots Q (F0 m pc ls (st.map (am_cv v.1)))
section NPURE
variable {M : am_M} {b : Nat × Nat} {pc pc' : Nat} {L L' st st' : List Value} {hi hi' : am_HI} {g g' : am_G} {Φ : am_P}
theorem NP.pure (k : ∀ (l : Launch) (v : am_E) (p : Program) (e : Env) (R : Room) (s : State) (m : MethodId) (args : Array Value) (below : List Frame) (meth : Method) (c : Code) (H : Heap) (locs : List Loc) (cells slots : Nat) (ls : Array Slot) (Q : State → Prop),
    am_Cx M l v p R s m args meth c → lv_has ls (am_nL M) (am_L v.1 0 L) → W p l e R s m args below meth c H locs cells slots Q (F0 m pc' ls (st'.map (am_cv v.1))) → W p l e R s m args below meth c H locs cells slots Q (F0 m pc ls (st.map (am_cv v.1))))
    (h : NP M b pc' L st' hi g Φ) : NP M b pc L st hi g Φ :=
  fun l v p e R s m args below meth c H locs cells slots ls Q C X hl Y hao => k l v p e R s m args below meth c H locs cells slots ls Q C hl (h l v p e R s m args below meth c H locs cells slots ls Q C X hl Y hao)
theorem NP.stl (k : ∀ (l : Launch) (v : am_E) (p : Program) (e : Env) (R : Room) (s : State) (m : MethodId) (args : Array Value) (below : List Frame) (meth : Method) (c : Code) (H : Heap) (locs : List Loc) (cells slots : Nat) (ls : Array Slot) (Q : State → Prop),
    am_Cx M l v p R s m args meth c → lv_has ls (am_nL M) (am_L v.1 0 L) → (∀ ls' : Array Slot, lv_has ls' (am_nL M) (am_L v.1 0 L') → W p l e R s m args below meth c H locs cells slots Q (F0 m pc' ls' (st'.map (am_cv v.1)))) → W p l e R s m args below meth c H locs cells slots Q (F0 m pc ls (st.map (am_cv v.1))))
    (h : NP M b pc' L' st' hi g Φ) : NP M b pc L st hi g Φ :=
  fun l v p e R s m args below meth c H locs cells slots ls Q C X hl Y hao => k l v p e R s m args below meth c H locs cells slots ls Q C hl (fun ls' hl' => h l v p e R s m args below meth c H locs cells slots ls' Q C X hl' Y hao)
theorem NP.fork {c1 c2 : Prop} {pc1 pc2 : Nat} (k : ∀ (l : Launch) (v : am_E) (p : Program) (e : Env) (R : Room) (s : State) (m : MethodId) (args : Array Value) (below : List Frame) (meth : Method) (c : Code) (H : Heap) (locs : List Loc) (cells slots : Nat) (ls : Array Slot) (Q : State → Prop),
    am_Cx M l v p R s m args meth c → (c1 → W p l e R s m args below meth c H locs cells slots Q (F0 m pc1 ls (st'.map (am_cv v.1)))) → (c2 → W p l e R s m args below meth c H locs cells slots Q (F0 m pc2 ls (st'.map (am_cv v.1)))) → W p l e R s m args below meth c H locs cells slots Q (F0 m pc ls (st.map (am_cv v.1))))
    (h1 : c1 → NP M b pc1 L st' hi g Φ) (h2 : c2 → NP M b pc2 L st' hi g Φ) : NP M b pc L st hi g Φ :=
  fun l v p e R s m args below meth c H locs cells slots ls Q C X hl Y hao => k l v p e R s m args below meth c H locs cells slots ls Q C (fun z => h1 z l v p e R s m args below meth c H locs cells slots ls Q C X hl Y hao) (fun z => h2 z l v p e R s m args below meth c H locs cells slots ls Q C X hl Y hao)
theorem NP.hget (k : ∀ (l : Launch) (v : am_E) (p : Program) (e : Env) (R : Room) (s : State) (m : MethodId) (args : Array Value) (below : List Frame) (meth : Method) (c : Code) (H : Heap) (locs : List Loc) (cells slots : Nat) (ls : Array Slot) (Q : State → Prop),
    am_Cx M l v p R s m args meth c → va_P v.2.1 vwCl (am_ws v.1 v.2.2.1 hi g) H → W p l e R s m args below meth c H locs cells slots Q (F0 m pc' ls (st'.map (am_cv v.1))) → W p l e R s m args below meth c H locs cells slots Q (F0 m pc ls (st.map (am_cv v.1))))
    (h : NP M b pc' L st' hi g Φ) : NP M b pc L st hi g Φ :=
  fun l v p e R s m args below meth c H locs cells slots ls Q C X hl Y hao => k l v p e R s m args below meth c H locs cells slots ls Q C Y.1.1 (h l v p e R s m args below meth c H locs cells slots ls Q C X hl Y hao)
theorem NP.hput (hg : g'.1 = g.1) (hN : 0 < am_N g.1) (k : ∀ (l : Launch) (v : am_E) (p : Program) (e : Env) (R : Room) (s : State) (m : MethodId) (args : Array Value) (below : List Frame) (meth : Method) (c : Code) (H : Heap) (locs : List Loc) (cells slots : Nat) (ls : Array Slot) (Q : State → Prop),
    am_Cx M l v p R s m args meth c → ls.size = am_nL M → va_P v.2.1 vwCl (am_ws v.1 v.2.2.1 hi g) H → va_D (am_A v) (am_ws v.1 v.2.2.1 hi g) → va_S (am_A v) s.heap H locs →
    (∀ (H1 : Heap) (locs1 : List Loc), va_P v.2.1 vwCl (am_ws v.1 v.2.2.1 hi' g') H1 → va_S (am_A v) s.heap H1 locs1 → W p l e R s m args below meth c H1 locs1 cells slots Q (F0 m pc' ls (st'.map (am_cv v.1)))) →
    W p l e R s m args below meth c H locs cells slots Q (F0 m pc ls (st.map (am_cv v.1))))
    (h : NP M b pc' L st' hi' g' Φ) : NP M b pc L st hi g Φ :=
  fun l v p e R s m args below meth c H locs cells slots ls Q C X hl Y hao => k l v p e R s m args below meth c H locs cells slots ls Q C hl.1 Y.1.1 (am_ws_D v _ _ _) Y.2.1
    (fun H1 locs1 hP hS => h l v p e R s m args below meth c H1 locs1 cells slots ls Q C X hl ⟨⟨hP, am_Rep.lt hP (by rw [hg]; exact hN)⟩, hS, Y.2.2.1, Y.2.2.2.1, fun n hn => Y.2.2.2.2 n (by rw [← hg]; exact hn)⟩ hao)
theorem NP.aload_n {k : Fin 4} {i : Nat} {x : Nat} (hd : decode (am_cc M) pc = .ok (.aload_n k, 1)) (hi' : (k : Nat) = i) (hx : L[i]? = some (.ref x)) (h : NP M b (pc + 1) L (.ref x :: st) hi g Φ) : NP M b pc L st hi g Φ :=
  NP.pure (fun l v p e R s m args below meth c H locs cells slots ls Q C hl k => lv_aload_n C.1 C.2.1 hd hi' (am_get hl hx rfl) k) h
theorem NP.iload_n {k : Fin 4} {i : Nat} {x : Int32} (hd : decode (am_cc M) pc = .ok (.iload_n k, 1)) (hi' : (k : Nat) = i) (hx : L[i]? = some (.int x)) (h : NP M b (pc + 1) L (.int x :: st) hi g Φ) : NP M b pc L st hi g Φ :=
  NP.pure (fun l v p e R s m args below meth c H locs cells slots ls Q C hl k => lv_iload_n C.1 C.2.1 hd hi' (am_get hl hx rfl) k) h
theorem NP.istore_n {k : Fin 4} {i : Nat} {x : Int32} (hd : decode (am_cc M) pc = .ok (.istore_n k, 1)) (hi' : (k : Nat) = i) (hn : i < am_nL M) (hL : am_st L i (.int x) = L') (h : NP M b (pc + 1) L' st hi g Φ) : NP M b pc L (.int x :: st) hi g Φ := by
  subst hL
  exact NP.stl (fun l v p e R s m args below meth c H locs cells slots ls Q C hl k => lv_istore_n C.1 C.2.1 hd hi' hl hn rfl (fun ls' hl' => k ls' (am_put1 (v := .int x) hl'))) h
theorem NP.iinc {i : Nat} {n : Int} {x y : Int32} (hd : decode (am_cc M) pc = .ok (.iinc i n, 3)) (hx : L[i]? = some (.int x)) (hy : x + Int32.ofInt n = y) (hn : i < am_nL M) (hL : am_st L i (.int y) = L') (h : NP M b (pc + 3) L' st hi g Φ) : NP M b pc L st hi g Φ := by
  subst hL
  exact NP.stl (fun l v p e R s m args below meth c H locs cells slots ls Q C hl k => by
    obtain ⟨k9, hk⟩ := am_L_idx (n0 := v.1) L hx
    exact lv_iinc C.1 C.2.1 hd hl hk hy hn rfl (fun ls' hl' => k ls' (am_put1 (v := .int y) hl'))) h
theorem NP.iconst {n : Int} {x : Int32} (hd : decode (am_cc M) pc = .ok (.iconst n, 1)) (hv : Int32.ofInt n = x) (h : NP M b (pc + 1) L (.int x :: st) hi g Φ) : NP M b pc L st hi g Φ :=
  NP.pure (fun l v p e R s m args below meth c H locs cells slots ls Q C hl k => lv_iconst C.1 C.2.1 hd hv k) h
theorem NP.bipush {n : Int} {x : Int32} (hd : decode (am_cc M) pc = .ok (.bipush n, 2)) (hv : (Int8.ofInt n).toInt32 = x) (h : NP M b (pc + 2) L (.int x :: st) hi g Φ) : NP M b pc L st hi g Φ :=
  NP.pure (fun l v p e R s m args below meth c H locs cells slots ls Q C hl k => lv_bipush C.1 C.2.1 hd hv k) h
theorem NP.sipush {n : Int} {x : Int32} (hd : decode (am_cc M) pc = .ok (.sipush n, 3)) (hv : (Int16.ofInt n).toInt32 = x) (h : NP M b (pc + 3) L (.int x :: st) hi g Φ) : NP M b pc L st hi g Φ :=
  NP.pure (fun l v p e R s m args below meth c H locs cells slots ls Q C hl k => lv_sipush C.1 C.2.1 hd hv k) h
theorem NP.dup {u : Value} (hd : decode (am_cc M) pc = .ok (.dup, 1)) (hu : u.category = 1) (h : NP M b (pc + 1) L (u :: u :: st) hi g Φ) : NP M b pc L (u :: st) hi g Φ :=
  NP.pure (fun l v p e R s m args below meth c H locs cells slots ls Q C hl k => lv_dup C.1 C.2.1 hd (by rw [am_cv_cat]; exact hu) k) h
theorem NP.goto {off : Int} {tgt : Nat} (hd : decode (am_cc M) pc = .ok (.goto off, 3)) (ht : (pc : Int) + off = (tgt : Int)) (h : NP M b tgt L st hi g Φ) : NP M b pc L st hi g Φ :=
  NP.pure (fun l v p e R s m args below meth c H locs cells slots ls Q C hl k => lv_goto C.1 C.2.1 hd ht k) h
theorem NP.icmp_ge {x y : Int32} {off : Int} {tgt : Nat} (hd : decode (am_cc M) pc = .ok (.if_icmp .ge off, 3)) (ht : (pc : Int) + off = (tgt : Int)) (h1 : y ≤ x → NP M b tgt L st hi g Φ) (h2 : ¬ y ≤ x → NP M b (pc + 3) L st hi g Φ) : NP M b pc L (.int y :: .int x :: st) hi g Φ :=
  NP.fork (fun l v p e R s m args below meth c H locs cells slots ls Q C k1 k2 => lv_icmp_ge C.1 C.2.1 hd ht k1 k2) h1 h2
theorem NP.getI {k ci j idx : Nat} {q : vw_C} (hd : decode (am_cc M) pc = .ok (.getfield idx, 3)) (hs : am_SH k = (0, ci)) (hk : k < am_N g.1) (hq : vwCl[ci]? = some q) (hj : j < q.2.2) (hI : am_isI (q.2.1 j).2.2.1 = true) (hw : Cond.fieldLink (am_y M).cls idx (q.2.1 j).1 (q.2.1 j).2.1 (q.2.1 j).2.2.1 ∈ am_GT)
    (h : NP M b (pc + 3) L (.int (hi k j) :: st) hi g Φ) : NP M b pc L (.ref k :: st) hi g Φ :=
  NP.hget (fun l v p e R s m args below meth c H locs cells slots ls Q C hP kk => by
    obtain ⟨h1, -, -, h4⟩ := am_cin hq
    exact va_get C.1 C.2.1 (Ts := am_GT) C.2.2.2.2.2.1 h1 C.2.2.2.2.1 C.2.2.2.2.2.2.2.2.2.2.1.1 hP k (fs := am_fs v.1 (hi k) (g.2.1 k) ci) (by rw [am_ws_get hk, hs]; rfl) hq j hj (C.2.2.2.2.2.1 _ hw) (fun _ h => h) (v := .int (hi k j)) (by rw [am_fs_get h4 hj, am_fv_I h4 hI]) hd kk) h
theorem NP.getR {k ci j idx r : Nat} {q : vw_C} (hd : decode (am_cc M) pc = .ok (.getfield idx, 3)) (hs : am_SH k = (0, ci)) (hk : k < am_N g.1) (hq : vwCl[ci]? = some q) (hj : j < q.2.2) (hI : am_isI (q.2.1 j).2.2.1 = false) (hw : Cond.fieldLink (am_y M).cls idx (q.2.1 j).1 (q.2.1 j).2.1 (q.2.1 j).2.2.1 ∈ am_GT) (hr : g.2.1 k j = some r)
    (h : NP M b (pc + 3) L (.ref r :: st) hi g Φ) : NP M b pc L (.ref k :: st) hi g Φ :=
  NP.hget (fun l v p e R s m args below meth c H locs cells slots ls Q C hP kk => by
    obtain ⟨h1, -, -, h4⟩ := am_cin hq
    exact va_get C.1 C.2.1 (Ts := am_GT) C.2.2.2.2.2.1 h1 C.2.2.2.2.1 C.2.2.2.2.2.2.2.2.2.2.1.1 hP k (fs := am_fs v.1 (hi k) (g.2.1 k) ci) (by rw [am_ws_get hk, hs]; rfl) hq j hj (C.2.2.2.2.2.1 _ hw) (fun _ h => h) (v := .ref (v.1 + r)) (by rw [am_fs_get h4 hj, am_fv_R h4 hI, hr]; rfl) hd kk) h
theorem NP.putI {k ci j idx : Nat} {q : vw_C} {x : Int32} (hd : decode (am_cc M) pc = .ok (.putfield idx, 3)) (hs : am_SH k = (0, ci)) (hk : k < am_N g.1) (hq : vwCl[ci]? = some q) (hj : j < q.2.2) (hI : (q.2.1 j).2.2.1 = "I") (hf : (q.2.1 j).2.2.2 = false) (hw : Cond.fieldLink (am_y M).cls idx (q.2.1 j).1 (q.2.1 j).2.1 (q.2.1 j).2.2.1 ∈ am_GT)
    (h : NP M b (pc + 3) L st (am_up hi k j x) g Φ) : NP M b pc L (.int x :: .ref k :: st) hi g Φ :=
  NP.hput rfl (by omega) (fun l v p e R s m args below meth c H locs cells slots ls Q C hz hP hD hS kk => by
    obtain ⟨h1, h2, h3, h4⟩ := am_cin hq
    have hI' : am_isI (q.2.1 j).2.2.1 = true := by rw [hI]; decide
    refine va_put C.1 C.2.1 (Ts := am_GT) C.2.2.2.2.2.1 h1 (am_ty ci) h2 h3 C.2.2.2.2.1 C.2.2.2.2.2.2.2.2.2.2.1.1 hP hD hS k (fs := am_fs v.1 (hi k) (g.2.1 k) ci) (by rw [am_ws_get hk, hs]; rfl) hq j hj (C.2.2.2.2.2.1 _ hw) (fun _ h => h) hf (ty := .int) (v := .int x) (by rw [hI]; decide) rfl rfl (by rw [am_fs_len h4]; exact hj) hd (fun H1 locs1 hP1 _ hS1 => ?_)
    rw [am_fs_setI h4 hj hI', am_ws_setI (upd (hi k) j x) hk (by rw [hs]; rfl)] at hP1
    exact kk H1 locs1 hP1 hS1) h
theorem NP.putRF {k ci j idx r : Nat} {q : vw_C} {ty : FieldType} (hd : decode (am_cc M) pc = .ok (.putfield idx, 3)) (hs : am_SH k = (0, ci)) (hk : k < am_N g.1) (hq : vwCl[ci]? = some q) (hj : j < q.2.2) (hI : am_isI (q.2.1 j).2.2.1 = false) (hf : (q.2.1 j).2.2.2 = true) (hn : (am_y M).name = "<init>") (hc : (q.2.1 j).1 = (am_y M).cls) (hty : parseFieldDescriptor (q.2.1 j).2.2.1 = some ty) (hrf : ∀ a, fits ty (.ref a) = true) (hnr : ∀ a, narrow ty (.ref a) = .ref a) (hw : Cond.fieldLink (am_y M).cls idx (q.2.1 j).1 (q.2.1 j).2.1 (q.2.1 j).2.2.1 ∈ am_GT)
    (h : NP M b (pc + 3) L st hi (am_upr g k j r) Φ) : NP M b pc L (.ref r :: .ref k :: st) hi g Φ :=
  NP.hput (g' := am_upr g k j r) rfl (by omega) (fun l v p e R s m args below meth c H locs cells slots ls Q C hz hP hD hS kk => by
    obtain ⟨h1, h2, h3, h4⟩ := am_cin hq
    refine va_putF C.1 C.2.1 (Ts := am_GT) C.2.2.2.2.2.1 h1 (am_ty ci) h2 h3 C.2.2.2.2.1 C.2.2.2.2.2.2.2.2.2.2.1.1 hP hD hS k (fs := am_fs v.1 (hi k) (g.2.1 k) ci) (by rw [am_ws_get hk, hs]; rfl) hq j hj (C.2.2.2.2.2.1 _ hw) (fun _ h => h) hf (C.2.2.2.2.2.2.2.1.trans hn) hc (ty := ty) (v := .ref (v.1 + r)) hty (hnr _) (hrf _) (by rw [am_fs_len h4]; exact hj) hd (fun H1 locs1 hP1 _ hS1 => ?_)
    rw [am_fs_setR h4 hj hI, am_ws_set (hi k) (va_up (g.2.1 k) j (some r)) (g.2.2 k) hk (by rw [hs]; rfl), am_va_self, am_va_self] at hP1
    exact kk H1 locs1 hP1 hS1) h
theorem NP.iast {k n j : Nat} {i x : Int32} (hd : decode (am_cc M) pc = .ok (.iastore, 1)) (hs : am_SH k = (1, n)) (hk : k < am_N g.1) (hn : n < 2 ^ 31) (hx : i = nI j) (hj : j < n)
    (h : NP M b (pc + 1) L st (am_up hi k j x) g Φ) : NP M b pc L (.int x :: .int i :: .ref k :: st) hi g Φ :=
  NP.hput rfl (by omega) (fun l v p e R s m args below meth c H locs cells slots ls Q C hz hP hD hS kk => by
    subst hx
    refine va_iast C.1 C.2.1 C.2.2.2.2.2.2.2.2.2.2.1.1 hP hD hS k 0 (cA := v.2.2.1 0) (n := n) (f := hi k) (by rw [am_ws_get hk, hs]; rfl) rfl (vp_in_nI hj hn) hd (fun H1 locs1 hP1 _ hS1 => ?_)
    rw [nI_clamp (by omega), am_ws_setI (upd (hi k) j x) hk (by rw [hs]; rfl)] at hP1
    exact kk H1 locs1 hP1 hS1) h
theorem NP.aast {k n j r : Nat} {i : Int32} (hd : decode (am_cc M) pc = .ok (.aastore, 1)) (hs : am_SH k = (5, n)) (hk : k < am_N g.1) (hn : n < 2 ^ 31) (hx : i = nI j) (hj : j < n) (hr : am_SH r = (0, 6)) (hrk : r < am_N g.1)
    (h : NP M b (pc + 1) L st hi (am_upr g k j r) Φ) : NP M b pc L (.ref r :: .int i :: .ref k :: st) hi g Φ :=
  NP.hput (g' := am_upr g k j r) rfl (by omega) (fun l v p e R s m args below meth c H locs cells slots ls Q C hz hP hD hS kk => by
    subst hx
    refine va_astq C.1 C.2.1 C.2.2.2.2.2.2.2.2.2.2.1.1 hP hD hS k 4 r 6 (cA := v.2.2.1 4) (r := (RX6, TX6, 8)) (n := n) (v := v.1 + r) (vs := am_fs v.1 (hi r) (g.2.1 r) 6) (f := fun i => am_ad v.1 (g.2.1 k i)) (by rw [am_ws_get hk, hs]; rfl) rfl (by rw [am_ws_get hrk, hr]; rfl) rfl (vp_in_nI hj hn) hd (fun H1 locs1 hP1 _ hS1 => ?_)
    have e : va_up (fun i => am_ad v.1 (g.2.1 k i)) (nI j).toNatClampNeg (some (v.1 + r)) = fun i => am_ad v.1 (va_up (g.2.1 k) j (some r) i) := by
      rw [nI_clamp (by omega)]
      funext q
      unfold va_up
      by_cases hq : q = j
      · rw [if_pos hq, if_pos hq]; rfl
      · rw [if_neg hq, if_neg hq]
    rw [e, am_ws_set (hi k) (va_up (g.2.1 k) j (some r)) (g.2.2 k) hk (by rw [hs]; rfl), am_va_self, am_va_self] at hP1
    exact kk H1 locs1 hP1 hS1) h
theorem NP.vret (hd : decode (am_cc M) pc = .ok (.return_, 1)) (hr : am_rt M = none) (hΦ : Φ (.ok none) hi g) : NP M b pc L [] hi g Φ :=
  fun l v p e R s m args below meth c H locs cells slots ls Q C X hl Y _ => X.1 none hi g H locs cells slots pc ls hΦ (by rw [hr]; trivial) Y.1 Y.2.1 (by have := Y.2.2.1; omega) (by have := Y.2.2.2.1; omega) (by rw [hr]; exact hd)
theorem lw_oi : Cond.instanceMethod Lib.objectInit ∈ am_GT := am_gt 93 (by decide +kernel) (by decide +kernel)
theorem lw_oc : Cond.code Lib.objectInit ⟨#[0xb1]⟩ 1 none ∈ am_GT := am_gt 94 (by decide +kernel) (by decide +kernel)
theorem NP.objInit {idx k : Nat} (hd : decode (am_cc M) pc = .ok (.invokespecial idx, 3)) (hw : Cond.methodLink (am_y M).cls idx Lib.objectInit ∈ am_GT) (hf : 1 ≤ am_fr M) (hlo : 20 ≤ am_lo M) (h : NP M b (pc + 3) L [] hi g Φ) : NP M b pc L [.ref k] hi g Φ :=
  fun l v p e R s m args below meth c H locs cells slots ls Q C X hl Y hao => by
    obtain ⟨c1, c2, c3, c4, c5, c6, c7, c8, c9, c10, c11, c12, c13, c14, c15⟩ := id C
    refine W.objInit (rest := []) c1 c2 c5 (c6 _ hw) (c6 _ lw_oi) (c6 _ lw_oc) rfl (by rw [c3]; exact hl.1) rfl hd (by omega) (by show 2 * 0 + 0 + 12 ≤ _; omega) ?_
    exact W.eq (g2 := F0 m (pc + 3) ls []) rfl (h l v p e R s m args below meth c H locs cells slots ls Q C X hl Y hao)
theorem NP.newo {idx ci n N : Nat} {q : vw_C} (hd : decode (am_cc M) pc = .ok (.new idx, 3)) (hg : g.1 = some n) (hs : am_SH n = (0, ci)) (hq : vwCl[ci]? = some q) (hN : q.2.2 = N) (hw1 : Cond.classLink (am_y M).cls idx q.1 ∈ am_GT) (hw2 : Cond.instantiable q.1 q.2.2 ∈ am_GT) (hw3 : Cond.initialized q.1 ∈ am_GT) (h : NP M b (pc + 3) L (.ref n :: st) (am_mkI hi n) (am_mk g n) Φ) : NP M (b.1 + 1, b.2 + N) pc L st hi g Φ :=
  fun l v p e R s m args below meth c H locs cells slots ls Q C X hl Y hao => am_newW C Y hg hs hq hN hw1 hw2 hw3 hd (fun H1 Y1 => h l v p e R s m args below meth c H1 locs _ _ ls Q C X hl Y1 hao)
theorem lw_ai : Cond.arrayClass .int ∈ am_GT := am_gt 157 (by decide +kernel) (by decide +kernel)
theorem lw_az : Cond.arrayClass .boolean ∈ am_GT := am_gt 284 (by decide +kernel) (by decide +kernel)
theorem lw_ac : Cond.arrayClass .char ∈ am_GT := am_gt 1254 (by decide +kernel) (by decide +kernel)
theorem lw_al : Cond.arrayClass .long ∈ am_GT := am_gt 1740 (by decide +kernel) (by decide +kernel)
theorem NP.newI {n N : Nat} {x : Int32} (hd : decode (am_cc M) pc = .ok (.newarray .int, 2)) (hg : g.1 = some n) (hs : am_SH n = (1, N)) (hx : x = nI N) (hN : N < 20000) (h : NP M b (pc + 2) L (.ref n :: st) (am_mkI hi n) (am_mk g n) Φ) : NP M (b.1 + 1, b.2 + N) pc L (.int x :: st) hi g Φ :=
  fun l v p e R s m args below meth c H locs cells slots ls Q C X hl Y hao => am_arrW (t := 0) (ty := .int) (a0 := (N, .inl (fun _ => 0))) C Y hg rfl rfl (fun h => h) (by rw [hs]; rfl) (fun cA => rfl) lw_ai hx hN (by decide) hd (fun H1 Y1 => h l v p e R s m args below meth c H1 locs _ _ ls Q C X hl Y1 hao)
theorem NP.newZ {n N : Nat} {x : Int32} (hd : decode (am_cc M) pc = .ok (.newarray .boolean, 2)) (hg : g.1 = some n) (hs : am_SH n = (2, N)) (hx : x = nI N) (hN : N < 20000) (h : NP M b (pc + 2) L (.ref n :: st) (am_mkI hi n) (am_mk g n) Φ) : NP M (b.1 + 1, b.2 + N) pc L (.int x :: st) hi g Φ :=
  fun l v p e R s m args below meth c H locs cells slots ls Q C X hl Y hao => am_arrW (t := 1) (ty := .boolean) (a0 := (N, .inl (fun _ => 0))) C Y hg rfl rfl (fun h => h) (by rw [hs]; rfl) (fun cA => rfl) lw_az hx hN (by decide) hd (fun H1 Y1 => h l v p e R s m args below meth c H1 locs _ _ ls Q C X hl Y1 hao)
theorem NP.newC {n N : Nat} {x : Int32} (hd : decode (am_cc M) pc = .ok (.newarray .char, 2)) (hg : g.1 = some n) (hs : am_SH n = (3, N)) (hx : x = nI N) (hN : N < 20000) (h : NP M b (pc + 2) L (.ref n :: st) (am_mkI hi n) (am_mk g n) Φ) : NP M (b.1 + 1, b.2 + N) pc L (.int x :: st) hi g Φ :=
  fun l v p e R s m args below meth c H locs cells slots ls Q C X hl Y hao => am_arrW (t := 2) (ty := .char) (a0 := (N, .inl (fun _ => 0))) C Y hg rfl rfl (fun h => h) (by rw [hs]; rfl) (fun cA => rfl) lw_ac hx hN (by decide) hd (fun H1 Y1 => h l v p e R s m args below meth c H1 locs _ _ ls Q C X hl Y1 hao)
theorem NP.newq {idx n N : Nat} {x : Int32} (hd : decode (am_cc M) pc = .ok (.anewarray idx, 3)) (hg : g.1 = some n) (hs : am_SH n = (5, N)) (hw : Cond.classLink (am_y M).cls idx RX6 ∈ am_GT) (hx : x = nI N) (hN : N < 20000) (h : NP M b (pc + 3) L (.ref n :: st) (am_mkI hi n) (am_mk g n) Φ) : NP M (b.1 + 1, b.2 + N) pc L (.int x :: st) hi g Φ :=
  fun l v p e R s m args below meth c H locs cells slots ls Q C X hl Y hao => am_refW C hao Y hg hs hw hx hN hd (fun H1 Y1 => h l v p e R s m args below meth c H1 locs _ _ ls Q C X hl Y1 hao)
theorem NP.grid {idx n N K : Nat} {x y : Int32} (hd : decode (am_cc M) pc = .ok (.multianewarray idx 2, 4)) (hg : g.1 = some n) (hs : am_SH n = (6, N)) (hsr : ∀ i, i < N → am_SH (n + (1 + i)) = (1, K)) (hw : Cond.classLink (am_y M).cls idx ("[" ++ (FieldType.array .int).toString) ∈ am_GT) (hx : x = nI N) (hy : y = nI K) (hN : N < 20000) (hK : K < 20000) (h : NP M b (pc + 4) L (.ref n :: st) (am_mkIs hi n (1 + N)) (am_mks g n N) Φ) : NP M (b.1 + (1 + N), b.2 + (N + N * K)) pc L (.int y :: .int x :: st) hi g Φ :=
  fun l v p e R s m args below meth c H locs cells slots ls Q C X hl Y hao => am_gridW C hao Y hg hs hsr hw lw_ai hx hy hN hK hd (fun H1 Y1 => h l v p e R s m args below meth c H1 locs _ _ ls Q C X hl Y1 hao)
end NPURE
/-- the contract of a constructor -/
def am_Cn (M : am_M) (b : Nat × Nat) (av : List Value) (hi : am_HI) (g : am_G) (P : am_HI → am_G → Prop) : Prop :=
  ∀ (l : Launch) (v : am_E), l.stackTraces = false → vx_Met l (am_y M) (am_hd M :: am_GT) ({ frames := am_fr M, cells := b.1, slots := b.2, locals := am_lo M }) (fun a U => am_Pc v av hi g a U ∧ am_AO U) (am_Qc v (fun r h g' => r = .ok none ∧ P h g')) (am_XC v (fun r h g' => r = .ok none ∧ P h g')) b.1 b.2 (am_A v)
theorem am_cn {M : am_M} {b : Nat × Nat} {av : List Value} {hi : am_HI} {g : am_G} {P : am_HI → am_G → Prop} (hh : am_hh M = []) (hpl : plainName (am_y M).cls = true) (hlen : (am_flat av).length ≤ am_nL M) (h : ∀ Φ : am_P, (∀ h' g', P h' g' → Φ (.ok none) h' g') → NP M b 0 (am_ent (am_nL M) av) [] hi g Φ) : am_Cn M b av hi g P := by
  intro l v hl
  have hlen' : (lg_sl (av.map (am_cv v.1))).length ≤ am_nL M := by rw [am_sl_len]; exact hlen
  refine vx_ofW (cc := am_cc M) (maxL := am_nL M) (ret := am_rt M) hpl (by unfold am_hd; rw [hh]) ?_
  intro p e s m args below meth c s₁ B hml hxt hp
  obtain ⟨hp, hao⟩ := hp
  have hxt : am_xt M c := by
    unfold am_xt
    rw [hh]
    cases hc : c.exceptionTable.toList with
    | nil => rfl
    | cons x xs => exact (hxt x (by rw [hc]; exact List.mem_cons_self)).elim
  obtain ⟨rfl, hK, hZ, hR, hn0, hz⟩ := hp
  have hx := B.exec
  have hb := B.bytes
  have hr := B.returns
  have hts0 := atoms_spec (ws := am_hd M :: am_GT) B.pre
  have hown : s.vm.findClass (am_y M).cls = some m.cls := findClass_of_methodNamed B.named
  have hlocks := B.notSynchronized
  rw [lg_entry_eq]
  have hle := lv_entry (av.map (am_cv v.1)) hlen'
  refine h (fun r h' g' => r = .ok none ∧ P h' g') (fun _ _ q => ⟨rfl, q⟩) l v p e _ s m _ below meth c s.heap [] 0 0 _ _ ⟨hx, hb, hml, hr, hown, fun w hw => hts0 w (List.mem_cons_of_mem _ hw), hlocks, (name_of_methodNamed B.named B.method).1, Nat.le_refl _, Nat.le_refl _, hK, hZ, hn0, hl, hxt⟩ ⟨?_, ?_⟩ ⟨hle.1, hle.2.1, fun q hq => hle.2.2 q (am_ent_mem _ _ q hq)⟩ ⟨hR, va_S.rf, by show 0 + b.1 ≤ b.1; omega, by show 0 + b.2 ≤ b.2; omega, hz⟩ hao
  · intro r hi' g' H locs cells slots pc ls hΦ hvt hRp hS hc hs hd
    refine W.widen (k := b.1) (n := b.2) hc hs (vx_ret ?_)
    have hq : ∀ t : State, t.heap = H → s.WarmedH t.vm → am_Qc v (fun r h g' => r = .ok none ∧ P h g') (av.map (am_cv v.1)).toArray s (.returned (r.map (am_cv v.1))) t := fun t ht _ => ⟨r, hi', g', rfl, hΦ, by rw [ht]; exact hRp, hS.F ht⟩
    have er : r = none := by
      have := hΦ.1
      cases r with
      | none => rfl
      | some x => cases this
    subst er
    generalize hrt : am_rt M = rt at hr hvt hd
    cases rt with
    | none => exact W.vret hx hb hr hq hS.2.2 hd hlocks
    | some t => cases t <;> exact hvt.elim
  · intro E hi' g' H locs cells slots pc ls rest q ce hΦ hRp hS hc hs hout hcell hcv hcl
    cases hΦ.1
def am_csI (M : am_M) (idx : Nat) (M' : am_M) : Prop := am_csb M M' 0 = true ∧ (am_y M').name = "<init>" ∧ am_rt M' = none ∧ Cond.initialized (am_y M').cls ∈ am_GT ∧ am_hd M' ∈ am_GT ∧ Cond.instanceMethod (am_y M') ∈ am_GT ∧ (Cond.methodLink (am_y M).cls idx (am_y M') ∈ am_GT ∨ Cond.methodLinkNest (am_y M).cls idx (am_y M') RX9 ∈ am_NW)
/-- a call of a constructor, in any frame -/
theorem am_initW {M M' : am_M} {l : Launch} {v : am_E} {p : Program} {e : Env} {R : Room} {s : State} {m : MethodId} {args : Array Value} {below : List Frame} {meth : Method} {c : Code} {H : Heap} {locs : List Loc} {cells slots : Nat} {ls : Array Slot} {Q : State → Prop} {b b' : Nat × Nat} {hi : am_HI} {g : am_G} {pc idx k : Nat} {rest : List Value} {P : am_HI → am_G → Prop}
    (C : am_Cx M l v p R s m args meth c) (hao : am_AO s) (hl : ls.size = am_nL M) (Y : am_Dy v R s (b.1 + b'.1, b.2 + b'.2) hi g H locs cells slots) (hc : am_Cn M' b' [.ref k] hi g P) (cs : am_csI M idx M') (hd : decode (am_cc M) pc = .ok (.invokespecial idx, 3)) (hrest : (rest.map Value.category).sum ≤ 8) (hg : ∀ h g', P h g' → ∀ n, g'.1 = some n → ∃ k, g.1 = some k ∧ k + b'.1 ≤ n)
    (kk : ∀ (h : am_HI) (g' : am_G) (H1 : Heap) (locs1 : List Loc), P h g' → am_Dy v R s b h g' H1 locs1 (cells + b'.1) (slots + b'.2) → W p l e R s m args below meth c H1 locs1 (cells + b'.1) (slots + b'.2) Q (F0 m (pc + 3) ls (rest.map (am_cv v.1)))) : W p l e R s m args below meth c H locs cells slots Q (F0 m pc ls ((Value.ref k :: rest).map (am_cv v.1))) := by
  refine W.bound (fun hH => ?_)
  obtain ⟨c1, c2, c3, c4, c5, c6, c7, c8, c9, c10, c11, c12, c13, c14, c15⟩ := id C
  obtain ⟨csb, cn, cr, ci, ch, cin, cl⟩ := cs
  have csB : am_csB M M' 0 := ⟨csb, ci, ch⟩
  obtain ⟨h1, h2, h3, h4, h5, h6, h7, h8⟩ := csB.all
  have e0 : am_hd M' = .code (am_y M') (am_cc M') (am_nL M') none := by unfold am_hd; rw [h1, cr]
  have hp0 := am_pre (av := [.ref k]) (b := (b.1 + b'.1, b.2 + b'.2)) c11 c12 c13 Y hH
  have hp : PreS s H (fun a U => am_Pc v [.ref k] hi g a U ∧ am_AO U) (.ref (v.1 + k) :: ([] : List Value)) := ⟨fun a U g' mk ⟨q1, q2⟩ => ⟨hp0.1 a U g' mk q1, q2.moved (u := U) (Vm.Alike.refl _)⟩, fun U hU hW => ⟨hp0.2 U hU hW, hao.moved hW.alike⟩⟩
  have hW8 : 2 * 0 + ((rest.map (am_cv v.1)).map fun v => v.category).sum ≤ 8 := by
    have : (rest.map (am_cv v.1)).map (fun v => v.category) = rest.map Value.category := by rw [List.map_map]; exact List.map_congr_left (fun x _ => am_cv_cat _ x)
    rw [this]
    omega
  have hf : cells + b'.1 ≤ R.cells ∧ slots + b'.2 ≤ R.slots := ⟨by have := Y.2.2.1; dsimp only at this; omega, by have := Y.2.2.2.1; dsimp only at this; omega⟩
  have hrun : vx_Run p l e R s m args below meth c H locs cells slots b'.1 b'.2 (F0 m pc ls ((Value.ref k :: rest).map (am_cv v.1))) (rest.map (am_cv v.1)) (am_Qc v (fun r h g' => r = .ok none ∧ P h g') (Value.ref (v.1 + k) :: ([] : List Value)).toArray) (am_XC v (fun r h g' => r = .ok none ∧ P h g')) (am_A v) := by
    rcases cl with cl | cl
    · exact vx_runI (n := 0) (bytes := am_cc M') (maxL := am_nL M') ⟨c1, c2, c3, c5, c6⟩ (hc l v c14) ⟨callB_of (ws' := am_GT) 0 c6 (am_gtin _ ch (fun w h => h)) (by rw [e0]) rfl rfl (c6 _ ci) (c6 _ cl) ⟨h4, h5, h6⟩ ⟨by show am_fr M' + 1 ≤ _; omega, by show 8 + (am_nL M' + 11) + am_lo M' ≤ _; omega⟩, cn, c6 _ cin⟩ hp rfl rfl hl rfl hW8 hd hf
    · exact vx_runIN (n := 0) (bytes := am_cc M') (maxL := am_nL M') (host := RX9) ⟨c1, c2, c3, c5, c6⟩ (hc l v c14) ⟨⟨⟨rfl, rfl, by show am_fr M' + 1 ≤ _; omega, by show 8 + (am_nL M' + 11) + am_lo M' ≤ _; omega, pay_in c6 (am_gtin _ ch (fun w h => h)), by rw [e0]; exact List.mem_cons_self⟩, by rw [← e0]; exact c6 _ ch, c6 _ ci, ⟨h4, h5⟩, fun sig hsig => by rw [hsig] at h6; exact (Option.some.inj h6).symm, am_nw_use cl (c11.2.2.2.2.1 _ cl)⟩, cn, c6 _ cin⟩ hp rfl rfl hl rfl hW8 hd hf
  refine am_back (idx := idx) (b := (b.1 + b'.1, b.2 + b'.2)) (b2 := b) (Ψ := fun r h g' => r = .ok none ∧ P h g') (fun r h g' q => hg h g' q.2) ⟨by dsimp only; omega, by dsimp only; omega⟩ Y hrun (fun E hi' g' H1 locs1 q' ce hΨ Y1 h1 h2 h3 => by cases hΨ.1) (fun r hi' g' H1 locs1 hΨ Y1 => ?_)
  cases hΨ.1
  exact kk hi' g' H1 locs1 hΨ.2 Y1
theorem NP.init {M M' : am_M} {b b' : Nat × Nat} {pc idx k : Nat} {L rest : List Value} {hi : am_HI} {g : am_G} {Φ : am_P} {P : am_HI → am_G → Prop} (hd : decode (am_cc M) pc = .ok (.invokespecial idx, 3)) (hc : am_Cn M' b' [.ref k] hi g P) (cs : am_csI M idx M') (hrest : (rest.map Value.category).sum ≤ 8) (hg : ∀ h g', P h g' → ∀ n, g'.1 = some n → ∃ k, g.1 = some k ∧ k + b'.1 ≤ n)
    (h : ∀ (h' : am_HI) (g' : am_G), P h' g' → NP M b (pc + 3) L rest h' g' Φ) : NP M (b.1 + b'.1, b.2 + b'.2) pc L (.ref k :: rest) hi g Φ :=
  fun l v p e R s m args below meth c H locs cells slots ls Q C X hl Y hao => am_initW C hao hl.1 Y hc cs hd hrest hg (fun h' g' H1 locs1 hP Y1 => h h' g' hP l v p e R s m args below meth c H1 locs1 _ _ ls Q C X hl Y1 hao)
