/-! ===== the claim ===== -/
/-! THE CLAIM OUT OF ONE WALK OF THE LAW'S BODY. Your part is whole_start (and what it stands on); all else here is the same for every law, but numbers. -/
def R_law : String := "CaveEchoesLaw"
def lw_P (b : Addr) (xs : List Int32) (args : Array Value) (s : State) : Prop := args = #[.ref b] ∧ s.IntsAt b xs ∧ xs.length ≤ 2048 ∧ (Jvm.Cond.and given_1 narrow_1).before args s = true
/-- what a walk over the start with the record d0 says of its end, said of the start itself -/
theorem lw_closed {s t : State} {o : Outcome} {d0 : Drawn} {L : List Loc} {k n : Nat} (hd0 : s.drawn.sameBut d0 lw_cs) (hv : ∃ v, o = .returned v) (hW : (s.setDrawn d0).WarmedH t.vm) (hs : (s.setDrawn d0).sameButNew ({ t with vm := s.vm } : State) L k n) : State.butDraws s t lw_cs (fun t1 => Framed s o t1 L k n) := by
  have h2 : t.drawn = d0 := congrArg State.drawn hs.1
  refine ⟨⟨hv, hW, State.sameButNew.setDrawn hs s.drawn⟩, ?_, by decide⟩
  rw [h2]
  exact hd0
def lw_Q (_ : Array Value) (s : State) (o : Outcome) (t : State) : Prop := o = .returned (some (.int 1)) ∧ State.butDraws s t lw_cs (fun t1 => Framed s o t1 [] 601024 7293034)
def lw_Z (below : List Frame) (a : Array Value) (s : State) : State → Prop := fun t => ∃ o, t.status = .running ∧ Ended t below o ∧ lw_Q a s o t
/-- the law's own end, with 1 on the stack, nothing written that was there before, its room as the claim has it; d0: the record of draws at this point (at the entry s.drawn: begin with 'refine W.base ?_' and 'have hd0 := Drawn.sameBut.refl s.drawn lw_cs') -/
theorem lw_ret {p : Program} {l : Launch} {e : Env} {s : State} {m : MethodId} {below : List Frame} {meth : Method} {c : Code} {b : Nat} {d0 : Drawn} (hd0 : s.drawn.sameBut d0 lw_cs) (hx : p.tables.exec = Jvm.exec) (hb : c.code = code) (hr : meth.sig.returnType = ret) (hlocks : meth.locks = false) {pc : Nat} {H : Heap} {ls : Array Slot} (hdg : decode code pc = .ok (.ireturn, 1)) : W p l e room_1 (s.setDrawn d0) m #[Value.ref b] below meth c H [] 601024 7293034 (lw_Z below #[Value.ref b] s) (F0 m pc ls [.int 1]) := by
  intro T hT X
  obtain ⟨fs, hret, hrun, hended, hW, hframe⟩ := X.leave (v := some (.int 1)) (hlocks := hlocks) (fun h => by rw [hr] at h; cases h)
  have hmeth' : T.vm.method? m = some meth := X.method'
  refine ⟨T.setFrames fs, ?_, .returned (some (.int 1)), hrun, hended, rfl, lw_closed hd0 ⟨_, rfl⟩ hW hframe⟩
  jvm_step X.here [X.here.top, hx, hb, hdg, hmeth', hr, ret, narrow_b1]
  (try refine ⟨rfl, ?_⟩); (try refine ⟨rfl, ?_⟩)
  first | (intro acts; rw [hret _ acts rfl rfl rfl]) | rw [hret _ _ rfl rfl rfl]
  exact Steps.refl _
/-- what holds at the law's entry: the machine, the code, the tables' words (any of lw_tbl by 'hts w (by decide +kernel)'), the script of L ints xs at the cell b, what the Statement gives of the start (any of its parts by flat_of_before) -/
def lw_At (p : Program) (s : State) (m : MethodId) (meth : Method) (c : Code) (b L : Nat) (xs : Nat → Int32) : Prop :=
  p.tables.exec = Jvm.exec ∧ c.code = code ∧ meth.sig.returnType = ret ∧ c.maxLocals = 9 ∧ s.vm.findClass R_law = some m.cls ∧ (∀ w ∈ lw_tbl, w.before #[Value.ref b] s = true) ∧ va_X b L xs s s.heap ∧ b < s.heap.size ∧ meth.locks = false ∧ (Jvm.Cond.and given_1 narrow_1).before #[Value.ref b] s = true
theorem am_arrc {ty : FieldType} {A : Array Value} {s : State} (h : (Cond.arrayClass ty).before A s = true) : ∃ cA, s.vm.findClass ("[" ++ ty.toString) = some cA ∧ ArrOfT s cA ty := by
  obtain ⟨c, k, comp, h1, h2, h3⟩ := Cond.arrayClass_spec h
  exact ⟨c, h1, fun n z => ⟨fun k h => (by cases h), k, h2, comp, h3⟩⟩
theorem am_strat {own C : String} {k : Nat} {A : Array Value} {s : State} (h : (Cond.exactly (.string own k) C).before A s = true) : ∃ a, (Term.string own k).eval A s none [] s = some (.ref a) := by
  unfold Cond.before at h
  simp only [Cond.holds, Cond.value] at h
  cases he : (Term.string own k).eval A s none [] s with
  | none => simp [he] at h
  | some v =>
    have hv : ∃ a, v = Value.ref a := by
      simp only [Term.eval, Option.bind_eq_bind, Option.bind_eq_some_iff] at he
      obtain ⟨c, hc, h2⟩ := he
      obtain ⟨k', hk', h3⟩ := h2
      obtain ⟨x, hx, h4⟩ := h3
      cases x with
      | string a => exact ⟨a, (Option.some.inj h4).symm⟩
      | _ => cases h4
    obtain ⟨a, rfl⟩ := hv
    exact ⟨a, rfl⟩
theorem am_notr {l : Launch} (h : l.flags = flags0) : l.stackTraces = false := by
  unfold Launch.stackTraces
  rw [h]
  decide +kernel
theorem am_lwt {w : Cond} (h : w ∈ am_GT) : w ∈ lw_tbl := (List.mem_filter.mp h).1
theorem am_lwn {w : Cond} (h : w ∈ am_NW) : w ∈ lw_tbl := (List.mem_filter.mp h).1
/-- what holds of classes, strings and words at the law's entry -/
theorem am_entry {s : State} {b : Nat} (hts : ∀ w ∈ lw_tbl, w.before #[Value.ref b] s = true) (hgv : (Jvm.Cond.and given_1 narrow_1).before #[Value.ref b] s = true) : ∃ v : am_E, v.1 = s.heap.size ∧ am_K v s ∧ am_Z v s s.heap := by
  have hs := flat_of_before _ hgv
  have hk : ∀ (C : String) (T : u_T) (N n : Nat), (∀ w ∈ u_ws C T N, w ∈ am_GT) → Cond.instantiable C n ∈ am_GT → ∃ (q : ClassId × (Nat → Nat)), u_Kn s C T N q.1 q.2 := fun C T N n h1 h2 => by
    obtain ⟨cC, iS, h⟩ := u_known (args := #[Value.ref b]) (ws := am_GT) (fun w hw => hts w (am_lwt hw)) h1 (hts _ (am_lwt h2))
    exact ⟨(cC, iS), h⟩
  obtain ⟨q0, k0⟩ := hk RX0 TX0 6 6 am_in0 (am_gt 197 (by decide +kernel) (by decide +kernel))
  obtain ⟨q1, k1⟩ := hk RX1 TX1 2 2 am_in1 (am_gt 253 (by decide +kernel) (by decide +kernel))
  obtain ⟨q2, k2⟩ := hk RX2 TX2 8 8 am_in2 (am_gt 108 (by decide +kernel) (by decide +kernel))
  obtain ⟨q3, k3⟩ := hk RX3 TX3 3 3 am_in3 (am_gt 328 (by decide +kernel) (by decide +kernel))
  obtain ⟨q4, k4⟩ := hk RX4 TX4 1 1 am_in4 (am_gt 316 (by decide +kernel) (by decide +kernel))
  obtain ⟨q5, k5⟩ := hk RX5 TX5 2 2 am_in5 (am_gt 270 (by decide +kernel) (by decide +kernel))
  obtain ⟨q6, k6⟩ := hk RX6 TX6 8 8 am_in6 (am_gt 102 (by decide +kernel) (by decide +kernel))
  obtain ⟨q7, k7⟩ := hk RX7 TX7 7 7 am_in7 (am_gt 96 (by decide +kernel) (by decide +kernel))
  obtain ⟨q8, k8⟩ := hk RX8 TX8 6 6 am_in8 (am_gt 286 (by decide +kernel) (by decide +kernel))
  obtain ⟨q9, k9⟩ := hk RX9 TX9 7 7 am_in9 (am_gt 88 (by decide +kernel) (by decide +kernel))
  obtain ⟨q10, k10⟩ := hk RX10 TX10 15 15 am_in10 (am_gt 1203 (by decide +kernel) (by decide +kernel))
  obtain ⟨a0, e0, r0⟩ := am_arrc (hts _ (am_lwt lw_ai))
  obtain ⟨a1, e1, r1⟩ := am_arrc (hts _ (am_lwt lw_az))
  obtain ⟨a2, e2, r2⟩ := am_arrc (hts _ (am_lwt lw_ac))
  obtain ⟨a3, e3, r3⟩ := am_arrc (hts _ (am_lwt lw_al))
  have hao : (Cond.arrayOver (.object RX6)).before #[Value.ref b] s = true := hts _ (List.mem_of_getElem? (i := 259) (by decide +kernel))
  have haa : (Cond.arrayOver (.array .int)).before #[Value.ref b] s = true := hts _ (List.mem_of_getElem? (i := 225) (by decide +kernel))
  obtain ⟨p4, a4, c4, f1, -, f3, f4, f5⟩ := Cond.arrayOver_spec hao
  obtain ⟨p5, a5, c5, g1, g3, g4, g5⟩ := Cond.arrayOver_specA haa
  obtain ⟨t0, u0⟩ := am_strat (hs (Cond.exactly (.string RX9 301) "java/lang/String") (by decide +kernel))
  obtain ⟨t1, u1⟩ := am_strat (hs (Cond.exactly (.string RX9 308) "java/lang/String") (by decide +kernel))
  obtain ⟨t2, u2⟩ := am_strat (hs (Cond.exactly (.string RX9 313) "java/lang/String") (by decide +kernel))
  have hA : ∀ a : Nat, a < s.heap.size → ¬ s.heap.size ≤ a := fun a h => Nat.not_le.mpr h
  refine ⟨(s.heap.size, (fun k => ([q0, q1, q2, q3, q4, q5, q6, q7, q8, q9, q10].getD k q0).1, fun k => ([q0, q1, q2, q3, q4, q5, q6, q7, q8, q9, q10].getD k q0).2), (fun k => [a0, a1, a2, a3, a4, a5].getD k a0), (fun k => [t0, t1, t2].getD k t0)), rfl, ⟨⟨?_, ?_⟩, vk_R.of (hts _ (List.mem_of_getElem? (i := 859) (by decide +kernel))) u0, vk_R.of (hts _ (List.mem_of_getElem? (i := 776) (by decide +kernel))) u1, vk_R.of (hts _ (List.mem_of_getElem? (i := 819) (by decide +kernel))) u2, fun w hw => ?_, fun q hq => ?_⟩, ?_, ?_⟩
  · intro c q hq
    have hl : c < 11 := (List.getElem?_eq_some_iff.mp hq).1
    rcases (show c = 0 ∨ c = 1 ∨ c = 2 ∨ c = 3 ∨ c = 4 ∨ c = 5 ∨ c = 6 ∨ c = 7 ∨ c = 8 ∨ c = 9 ∨ c = 10 by omega) with rfl | rfl | rfl | rfl | rfl | rfl | rfl | rfl | rfl | rfl | rfl <;> cases hq
    · exact k0
    · exact k1
    · exact k2
    · exact k3
    · exact k4
    · exact k5
    · exact k6
    · exact k7
    · exact k8
    · exact k9
    · exact k10
  · intro k q hq
    have hl : k < 6 := (List.getElem?_eq_some_iff.mp hq).1
    rcases (show k = 0 ∨ k = 1 ∨ k = 2 ∨ k = 3 ∨ k = 4 ∨ k = 5 by omega) with rfl | rfl | rfl | rfl | rfl | rfl <;> cases hq
    · exact ⟨r0, e0⟩
    · exact ⟨r1, e1⟩
    · exact ⟨r2, e2⟩
    · exact ⟨r3, e3⟩
    · exact ⟨fun n z => ⟨fun k h => (by cases h), c4, f3, p4, f4⟩, c4, p4, f3, f4, f1, f5⟩
    · exact ⟨fun n z => ⟨fun k h => (by cases h), c5, g3, p5, g4⟩, g5⟩
  · have hw2 := hts w (am_lwn hw)
    have hk := (List.mem_filter.mp hw).2
    unfold am_nk at hk
    split at hk
    · exact va_Nw.of rfl hw2
    · exact va_Nw.of rfl hw2
    · exact va_Nw.of rfl hw2
    · cases hk
  · unfold am_NC at hq
    simp only [List.mem_cons, List.not_mem_nil, or_false] at hq
    rcases hq with rfl | rfl | rfl | rfl | rfl | rfl <;> exact va_Nc.of (hs _ (by decide +kernel))
  · exact vx_Zqof (hts _ (List.mem_of_getElem? (i := 762) (by decide +kernel))) (hts _ (List.mem_of_getElem? (i := 78) (by decide +kernel))) (hs _ (by decide +kernel)) hA
  · exact vx_Zqof (hts _ (List.mem_of_getElem? (i := 764) (by decide +kernel))) (hts _ (List.mem_of_getElem? (i := 78) (by decide +kernel))) (hs _ (by decide +kernel)) hA
/-- from the entry, for every script of at most 2048 ints, the law comes to its end with true -/
theorem whole_start {p : Program} {e : Env} {s : State} {m : MethodId} {below : List Frame} {meth : Method} {c : Code} (l : Launch) (hflags : l.flags = flags0) {b L : Nat} {xs : Nat → Int32} (hL : L ≤ 2048) (hnm : meth.name = (am_y M_L_law).name) (hxt : c.exceptionTable.toList = []) (C0 : lw_At p s m meth c b L xs) : W p l e room_1 s m #[Value.ref b] below meth c s.heap [] 0 0 (lw_Z below #[Value.ref b] s) (entryFrame m ([Value.ref b] : List Value).toArray 9) := by
  obtain ⟨hx, hb, hr, hml, hown, hts, hX, hbl, hlocks, hgv⟩ := C0
  obtain ⟨v, hv, hK, hZ⟩ := am_entry hts hgv
  have hd0 := Drawn.sameBut.refl s.drawn lw_cs
  rw [lg_entry_eq]
  have hle := lv_entry ([.ref b]) (n := 9) (Nat.le_of_ble_eq_true rfl)
  refine law_start (S := (b, L, xs)) hL (hi := fun _ _ => 0) (g := (some 0, fun _ _ => none, fun _ _ => 0)) rfl l v p e room_1 s m _ below meth c s.heap [] 0 0 _ _
    ⟨hx, hb, hml, hr, hown, fun w hw => hts w (am_lwt hw), hlocks, hnm, by decide, by decide, hK, hZ, by rw [hv]; exact Nat.le_refl _, am_notr hflags, by unfold am_xt; rw [hxt]; rfl⟩
    ⟨hX, hbl, fun h => by have h9 : v.1 ≤ b := h; rw [hv] at h9; exact absurd h9 (Nat.not_le.mpr hbl), va_AO.of (hts _ (List.mem_of_getElem? (i := 259) (by decide +kernel))), va_AOA.of (hts _ (List.mem_of_getElem? (i := 225) (by decide +kernel)))⟩
    (fun H locs cells slots pc ls hS hc hs hd => ?_) hle ⟨⟨(fun k q h => by cases h), by show v.1 + 0 ≤ _; rw [hv]; exact Nat.le_refl _⟩, va_S.rf, by decide, by decide, fun n hn => by cases hn; rw [hv]; exact Nat.le_refl _⟩
  refine va_forget (fun q hq => by have := hS.2.2 q hq; have h9 : v.1 ≤ q.base := this; rw [hv] at h9; exact h9) ?_
  refine W.widen (k := 601024) (n := 7293034) hc hs ?_
  exact lw_ret (d0 := s.drawn) hd0 hx hb hr hlocks hd
set_option maxHeartbeats 4000000 in
theorem lw_walk (l : Launch) (hflags : l.flags = flags0) (b : Addr) (xs : List Int32) : MetFree l x (headSpec (Jvm.Cond.code x code maxLocals ret :: tables_1) room_1) (lw_P b xs) (fun _ _ _ _ _ => True) lw_Q := by
  refine MetFree.of_bodyS (code := code) (maxLocals := maxLocals) (ret := ret) (by decide) ?_ ?_
  · intro args s m h hn
    obtain ⟨meth, c, h1, h2, h3, h4, h5, h6, -, -⟩ := Cond.code_spec hn (atoms_spec (ws := Jvm.Cond.code x code maxLocals ret :: tables_1) h _ List.mem_cons_self)
    exact ⟨meth, c, h1, h2, h3, h4, h5, h6⟩
  · intro p e s m args below meth c s₁ B hml0 hP _
    obtain ⟨rfl, hx, hbd, hgv⟩ := hP
    obtain ⟨scr, harrAt, hlist, hof, hsmall⟩ := hx
    obtain ⟨hcb, hkn, -, -⟩ := State.arrayAt?_spec harrAt
    have hown : s.vm.findClass R_law = some m.cls := findClass_of_methodNamed B.named
    have hts0 : ∀ c ∈ (Jvm.Cond.code x code maxLocals ret :: tables_1), c.before #[Value.ref b] s = true := atoms_spec (ws := Jvm.Cond.code x code maxLocals ret :: tables_1) B.pre
    have hts : ∀ w ∈ lw_tbl, w.before #[Value.ref b] s = true := k2_hts_sels lw_privs (fun w hw => hts0 w (List.mem_cons_of_mem _ hw)) lw_privs_ok
    have hml : c.maxLocals = 9 := B.maxLocals_eq (hts0 _ List.mem_cons_self)
    have X₀ : Stand p l e room_1 s m #[Value.ref b] below meth c s₁ [] 0 0 := Stand.of_body B
    have hh0 : s₁.heap = s.heap := by rw [B.state]; rfl
    have hsz : scr.slots.size = xs.length := by rw [← Array.length_toList, hlist, List.length_map]
    have hval : ∀ j : Nat, j < xs.length → scr.slots[j]? = some (.int (xs.getD j 0)) := fun j hj => by
      rw [← Array.getElem?_toList, hlist]
      simp [hj]
    have hbl : b < s.heap.size := (Array.getElem?_eq_some_iff.mp hcb).1
    have hX : va_X b xs.length (fun j => xs.getD j 0) s s.heap := ⟨scr, hcb, hof, hkn, hsz, hval⟩
    have K : W p l e room_1 s m #[Value.ref b] below meth c s₁.heap [] 0 0 (lw_Z below #[Value.ref b] s) (entryFrame m ([Value.ref b] : List Value).toArray 9) := by
      rw [hh0]
      have hxt : c.exceptionTable.toList = [] := by
        obtain ⟨meth9, c9, h1, h2, -, -, -, -, h7, -⟩ := Cond.code_spec B.named (hts0 _ List.mem_cons_self)
        cases Option.some.inj (h1.symm.trans B.method)
        cases Option.some.inj (h2.symm.trans X₀.code)
        rw [Array.isEmpty_iff.mp h7]
      exact whole_start l hflags hbd (name_of_methodNamed B.named B.method).1 hxt ⟨B.exec, B.bytes, B.returns, hml, hown, hts, hX, hbl, B.notSynchronized, hgv⟩
    obtain ⟨t, a1, o, b1, b2, b3⟩ := K s₁ rfl X₀
    exact ⟨t, o, a1, b1, b2, b3⟩
theorem lw_pre_spec {args : Array Value} {s : State} (h : (Jvm.Cond.and given_1 narrow_1).before args s = true) (hr : rest_1_c.before args s = true) : ∃ (b : Addr) (xs : List Int32), lw_P b xs args s := by
  have hs := flat_of_before _ h
  have hq := flat_of_before _ hr
  have hc : (Cond.count 1).before args s = true := hs _ (by decide +kernel)
  have harr : (Cond.arrayOf (.arg 0) .int).before args s = true := hs _ (by decide +kernel)
  have hle : (Cond.le (.length (.arg 0)) (.int 2048)).before args s = true := hs _ (by decide +kernel)
  have hlen : (Cond.isInt (.length (.arg 0))).before args s = true := hq _ (by decide +kernel)
  have hall : (Cond.all (.arg 0) (.isInt (.elem (.arg 0) (.index 0)))).before args s = true := hq _ (by decide +kernel)
  obtain ⟨b, xs, hb, hx⟩ := State.ints_of_pre rfl harr hlen hall
  have hsm : xs.length < 2 ^ 31 := hx.choose_spec.2.2.2
  have hev : (Term.length (.arg 0)).eval args s none [] s = some (.int xs.length.toInt32) := hx.length_eval hb
  have hv := Cond.le_ints hev (show (Term.int 2048).eval args s none [] s = some (.int 2048) from rfl)
  have hd : xs.length.toInt32 ≤ 2048 := by
    simpa [Cond.before, Cond.holds, hv] using hle
  have hN : xs.length ≤ 2048 := (Int32.ofNat_le_ofNat hsm (by decide)).mp (show Int32.ofNat xs.length ≤ Int32.ofNat 2048 from hd)
  exact ⟨b, xs, Cond.one_arg hc (show args[0]? = some (.ref b) from hb), hx, hN, h⟩
theorem lw_comes (l : Launch) (hflags : l.flags = flags0) : Comes l x (Jvm.Cond.code x code maxLocals ret :: tables_1) room_1 (fun tb e args s => Calls_1 tb e args s ∧ rest_1 tb e args s ∧ Pre_1 tb e args s)
    (fun _ _ args s o t => lw_Q args s o t) := by
  intro p e ha hc hk s m args below hf hfit hheap happ hpre
  obtain ⟨b, xs, hP⟩ := lw_pre_spec hpre.2.2 hpre.2.1
  obtain ⟨k, o, h1, h2, h3, hQ⟩ := lw_walk l hflags b xs p e ha hc hk s m args below hf ((Spec.applies_iff_loose hf).mp happ).1 hP trivial
  exact ⟨k, o, h1, h2, h3, hQ⟩
theorem lw_frame {s t : State} {o : Outcome} {args : Array Value} (h : State.butDraws s t lw_cs (fun t1 => Framed s o t1 [] 601024 7293034)) :
    State.butDraws s t [Jvm.Choice.named "NaN.bits"] (fun t1 => Framed s o t1 (fieldLocs frame_1_writes args s ++ arrayLocs frame_1_arrays args s ++ staticLocs frame_1_statics s) 601024 7293034) := h
theorem lw_limb (L : Cond) (hL : ∀ (args : Array Value) (s t : State), L.after args s (.returned (some (.int 1))) t = true) :
    ArmFor flags0 classFile x code maxLocals ret World_1 tables_1 room_1 Calls_1 rest_1 Pre_1
      (fun tb e a s o t => postC L tb e a s o t ∧ State.butDraws s t [Jvm.Choice.named "NaN.bits"] (fun t1 => Framed s o t1 (fieldLocs frame_1_writes a s ++ arrayLocs frame_1_arrays a s ++ staticLocs frame_1_statics s) 601024 7293034)) := by
  intro l hflags _ _ p e ha hc hk s m args below hf hfit hheap happ hpre
  obtain ⟨k, o, h1, h2, h3, rfl, hF⟩ := lw_comes l hflags p e ha hc hk s m args below hf hfit hheap happ hpre
  exact ⟨k, _, h1, h2, h3, hL args s _, lw_frame hF⟩
theorem i_vc : Claimed_1_1 ∧ Claimed_1_2 := ⟨lw_limb limb_1_1 (fun args s t => by simp [limb_1_1, Cond.after, Cond.holds, Cond.value]), lw_limb limb_1_2 (fun args s t => Cond.after_iff.mpr (by
  first | (rw [show limb_1_2 = Cond.eq .result (.int 1) from rfl, Cond.eq_ints (x := 1) (y := 1) rfl rfl]; simp; done) | (simp [limb_1_2, Cond.value, Term.eval]; done)))⟩
