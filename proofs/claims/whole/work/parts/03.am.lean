/-! ===== THE STORE: the cells of the law's run by their numbers (0 the first made), apart from the machine ===== -/
/-- the words of the tables that any method may be handed -/
def am_GT : List Cond := lw_tbl.filter goodWord
theorem am_gt {w : Cond} (i : Nat) (h : lw_tbl[i]? = some w) (g : goodWord w = true) : w ∈ am_GT := List.mem_filter.mpr ⟨List.mem_of_getElem? h, g⟩
theorem am_gtin (c : Cond) {Ts : List Cond} (hc : c ∈ am_GT) (hT : ∀ w ∈ am_GT, w ∈ Ts) : GoodIn Ts (c :: am_GT) := fun w h => by
  rcases List.mem_cons.mp h with e | h
  · subst e
    exact ⟨hT _ hc, good_of_word (List.mem_filter.mp hc).2⟩
  · exact ⟨hT _ h, good_of_word (List.mem_filter.mp h).2⟩
/-- words that hold on, though they aren't among those that any method may be handed -/
def am_nk : Cond → Bool
  | .methodLinkNest .. => true
  | .castable .. => true
  | .declares _ => true
  | _ => false
def am_NW : List Cond := lw_tbl.filter am_nk
theorem am_nw {w : Cond} (i : Nat) (h : lw_tbl[i]? = some w) (g : am_nk w = true) : w ∈ am_NW := List.mem_filter.mpr ⟨List.mem_of_getElem? h, g⟩
theorem am_nw_warm {w : Cond} {s U : State} (hw : w ∈ am_NW) (hW : s.WarmedH U.vm) (h : va_Nw w s) : va_Nw w U := by
  have hk := (List.mem_filter.mp hw).2
  unfold am_nk at hk
  split at hk
  · exact h.warmM hW
  · exact h.warmC hW
  · exact h.warmD hW
  · cases hk
theorem am_nw_same {w : Cond} {s U : State} (hw : w ∈ am_NW) (hv : U.vm = s.vm) (h : va_Nw w s) : va_Nw w U := by
  have hk := (List.mem_filter.mp hw).2
  unfold am_nk at hk
  split at hk
  · exact va_Nw.same rfl hv.symm h
  · exact va_Nw.same rfl hv.symm h
  · exact va_Nw.same rfl hv.symm h
  · cases hk
theorem am_nw_use {w : Cond} {U : State} {args : Array Value} (hw : w ∈ am_NW) (h : va_Nw w U) : w.before args U = true := by
  have hk := (List.mem_filter.mp hw).2
  unfold am_nk at hk
  split at hk
  · exact va_Nw.use rfl h
  · exact va_Nw.use rfl h
  · exact va_Nw.use rfl h
  · cases hk
abbrev am_x0 : String := "java/lang/IndexOutOfBoundsException"
abbrev am_x1 : String := "java/lang/IllegalArgumentException"
abbrev am_x2 : String := "java/lang/IllegalStateException"
def am_NC : List (String × String) := [(am_x0, am_x1), (am_x0, am_x2), (am_x1, am_x0), (am_x1, am_x2), (am_x2, am_x0), (am_x2, am_x1)]
/-- what a cell is: (0, c) an object of vwCl's c; (1, n) ints; (2, n) booleans; (3, n) chars; (4, n) longs; (5, n) references to states; (6, n) references to rows of ints -/
abbrev am_HI : Type := Nat → Nat → Int32
abbrev am_HR : Type := Nat → Nat → Option Nat
abbrev am_HL : Type := Nat → Nat → Int64
/-- (how many cells have been made, while the making goes on; the references; the longs) -/
abbrev am_G : Type := Option Nat × am_HR × am_HL
def am_cv (n0 : Nat) : Value → Value
  | .ref k => .ref (n0 + k)
  | v => v
def am_ad (n0 : Nat) (r : Option Nat) : Option Nat := r.map (fun k => n0 + k)
def am_isI (d : String) : Bool := d == "I" || d == "Z"
/-- the field j of an object of vwCl's ci, whose numbers are ri and references rr -/
def am_fv (n0 : Nat) (ri : Nat → Int32) (rr : Nat → Option Nat) (ci j : Nat) : Value :=
  if am_isI (((vwCl.getD ci (RX0, TX0, 6)).2.1 j).2.2.1) then .int (ri j) else va_rf (am_ad n0 (rr j))
def am_fs (n0 : Nat) (ri : Nat → Int32) (rr : Nat → Option Nat) (ci : Nat) : List Value := (List.range (vwCl.getD ci (RX0, TX0, 6)).2.2).map (am_fv n0 ri rr ci)
def am_cell (n0 : Nat) (ca : Nat → ClassId) (ri : Nat → Int32) (rr : Nat → Option Nat) (rl : Nat → Int64) : Nat × Nat → va_E
  | (0, ci) => .inr (ci, am_fs n0 ri rr ci)
  | (1, n) => .inl (ca 0, n, .inl ri)
  | (2, n) => .inl (ca 1, n, .inl ri)
  | (3, n) => .inl (ca 2, n, .inl ri)
  | (4, n) => .inl (ca 3, n, .inr (.inl rl))
  | (5, n) => .inl (ca 4, n, .inr (.inr (.inr (.inr (fun i => am_ad n0 (rr i))))))
  | (_, n) => .inl (ca 5, n, .inr (.inr (.inr (.inr (fun i => am_ad n0 (rr i))))))
def am_tys (ca : Nat → ClassId) : List (ClassId × FieldType) := [(ca 0, .int), (ca 1, .boolean), (ca 2, .char), (ca 3, .long), (ca 4, .object RX6), (ca 5, .array .int)]
def am_N (ph : Option Nat) : Nat := ph.getD am_SHL.length
def am_SH (k : Nat) : Nat × Nat := am_SHL.getD k (9, 0)
def am_ws (n0 : Nat) (ca : Nat → ClassId) (hi : am_HI) (g : am_G) : va_W := (List.range (am_N g.1)).map (fun k => (n0 + k, am_cell n0 ca (hi k) (g.2.1 k) (g.2.2 k) (am_SH k)))
/-- the place: where the cells begin; the numbers of the tables; those of the arrays; where the three texts lie -/
abbrev am_E : Type := Nat × va_G × (Nat → ClassId) × (Nat → Nat)
def am_Rep (v : am_E) (hi : am_HI) (g : am_G) (H : Heap) : Prop := va_P v.2.1 vwCl (am_ws v.1 v.2.2.1 hi g) H ∧ v.1 + am_N g.1 ≤ H.size
abbrev am_A (v : am_E) : Nat → Prop := fun q => v.1 ≤ q
def am_K (v : am_E) (U : State) : Prop := va_K v.2.1 vwCl (am_tys v.2.2.1) U ∧ vk_R RX9 301 "there is no such sample, block, bit or slot" (v.2.2.2 0) U ∧ vk_R RX9 308 "an argument is out of its range" (v.2.2.2 1) U ∧ vk_R RX9 313 "the call is not possible as things are" (v.2.2.2 2) U ∧ (∀ w ∈ am_NW, va_Nw w U) ∧ ∀ q ∈ am_NC, va_Nc q.1 q.2 U
def am_Z (v : am_E) (U : State) (H : Heap) : Prop := vx_Zq Bundle.tN "UNASSIGNED_STACK" Bundle.steD (am_A v) U H ∧ vx_Zq Bundle.tN "SUPPRESSED_SENTINEL" Bundle.listD (am_A v) U H
def am_St (v : am_E) (U : State) (hi : am_HI) (g : am_G) : Prop := am_K v U ∧ am_Z v U U.heap ∧ am_Rep v hi g U.heap ∧ v.1 ≤ U.heap.size ∧ ∀ n, g.1 = some n → U.heap.size ≤ v.1 + n
/-- how a run of a method ended, and the store then -/
abbrev am_P : Type := Except String (Option Value) → am_HI → am_G → Prop
def am_Pc (v : am_E) (av : List Value) (hi : am_HI) (g : am_G) : Array Value → State → Prop := fun a U => a = (av.map (am_cv v.1)).toArray ∧ am_St v U hi g
def am_Qc (v : am_E) (Φ : am_P) : Array Value → State → Outcome → State → Prop := fun _ st o t =>
  ∃ r hi g, o = .returned (r.map (am_cv v.1)) ∧ Φ (.ok r) hi g ∧ am_Rep v hi g t.heap ∧ va_F (am_A v) st t
def am_XC (v : am_E) (Φ : am_P) : String → State → State → Prop := fun E st t => ∃ hi g, Φ (.error E) hi g ∧ am_Rep v hi g t.heap ∧ va_F (am_A v) st t
/-- a method: its name, bytes, places, answer, frames and words below it, table -/
abbrev am_M : Type := MethodName × ByteArray × Nat × Option FieldType × Nat × Nat × List (Nat × Nat × Nat × Nat)
abbrev am_y (M : am_M) : MethodName := M.1
abbrev am_cc (M : am_M) : ByteArray := M.2.1
abbrev am_nL (M : am_M) : Nat := M.2.2.1
abbrev am_rt (M : am_M) : Option FieldType := M.2.2.2.1
abbrev am_fr (M : am_M) : Nat := M.2.2.2.2.1
abbrev am_lo (M : am_M) : Nat := M.2.2.2.2.2.1
abbrev am_hh (M : am_M) : List (Nat × Nat × Nat × Nat) := M.2.2.2.2.2.2
def am_hd (M : am_M) : Cond := match am_hh M with
  | [] => .code (am_y M) (am_cc M) (am_nL M) (am_rt M)
  | h :: t => .codeWith (am_y M) (am_cc M) (am_nL M) (am_rt M) (h :: t)
/-- THE CONTRACT of a method at these arguments, over this store: it ends as Φ says; b: how many cells and slots it may make -/
def am_Ct (M : am_M) (b : Nat × Nat) (av : List Value) (hi : am_HI) (g : am_G) (Φ : am_P) : Prop :=
  ∀ (l : Launch) (v : am_E), l.stackTraces = false → vx_Met l (am_y M) (am_hd M :: am_GT) ({ frames := am_fr M, cells := b.1, slots := b.2, locals := am_lo M }) (am_Pc v av hi g) (am_Qc v Φ) (am_XC v Φ) b.1 b.2 (am_A v)
/-! the places of a frame: unknown ones are .retAddr -/
def am_jk : Value → Bool
  | .retAddr _ => true
  | _ => false
abbrev jk : Value := .retAddr 0
def am_L (n0 : Nat) : Nat → List Value → List (Nat × Value)
  | _, [] => []
  | i, v :: vs => if am_jk v then am_L n0 (i + 1) vs else (i, am_cv n0 v) :: am_L n0 (i + 1) vs
theorem am_L_mem {n0 : Nat} {j : Nat} {w : Value} : ∀ (L : List Value) (i : Nat), (j, w) ∈ am_L n0 i L ↔ ∃ k v, L[k]? = some v ∧ am_jk v = false ∧ j = i + k ∧ w = am_cv n0 v := by
  intro L
  induction L with
  | nil => intro i; simp [am_L]
  | cons v vs ih =>
    intro i
    have e : (∃ k u, (v :: vs)[k]? = some u ∧ am_jk u = false ∧ j = i + k ∧ w = am_cv n0 u) ↔ (am_jk v = false ∧ j = i ∧ w = am_cv n0 v) ∨ ∃ k u, vs[k]? = some u ∧ am_jk u = false ∧ j = (i + 1) + k ∧ w = am_cv n0 u := by
      constructor
      · rintro ⟨k, u, h1, h2, h3, h4⟩
        cases k with
        | zero => simp at h1; subst h1; exact Or.inl ⟨h2, by omega, h4⟩
        | succ k => simp at h1; exact Or.inr ⟨k, u, h1, h2, by omega, h4⟩
      · rintro (⟨h2, h3, h4⟩ | ⟨k, u, h1, h2, h3, h4⟩)
        · exact ⟨0, v, rfl, h2, by omega, h4⟩
        · exact ⟨k + 1, u, by simpa using h1, h2, by omega, h4⟩
    rw [e, ← ih (i + 1)]
    by_cases h : am_jk v
    · simp [am_L, h]
    · simp [am_L, h]
theorem am_get {ls : Array Slot} {nL n0 k : Nat} {L : List Value} {v : Value} (h : lv_has ls nL (am_L n0 0 L)) (hk : L[k]? = some v) (hj : am_jk v = false) : ls[k]? = some (.val (am_cv n0 v)) :=
  h.2.2 (k, am_cv n0 v) ((am_L_mem L 0).mpr ⟨k, v, hk, hj, by omega, rfl⟩)
theorem am_cv_cat (n0 : Nat) (v : Value) : (am_cv n0 v).category = v.category := by cases v <;> rfl
/-- a store into a place: the second half of a long goes, and a long that ended here -/
def am_st (L : List Value) (i : Nat) (v : Value) : List Value :=
  let A := if v.category = 2 then (L.set i v).set (i + 1) jk else L.set i v
  match i with
  | 0 => A
  | j + 1 => if ((L[j]?).map Value.category) = some 2 then A.set j jk else A
theorem am_st_at {L : List Value} {i k : Nat} {v u : Value} (h : (am_st L i v)[k]? = some u) (hu : am_jk u = false) : (k = i ∧ u = v) ∨ (k ≠ i ∧ L[k]? = some u ∧ (k + 1 = i → u.category ≠ 2) ∧ (v.category = 2 → k ≠ i + 1)) := by
  have hA : ∀ {A : List Value}, A = (if v.category = 2 then (L.set i v).set (i + 1) jk else L.set i v) → A[k]? = some u → (k = i ∧ u = v) ∨ (k ≠ i ∧ L[k]? = some u ∧ (v.category = 2 → k ≠ i + 1)) := by
    intro A e h9
    by_cases hk : k = i
    · left
      refine ⟨hk, ?_⟩
      subst hk
      by_cases hc : v.category = 2
      · rw [if_pos hc] at e
        rw [e, List.getElem?_set_ne (by omega), List.getElem?_set] at h9
        by_cases hl : k < L.length
        · simp [hl] at h9; exact h9.symm
        · simp [hl] at h9
      · rw [if_neg hc] at e
        rw [e, List.getElem?_set] at h9
        by_cases hl : k < L.length
        · simp [hl] at h9; exact h9.symm
        · simp [hl] at h9
    · right
      by_cases hc : v.category = 2
      · rw [if_pos hc] at e
        by_cases h2 : k = i + 1
        · subst h2
          rw [e, List.getElem?_set] at h9
          by_cases hl : i + 1 < L.length
          · simp [hl] at h9; subst h9; cases hu
          · simp [hl] at h9
        · rw [e, List.getElem?_set_ne (by omega), List.getElem?_set_ne (by omega)] at h9
          exact ⟨hk, h9, fun _ => h2⟩
      · rw [if_neg hc] at e
        rw [e, List.getElem?_set_ne (by omega)] at h9
        exact ⟨hk, h9, fun h3 => absurd h3 hc⟩
  unfold am_st at h
  cases i with
  | zero =>
    rcases hA rfl h with h1 | ⟨h1, h2, h3⟩
    · exact Or.inl h1
    · exact Or.inr ⟨h1, h2, fun h4 => by omega, h3⟩
  | succ j =>
    dsimp only at h
    by_cases hc : ((L[j]?).map Value.category) = some 2
    · rw [if_pos hc] at h
      by_cases hk : k = j
      · subst hk
        rw [List.getElem?_set] at h
        by_cases hl : k < (if v.category = 2 then (L.set (k + 1) v).set (k + 1 + 1) jk else L.set (k + 1) v).length
        · simp [hl] at h; subst h; cases hu
        · simp [hl] at h
      · rw [List.getElem?_set_ne (by omega)] at h
        rcases hA rfl h with h1 | ⟨h1, h2, h3⟩
        · exact Or.inl h1
        · exact Or.inr ⟨h1, h2, fun h4 => by omega, h3⟩
    · rw [if_neg hc] at h
      rcases hA rfl h with h1 | ⟨h1, h2, h3⟩
      · exact Or.inl h1
      · refine Or.inr ⟨h1, h2, fun h4 h5 => hc ?_, h3⟩
        have : k = j := by omega
        subst this
        rw [h2]; simp [h5]
theorem am_put1 {ls : Array Slot} {nL n0 i : Nat} {L : List Value} {v : Value} (h : lv_has ls nL ((i, am_cv n0 v) :: (am_L n0 0 L).filter (fun q => !(q.1 == i) && !(q.1 + 1 == i && q.2.category == 2)))) : lv_has ls nL (am_L n0 0 (am_st L i v)) := by
  refine ⟨h.1, h.2.1, fun q hq => h.2.2 q ?_⟩
  obtain ⟨j, w⟩ := q
  obtain ⟨k, u, h1, h2, h3, h4⟩ := (am_L_mem _ 0).mp hq
  have hj : j = k := by omega
  subst hj
  rcases am_st_at h1 h2 with ⟨e1, e2⟩ | ⟨e1, e2, e3, -⟩
  · subst e1; subst e2; rw [h4]; exact List.mem_cons_self
  · refine List.mem_cons_of_mem _ (List.mem_filter.mpr ⟨(am_L_mem _ 0).mpr ⟨j, u, e2, h2, by omega, h4⟩, ?_⟩)
    rw [h4, am_cv_cat]
    simp only [Bool.and_eq_true, Bool.not_eq_true', beq_eq_false_iff_ne, Bool.and_eq_false_iff]
    refine ⟨e1, ?_⟩
    by_cases h5 : j + 1 = i
    · exact Or.inr (e3 h5)
    · exact Or.inl h5
theorem am_put2 {ls : Array Slot} {nL n0 i : Nat} {L : List Value} {v : Value} (hv : v.category = 2) (h : lv_has ls nL ((i, am_cv n0 v) :: (am_L n0 0 L).filter (fun q => !(q.1 == i) && (!(q.1 == i + 1) && !(q.1 + 1 == i && q.2.category == 2))))) : lv_has ls nL (am_L n0 0 (am_st L i v)) := by
  refine ⟨h.1, h.2.1, fun q hq => h.2.2 q ?_⟩
  obtain ⟨j, w⟩ := q
  obtain ⟨k, u, h1, h2, h3, h4⟩ := (am_L_mem _ 0).mp hq
  have hj : j = k := by omega
  subst hj
  rcases am_st_at h1 h2 with ⟨e1, e2⟩ | ⟨e1, e2, e3, e4⟩
  · subst e1; subst e2; rw [h4]; exact List.mem_cons_self
  · refine List.mem_cons_of_mem _ (List.mem_filter.mpr ⟨(am_L_mem _ 0).mpr ⟨j, u, e2, h2, by omega, h4⟩, ?_⟩)
    rw [h4, am_cv_cat]
    simp only [Bool.and_eq_true, Bool.not_eq_true', beq_eq_false_iff_ne, Bool.and_eq_false_iff]
    refine ⟨e1, e4 hv, ?_⟩
    by_cases h5 : j + 1 = i
    · exact Or.inr (e3 h5)
    · exact Or.inl h5
/-- the places at a method's entry -/
def am_flat : List Value → List Value
  | [] => []
  | v :: vs => if v.category = 2 then v :: jk :: am_flat vs else v :: am_flat vs
def am_ent (n : Nat) (vs : List Value) : List Value := (am_flat vs ++ List.replicate n jk).take n
theorem am_flat_mem {n0 m : Nat} : ∀ (vs : List Value) (i : Nat), ∀ q ∈ am_L n0 i (am_flat vs ++ List.replicate m jk), q ∈ lv_args i (vs.map (am_cv n0)) := by
  intro vs
  induction vs with
  | nil =>
    intro i q hq
    obtain ⟨j, w⟩ := q
    obtain ⟨k, u, h1, h2, -, -⟩ := (am_L_mem _ i).mp hq
    have := List.mem_of_getElem? h1
    simp [am_flat] at this
    rw [this.2] at h2
    cases h2
  | cons v vs ih =>
    intro i q hq
    rw [List.map_cons, lv_args, am_cv_cat]
    by_cases hc : v.category = 2
    · rw [am_flat, if_pos hc] at hq
      rw [if_pos hc]
      have hj : am_jk v = false := by cases v <;> first | rfl | (simp [Value.category] at hc)
      simp only [List.cons_append, am_L, hj] at hq
      rcases List.mem_cons.mp hq with h | h
      · rw [h]; exact List.mem_cons_self
      · exact List.mem_cons_of_mem _ (ih (i + 2) q (by simpa [am_jk] using h))
    · rw [am_flat, if_neg hc] at hq
      rw [if_neg hc]
      by_cases hj : am_jk v
      · simp only [List.cons_append, am_L, hj] at hq
        exact List.mem_cons_of_mem _ (ih (i + 1) q hq)
      · simp only [List.cons_append, am_L, hj] at hq
        rcases List.mem_cons.mp hq with h | h
        · rw [h]; exact List.mem_cons_self
        · exact List.mem_cons_of_mem _ (ih (i + 1) q h)
theorem am_ent_mem {n0 : Nat} (n : Nat) (vs : List Value) : ∀ q ∈ am_L n0 0 (am_ent n vs), q ∈ lv_args 0 (vs.map (am_cv n0)) := by
  intro q hq
  obtain ⟨j, w⟩ := q
  obtain ⟨k, u, h1, h2, h3, h4⟩ := (am_L_mem _ 0).mp hq
  refine am_flat_mem (m := n) vs 0 _ ((am_L_mem _ 0).mpr ⟨k, u, ?_, h2, h3, h4⟩)
  unfold am_ent at h1
  rw [List.getElem?_take] at h1
  by_cases hk : k < n
  · rw [if_pos hk] at h1; exact h1
  · rw [if_neg hk] at h1; cases h1
