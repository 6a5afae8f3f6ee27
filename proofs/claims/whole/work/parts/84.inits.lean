/-! ===== what constructors leave ===== -/
def HI0 (i : Nat) : Nat → Int32 := match am_SH i with
  | (0, 6) => upd (upd (upd (upd (upd (fun _ => 0) 3 0) 4 4) 5 1) 6 31) 7 0
  | (0, 2) => upd (upd (upd (fun _ => 0) 5 0) 6 1) 7 0
  | (0, 0) => upd (upd (upd (upd (fun _ => 0) 2 0) 3 1) 4 0) 5 0
  | (0, 1) => upd (fun _ => 0) 1 0
  | (0, 3) => upd (upd (fun _ => 0) 1 0) 2 0
  | (0, 8) => upd (upd (upd (upd (upd (fun _ => 0) 1 0) 2 0) 3 0) 4 0) 5 0
  | (1, 4) => if am_SH (i - 1) = (1, 48) ∧ am_SH (i - 2) = (0, 6) then upd (upd (upd (upd (fun _ => 0) 0 16) 1 0) 2 0) 3 0 else fun _ => 0
  | _ => fun _ => 0
def HR0 (i : Nat) : Nat → Option Nat := if i = 39 then (fun j => if j < 6 then some (40 + 9 * j) else none) else am_HRf i
def FINP (k n : Nat) (hi0 : am_HI) (g0 : am_G) (h : am_HI) (g : am_G) : Prop := g.1 = some n ∧ (∀ i, i < k → h i = hi0 i ∧ g.2.1 i = g0.2.1 i) ∧ ∀ i, k ≤ i → i < n → h i = HI0 i ∧ g.2.1 i = HR0 i
/-- the model: z is not all 0 -/
def rowZ : Nat → Int32 := upd (upd (upd (upd (fun _ => 0) 49 4) 50 1) 51 16) 55 31
def FINZ (hi0 : am_HI) (g0 : am_G) (h : am_HI) (g : am_G) : Prop := g.1 = some 133 ∧ (∀ i, i < 123 → h i = hi0 i ∧ g.2.1 i = g0.2.1 i) ∧ ∀ i, 123 ≤ i → i < 133 → h i = (if i = 124 then rowZ else HI0 i) ∧ g.2.1 i = HR0 i
/-- while the cell k is being set up: n cells are made -/
def IV (k : Nat) (hi0 : am_HI) (g0 : am_G) (rI : Nat → Int32) (rR : Nat → Option Nat) (n : Nat) (h : am_HI) (g : am_G) : Prop := g.1 = some n ∧ (∀ i, i < k → h i = hi0 i ∧ g.2.1 i = g0.2.1 i) ∧ (h k = rI ∧ g.2.1 k = rR) ∧ (∀ i, k < i → i < n → h i = HI0 i ∧ g.2.1 i = HR0 i) ∧ k < n
/-- the same, and the cell n is being set up too -/
def IW (k : Nat) (hi0 : am_HI) (g0 : am_G) (rI : Nat → Int32) (rR : Nat → Option Nat) (n : Nat) (sI : Nat → Int32) (sR : Nat → Option Nat) (h : am_HI) (g : am_G) : Prop := g.1 = some (n + 1) ∧ (∀ i, i < k → h i = hi0 i ∧ g.2.1 i = g0.2.1 i) ∧ (h k = rI ∧ g.2.1 k = rR) ∧ (∀ i, k < i → i < n → h i = HI0 i ∧ g.2.1 i = HR0 i) ∧ k < n ∧ h n = sI ∧ g.2.1 n = sR
section IVS
variable {k n : Nat} {hi0 h : am_HI} {g0 g : am_G} {rI sI : Nat → Int32} {rR sR : Nat → Option Nat}
theorem up_same (h : am_HI) (k j : Nat) (x : Int32) : am_up h k j x k = upd (h k) j x := am_va_at _ _ _
theorem up_other {h : am_HI} {k i j : Nat} {x : Int32} (e : i ≠ k) : am_up h k j x i = h i := am_va_ne e
theorem mk_at (g : am_G) (n : Nat) : (am_mk g n).2.1 n = fun _ => none := am_va_at g.2.1 n _
theorem mk_ne {g : am_G} {n i : Nat} (e : i ≠ n) : (am_mk g n).2.1 i = g.2.1 i := am_va_ne (f := g.2.1) e
theorem mkI_at (h : am_HI) (n : Nat) : am_mkI h n n = fun _ => 0 := am_va_at h n _
theorem mkI_ne {h : am_HI} {n i : Nat} (e : i ≠ n) : am_mkI h n i = h i := am_va_ne (f := h) e
theorem upr_same (g : am_G) (k j r : Nat) : (am_upr g k j r).2.1 k = va_up (g.2.1 k) j (some r) := am_va_at g.2.1 k _
theorem upr_other {g : am_G} {k j r i : Nat} (e : i ≠ k) : (am_upr g k j r).2.1 i = g.2.1 i := am_va_ne (f := g.2.1) e
theorem IV.putI (a : IV k hi0 g0 rI rR n h g) (j : Nat) (x : Int32) : IV k hi0 g0 (upd rI j x) rR n (am_up h k j x) g :=
  ⟨a.1, fun i hi => ⟨(up_other (by omega)).trans (a.2.1 i hi).1, (a.2.1 i hi).2⟩, ⟨by rw [up_same, a.2.2.1.1], a.2.2.1.2⟩, fun i h1 h2 => ⟨(up_other (by omega)).trans (a.2.2.2.1 i h1 h2).1, (a.2.2.2.1 i h1 h2).2⟩, a.2.2.2.2⟩
theorem IV.putR (a : IV k hi0 g0 rI rR n h g) (j r : Nat) : IV k hi0 g0 rI (va_up rR j (some r)) n h (am_upr g k j r) :=
  ⟨a.1, fun i hi => ⟨(a.2.1 i hi).1, (am_va_ne (by omega)).trans (a.2.1 i hi).2⟩, ⟨a.2.2.1.1, by rw [← a.2.2.1.2]; exact am_va_at _ _ _⟩, fun i h1 h2 => ⟨(a.2.2.2.1 i h1 h2).1, (am_va_ne (by omega)).trans (a.2.2.2.1 i h1 h2).2⟩, a.2.2.2.2⟩
theorem IV.new (a : IV k hi0 g0 rI rR n h g) : IW k hi0 g0 rI rR n (fun _ => 0) (fun _ => none) (am_mkI h n) (am_mk g n) :=
  have hk := a.2.2.2.2
  ⟨rfl, fun i hi => ⟨(am_va_ne (by omega)).trans (a.2.1 i hi).1, (am_va_ne (by omega)).trans (a.2.1 i hi).2⟩, ⟨(am_va_ne (by omega)).trans a.2.2.1.1, (am_va_ne (by omega)).trans a.2.2.1.2⟩, fun i h1 h2 => ⟨(am_va_ne (by omega)).trans (a.2.2.2.1 i h1 h2).1, (am_va_ne (by omega)).trans (a.2.2.2.1 i h1 h2).2⟩, hk, am_va_at _ _ _, am_va_at _ _ _⟩
theorem IW.putI (a : IW k hi0 g0 rI rR n sI sR h g) (j : Nat) (x : Int32) : IW k hi0 g0 rI rR n (upd sI j x) sR (am_up h n j x) g := by
  obtain ⟨a1, a2, a3, a4, a5, a6, a7⟩ := a
  exact ⟨a1, fun i hi => ⟨(up_other (by omega)).trans (a2 i hi).1, (a2 i hi).2⟩, ⟨(up_other (by omega)).trans a3.1, a3.2⟩, fun i h1 h2 => ⟨(up_other (by omega)).trans (a4 i h1 h2).1, (a4 i h1 h2).2⟩, a5, by rw [up_same, a6], a7⟩
theorem IW.done (a : IW k hi0 g0 rI rR n sI sR h g) (e1 : sI = HI0 n) (e2 : sR = HR0 n) : IV k hi0 g0 rI rR (n + 1) h g := by
  obtain ⟨a1, a2, a3, a4, a5, a6, a7⟩ := a
  refine ⟨a1, a2, a3, fun i h1 h2 => ?_, by omega⟩
  by_cases e : i = n
  · subst e; exact ⟨a6.trans e1, a7.trans e2⟩
  · exact a4 i h1 (by omega)
theorem IW.call {n' : Nat} {h' : am_HI} {g' : am_G} (a : IW k hi0 g0 rI rR n sI sR h g) (f : FINP n n' h g h' g') (hn : n < n') : IV k hi0 g0 rI rR n' h' g' := by
  obtain ⟨a1, a2, a3, a4, a5, a6, a7⟩ := a
  obtain ⟨f1, f2, f3⟩ := f
  refine ⟨f1, fun i hi => ⟨(f2 i (by omega)).1.trans (a2 i hi).1, (f2 i (by omega)).2.trans (a2 i hi).2⟩, ⟨(f2 k a5).1.trans a3.1, (f2 k a5).2.trans a3.2⟩, fun i h1 h2 => ?_, by omega⟩
  by_cases e : i < n
  · exact ⟨(f2 i e).1.trans (a4 i h1 e).1, (f2 i e).2.trans (a4 i h1 e).2⟩
  · exact f3 i (by omega) h2
theorem IV.fin (a : IV k hi0 g0 rI rR n h g) (e1 : rI = HI0 k) (e2 : rR = HR0 k) : FINP k n hi0 g0 h g := by
  obtain ⟨a1, a2, a3, a4, a5⟩ := a
  refine ⟨a1, a2, fun i h1 h2 => ?_⟩
  by_cases e : i = k
  · subst e; exact ⟨a3.1.trans e1, a3.2.trans e2⟩
  · exact a4 i (by omega) h2
/-- the cell above is done: back to the one below -/
theorem IV.back (a : IV (k + 1) hi0 g0 rI rR n h g) (e1 : rI = HI0 (k + 1)) (e2 : rR = HR0 (k + 1)) : IV k hi0 g0 (hi0 k) (g0.2.1 k) n h g := by
  obtain ⟨a1, a2, a3, a4, a5⟩ := a
  refine ⟨a1, fun i hi => a2 i (by omega), a2 k (by omega), fun i h1 h2 => ?_, by omega⟩
  by_cases e : i = k + 1
  · subst e; exact ⟨a3.1.trans e1, a3.2.trans e2⟩
  · exact a4 i (by omega) h2
theorem IV.grid {N : Nat} (a : IV k hi0 g0 rI rR n h g) (e1 : ∀ i, n ≤ i → i < n + (1 + N) → HI0 i = fun _ => 0) (e2 : HR0 n = fun j => if j < N then some (n + 1 + j) else none) (e3 : ∀ i, n < i → i < n + (1 + N) → HR0 i = fun _ => none) : IV k hi0 g0 rI rR (n + (1 + N)) (am_mkIs h n (1 + N)) (am_mks g n N) := by
  obtain ⟨a1, a2, a3, a4, a5⟩ := a
  have f : ∀ i, i < n → am_mkIs h n (1 + N) i = h i ∧ (am_mks g n N).2.1 i = g.2.1 i := fun i hi => ⟨if_neg (by omega), (if_neg (by omega)).trans (if_neg (by omega))⟩
  refine ⟨rfl, fun i hi => ⟨(f i (by omega)).1.trans (a2 i hi).1, (f i (by omega)).2.trans (a2 i hi).2⟩, ⟨(f k a5).1.trans a3.1, (f k a5).2.trans a3.2⟩, fun i h1 h2 => ?_, by omega⟩
  by_cases e : i < n
  · exact ⟨(f i e).1.trans (a4 i h1 e).1, (f i e).2.trans (a4 i h1 e).2⟩
  · refine ⟨(if_pos ⟨by omega, by omega⟩).trans (e1 i (by omega) h2).symm, ?_⟩
    by_cases en : i = n
    · subst en; exact (if_pos rfl).trans e2.symm
    · exact ((if_neg en).trans (if_pos ⟨by omega, by omega⟩)).trans (e3 i (by omega) h2).symm
theorem IV.lt {i : Nat} (a : IV k hi0 g0 rI rR n h g) (hi : i < n) : i < am_N g.1 := by rw [a.1]; exact hi
theorem IW.lt {i : Nat} (a : IW k hi0 g0 rI rR n sI sR h g) (hi : i < n + 1) : i < am_N g.1 := by rw [a.1]; exact hi
theorem IV.st (hg : g.1 = some (k + 1)) (hz : h k = fun _ => 0) (hr : g.2.1 k = fun _ => none) : IV k h g (fun _ => 0) (fun _ => none) (k + 1) h g := ⟨hg, fun i _ => ⟨rfl, rfl⟩, ⟨hz, hr⟩, fun i h1 h2 => by omega, by omega⟩
end IVS
theorem FINP.ph {k n c : Nat} {hi0 : am_HI} {g0 : am_G} (hg : g0.1 = some (k + 1)) (e : k + 1 + c = n) : ∀ h g', FINP k n hi0 g0 h g' → ∀ n', g'.1 = some n' → ∃ j, g0.1 = some j ∧ j + c ≤ n' := fun h g' f n' hn => ⟨k + 1, hg, by have := f.1.symm.trans hn; cases this; omega⟩
theorem hr_0 : (va_up (va_up (va_up (va_up (va_up (va_up (va_up (fun _ => none) 0 (some 1)) 1 (some 2)) 2 (some 38)) 3 (some 94)) 4 (some 115)) 5 (some 117)) 6 (some 121)) = HR0 0 := by
  funext j
  match j with
  | 0 => rfl
  | 1 => rfl
  | 2 => rfl
  | 3 => rfl
  | 4 => rfl
  | 5 => rfl
  | 6 => rfl
  | j + 7 => rfl
theorem hr_1 : (va_up (va_up (va_up (va_up (va_up (va_up (va_up (fun _ => none) 0 (some 2)) 1 (some 11)) 2 (some 14)) 3 (some 15)) 4 (some 21)) 5 (some 26)) 6 (some 32)) = HR0 1 := by
  funext j
  match j with
  | 0 => rfl
  | 1 => rfl
  | 2 => rfl
  | 3 => rfl
  | 4 => rfl
  | 5 => rfl
  | 6 => rfl
  | j + 7 => rfl
theorem hr_2 : (va_up (va_up (va_up (fun _ => none) 0 (some 3)) 1 (some 4)) 2 (some 5)) = HR0 2 := by
  funext j
  match j with
  | 0 => rfl
  | 1 => rfl
  | 2 => rfl
  | 3 => rfl
  | 4 => rfl
  | 5 => rfl
  | 6 => rfl
  | 7 => rfl
  | j + 8 => rfl
theorem hr_5 : (va_up (va_up (va_up (va_up (va_up (fun _ => none) 0 (some 6)) 1 (some 7)) 2 (some 8)) 3 (some 9)) 4 (some 10)) = HR0 5 := by
  funext j
  match j with
  | 0 => rfl
  | 1 => rfl
  | 2 => rfl
  | 3 => rfl
  | 4 => rfl
  | 5 => rfl
  | 6 => rfl
  | 7 => rfl
  | j + 8 => rfl
theorem hr_11 : (va_up (va_up (fun _ => none) 0 (some 12)) 1 (some 13)) = HR0 11 := by
  funext j
  match j with
  | 0 => rfl
  | 1 => rfl
  | 2 => rfl
  | 3 => rfl
  | 4 => rfl
  | 5 => rfl
  | j + 6 => rfl
theorem hr_15 : HR0 15 = fun j => if j < 5 then some (15 + 1 + j) else none := by
  funext j
  match j with
  | 0 => rfl
  | 1 => rfl
  | 2 => rfl
  | 3 => rfl
  | 4 => rfl
  | j + 5 => rfl
theorem hr_21 : HR0 21 = fun j => if j < 4 then some (21 + 1 + j) else none := by
  funext j
  match j with
  | 0 => rfl
  | 1 => rfl
  | 2 => rfl
  | 3 => rfl
  | j + 4 => rfl
theorem hr_26 : HR0 26 = fun j => if j < 5 then some (26 + 1 + j) else none := by
  funext j
  match j with
  | 0 => rfl
  | 1 => rfl
  | 2 => rfl
  | 3 => rfl
  | 4 => rfl
  | j + 5 => rfl
theorem hr_32 : HR0 32 = fun j => if j < 5 then some (32 + 1 + j) else none := by
  funext j
  match j with
  | 0 => rfl
  | 1 => rfl
  | 2 => rfl
  | 3 => rfl
  | 4 => rfl
  | j + 5 => rfl
theorem hr_38 : (va_up (fun _ => none) 0 (some 39)) = HR0 38 := by
  funext j
  match j with
  | 0 => rfl
  | 1 => rfl
  | j + 2 => rfl
theorem hr_39 : (va_up (va_up (va_up (va_up (va_up (va_up (fun _ => none) 0 (some 40)) 1 (some 49)) 2 (some 58)) 3 (some 67)) 4 (some 76)) 5 (some 85)) = HR0 39 := by
  funext j
  match j with
  | 0 => rfl
  | 1 => rfl
  | 2 => rfl
  | 3 => rfl
  | 4 => rfl
  | 5 => rfl
  | j + 6 => rfl
theorem hr_40 : (va_up (va_up (va_up (fun _ => none) 0 (some 41)) 1 (some 42)) 2 (some 43)) = HR0 40 := by
  funext j
  match j with
  | 0 => rfl
  | 1 => rfl
  | 2 => rfl
  | 3 => rfl
  | 4 => rfl
  | 5 => rfl
  | 6 => rfl
  | 7 => rfl
  | j + 8 => rfl
theorem hr_43 : (va_up (va_up (va_up (va_up (va_up (fun _ => none) 0 (some 44)) 1 (some 45)) 2 (some 46)) 3 (some 47)) 4 (some 48)) = HR0 43 := by
  funext j
  match j with
  | 0 => rfl
  | 1 => rfl
  | 2 => rfl
  | 3 => rfl
  | 4 => rfl
  | 5 => rfl
  | 6 => rfl
  | 7 => rfl
  | j + 8 => rfl
theorem hr_49 : (va_up (va_up (va_up (fun _ => none) 0 (some 50)) 1 (some 51)) 2 (some 52)) = HR0 49 := by
  funext j
  match j with
  | 0 => rfl
  | 1 => rfl
  | 2 => rfl
  | 3 => rfl
  | 4 => rfl
  | 5 => rfl
  | 6 => rfl
  | 7 => rfl
  | j + 8 => rfl
theorem hr_52 : (va_up (va_up (va_up (va_up (va_up (fun _ => none) 0 (some 53)) 1 (some 54)) 2 (some 55)) 3 (some 56)) 4 (some 57)) = HR0 52 := by
  funext j
  match j with
  | 0 => rfl
  | 1 => rfl
  | 2 => rfl
  | 3 => rfl
  | 4 => rfl
  | 5 => rfl
  | 6 => rfl
  | 7 => rfl
  | j + 8 => rfl
theorem hr_58 : (va_up (va_up (va_up (fun _ => none) 0 (some 59)) 1 (some 60)) 2 (some 61)) = HR0 58 := by
  funext j
  match j with
  | 0 => rfl
  | 1 => rfl
  | 2 => rfl
  | 3 => rfl
  | 4 => rfl
  | 5 => rfl
  | 6 => rfl
  | 7 => rfl
  | j + 8 => rfl
theorem hr_61 : (va_up (va_up (va_up (va_up (va_up (fun _ => none) 0 (some 62)) 1 (some 63)) 2 (some 64)) 3 (some 65)) 4 (some 66)) = HR0 61 := by
  funext j
  match j with
  | 0 => rfl
  | 1 => rfl
  | 2 => rfl
  | 3 => rfl
  | 4 => rfl
  | 5 => rfl
  | 6 => rfl
  | 7 => rfl
  | j + 8 => rfl
theorem hr_67 : (va_up (va_up (va_up (fun _ => none) 0 (some 68)) 1 (some 69)) 2 (some 70)) = HR0 67 := by
  funext j
  match j with
  | 0 => rfl
  | 1 => rfl
  | 2 => rfl
  | 3 => rfl
  | 4 => rfl
  | 5 => rfl
  | 6 => rfl
  | 7 => rfl
  | j + 8 => rfl
theorem hr_70 : (va_up (va_up (va_up (va_up (va_up (fun _ => none) 0 (some 71)) 1 (some 72)) 2 (some 73)) 3 (some 74)) 4 (some 75)) = HR0 70 := by
  funext j
  match j with
  | 0 => rfl
  | 1 => rfl
  | 2 => rfl
  | 3 => rfl
  | 4 => rfl
  | 5 => rfl
  | 6 => rfl
  | 7 => rfl
  | j + 8 => rfl
theorem hr_76 : (va_up (va_up (va_up (fun _ => none) 0 (some 77)) 1 (some 78)) 2 (some 79)) = HR0 76 := by
  funext j
  match j with
  | 0 => rfl
  | 1 => rfl
  | 2 => rfl
  | 3 => rfl
  | 4 => rfl
  | 5 => rfl
  | 6 => rfl
  | 7 => rfl
  | j + 8 => rfl
theorem hr_79 : (va_up (va_up (va_up (va_up (va_up (fun _ => none) 0 (some 80)) 1 (some 81)) 2 (some 82)) 3 (some 83)) 4 (some 84)) = HR0 79 := by
  funext j
  match j with
  | 0 => rfl
  | 1 => rfl
  | 2 => rfl
  | 3 => rfl
  | 4 => rfl
  | 5 => rfl
  | 6 => rfl
  | 7 => rfl
  | j + 8 => rfl
theorem hr_85 : (va_up (va_up (va_up (fun _ => none) 0 (some 86)) 1 (some 87)) 2 (some 88)) = HR0 85 := by
  funext j
  match j with
  | 0 => rfl
  | 1 => rfl
  | 2 => rfl
  | 3 => rfl
  | 4 => rfl
  | 5 => rfl
  | 6 => rfl
  | 7 => rfl
  | j + 8 => rfl
theorem hr_88 : (va_up (va_up (va_up (va_up (va_up (fun _ => none) 0 (some 89)) 1 (some 90)) 2 (some 91)) 3 (some 92)) 4 (some 93)) = HR0 88 := by
  funext j
  match j with
  | 0 => rfl
  | 1 => rfl
  | 2 => rfl
  | 3 => rfl
  | 4 => rfl
  | 5 => rfl
  | 6 => rfl
  | 7 => rfl
  | j + 8 => rfl
theorem hr_94 : (va_up (va_up (fun _ => none) 0 (some 95)) 1 (some 114)) = HR0 94 := by
  funext j
  match j with
  | 0 => rfl
  | 1 => rfl
  | j + 2 => rfl
theorem hr_95 : (va_up (va_up (fun _ => none) 0 (some 96)) 1 (some 105)) = HR0 95 := by
  funext j
  match j with
  | 0 => rfl
  | 1 => rfl
  | j + 2 => rfl
theorem hr_96 : (va_up (va_up (va_up (fun _ => none) 0 (some 97)) 1 (some 98)) 2 (some 99)) = HR0 96 := by
  funext j
  match j with
  | 0 => rfl
  | 1 => rfl
  | 2 => rfl
  | 3 => rfl
  | 4 => rfl
  | 5 => rfl
  | 6 => rfl
  | 7 => rfl
  | j + 8 => rfl
theorem hr_99 : (va_up (va_up (va_up (va_up (va_up (fun _ => none) 0 (some 100)) 1 (some 101)) 2 (some 102)) 3 (some 103)) 4 (some 104)) = HR0 99 := by
  funext j
  match j with
  | 0 => rfl
  | 1 => rfl
  | 2 => rfl
  | 3 => rfl
  | 4 => rfl
  | 5 => rfl
  | 6 => rfl
  | 7 => rfl
  | j + 8 => rfl
theorem hr_105 : (va_up (va_up (va_up (fun _ => none) 0 (some 106)) 1 (some 107)) 2 (some 108)) = HR0 105 := by
  funext j
  match j with
  | 0 => rfl
  | 1 => rfl
  | 2 => rfl
  | 3 => rfl
  | 4 => rfl
  | 5 => rfl
  | 6 => rfl
  | 7 => rfl
  | j + 8 => rfl
theorem hr_108 : (va_up (va_up (va_up (va_up (va_up (fun _ => none) 0 (some 109)) 1 (some 110)) 2 (some 111)) 3 (some 112)) 4 (some 113)) = HR0 108 := by
  funext j
  match j with
  | 0 => rfl
  | 1 => rfl
  | 2 => rfl
  | 3 => rfl
  | 4 => rfl
  | 5 => rfl
  | 6 => rfl
  | 7 => rfl
  | j + 8 => rfl
theorem hr_115 : (va_up (fun _ => none) 0 (some 116)) = HR0 115 := by
  funext j
  match j with
  | 0 => rfl
  | 1 => rfl
  | 2 => rfl
  | 3 => rfl
  | 4 => rfl
  | 5 => rfl
  | j + 6 => rfl
theorem hr_117 : (va_up (fun _ => none) 0 (some 118)) = HR0 117 := by
  funext j
  match j with
  | 0 => rfl
  | j + 1 => rfl
theorem hr_118 : (va_up (va_up (fun _ => none) 0 (some 119)) 1 (some 120)) = HR0 118 := by
  funext j
  match j with
  | 0 => rfl
  | 1 => rfl
  | 2 => rfl
  | 3 => rfl
  | 4 => rfl
  | 5 => rfl
  | j + 6 => rfl
theorem hr_121 : (va_up (fun _ => none) 0 (some 122)) = HR0 121 := by
  funext j
  match j with
  | 0 => rfl
  | 1 => rfl
  | 2 => rfl
  | j + 3 => rfl
theorem hr_123 : (va_up (va_up (va_up (va_up (va_up (va_up (va_up (va_up (va_up (fun _ => none) 0 (some 124)) 1 (some 125)) 3 (some 126)) 4 (some 127)) 5 (some 128)) 6 (some 129)) 7 (some 130)) 8 (some 131)) 11 (some 132)) = HR0 123 := by
  funext j
  match j with
  | 0 => rfl
  | 1 => rfl
  | 2 => rfl
  | 3 => rfl
  | 4 => rfl
  | 5 => rfl
  | 6 => rfl
  | 7 => rfl
  | 8 => rfl
  | 9 => rfl
  | 10 => rfl
  | 11 => rfl
  | 12 => rfl
  | 13 => rfl
  | 14 => rfl
  | j + 15 => rfl
theorem d_X0_init_0 : decode (am_cc M_X0_init) 0 = .ok (.aload_n 0, 1) := by decide +kernel
theorem d_X0_init_1 : decode (am_cc M_X0_init) 1 = .ok (.invokespecial 3, 3) := by decide +kernel
theorem d_X0_init_4 : decode (am_cc M_X0_init) 4 = .ok (.aload_n 0, 1) := by decide +kernel
theorem d_X0_init_5 : decode (am_cc M_X0_init) 5 = .ok (.bipush 48, 2) := by decide +kernel
theorem d_X0_init_7 : decode (am_cc M_X0_init) 7 = .ok (.newarray .int, 2) := by decide +kernel
theorem d_X0_init_9 : decode (am_cc M_X0_init) 9 = .ok (.putfield 9, 3) := by decide +kernel
theorem d_X0_init_12 : decode (am_cc M_X0_init) 12 = .ok (.aload_n 0, 1) := by decide +kernel
theorem d_X0_init_13 : decode (am_cc M_X0_init) 13 = .ok (.iconst 4, 1) := by decide +kernel
theorem d_X0_init_14 : decode (am_cc M_X0_init) 14 = .ok (.newarray .int, 2) := by decide +kernel
theorem d_X0_init_16 : decode (am_cc M_X0_init) 16 = .ok (.putfield 15, 3) := by decide +kernel
theorem d_X0_init_19 : decode (am_cc M_X0_init) 19 = .ok (.aload_n 0, 1) := by decide +kernel
theorem d_X0_init_20 : decode (am_cc M_X0_init) 20 = .ok (.iconst 0, 1) := by decide +kernel
theorem d_X0_init_21 : decode (am_cc M_X0_init) 21 = .ok (.putfield 18, 3) := by decide +kernel
theorem d_X0_init_24 : decode (am_cc M_X0_init) 24 = .ok (.aload_n 0, 1) := by decide +kernel
theorem d_X0_init_25 : decode (am_cc M_X0_init) 25 = .ok (.iconst 1, 1) := by decide +kernel
theorem d_X0_init_26 : decode (am_cc M_X0_init) 26 = .ok (.putfield 22, 3) := by decide +kernel
theorem d_X0_init_29 : decode (am_cc M_X0_init) 29 = .ok (.aload_n 0, 1) := by decide +kernel
theorem d_X0_init_30 : decode (am_cc M_X0_init) 30 = .ok (.iconst 0, 1) := by decide +kernel
theorem d_X0_init_31 : decode (am_cc M_X0_init) 31 = .ok (.putfield 25, 3) := by decide +kernel
theorem d_X0_init_34 : decode (am_cc M_X0_init) 34 = .ok (.aload_n 0, 1) := by decide +kernel
theorem d_X0_init_35 : decode (am_cc M_X0_init) 35 = .ok (.iconst 0, 1) := by decide +kernel
theorem d_X0_init_36 : decode (am_cc M_X0_init) 36 = .ok (.putfield 28, 3) := by decide +kernel
theorem d_X0_init_39 : decode (am_cc M_X0_init) 39 = .ok (.return_, 1) := by decide +kernel
theorem d_X1_init_0 : decode (am_cc M_X1_init) 0 = .ok (.aload_n 0, 1) := by decide +kernel
theorem d_X1_init_1 : decode (am_cc M_X1_init) 1 = .ok (.invokespecial 3, 3) := by decide +kernel
theorem d_X1_init_4 : decode (am_cc M_X1_init) 4 = .ok (.aload_n 0, 1) := by decide +kernel
theorem d_X1_init_5 : decode (am_cc M_X1_init) 5 = .ok (.bipush 6, 2) := by decide +kernel
theorem d_X1_init_7 : decode (am_cc M_X1_init) 7 = .ok (.anewarray 9, 3) := by decide +kernel
theorem d_X1_init_10 : decode (am_cc M_X1_init) 10 = .ok (.putfield 11, 3) := by decide +kernel
theorem d_X1_init_13 : decode (am_cc M_X1_init) 13 = .ok (.aload_n 0, 1) := by decide +kernel
theorem d_X1_init_14 : decode (am_cc M_X1_init) 14 = .ok (.iconst 0, 1) := by decide +kernel
theorem d_X1_init_15 : decode (am_cc M_X1_init) 15 = .ok (.putfield 17, 3) := by decide +kernel
theorem d_X1_init_18 : decode (am_cc M_X1_init) 18 = .ok (.iconst 0, 1) := by decide +kernel
theorem d_X1_init_19 : decode (am_cc M_X1_init) 19 = .ok (.istore_n 1, 1) := by decide +kernel
theorem d_X1_init_20 : decode (am_cc M_X1_init) 20 = .ok (.iload_n 1, 1) := by decide +kernel
theorem d_X1_init_21 : decode (am_cc M_X1_init) 21 = .ok (.bipush 6, 2) := by decide +kernel
theorem d_X1_init_23 : decode (am_cc M_X1_init) 23 = .ok (.if_icmp .ge 22, 3) := by decide +kernel
theorem d_X1_init_26 : decode (am_cc M_X1_init) 26 = .ok (.aload_n 0, 1) := by decide +kernel
theorem d_X1_init_27 : decode (am_cc M_X1_init) 27 = .ok (.getfield 11, 3) := by decide +kernel
theorem d_X1_init_30 : decode (am_cc M_X1_init) 30 = .ok (.iload_n 1, 1) := by decide +kernel
theorem d_X1_init_31 : decode (am_cc M_X1_init) 31 = .ok (.new 9, 3) := by decide +kernel
theorem d_X1_init_34 : decode (am_cc M_X1_init) 34 = .ok (.dup, 1) := by decide +kernel
theorem d_X1_init_35 : decode (am_cc M_X1_init) 35 = .ok (.invokespecial 21, 3) := by decide +kernel
theorem d_X1_init_38 : decode (am_cc M_X1_init) 38 = .ok (.aastore, 1) := by decide +kernel
theorem d_X1_init_39 : decode (am_cc M_X1_init) 39 = .ok (.iinc 1 1, 3) := by decide +kernel
theorem d_X1_init_42 : decode (am_cc M_X1_init) 42 = .ok (.goto (-22), 3) := by decide +kernel
theorem d_X1_init_45 : decode (am_cc M_X1_init) 45 = .ok (.return_, 1) := by decide +kernel
theorem d_X2_init_0 : decode (am_cc M_X2_init) 0 = .ok (.aload_n 0, 1) := by decide +kernel
theorem d_X2_init_1 : decode (am_cc M_X2_init) 1 = .ok (.invokespecial 3, 3) := by decide +kernel
theorem d_X2_init_4 : decode (am_cc M_X2_init) 4 = .ok (.aload_n 0, 1) := by decide +kernel
theorem d_X2_init_5 : decode (am_cc M_X2_init) 5 = .ok (.iconst 4, 1) := by decide +kernel
theorem d_X2_init_6 : decode (am_cc M_X2_init) 6 = .ok (.newarray .int, 2) := by decide +kernel
theorem d_X2_init_8 : decode (am_cc M_X2_init) 8 = .ok (.putfield 9, 3) := by decide +kernel
theorem d_X2_init_11 : decode (am_cc M_X2_init) 11 = .ok (.aload_n 0, 1) := by decide +kernel
theorem d_X2_init_12 : decode (am_cc M_X2_init) 12 = .ok (.bipush 6, 2) := by decide +kernel
theorem d_X2_init_14 : decode (am_cc M_X2_init) 14 = .ok (.newarray .int, 2) := by decide +kernel
theorem d_X2_init_16 : decode (am_cc M_X2_init) 16 = .ok (.putfield 15, 3) := by decide +kernel
theorem d_X2_init_19 : decode (am_cc M_X2_init) 19 = .ok (.aload_n 0, 1) := by decide +kernel
theorem d_X2_init_20 : decode (am_cc M_X2_init) 20 = .ok (.bipush 6, 2) := by decide +kernel
theorem d_X2_init_22 : decode (am_cc M_X2_init) 22 = .ok (.newarray .int, 2) := by decide +kernel
theorem d_X2_init_24 : decode (am_cc M_X2_init) 24 = .ok (.putfield 18, 3) := by decide +kernel
theorem d_X2_init_27 : decode (am_cc M_X2_init) 27 = .ok (.aload_n 0, 1) := by decide +kernel
theorem d_X2_init_28 : decode (am_cc M_X2_init) 28 = .ok (.bipush 48, 2) := by decide +kernel
theorem d_X2_init_30 : decode (am_cc M_X2_init) 30 = .ok (.newarray .int, 2) := by decide +kernel
theorem d_X2_init_32 : decode (am_cc M_X2_init) 32 = .ok (.putfield 21, 3) := by decide +kernel
theorem d_X2_init_35 : decode (am_cc M_X2_init) 35 = .ok (.aload_n 0, 1) := by decide +kernel
theorem d_X2_init_36 : decode (am_cc M_X2_init) 36 = .ok (.bipush 48, 2) := by decide +kernel
theorem d_X2_init_38 : decode (am_cc M_X2_init) 38 = .ok (.newarray .int, 2) := by decide +kernel
theorem d_X2_init_40 : decode (am_cc M_X2_init) 40 = .ok (.putfield 24, 3) := by decide +kernel
theorem d_X2_init_43 : decode (am_cc M_X2_init) 43 = .ok (.aload_n 0, 1) := by decide +kernel
theorem d_X2_init_44 : decode (am_cc M_X2_init) 44 = .ok (.iconst 0, 1) := by decide +kernel
theorem d_X2_init_45 : decode (am_cc M_X2_init) 45 = .ok (.putfield 27, 3) := by decide +kernel
theorem d_X2_init_48 : decode (am_cc M_X2_init) 48 = .ok (.aload_n 0, 1) := by decide +kernel
theorem d_X2_init_49 : decode (am_cc M_X2_init) 49 = .ok (.iconst 1, 1) := by decide +kernel
theorem d_X2_init_50 : decode (am_cc M_X2_init) 50 = .ok (.putfield 31, 3) := by decide +kernel
theorem d_X2_init_53 : decode (am_cc M_X2_init) 53 = .ok (.aload_n 0, 1) := by decide +kernel
theorem d_X2_init_54 : decode (am_cc M_X2_init) 54 = .ok (.iconst 0, 1) := by decide +kernel
theorem d_X2_init_55 : decode (am_cc M_X2_init) 55 = .ok (.putfield 34, 3) := by decide +kernel
theorem d_X2_init_58 : decode (am_cc M_X2_init) 58 = .ok (.return_, 1) := by decide +kernel
theorem d_X3_init_0 : decode (am_cc M_X3_init) 0 = .ok (.aload_n 0, 1) := by decide +kernel
theorem d_X3_init_1 : decode (am_cc M_X3_init) 1 = .ok (.invokespecial 3, 3) := by decide +kernel
theorem d_X3_init_4 : decode (am_cc M_X3_init) 4 = .ok (.aload_n 0, 1) := by decide +kernel
theorem d_X3_init_5 : decode (am_cc M_X3_init) 5 = .ok (.sipush 19092, 3) := by decide +kernel
theorem d_X3_init_8 : decode (am_cc M_X3_init) 8 = .ok (.newarray .boolean, 2) := by decide +kernel
theorem d_X3_init_10 : decode (am_cc M_X3_init) 10 = .ok (.putfield 9, 3) := by decide +kernel
theorem d_X3_init_13 : decode (am_cc M_X3_init) 13 = .ok (.aload_n 0, 1) := by decide +kernel
theorem d_X3_init_14 : decode (am_cc M_X3_init) 14 = .ok (.iconst 0, 1) := by decide +kernel
theorem d_X3_init_15 : decode (am_cc M_X3_init) 15 = .ok (.putfield 15, 3) := by decide +kernel
theorem d_X3_init_18 : decode (am_cc M_X3_init) 18 = .ok (.aload_n 0, 1) := by decide +kernel
theorem d_X3_init_19 : decode (am_cc M_X3_init) 19 = .ok (.iconst 0, 1) := by decide +kernel
theorem d_X3_init_20 : decode (am_cc M_X3_init) 20 = .ok (.putfield 19, 3) := by decide +kernel
theorem d_X3_init_23 : decode (am_cc M_X3_init) 23 = .ok (.return_, 1) := by decide +kernel
theorem d_X4_init_0 : decode (am_cc M_X4_init) 0 = .ok (.aload_n 0, 1) := by decide +kernel
theorem d_X4_init_1 : decode (am_cc M_X4_init) 1 = .ok (.invokespecial 3, 3) := by decide +kernel
theorem d_X4_init_4 : decode (am_cc M_X4_init) 4 = .ok (.aload_n 0, 1) := by decide +kernel
theorem d_X4_init_5 : decode (am_cc M_X4_init) 5 = .ok (.new 9, 3) := by decide +kernel
theorem d_X4_init_8 : decode (am_cc M_X4_init) 8 = .ok (.dup, 1) := by decide +kernel
theorem d_X4_init_9 : decode (am_cc M_X4_init) 9 = .ok (.invokespecial 11, 3) := by decide +kernel
theorem d_X4_init_12 : decode (am_cc M_X4_init) 12 = .ok (.putfield 12, 3) := by decide +kernel
theorem d_X4_init_15 : decode (am_cc M_X4_init) 15 = .ok (.return_, 1) := by decide +kernel
theorem d_X5_init_0 : decode (am_cc M_X5_init) 0 = .ok (.aload_n 0, 1) := by decide +kernel
theorem d_X5_init_1 : decode (am_cc M_X5_init) 1 = .ok (.invokespecial 3, 3) := by decide +kernel
theorem d_X5_init_4 : decode (am_cc M_X5_init) 4 = .ok (.aload_n 0, 1) := by decide +kernel
theorem d_X5_init_5 : decode (am_cc M_X5_init) 5 = .ok (.iconst 2, 1) := by decide +kernel
theorem d_X5_init_6 : decode (am_cc M_X5_init) 6 = .ok (.anewarray 9, 3) := by decide +kernel
theorem d_X5_init_9 : decode (am_cc M_X5_init) 9 = .ok (.dup, 1) := by decide +kernel
theorem d_X5_init_10 : decode (am_cc M_X5_init) 10 = .ok (.iconst 0, 1) := by decide +kernel
theorem d_X5_init_11 : decode (am_cc M_X5_init) 11 = .ok (.new 9, 3) := by decide +kernel
theorem d_X5_init_14 : decode (am_cc M_X5_init) 14 = .ok (.dup, 1) := by decide +kernel
theorem d_X5_init_15 : decode (am_cc M_X5_init) 15 = .ok (.invokespecial 11, 3) := by decide +kernel
theorem d_X5_init_18 : decode (am_cc M_X5_init) 18 = .ok (.aastore, 1) := by decide +kernel
theorem d_X5_init_19 : decode (am_cc M_X5_init) 19 = .ok (.dup, 1) := by decide +kernel
theorem d_X5_init_20 : decode (am_cc M_X5_init) 20 = .ok (.iconst 1, 1) := by decide +kernel
theorem d_X5_init_21 : decode (am_cc M_X5_init) 21 = .ok (.new 9, 3) := by decide +kernel
theorem d_X5_init_24 : decode (am_cc M_X5_init) 24 = .ok (.dup, 1) := by decide +kernel
theorem d_X5_init_25 : decode (am_cc M_X5_init) 25 = .ok (.invokespecial 11, 3) := by decide +kernel
theorem d_X5_init_28 : decode (am_cc M_X5_init) 28 = .ok (.aastore, 1) := by decide +kernel
theorem d_X5_init_29 : decode (am_cc M_X5_init) 29 = .ok (.putfield 12, 3) := by decide +kernel
theorem d_X5_init_32 : decode (am_cc M_X5_init) 32 = .ok (.aload_n 0, 1) := by decide +kernel
theorem d_X5_init_33 : decode (am_cc M_X5_init) 33 = .ok (.iconst 2, 1) := by decide +kernel
theorem d_X5_init_34 : decode (am_cc M_X5_init) 34 = .ok (.newarray .boolean, 2) := by decide +kernel
theorem d_X5_init_36 : decode (am_cc M_X5_init) 36 = .ok (.putfield 18, 3) := by decide +kernel
theorem d_X5_init_39 : decode (am_cc M_X5_init) 39 = .ok (.return_, 1) := by decide +kernel
theorem d_X6_init_0 : decode (am_cc M_X6_init) 0 = .ok (.aload_n 0, 1) := by decide +kernel
theorem d_X6_init_1 : decode (am_cc M_X6_init) 1 = .ok (.invokespecial 3, 3) := by decide +kernel
theorem d_X6_init_4 : decode (am_cc M_X6_init) 4 = .ok (.aload_n 0, 1) := by decide +kernel
theorem d_X6_init_5 : decode (am_cc M_X6_init) 5 = .ok (.bipush 48, 2) := by decide +kernel
theorem d_X6_init_7 : decode (am_cc M_X6_init) 7 = .ok (.newarray .int, 2) := by decide +kernel
theorem d_X6_init_9 : decode (am_cc M_X6_init) 9 = .ok (.putfield 9, 3) := by decide +kernel
theorem d_X6_init_12 : decode (am_cc M_X6_init) 12 = .ok (.aload_n 0, 1) := by decide +kernel
theorem d_X6_init_13 : decode (am_cc M_X6_init) 13 = .ok (.iconst 4, 1) := by decide +kernel
theorem d_X6_init_14 : decode (am_cc M_X6_init) 14 = .ok (.newarray .int, 2) := by decide +kernel
theorem d_X6_init_16 : decode (am_cc M_X6_init) 16 = .ok (.dup, 1) := by decide +kernel
theorem d_X6_init_17 : decode (am_cc M_X6_init) 17 = .ok (.iconst 0, 1) := by decide +kernel
theorem d_X6_init_18 : decode (am_cc M_X6_init) 18 = .ok (.bipush 16, 2) := by decide +kernel
theorem d_X6_init_20 : decode (am_cc M_X6_init) 20 = .ok (.iastore, 1) := by decide +kernel
theorem d_X6_init_21 : decode (am_cc M_X6_init) 21 = .ok (.dup, 1) := by decide +kernel
theorem d_X6_init_22 : decode (am_cc M_X6_init) 22 = .ok (.iconst 1, 1) := by decide +kernel
theorem d_X6_init_23 : decode (am_cc M_X6_init) 23 = .ok (.iconst 0, 1) := by decide +kernel
theorem d_X6_init_24 : decode (am_cc M_X6_init) 24 = .ok (.iastore, 1) := by decide +kernel
theorem d_X6_init_25 : decode (am_cc M_X6_init) 25 = .ok (.dup, 1) := by decide +kernel
theorem d_X6_init_26 : decode (am_cc M_X6_init) 26 = .ok (.iconst 2, 1) := by decide +kernel
theorem d_X6_init_27 : decode (am_cc M_X6_init) 27 = .ok (.iconst 0, 1) := by decide +kernel
theorem d_X6_init_28 : decode (am_cc M_X6_init) 28 = .ok (.iastore, 1) := by decide +kernel
theorem d_X6_init_29 : decode (am_cc M_X6_init) 29 = .ok (.dup, 1) := by decide +kernel
theorem d_X6_init_30 : decode (am_cc M_X6_init) 30 = .ok (.iconst 3, 1) := by decide +kernel
theorem d_X6_init_31 : decode (am_cc M_X6_init) 31 = .ok (.iconst 0, 1) := by decide +kernel
theorem d_X6_init_32 : decode (am_cc M_X6_init) 32 = .ok (.iastore, 1) := by decide +kernel
theorem d_X6_init_33 : decode (am_cc M_X6_init) 33 = .ok (.putfield 15, 3) := by decide +kernel
theorem d_X6_init_36 : decode (am_cc M_X6_init) 36 = .ok (.aload_n 0, 1) := by decide +kernel
theorem d_X6_init_37 : decode (am_cc M_X6_init) 37 = .ok (.new 18, 3) := by decide +kernel
theorem d_X6_init_40 : decode (am_cc M_X6_init) 40 = .ok (.dup, 1) := by decide +kernel
theorem d_X6_init_41 : decode (am_cc M_X6_init) 41 = .ok (.invokespecial 20, 3) := by decide +kernel
theorem d_X6_init_44 : decode (am_cc M_X6_init) 44 = .ok (.putfield 21, 3) := by decide +kernel
theorem d_X6_init_47 : decode (am_cc M_X6_init) 47 = .ok (.aload_n 0, 1) := by decide +kernel
theorem d_X6_init_48 : decode (am_cc M_X6_init) 48 = .ok (.iconst 0, 1) := by decide +kernel
theorem d_X6_init_49 : decode (am_cc M_X6_init) 49 = .ok (.putfield 25, 3) := by decide +kernel
theorem d_X6_init_52 : decode (am_cc M_X6_init) 52 = .ok (.aload_n 0, 1) := by decide +kernel
theorem d_X6_init_53 : decode (am_cc M_X6_init) 53 = .ok (.iconst 4, 1) := by decide +kernel
theorem d_X6_init_54 : decode (am_cc M_X6_init) 54 = .ok (.putfield 29, 3) := by decide +kernel
theorem d_X6_init_57 : decode (am_cc M_X6_init) 57 = .ok (.aload_n 0, 1) := by decide +kernel
theorem d_X6_init_58 : decode (am_cc M_X6_init) 58 = .ok (.iconst 1, 1) := by decide +kernel
theorem d_X6_init_59 : decode (am_cc M_X6_init) 59 = .ok (.putfield 32, 3) := by decide +kernel
theorem d_X6_init_62 : decode (am_cc M_X6_init) 62 = .ok (.aload_n 0, 1) := by decide +kernel
theorem d_X6_init_63 : decode (am_cc M_X6_init) 63 = .ok (.bipush 31, 2) := by decide +kernel
theorem d_X6_init_65 : decode (am_cc M_X6_init) 65 = .ok (.putfield 35, 3) := by decide +kernel
theorem d_X6_init_68 : decode (am_cc M_X6_init) 68 = .ok (.aload_n 0, 1) := by decide +kernel
theorem d_X6_init_69 : decode (am_cc M_X6_init) 69 = .ok (.iconst 0, 1) := by decide +kernel
theorem d_X6_init_70 : decode (am_cc M_X6_init) 70 = .ok (.putfield 38, 3) := by decide +kernel
theorem d_X6_init_73 : decode (am_cc M_X6_init) 73 = .ok (.return_, 1) := by decide +kernel
theorem d_X7_init_0 : decode (am_cc M_X7_init) 0 = .ok (.aload_n 0, 1) := by decide +kernel
theorem d_X7_init_1 : decode (am_cc M_X7_init) 1 = .ok (.invokespecial 3, 3) := by decide +kernel
theorem d_X7_init_4 : decode (am_cc M_X7_init) 4 = .ok (.aload_n 0, 1) := by decide +kernel
theorem d_X7_init_5 : decode (am_cc M_X7_init) 5 = .ok (.new 9, 3) := by decide +kernel
theorem d_X7_init_8 : decode (am_cc M_X7_init) 8 = .ok (.dup, 1) := by decide +kernel
theorem d_X7_init_9 : decode (am_cc M_X7_init) 9 = .ok (.invokespecial 11, 3) := by decide +kernel
theorem d_X7_init_12 : decode (am_cc M_X7_init) 12 = .ok (.putfield 12, 3) := by decide +kernel
theorem d_X7_init_15 : decode (am_cc M_X7_init) 15 = .ok (.aload_n 0, 1) := by decide +kernel
theorem d_X7_init_16 : decode (am_cc M_X7_init) 16 = .ok (.new 18, 3) := by decide +kernel
theorem d_X7_init_19 : decode (am_cc M_X7_init) 19 = .ok (.dup, 1) := by decide +kernel
theorem d_X7_init_20 : decode (am_cc M_X7_init) 20 = .ok (.invokespecial 20, 3) := by decide +kernel
theorem d_X7_init_23 : decode (am_cc M_X7_init) 23 = .ok (.putfield 21, 3) := by decide +kernel
theorem d_X7_init_26 : decode (am_cc M_X7_init) 26 = .ok (.aload_n 0, 1) := by decide +kernel
theorem d_X7_init_27 : decode (am_cc M_X7_init) 27 = .ok (.iconst 4, 1) := by decide +kernel
theorem d_X7_init_28 : decode (am_cc M_X7_init) 28 = .ok (.newarray .int, 2) := by decide +kernel
theorem d_X7_init_30 : decode (am_cc M_X7_init) 30 = .ok (.putfield 25, 3) := by decide +kernel
theorem d_X7_init_33 : decode (am_cc M_X7_init) 33 = .ok (.aload_n 0, 1) := by decide +kernel
theorem d_X7_init_34 : decode (am_cc M_X7_init) 34 = .ok (.iconst 5, 1) := by decide +kernel
theorem d_X7_init_35 : decode (am_cc M_X7_init) 35 = .ok (.bipush 49, 2) := by decide +kernel
theorem d_X7_init_37 : decode (am_cc M_X7_init) 37 = .ok (.multianewarray 29 2, 4) := by decide +kernel
theorem d_X7_init_41 : decode (am_cc M_X7_init) 41 = .ok (.putfield 31, 3) := by decide +kernel
theorem d_X7_init_44 : decode (am_cc M_X7_init) 44 = .ok (.aload_n 0, 1) := by decide +kernel
theorem d_X7_init_45 : decode (am_cc M_X7_init) 45 = .ok (.iconst 4, 1) := by decide +kernel
theorem d_X7_init_46 : decode (am_cc M_X7_init) 46 = .ok (.bipush 49, 2) := by decide +kernel
theorem d_X7_init_48 : decode (am_cc M_X7_init) 48 = .ok (.multianewarray 29 2, 4) := by decide +kernel
theorem d_X7_init_52 : decode (am_cc M_X7_init) 52 = .ok (.putfield 34, 3) := by decide +kernel
theorem d_X7_init_55 : decode (am_cc M_X7_init) 55 = .ok (.aload_n 0, 1) := by decide +kernel
theorem d_X7_init_56 : decode (am_cc M_X7_init) 56 = .ok (.iconst 5, 1) := by decide +kernel
theorem d_X7_init_57 : decode (am_cc M_X7_init) 57 = .ok (.bipush 6, 2) := by decide +kernel
theorem d_X7_init_59 : decode (am_cc M_X7_init) 59 = .ok (.multianewarray 29 2, 4) := by decide +kernel
theorem d_X7_init_63 : decode (am_cc M_X7_init) 63 = .ok (.putfield 37, 3) := by decide +kernel
theorem d_X7_init_66 : decode (am_cc M_X7_init) 66 = .ok (.aload_n 0, 1) := by decide +kernel
theorem d_X7_init_67 : decode (am_cc M_X7_init) 67 = .ok (.iconst 5, 1) := by decide +kernel
theorem d_X7_init_68 : decode (am_cc M_X7_init) 68 = .ok (.bipush 6, 2) := by decide +kernel
theorem d_X7_init_70 : decode (am_cc M_X7_init) 70 = .ok (.multianewarray 29 2, 4) := by decide +kernel
theorem d_X7_init_74 : decode (am_cc M_X7_init) 74 = .ok (.putfield 40, 3) := by decide +kernel
theorem d_X7_init_77 : decode (am_cc M_X7_init) 77 = .ok (.return_, 1) := by decide +kernel
theorem d_X8_init_0 : decode (am_cc M_X8_init) 0 = .ok (.aload_n 0, 1) := by decide +kernel
theorem d_X8_init_1 : decode (am_cc M_X8_init) 1 = .ok (.invokespecial 3, 3) := by decide +kernel
theorem d_X8_init_4 : decode (am_cc M_X8_init) 4 = .ok (.aload_n 0, 1) := by decide +kernel
theorem d_X8_init_5 : decode (am_cc M_X8_init) 5 = .ok (.bipush 80, 2) := by decide +kernel
theorem d_X8_init_7 : decode (am_cc M_X8_init) 7 = .ok (.newarray .int, 2) := by decide +kernel
theorem d_X8_init_9 : decode (am_cc M_X8_init) 9 = .ok (.putfield 9, 3) := by decide +kernel
theorem d_X8_init_12 : decode (am_cc M_X8_init) 12 = .ok (.aload_n 0, 1) := by decide +kernel
theorem d_X8_init_13 : decode (am_cc M_X8_init) 13 = .ok (.iconst 0, 1) := by decide +kernel
theorem d_X8_init_14 : decode (am_cc M_X8_init) 14 = .ok (.putfield 15, 3) := by decide +kernel
theorem d_X8_init_17 : decode (am_cc M_X8_init) 17 = .ok (.aload_n 0, 1) := by decide +kernel
theorem d_X8_init_18 : decode (am_cc M_X8_init) 18 = .ok (.iconst 0, 1) := by decide +kernel
theorem d_X8_init_19 : decode (am_cc M_X8_init) 19 = .ok (.putfield 19, 3) := by decide +kernel
theorem d_X8_init_22 : decode (am_cc M_X8_init) 22 = .ok (.aload_n 0, 1) := by decide +kernel
theorem d_X8_init_23 : decode (am_cc M_X8_init) 23 = .ok (.iconst 0, 1) := by decide +kernel
theorem d_X8_init_24 : decode (am_cc M_X8_init) 24 = .ok (.putfield 22, 3) := by decide +kernel
theorem d_X8_init_27 : decode (am_cc M_X8_init) 27 = .ok (.aload_n 0, 1) := by decide +kernel
theorem d_X8_init_28 : decode (am_cc M_X8_init) 28 = .ok (.iconst 0, 1) := by decide +kernel
theorem d_X8_init_29 : decode (am_cc M_X8_init) 29 = .ok (.putfield 25, 3) := by decide +kernel
theorem d_X8_init_32 : decode (am_cc M_X8_init) 32 = .ok (.aload_n 0, 1) := by decide +kernel
theorem d_X8_init_33 : decode (am_cc M_X8_init) 33 = .ok (.iconst 0, 1) := by decide +kernel
theorem d_X8_init_34 : decode (am_cc M_X8_init) 34 = .ok (.putfield 28, 3) := by decide +kernel
theorem d_X8_init_37 : decode (am_cc M_X8_init) 37 = .ok (.return_, 1) := by decide +kernel
theorem d_X9_init_0 : decode (am_cc M_X9_init) 0 = .ok (.aload_n 0, 1) := by decide +kernel
theorem d_X9_init_1 : decode (am_cc M_X9_init) 1 = .ok (.invokespecial 3, 3) := by decide +kernel
theorem d_X9_init_4 : decode (am_cc M_X9_init) 4 = .ok (.aload_n 0, 1) := by decide +kernel
theorem d_X9_init_5 : decode (am_cc M_X9_init) 5 = .ok (.new 9, 3) := by decide +kernel
theorem d_X9_init_8 : decode (am_cc M_X9_init) 8 = .ok (.dup, 1) := by decide +kernel
theorem d_X9_init_9 : decode (am_cc M_X9_init) 9 = .ok (.invokespecial 11, 3) := by decide +kernel
theorem d_X9_init_12 : decode (am_cc M_X9_init) 12 = .ok (.putfield 12, 3) := by decide +kernel
theorem d_X9_init_15 : decode (am_cc M_X9_init) 15 = .ok (.aload_n 0, 1) := by decide +kernel
theorem d_X9_init_16 : decode (am_cc M_X9_init) 16 = .ok (.aload_n 0, 1) := by decide +kernel
theorem d_X9_init_17 : decode (am_cc M_X9_init) 17 = .ok (.getfield 12, 3) := by decide +kernel
theorem d_X9_init_20 : decode (am_cc M_X9_init) 20 = .ok (.getfield 16, 3) := by decide +kernel
theorem d_X9_init_23 : decode (am_cc M_X9_init) 23 = .ok (.putfield 20, 3) := by decide +kernel
theorem d_X9_init_26 : decode (am_cc M_X9_init) 26 = .ok (.aload_n 0, 1) := by decide +kernel
theorem d_X9_init_27 : decode (am_cc M_X9_init) 27 = .ok (.new 23, 3) := by decide +kernel
theorem d_X9_init_30 : decode (am_cc M_X9_init) 30 = .ok (.dup, 1) := by decide +kernel
theorem d_X9_init_31 : decode (am_cc M_X9_init) 31 = .ok (.invokespecial 25, 3) := by decide +kernel
theorem d_X9_init_34 : decode (am_cc M_X9_init) 34 = .ok (.putfield 26, 3) := by decide +kernel
theorem d_X9_init_37 : decode (am_cc M_X9_init) 37 = .ok (.aload_n 0, 1) := by decide +kernel
theorem d_X9_init_38 : decode (am_cc M_X9_init) 38 = .ok (.new 30, 3) := by decide +kernel
theorem d_X9_init_41 : decode (am_cc M_X9_init) 41 = .ok (.dup, 1) := by decide +kernel
theorem d_X9_init_42 : decode (am_cc M_X9_init) 42 = .ok (.invokespecial 32, 3) := by decide +kernel
theorem d_X9_init_45 : decode (am_cc M_X9_init) 45 = .ok (.putfield 33, 3) := by decide +kernel
theorem d_X9_init_48 : decode (am_cc M_X9_init) 48 = .ok (.aload_n 0, 1) := by decide +kernel
theorem d_X9_init_49 : decode (am_cc M_X9_init) 49 = .ok (.new 37, 3) := by decide +kernel
theorem d_X9_init_52 : decode (am_cc M_X9_init) 52 = .ok (.dup, 1) := by decide +kernel
theorem d_X9_init_53 : decode (am_cc M_X9_init) 53 = .ok (.invokespecial 39, 3) := by decide +kernel
theorem d_X9_init_56 : decode (am_cc M_X9_init) 56 = .ok (.putfield 40, 3) := by decide +kernel
theorem d_X9_init_59 : decode (am_cc M_X9_init) 59 = .ok (.aload_n 0, 1) := by decide +kernel
theorem d_X9_init_60 : decode (am_cc M_X9_init) 60 = .ok (.new 44, 3) := by decide +kernel
theorem d_X9_init_63 : decode (am_cc M_X9_init) 63 = .ok (.dup, 1) := by decide +kernel
theorem d_X9_init_64 : decode (am_cc M_X9_init) 64 = .ok (.invokespecial 46, 3) := by decide +kernel
theorem d_X9_init_67 : decode (am_cc M_X9_init) 67 = .ok (.putfield 47, 3) := by decide +kernel
theorem d_X9_init_70 : decode (am_cc M_X9_init) 70 = .ok (.aload_n 0, 1) := by decide +kernel
theorem d_X9_init_71 : decode (am_cc M_X9_init) 71 = .ok (.new 51, 3) := by decide +kernel
theorem d_X9_init_74 : decode (am_cc M_X9_init) 74 = .ok (.dup, 1) := by decide +kernel
theorem d_X9_init_75 : decode (am_cc M_X9_init) 75 = .ok (.invokespecial 53, 3) := by decide +kernel
theorem d_X9_init_78 : decode (am_cc M_X9_init) 78 = .ok (.putfield 54, 3) := by decide +kernel
theorem d_X9_init_81 : decode (am_cc M_X9_init) 81 = .ok (.return_, 1) := by decide +kernel
theorem d_X10_init_0 : decode (am_cc M_X10_init) 0 = .ok (.aload_n 0, 1) := by decide +kernel
theorem d_X10_init_1 : decode (am_cc M_X10_init) 1 = .ok (.invokespecial 1, 3) := by decide +kernel
theorem d_X10_init_4 : decode (am_cc M_X10_init) 4 = .ok (.aload_n 0, 1) := by decide +kernel
theorem d_X10_init_5 : decode (am_cc M_X10_init) 5 = .ok (.sipush 172, 3) := by decide +kernel
theorem d_X10_init_8 : decode (am_cc M_X10_init) 8 = .ok (.newarray .int, 2) := by decide +kernel
theorem d_X10_init_10 : decode (am_cc M_X10_init) 10 = .ok (.putfield 7, 3) := by decide +kernel
theorem d_X10_init_13 : decode (am_cc M_X10_init) 13 = .ok (.aload_n 0, 1) := by decide +kernel
theorem d_X10_init_14 : decode (am_cc M_X10_init) 14 = .ok (.sipush 1032, 3) := by decide +kernel
theorem d_X10_init_17 : decode (am_cc M_X10_init) 17 = .ok (.newarray .int, 2) := by decide +kernel
theorem d_X10_init_19 : decode (am_cc M_X10_init) 19 = .ok (.putfield 13, 3) := by decide +kernel
theorem d_X10_init_22 : decode (am_cc M_X10_init) 22 = .ok (.aload_n 0, 1) := by decide +kernel
theorem d_X10_init_23 : decode (am_cc M_X10_init) 23 = .ok (.sipush 344, 3) := by decide +kernel
theorem d_X10_init_26 : decode (am_cc M_X10_init) 26 = .ok (.newarray .int, 2) := by decide +kernel
theorem d_X10_init_28 : decode (am_cc M_X10_init) 28 = .ok (.putfield 16, 3) := by decide +kernel
theorem d_X10_init_31 : decode (am_cc M_X10_init) 31 = .ok (.aload_n 0, 1) := by decide +kernel
theorem d_X10_init_32 : decode (am_cc M_X10_init) 32 = .ok (.iconst 2, 1) := by decide +kernel
theorem d_X10_init_33 : decode (am_cc M_X10_init) 33 = .ok (.newarray .int, 2) := by decide +kernel
theorem d_X10_init_35 : decode (am_cc M_X10_init) 35 = .ok (.putfield 19, 3) := by decide +kernel
theorem d_X10_init_38 : decode (am_cc M_X10_init) 38 = .ok (.aload_n 0, 1) := by decide +kernel
theorem d_X10_init_39 : decode (am_cc M_X10_init) 39 = .ok (.iconst 4, 1) := by decide +kernel
theorem d_X10_init_40 : decode (am_cc M_X10_init) 40 = .ok (.newarray .int, 2) := by decide +kernel
theorem d_X10_init_42 : decode (am_cc M_X10_init) 42 = .ok (.putfield 22, 3) := by decide +kernel
theorem d_X10_init_45 : decode (am_cc M_X10_init) 45 = .ok (.aload_n 0, 1) := by decide +kernel
theorem d_X10_init_46 : decode (am_cc M_X10_init) 46 = .ok (.bipush 48, 2) := by decide +kernel
theorem d_X10_init_48 : decode (am_cc M_X10_init) 48 = .ok (.newarray .int, 2) := by decide +kernel
theorem d_X10_init_50 : decode (am_cc M_X10_init) 50 = .ok (.putfield 25, 3) := by decide +kernel
theorem d_X10_init_53 : decode (am_cc M_X10_init) 53 = .ok (.aload_n 0, 1) := by decide +kernel
theorem d_X10_init_54 : decode (am_cc M_X10_init) 54 = .ok (.bipush 48, 2) := by decide +kernel
theorem d_X10_init_56 : decode (am_cc M_X10_init) 56 = .ok (.newarray .int, 2) := by decide +kernel
theorem d_X10_init_58 : decode (am_cc M_X10_init) 58 = .ok (.putfield 28, 3) := by decide +kernel
theorem d_X10_init_61 : decode (am_cc M_X10_init) 61 = .ok (.aload_n 0, 1) := by decide +kernel
theorem d_X10_init_62 : decode (am_cc M_X10_init) 62 = .ok (.bipush 80, 2) := by decide +kernel
theorem d_X10_init_64 : decode (am_cc M_X10_init) 64 = .ok (.newarray .char, 2) := by decide +kernel
theorem d_X10_init_66 : decode (am_cc M_X10_init) 66 = .ok (.putfield 31, 3) := by decide +kernel
theorem d_X10_init_69 : decode (am_cc M_X10_init) 69 = .ok (.aload_n 0, 1) := by decide +kernel
theorem d_X10_init_70 : decode (am_cc M_X10_init) 70 = .ok (.bipush 123, 2) := by decide +kernel
theorem d_X10_init_72 : decode (am_cc M_X10_init) 72 = .ok (.newarray .int, 2) := by decide +kernel
theorem d_X10_init_74 : decode (am_cc M_X10_init) 74 = .ok (.putfield 35, 3) := by decide +kernel
theorem d_X10_init_77 : decode (am_cc M_X10_init) 77 = .ok (.aload_n 0, 1) := by decide +kernel
theorem d_X10_init_78 : decode (am_cc M_X10_init) 78 = .ok (.getfield 7, 3) := by decide +kernel
theorem d_X10_init_81 : decode (am_cc M_X10_init) 81 = .ok (.bipush 49, 2) := by decide +kernel
theorem d_X10_init_83 : decode (am_cc M_X10_init) 83 = .ok (.iconst 4, 1) := by decide +kernel
theorem d_X10_init_84 : decode (am_cc M_X10_init) 84 = .ok (.iastore, 1) := by decide +kernel
theorem d_X10_init_85 : decode (am_cc M_X10_init) 85 = .ok (.aload_n 0, 1) := by decide +kernel
theorem d_X10_init_86 : decode (am_cc M_X10_init) 86 = .ok (.getfield 7, 3) := by decide +kernel
theorem d_X10_init_89 : decode (am_cc M_X10_init) 89 = .ok (.bipush 50, 2) := by decide +kernel
theorem d_X10_init_91 : decode (am_cc M_X10_init) 91 = .ok (.iconst 1, 1) := by decide +kernel
theorem d_X10_init_92 : decode (am_cc M_X10_init) 92 = .ok (.iastore, 1) := by decide +kernel
theorem d_X10_init_93 : decode (am_cc M_X10_init) 93 = .ok (.aload_n 0, 1) := by decide +kernel
theorem d_X10_init_94 : decode (am_cc M_X10_init) 94 = .ok (.getfield 7, 3) := by decide +kernel
theorem d_X10_init_97 : decode (am_cc M_X10_init) 97 = .ok (.bipush 51, 2) := by decide +kernel
theorem d_X10_init_99 : decode (am_cc M_X10_init) 99 = .ok (.bipush 16, 2) := by decide +kernel
theorem d_X10_init_101 : decode (am_cc M_X10_init) 101 = .ok (.iastore, 1) := by decide +kernel
theorem d_X10_init_102 : decode (am_cc M_X10_init) 102 = .ok (.aload_n 0, 1) := by decide +kernel
theorem d_X10_init_103 : decode (am_cc M_X10_init) 103 = .ok (.getfield 7, 3) := by decide +kernel
theorem d_X10_init_106 : decode (am_cc M_X10_init) 106 = .ok (.bipush 55, 2) := by decide +kernel
theorem d_X10_init_108 : decode (am_cc M_X10_init) 108 = .ok (.bipush 31, 2) := by decide +kernel
theorem d_X10_init_110 : decode (am_cc M_X10_init) 110 = .ok (.iastore, 1) := by decide +kernel
theorem d_X10_init_111 : decode (am_cc M_X10_init) 111 = .ok (.return_, 1) := by decide +kernel
theorem gw_92 : Cond.methodLink "CaveEchoes" 3 Lib.objectInit ∈ am_GT := am_gt 92 (by decide +kernel) (by decide +kernel)
theorem gw_95 : Cond.classLink "CaveEchoes" 9 "CaveEchoes$Study" ∈ am_GT := am_gt 95 (by decide +kernel) (by decide +kernel)
theorem gw_96 : Cond.instantiable "CaveEchoes$Study" 7 ∈ am_GT := am_gt 96 (by decide +kernel) (by decide +kernel)
theorem gw_68 : Cond.initialized "CaveEchoes$Study" ∈ am_GT := am_gt 68 (by decide +kernel) (by decide +kernel)
theorem gw_100 : Cond.methodLink "CaveEchoes$Study" 3 Lib.objectInit ∈ am_GT := am_gt 100 (by decide +kernel) (by decide +kernel)
theorem gw_101 : Cond.classLink "CaveEchoes$Study" 9 "CaveEchoes$State" ∈ am_GT := am_gt 101 (by decide +kernel) (by decide +kernel)
theorem gw_102 : Cond.instantiable "CaveEchoes$State" 8 ∈ am_GT := am_gt 102 (by decide +kernel) (by decide +kernel)
theorem gw_69 : Cond.initialized "CaveEchoes$State" ∈ am_GT := am_gt 69 (by decide +kernel) (by decide +kernel)
theorem gw_106 : Cond.methodLink "CaveEchoes$State" 3 Lib.objectInit ∈ am_GT := am_gt 106 (by decide +kernel) (by decide +kernel)
theorem gw_158 : Cond.fieldLink "CaveEchoes$State" 9 "CaveEchoes$State" "sound" "[I" ∈ am_GT := am_gt 158 (by decide +kernel) (by decide +kernel)
theorem gw_161 : Cond.fieldLink "CaveEchoes$State" 15 "CaveEchoes$State" "first" "[I" ∈ am_GT := am_gt 161 (by decide +kernel) (by decide +kernel)
theorem gw_107 : Cond.classLink "CaveEchoes$State" 18 "CaveEchoes$Letter" ∈ am_GT := am_gt 107 (by decide +kernel) (by decide +kernel)
theorem gw_108 : Cond.instantiable "CaveEchoes$Letter" 8 ∈ am_GT := am_gt 108 (by decide +kernel) (by decide +kernel)
theorem gw_70 : Cond.initialized "CaveEchoes$Letter" ∈ am_GT := am_gt 70 (by decide +kernel) (by decide +kernel)
theorem gw_112 : Cond.methodLink "CaveEchoes$Letter" 3 Lib.objectInit ∈ am_GT := am_gt 112 (by decide +kernel) (by decide +kernel)
theorem gw_113 : Cond.fieldLink "CaveEchoes$Letter" 9 "CaveEchoes$Letter" "first" "[I" ∈ am_GT := am_gt 113 (by decide +kernel) (by decide +kernel)
theorem gw_116 : Cond.fieldLink "CaveEchoes$Letter" 15 "CaveEchoes$Letter" "kinds" "[I" ∈ am_GT := am_gt 116 (by decide +kernel) (by decide +kernel)
theorem gw_120 : Cond.fieldLink "CaveEchoes$Letter" 18 "CaveEchoes$Letter" "parameters" "[I" ∈ am_GT := am_gt 120 (by decide +kernel) (by decide +kernel)
theorem gw_123 : Cond.fieldLink "CaveEchoes$Letter" 21 "CaveEchoes$Letter" "lefts" "[I" ∈ am_GT := am_gt 123 (by decide +kernel) (by decide +kernel)
theorem gw_127 : Cond.fieldLink "CaveEchoes$Letter" 24 "CaveEchoes$Letter" "sound" "[I" ∈ am_GT := am_gt 127 (by decide +kernel) (by decide +kernel)
theorem gw_130 : Cond.fieldLink "CaveEchoes$Letter" 27 "CaveEchoes$Letter" "count" "I" ∈ am_GT := am_gt 130 (by decide +kernel) (by decide +kernel)
theorem gw_134 : Cond.fieldLink "CaveEchoes$Letter" 31 "CaveEchoes$Letter" "delay" "I" ∈ am_GT := am_gt 134 (by decide +kernel) (by decide +kernel)
theorem gw_137 : Cond.fieldLink "CaveEchoes$Letter" 34 "CaveEchoes$Letter" "speed" "I" ∈ am_GT := am_gt 137 (by decide +kernel) (by decide +kernel)
theorem ci_X2_5 {hi : am_HI} {g : am_G} (hg : g.1 = some 6) (hz : hi 5 = fun _ => 0) (hr : g.2.1 5 = fun _ => none) : am_Cn M_X2_init (5, 112) [.ref 5] hi g (FINP 5 11 hi g) := by
  refine am_cn rfl (by decide) (Nat.le_of_ble_eq_true rfl) (fun Φ hΦ => ?_)
  show NP M_X2_init _ 0 [.ref 5] [] hi g Φ
  have iv := IV.st hg hz hr
  refine NP.aload_n (i := 0) d_X2_init_0 rfl rfl ?_
  refine NP.objInit d_X2_init_1 gw_112 (by decide) (by decide) ?_
  refine NP.aload_n (i := 0) d_X2_init_4 rfl rfl ?_
  refine NP.iconst (x := 4) d_X2_init_5 (by decide) ?_
  refine NP.newI (b := (4, 108)) (n := 6) (N := 4) d_X2_init_6 iv.1 rfl rfl (by decide) ?_
  have iw1 := iv.new
  generalize am_mkI hi 6 = h1 at iw1 ⊢
  generalize am_mk g 6 = g1 at iw1 ⊢
  have iv1 := iw1.done rfl rfl
  refine NP.putRF (ci := 2) (j := 0) (q := (RX2, TX2, 8)) d_X2_init_8 rfl (iv1.lt (by decide)) rfl (by decide) rfl rfl rfl rfl rfl (fun _ => rfl) (fun _ => rfl) gw_113 ?_
  have iv2 := iv1.putR 0 6
  generalize am_upr g1 5 0 6 = g2 at iv2 ⊢
  refine NP.aload_n (i := 0) d_X2_init_11 rfl rfl ?_
  refine NP.bipush (x := 6) d_X2_init_12 (by decide) ?_
  refine NP.newI (b := (3, 102)) (n := 7) (N := 6) d_X2_init_14 iv2.1 rfl rfl (by decide) ?_
  have iw3 := iv2.new
  generalize am_mkI h1 7 = h3 at iw3 ⊢
  generalize am_mk g2 7 = g3 at iw3 ⊢
  have iv3 := iw3.done rfl rfl
  refine NP.putRF (ci := 2) (j := 1) (q := (RX2, TX2, 8)) d_X2_init_16 rfl (iv3.lt (by decide)) rfl (by decide) rfl rfl rfl rfl rfl (fun _ => rfl) (fun _ => rfl) gw_116 ?_
  have iv4 := iv3.putR 1 7
  generalize am_upr g3 5 1 7 = g4 at iv4 ⊢
  refine NP.aload_n (i := 0) d_X2_init_19 rfl rfl ?_
  refine NP.bipush (x := 6) d_X2_init_20 (by decide) ?_
  refine NP.newI (b := (2, 96)) (n := 8) (N := 6) d_X2_init_22 iv4.1 rfl rfl (by decide) ?_
  have iw5 := iv4.new
  generalize am_mkI h3 8 = h5 at iw5 ⊢
  generalize am_mk g4 8 = g5 at iw5 ⊢
  have iv5 := iw5.done rfl rfl
  refine NP.putRF (ci := 2) (j := 2) (q := (RX2, TX2, 8)) d_X2_init_24 rfl (iv5.lt (by decide)) rfl (by decide) rfl rfl rfl rfl rfl (fun _ => rfl) (fun _ => rfl) gw_120 ?_
  have iv6 := iv5.putR 2 8
  generalize am_upr g5 5 2 8 = g6 at iv6 ⊢
  refine NP.aload_n (i := 0) d_X2_init_27 rfl rfl ?_
  refine NP.bipush (x := 48) d_X2_init_28 (by decide) ?_
  refine NP.newI (b := (1, 48)) (n := 9) (N := 48) d_X2_init_30 iv6.1 rfl rfl (by decide) ?_
  have iw7 := iv6.new
  generalize am_mkI h5 9 = h7 at iw7 ⊢
  generalize am_mk g6 9 = g7 at iw7 ⊢
  have iv7 := iw7.done rfl rfl
  refine NP.putRF (ci := 2) (j := 3) (q := (RX2, TX2, 8)) d_X2_init_32 rfl (iv7.lt (by decide)) rfl (by decide) rfl rfl rfl rfl rfl (fun _ => rfl) (fun _ => rfl) gw_123 ?_
  have iv8 := iv7.putR 3 9
  generalize am_upr g7 5 3 9 = g8 at iv8 ⊢
  refine NP.aload_n (i := 0) d_X2_init_35 rfl rfl ?_
  refine NP.bipush (x := 48) d_X2_init_36 (by decide) ?_
  refine NP.newI (b := (0, 0)) (n := 10) (N := 48) d_X2_init_38 iv8.1 rfl rfl (by decide) ?_
  have iw9 := iv8.new
  generalize am_mkI h7 10 = h9 at iw9 ⊢
  generalize am_mk g8 10 = g9 at iw9 ⊢
  have iv9 := iw9.done rfl rfl
  refine NP.putRF (ci := 2) (j := 4) (q := (RX2, TX2, 8)) d_X2_init_40 rfl (iv9.lt (by decide)) rfl (by decide) rfl rfl rfl rfl rfl (fun _ => rfl) (fun _ => rfl) gw_127 ?_
  have iv10 := iv9.putR 4 10
  generalize am_upr g9 5 4 10 = g10 at iv10 ⊢
  refine NP.aload_n (i := 0) d_X2_init_43 rfl rfl ?_
  refine NP.iconst (x := 0) d_X2_init_44 (by decide) ?_
  refine NP.putI (ci := 2) (j := 5) (q := (RX2, TX2, 8)) d_X2_init_45 rfl (iv10.lt (by decide)) rfl (by decide) rfl rfl gw_130 ?_
  have iv11 := iv10.putI 5 0
  generalize am_up h9 5 5 0 = h11 at iv11 ⊢
  refine NP.aload_n (i := 0) d_X2_init_48 rfl rfl ?_
  refine NP.iconst (x := 1) d_X2_init_49 (by decide) ?_
  refine NP.putI (ci := 2) (j := 6) (q := (RX2, TX2, 8)) d_X2_init_50 rfl (iv11.lt (by decide)) rfl (by decide) rfl rfl gw_134 ?_
  have iv12 := iv11.putI 6 1
  generalize am_up h11 5 6 1 = h12 at iv12 ⊢
  refine NP.aload_n (i := 0) d_X2_init_53 rfl rfl ?_
  refine NP.iconst (x := 0) d_X2_init_54 (by decide) ?_
  refine NP.putI (ci := 2) (j := 7) (q := (RX2, TX2, 8)) d_X2_init_55 rfl (iv12.lt (by decide)) rfl (by decide) rfl rfl gw_137 ?_
  have iv13 := iv12.putI 7 0
  generalize am_up h12 5 7 0 = h13 at iv13 ⊢
  exact NP.vret d_X2_init_58 rfl (hΦ _ _ (iv13.fin rfl hr_5))
theorem gw_109 : Cond.methodLinkNest "CaveEchoes$State" 20 yX2_init "CaveEchoes" ∈ am_NW := am_nw 109 (by decide +kernel) (by decide +kernel)
theorem gw_111 : Cond.code yX2_init prog_4_method_1_code 1 none ∈ am_GT := am_gt 111 (by decide +kernel) (by decide +kernel)
theorem gw_110 : Cond.instanceMethod yX2_init ∈ am_GT := am_gt 110 (by decide +kernel) (by decide +kernel)
theorem ki_X6_init_20 : am_csI M_X6_init 20 M_X2_init := ⟨by decide +kernel, rfl, rfl, gw_70, gw_111, gw_110, Or.inr gw_109⟩
theorem gw_164 : Cond.fieldLink "CaveEchoes$State" 21 "CaveEchoes$State" "letter" "LCaveEchoes$Letter;" ∈ am_GT := am_gt 164 (by decide +kernel) (by decide +kernel)
theorem gw_166 : Cond.fieldLink "CaveEchoes$State" 25 "CaveEchoes$State" "count" "I" ∈ am_GT := am_gt 166 (by decide +kernel) (by decide +kernel)
theorem gw_169 : Cond.fieldLink "CaveEchoes$State" 29 "CaveEchoes$State" "delay" "I" ∈ am_GT := am_gt 169 (by decide +kernel) (by decide +kernel)
theorem gw_172 : Cond.fieldLink "CaveEchoes$State" 32 "CaveEchoes$State" "speed" "I" ∈ am_GT := am_gt 172 (by decide +kernel) (by decide +kernel)
theorem gw_175 : Cond.fieldLink "CaveEchoes$State" 35 "CaveEchoes$State" "allowedKinds" "I" ∈ am_GT := am_gt 175 (by decide +kernel) (by decide +kernel)
theorem gw_177 : Cond.fieldLink "CaveEchoes$State" 38 "CaveEchoes$State" "lettersSent" "I" ∈ am_GT := am_gt 177 (by decide +kernel) (by decide +kernel)
theorem ci_X6_2 {hi : am_HI} {g : am_G} (hg : g.1 = some 3) (hz : hi 2 = fun _ => 0) (hr : g.2.1 2 = fun _ => none) : am_Cn M_X6_init (8, 172) [.ref 2] hi g (FINP 2 11 hi g) := by
  refine am_cn rfl (by decide) (Nat.le_of_ble_eq_true rfl) (fun Φ hΦ => ?_)
  show NP M_X6_init _ 0 [.ref 2] [] hi g Φ
  have iv := IV.st hg hz hr
  refine NP.aload_n (i := 0) d_X6_init_0 rfl rfl ?_
  refine NP.objInit d_X6_init_1 gw_106 (by decide) (by decide) ?_
  refine NP.aload_n (i := 0) d_X6_init_4 rfl rfl ?_
  refine NP.bipush (x := 48) d_X6_init_5 (by decide) ?_
  refine NP.newI (b := (7, 124)) (n := 3) (N := 48) d_X6_init_7 iv.1 rfl rfl (by decide) ?_
  have iw1 := iv.new
  generalize am_mkI hi 3 = h1 at iw1 ⊢
  generalize am_mk g 3 = g1 at iw1 ⊢
  have iv1 := iw1.done rfl rfl
  refine NP.putRF (ci := 6) (j := 0) (q := (RX6, TX6, 8)) d_X6_init_9 rfl (iv1.lt (by decide)) rfl (by decide) rfl rfl rfl rfl rfl (fun _ => rfl) (fun _ => rfl) gw_158 ?_
  have iv2 := iv1.putR 0 3
  generalize am_upr g1 2 0 3 = g2 at iv2 ⊢
  refine NP.aload_n (i := 0) d_X6_init_12 rfl rfl ?_
  refine NP.iconst (x := 4) d_X6_init_13 (by decide) ?_
  refine NP.newI (b := (6, 120)) (n := 4) (N := 4) d_X6_init_14 iv2.1 rfl rfl (by decide) ?_
  have iw3 := iv2.new
  generalize am_mkI h1 4 = h3 at iw3 ⊢
  generalize am_mk g2 4 = g3 at iw3 ⊢
  refine NP.dup d_X6_init_16 rfl ?_
  refine NP.iconst (x := 0) d_X6_init_17 (by decide) ?_
  refine NP.bipush (x := 16) d_X6_init_18 (by decide) ?_
  refine NP.iast (n := 4) (j := 0) d_X6_init_20 rfl (iw3.lt (by decide)) (by decide) rfl (by decide) ?_
  have iw4 := iw3.putI 0 16
  generalize am_up h3 4 0 16 = h4 at iw4 ⊢
  refine NP.dup d_X6_init_21 rfl ?_
  refine NP.iconst (x := 1) d_X6_init_22 (by decide) ?_
  refine NP.iconst (x := 0) d_X6_init_23 (by decide) ?_
  refine NP.iast (n := 4) (j := 1) d_X6_init_24 rfl (iw4.lt (by decide)) (by decide) rfl (by decide) ?_
  have iw5 := iw4.putI 1 0
  generalize am_up h4 4 1 0 = h5 at iw5 ⊢
  refine NP.dup d_X6_init_25 rfl ?_
  refine NP.iconst (x := 2) d_X6_init_26 (by decide) ?_
  refine NP.iconst (x := 0) d_X6_init_27 (by decide) ?_
  refine NP.iast (n := 4) (j := 2) d_X6_init_28 rfl (iw5.lt (by decide)) (by decide) rfl (by decide) ?_
  have iw6 := iw5.putI 2 0
  generalize am_up h5 4 2 0 = h6 at iw6 ⊢
  refine NP.dup d_X6_init_29 rfl ?_
  refine NP.iconst (x := 3) d_X6_init_30 (by decide) ?_
  refine NP.iconst (x := 0) d_X6_init_31 (by decide) ?_
  refine NP.iast (n := 4) (j := 3) d_X6_init_32 rfl (iw6.lt (by decide)) (by decide) rfl (by decide) ?_
  have iw7 := iw6.putI 3 0
  generalize am_up h6 4 3 0 = h7 at iw7 ⊢
  have iv7 := iw7.done rfl rfl
  refine NP.putRF (ci := 6) (j := 1) (q := (RX6, TX6, 8)) d_X6_init_33 rfl (iv7.lt (by decide)) rfl (by decide) rfl rfl rfl rfl rfl (fun _ => rfl) (fun _ => rfl) gw_161 ?_
  have iv8 := iv7.putR 1 4
  generalize am_upr g3 2 1 4 = g8 at iv8 ⊢
  refine NP.aload_n (i := 0) d_X6_init_36 rfl rfl ?_
  refine NP.newo (b := (5, 112)) (n := 5) d_X6_init_37 iv8.1 rfl (q := (RX2, TX2, 8)) rfl rfl gw_107 gw_108 gw_70 ?_
  have iw9 := iv8.new
  generalize am_mkI h7 5 = h9 at iw9 ⊢
  generalize am_mk g8 5 = g9 at iw9 ⊢
  refine NP.dup d_X6_init_40 rfl ?_
  refine NP.init (b := (0, 0)) (b' := (5, 112)) d_X6_init_41 (ci_X2_5 iw9.1 iw9.2.2.2.2.2.1 iw9.2.2.2.2.2.2) ki_X6_init_20 (by decide) (FINP.ph iw9.1 (by decide)) (fun h10 g10 f10 => ?_)
  have iv10 := iw9.call f10 (by decide)
  refine NP.putRF (ci := 6) (j := 2) (q := (RX6, TX6, 8)) d_X6_init_44 rfl (iv10.lt (by decide)) rfl (by decide) rfl rfl rfl rfl rfl (fun _ => rfl) (fun _ => rfl) gw_164 ?_
  have iv11 := iv10.putR 2 5
  generalize am_upr g10 2 2 5 = g11 at iv11 ⊢
  refine NP.aload_n (i := 0) d_X6_init_47 rfl rfl ?_
  refine NP.iconst (x := 0) d_X6_init_48 (by decide) ?_
  refine NP.putI (ci := 6) (j := 3) (q := (RX6, TX6, 8)) d_X6_init_49 rfl (iv11.lt (by decide)) rfl (by decide) rfl rfl gw_166 ?_
  have iv12 := iv11.putI 3 0
  generalize am_up h10 2 3 0 = h12 at iv12 ⊢
  refine NP.aload_n (i := 0) d_X6_init_52 rfl rfl ?_
  refine NP.iconst (x := 4) d_X6_init_53 (by decide) ?_
  refine NP.putI (ci := 6) (j := 4) (q := (RX6, TX6, 8)) d_X6_init_54 rfl (iv12.lt (by decide)) rfl (by decide) rfl rfl gw_169 ?_
  have iv13 := iv12.putI 4 4
  generalize am_up h12 2 4 4 = h13 at iv13 ⊢
  refine NP.aload_n (i := 0) d_X6_init_57 rfl rfl ?_
  refine NP.iconst (x := 1) d_X6_init_58 (by decide) ?_
  refine NP.putI (ci := 6) (j := 5) (q := (RX6, TX6, 8)) d_X6_init_59 rfl (iv13.lt (by decide)) rfl (by decide) rfl rfl gw_172 ?_
  have iv14 := iv13.putI 5 1
  generalize am_up h13 2 5 1 = h14 at iv14 ⊢
  refine NP.aload_n (i := 0) d_X6_init_62 rfl rfl ?_
  refine NP.bipush (x := 31) d_X6_init_63 (by decide) ?_
  refine NP.putI (ci := 6) (j := 6) (q := (RX6, TX6, 8)) d_X6_init_65 rfl (iv14.lt (by decide)) rfl (by decide) rfl rfl gw_175 ?_
  have iv15 := iv14.putI 6 31
  generalize am_up h14 2 6 31 = h15 at iv15 ⊢
  refine NP.aload_n (i := 0) d_X6_init_68 rfl rfl ?_
  refine NP.iconst (x := 0) d_X6_init_69 (by decide) ?_
  refine NP.putI (ci := 6) (j := 7) (q := (RX6, TX6, 8)) d_X6_init_70 rfl (iv15.lt (by decide)) rfl (by decide) rfl rfl gw_177 ?_
  have iv16 := iv15.putI 7 0
  generalize am_up h15 2 7 0 = h16 at iv16 ⊢
  exact NP.vret d_X6_init_73 rfl (hΦ _ _ (iv16.fin rfl hr_2))
theorem gw_103 : Cond.methodLinkNest "CaveEchoes$Study" 11 yX6_init "CaveEchoes" ∈ am_NW := am_nw 103 (by decide +kernel) (by decide +kernel)
theorem gw_105 : Cond.code yX6_init prog_8_method_1_code 1 none ∈ am_GT := am_gt 105 (by decide +kernel) (by decide +kernel)
theorem gw_104 : Cond.instanceMethod yX6_init ∈ am_GT := am_gt 104 (by decide +kernel) (by decide +kernel)
theorem ki_X7_init_11 : am_csI M_X7_init 11 M_X6_init := ⟨by decide +kernel, rfl, rfl, gw_69, gw_105, gw_104, Or.inr gw_103⟩
theorem gw_226 : Cond.fieldLink "CaveEchoes$Study" 12 "CaveEchoes$Study" "state" "LCaveEchoes$State;" ∈ am_GT := am_gt 226 (by decide +kernel) (by decide +kernel)
theorem gw_196 : Cond.classLink "CaveEchoes$Study" 18 "CaveEchoes$Foreteller" ∈ am_GT := am_gt 196 (by decide +kernel) (by decide +kernel)
theorem gw_197 : Cond.instantiable "CaveEchoes$Foreteller" 6 ∈ am_GT := am_gt 197 (by decide +kernel) (by decide +kernel)
theorem gw_71 : Cond.initialized "CaveEchoes$Foreteller" ∈ am_GT := am_gt 71 (by decide +kernel) (by decide +kernel)
theorem gw_201 : Cond.methodLink "CaveEchoes$Foreteller" 3 Lib.objectInit ∈ am_GT := am_gt 201 (by decide +kernel) (by decide +kernel)
theorem gw_202 : Cond.fieldLink "CaveEchoes$Foreteller" 9 "CaveEchoes$Foreteller" "shown" "[I" ∈ am_GT := am_gt 202 (by decide +kernel) (by decide +kernel)
theorem gw_204 : Cond.fieldLink "CaveEchoes$Foreteller" 15 "CaveEchoes$Foreteller" "weights" "[I" ∈ am_GT := am_gt 204 (by decide +kernel) (by decide +kernel)
theorem gw_206 : Cond.fieldLink "CaveEchoes$Foreteller" 18 "CaveEchoes$Foreteller" "count" "I" ∈ am_GT := am_gt 206 (by decide +kernel) (by decide +kernel)
theorem gw_208 : Cond.fieldLink "CaveEchoes$Foreteller" 22 "CaveEchoes$Foreteller" "delay" "I" ∈ am_GT := am_gt 208 (by decide +kernel) (by decide +kernel)
theorem gw_209 : Cond.fieldLink "CaveEchoes$Foreteller" 25 "CaveEchoes$Foreteller" "speed" "I" ∈ am_GT := am_gt 209 (by decide +kernel) (by decide +kernel)
theorem gw_210 : Cond.fieldLink "CaveEchoes$Foreteller" 28 "CaveEchoes$Foreteller" "weighed" "I" ∈ am_GT := am_gt 210 (by decide +kernel) (by decide +kernel)
theorem ci_X0_11 {hi : am_HI} {g : am_G} (hg : g.1 = some 12) (hz : hi 11 = fun _ => 0) (hr : g.2.1 11 = fun _ => none) : am_Cn M_X0_init (2, 52) [.ref 11] hi g (FINP 11 14 hi g) := by
  refine am_cn rfl (by decide) (Nat.le_of_ble_eq_true rfl) (fun Φ hΦ => ?_)
  show NP M_X0_init _ 0 [.ref 11] [] hi g Φ
  have iv := IV.st hg hz hr
  refine NP.aload_n (i := 0) d_X0_init_0 rfl rfl ?_
  refine NP.objInit d_X0_init_1 gw_201 (by decide) (by decide) ?_
  refine NP.aload_n (i := 0) d_X0_init_4 rfl rfl ?_
  refine NP.bipush (x := 48) d_X0_init_5 (by decide) ?_
  refine NP.newI (b := (1, 4)) (n := 12) (N := 48) d_X0_init_7 iv.1 rfl rfl (by decide) ?_
  have iw1 := iv.new
  generalize am_mkI hi 12 = h1 at iw1 ⊢
  generalize am_mk g 12 = g1 at iw1 ⊢
  have iv1 := iw1.done rfl rfl
  refine NP.putRF (ci := 0) (j := 0) (q := (RX0, TX0, 6)) d_X0_init_9 rfl (iv1.lt (by decide)) rfl (by decide) rfl rfl rfl rfl rfl (fun _ => rfl) (fun _ => rfl) gw_202 ?_
  have iv2 := iv1.putR 0 12
  generalize am_upr g1 11 0 12 = g2 at iv2 ⊢
  refine NP.aload_n (i := 0) d_X0_init_12 rfl rfl ?_
  refine NP.iconst (x := 4) d_X0_init_13 (by decide) ?_
  refine NP.newI (b := (0, 0)) (n := 13) (N := 4) d_X0_init_14 iv2.1 rfl rfl (by decide) ?_
  have iw3 := iv2.new
  generalize am_mkI h1 13 = h3 at iw3 ⊢
  generalize am_mk g2 13 = g3 at iw3 ⊢
  have iv3 := iw3.done rfl rfl
  refine NP.putRF (ci := 0) (j := 1) (q := (RX0, TX0, 6)) d_X0_init_16 rfl (iv3.lt (by decide)) rfl (by decide) rfl rfl rfl rfl rfl (fun _ => rfl) (fun _ => rfl) gw_204 ?_
  have iv4 := iv3.putR 1 13
  generalize am_upr g3 11 1 13 = g4 at iv4 ⊢
  refine NP.aload_n (i := 0) d_X0_init_19 rfl rfl ?_
  refine NP.iconst (x := 0) d_X0_init_20 (by decide) ?_
  refine NP.putI (ci := 0) (j := 2) (q := (RX0, TX0, 6)) d_X0_init_21 rfl (iv4.lt (by decide)) rfl (by decide) rfl rfl gw_206 ?_
  have iv5 := iv4.putI 2 0
  generalize am_up h3 11 2 0 = h5 at iv5 ⊢
  refine NP.aload_n (i := 0) d_X0_init_24 rfl rfl ?_
  refine NP.iconst (x := 1) d_X0_init_25 (by decide) ?_
  refine NP.putI (ci := 0) (j := 3) (q := (RX0, TX0, 6)) d_X0_init_26 rfl (iv5.lt (by decide)) rfl (by decide) rfl rfl gw_208 ?_
  have iv6 := iv5.putI 3 1
  generalize am_up h5 11 3 1 = h6 at iv6 ⊢
  refine NP.aload_n (i := 0) d_X0_init_29 rfl rfl ?_
  refine NP.iconst (x := 0) d_X0_init_30 (by decide) ?_
  refine NP.putI (ci := 0) (j := 4) (q := (RX0, TX0, 6)) d_X0_init_31 rfl (iv6.lt (by decide)) rfl (by decide) rfl rfl gw_209 ?_
  have iv7 := iv6.putI 4 0
  generalize am_up h6 11 4 0 = h7 at iv7 ⊢
  refine NP.aload_n (i := 0) d_X0_init_34 rfl rfl ?_
  refine NP.iconst (x := 0) d_X0_init_35 (by decide) ?_
  refine NP.putI (ci := 0) (j := 5) (q := (RX0, TX0, 6)) d_X0_init_36 rfl (iv7.lt (by decide)) rfl (by decide) rfl rfl gw_210 ?_
  have iv8 := iv7.putI 5 0
  generalize am_up h7 11 5 0 = h8 at iv8 ⊢
  exact NP.vret d_X0_init_39 rfl (hΦ _ _ (iv8.fin rfl hr_11))
theorem gw_198 : Cond.methodLinkNest "CaveEchoes$Study" 20 yX0_init "CaveEchoes" ∈ am_NW := am_nw 198 (by decide +kernel) (by decide +kernel)
theorem gw_200 : Cond.code yX0_init prog_2_method_1_code 1 none ∈ am_GT := am_gt 200 (by decide +kernel) (by decide +kernel)
theorem gw_199 : Cond.instanceMethod yX0_init ∈ am_GT := am_gt 199 (by decide +kernel) (by decide +kernel)
theorem ki_X7_init_20 : am_csI M_X7_init 20 M_X0_init := ⟨by decide +kernel, rfl, rfl, gw_71, gw_200, gw_199, Or.inr gw_198⟩
theorem gw_228 : Cond.fieldLink "CaveEchoes$Study" 21 "CaveEchoes$Study" "foreteller" "LCaveEchoes$Foreteller;" ∈ am_GT := am_gt 228 (by decide +kernel) (by decide +kernel)
theorem gw_229 : Cond.fieldLink "CaveEchoes$Study" 25 "CaveEchoes$Study" "otherFirst" "[I" ∈ am_GT := am_gt 229 (by decide +kernel) (by decide +kernel)
theorem gw_224 : Cond.classLink "CaveEchoes$Study" 29 "[[I" ∈ am_GT := am_gt 224 (by decide +kernel) (by decide +kernel)
theorem gw_230 : Cond.fieldLink "CaveEchoes$Study" 31 "CaveEchoes$Study" "foretellings" "[[I" ∈ am_GT := am_gt 230 (by decide +kernel) (by decide +kernel)
theorem gw_232 : Cond.fieldLink "CaveEchoes$Study" 34 "CaveEchoes$Study" "weights" "[[I" ∈ am_GT := am_gt 232 (by decide +kernel) (by decide +kernel)
theorem gw_234 : Cond.fieldLink "CaveEchoes$Study" 37 "CaveEchoes$Study" "parameters" "[[I" ∈ am_GT := am_gt 234 (by decide +kernel) (by decide +kernel)
theorem gw_236 : Cond.fieldLink "CaveEchoes$Study" 40 "CaveEchoes$Study" "fewestBits" "[[I" ∈ am_GT := am_gt 236 (by decide +kernel) (by decide +kernel)
theorem ci_X7_1 {hi : am_HI} {g : am_G} (hg : g.1 = some 2) (hz : hi 1 = fun _ => 0) (hr : g.2.1 1 = fun _ => none) : am_Cn M_X7_init (36, 762) [.ref 1] hi g (FINP 1 38 hi g) := by
  refine am_cn rfl (by decide) (Nat.le_of_ble_eq_true rfl) (fun Φ hΦ => ?_)
  show NP M_X7_init _ 0 [.ref 1] [] hi g Φ
  have iv := IV.st hg hz hr
  refine NP.aload_n (i := 0) d_X7_init_0 rfl rfl ?_
  refine NP.objInit d_X7_init_1 gw_100 (by decide) (by decide) ?_
  refine NP.aload_n (i := 0) d_X7_init_4 rfl rfl ?_
  refine NP.newo (b := (35, 754)) (n := 2) d_X7_init_5 iv.1 rfl (q := (RX6, TX6, 8)) rfl rfl gw_101 gw_102 gw_69 ?_
  have iw1 := iv.new
  generalize am_mkI hi 2 = h1 at iw1 ⊢
  generalize am_mk g 2 = g1 at iw1 ⊢
  refine NP.dup d_X7_init_8 rfl ?_
  refine NP.init (b := (27, 582)) (b' := (8, 172)) d_X7_init_9 (ci_X6_2 iw1.1 iw1.2.2.2.2.2.1 iw1.2.2.2.2.2.2) ki_X7_init_11 (by decide) (FINP.ph iw1.1 (by decide)) (fun h2 g2 f2 => ?_)
  have iv2 := iw1.call f2 (by decide)
  refine NP.putRF (ci := 7) (j := 0) (q := (RX7, TX7, 7)) d_X7_init_12 rfl (iv2.lt (by decide)) rfl (by decide) rfl rfl rfl rfl rfl (fun _ => rfl) (fun _ => rfl) gw_226 ?_
  have iv3 := iv2.putR 0 2
  generalize am_upr g2 1 0 2 = g3 at iv3 ⊢
  refine NP.aload_n (i := 0) d_X7_init_15 rfl rfl ?_
  refine NP.newo (b := (26, 576)) (n := 11) d_X7_init_16 iv3.1 rfl (q := (RX0, TX0, 6)) rfl rfl gw_196 gw_197 gw_71 ?_
  have iw4 := iv3.new
  generalize am_mkI h2 11 = h4 at iw4 ⊢
  generalize am_mk g3 11 = g4 at iw4 ⊢
  refine NP.dup d_X7_init_19 rfl ?_
  refine NP.init (b := (24, 524)) (b' := (2, 52)) d_X7_init_20 (ci_X0_11 iw4.1 iw4.2.2.2.2.2.1 iw4.2.2.2.2.2.2) ki_X7_init_20 (by decide) (FINP.ph iw4.1 (by decide)) (fun h5 g5 f5 => ?_)
  have iv5 := iw4.call f5 (by decide)
  refine NP.putRF (ci := 7) (j := 1) (q := (RX7, TX7, 7)) d_X7_init_23 rfl (iv5.lt (by decide)) rfl (by decide) rfl rfl rfl rfl rfl (fun _ => rfl) (fun _ => rfl) gw_228 ?_
  have iv6 := iv5.putR 1 11
  generalize am_upr g5 1 1 11 = g6 at iv6 ⊢
  refine NP.aload_n (i := 0) d_X7_init_26 rfl rfl ?_
  refine NP.iconst (x := 4) d_X7_init_27 (by decide) ?_
  refine NP.newI (b := (23, 520)) (n := 14) (N := 4) d_X7_init_28 iv6.1 rfl rfl (by decide) ?_
  have iw7 := iv6.new
  generalize am_mkI h5 14 = h7 at iw7 ⊢
  generalize am_mk g6 14 = g7 at iw7 ⊢
  have iv7 := iw7.done rfl rfl
  refine NP.putRF (ci := 7) (j := 2) (q := (RX7, TX7, 7)) d_X7_init_30 rfl (iv7.lt (by decide)) rfl (by decide) rfl rfl rfl rfl rfl (fun _ => rfl) (fun _ => rfl) gw_229 ?_
  have iv8 := iv7.putR 2 14
  generalize am_upr g7 1 2 14 = g8 at iv8 ⊢
  refine NP.aload_n (i := 0) d_X7_init_33 rfl rfl ?_
  refine NP.iconst (x := 5) d_X7_init_34 (by decide) ?_
  refine NP.bipush (x := 49) d_X7_init_35 (by decide) ?_
  refine NP.grid (b := (17, 270)) (n := 15) (N := 5) (K := 49) d_X7_init_37 iv8.1 rfl (fun i hi => ?_) gw_224 rfl rfl (by decide) (by decide) ?_
  · match i, hi with
    | 0, _ => rfl
    | 1, _ => rfl
    | 2, _ => rfl
    | 3, _ => rfl
    | 4, _ => rfl
    | i + 5, h => omega
  have e9 : ∀ i, 15 ≤ i → i < 15 + (1 + 5) → HI0 i = fun _ => 0 := fun i h1 h2 => by
    rcases (show i = 15 ∨ i = 16 ∨ i = 17 ∨ i = 18 ∨ i = 19 ∨ i = 20 by omega) with rfl | rfl | rfl | rfl | rfl | rfl <;> rfl
  have f9 : ∀ i, 15 < i → i < 15 + (1 + 5) → HR0 i = fun _ => none := fun i h1 h2 => by
    rcases (show i = 16 ∨ i = 17 ∨ i = 18 ∨ i = 19 ∨ i = 20 by omega) with rfl | rfl | rfl | rfl | rfl <;> rfl
  have iv9 := iv8.grid e9 hr_15 f9
  generalize am_mkIs h7 15 (1 + 5) = h9 at iv9 ⊢
  generalize am_mks g8 15 5 = g9 at iv9 ⊢
  refine NP.putRF (ci := 7) (j := 3) (q := (RX7, TX7, 7)) d_X7_init_41 rfl (iv9.lt (by decide)) rfl (by decide) rfl rfl rfl rfl rfl (fun _ => rfl) (fun _ => rfl) gw_230 ?_
  have iv10 := iv9.putR 3 15
  generalize am_upr g9 1 3 15 = g10 at iv10 ⊢
  refine NP.aload_n (i := 0) d_X7_init_44 rfl rfl ?_
  refine NP.iconst (x := 4) d_X7_init_45 (by decide) ?_
  refine NP.bipush (x := 49) d_X7_init_46 (by decide) ?_
  refine NP.grid (b := (12, 70)) (n := 21) (N := 4) (K := 49) d_X7_init_48 iv10.1 rfl (fun i hi => ?_) gw_224 rfl rfl (by decide) (by decide) ?_
  · match i, hi with
    | 0, _ => rfl
    | 1, _ => rfl
    | 2, _ => rfl
    | 3, _ => rfl
    | i + 4, h => omega
  have e11 : ∀ i, 21 ≤ i → i < 21 + (1 + 4) → HI0 i = fun _ => 0 := fun i h1 h2 => by
    rcases (show i = 21 ∨ i = 22 ∨ i = 23 ∨ i = 24 ∨ i = 25 by omega) with rfl | rfl | rfl | rfl | rfl <;> rfl
  have f11 : ∀ i, 21 < i → i < 21 + (1 + 4) → HR0 i = fun _ => none := fun i h1 h2 => by
    rcases (show i = 22 ∨ i = 23 ∨ i = 24 ∨ i = 25 by omega) with rfl | rfl | rfl | rfl <;> rfl
  have iv11 := iv10.grid e11 hr_21 f11
  generalize am_mkIs h9 21 (1 + 4) = h11 at iv11 ⊢
  generalize am_mks g10 21 4 = g11 at iv11 ⊢
  refine NP.putRF (ci := 7) (j := 4) (q := (RX7, TX7, 7)) d_X7_init_52 rfl (iv11.lt (by decide)) rfl (by decide) rfl rfl rfl rfl rfl (fun _ => rfl) (fun _ => rfl) gw_232 ?_
  have iv12 := iv11.putR 4 21
  generalize am_upr g11 1 4 21 = g12 at iv12 ⊢
  refine NP.aload_n (i := 0) d_X7_init_55 rfl rfl ?_
  refine NP.iconst (x := 5) d_X7_init_56 (by decide) ?_
  refine NP.bipush (x := 6) d_X7_init_57 (by decide) ?_
  refine NP.grid (b := (6, 35)) (n := 26) (N := 5) (K := 6) d_X7_init_59 iv12.1 rfl (fun i hi => ?_) gw_224 rfl rfl (by decide) (by decide) ?_
  · match i, hi with
    | 0, _ => rfl
    | 1, _ => rfl
    | 2, _ => rfl
    | 3, _ => rfl
    | 4, _ => rfl
    | i + 5, h => omega
  have e13 : ∀ i, 26 ≤ i → i < 26 + (1 + 5) → HI0 i = fun _ => 0 := fun i h1 h2 => by
    rcases (show i = 26 ∨ i = 27 ∨ i = 28 ∨ i = 29 ∨ i = 30 ∨ i = 31 by omega) with rfl | rfl | rfl | rfl | rfl | rfl <;> rfl
  have f13 : ∀ i, 26 < i → i < 26 + (1 + 5) → HR0 i = fun _ => none := fun i h1 h2 => by
    rcases (show i = 27 ∨ i = 28 ∨ i = 29 ∨ i = 30 ∨ i = 31 by omega) with rfl | rfl | rfl | rfl | rfl <;> rfl
  have iv13 := iv12.grid e13 hr_26 f13
  generalize am_mkIs h11 26 (1 + 5) = h13 at iv13 ⊢
  generalize am_mks g12 26 5 = g13 at iv13 ⊢
  refine NP.putRF (ci := 7) (j := 5) (q := (RX7, TX7, 7)) d_X7_init_63 rfl (iv13.lt (by decide)) rfl (by decide) rfl rfl rfl rfl rfl (fun _ => rfl) (fun _ => rfl) gw_234 ?_
  have iv14 := iv13.putR 5 26
  generalize am_upr g13 1 5 26 = g14 at iv14 ⊢
  refine NP.aload_n (i := 0) d_X7_init_66 rfl rfl ?_
  refine NP.iconst (x := 5) d_X7_init_67 (by decide) ?_
  refine NP.bipush (x := 6) d_X7_init_68 (by decide) ?_
  refine NP.grid (b := (0, 0)) (n := 32) (N := 5) (K := 6) d_X7_init_70 iv14.1 rfl (fun i hi => ?_) gw_224 rfl rfl (by decide) (by decide) ?_
  · match i, hi with
    | 0, _ => rfl
    | 1, _ => rfl
    | 2, _ => rfl
    | 3, _ => rfl
    | 4, _ => rfl
    | i + 5, h => omega
  have e15 : ∀ i, 32 ≤ i → i < 32 + (1 + 5) → HI0 i = fun _ => 0 := fun i h1 h2 => by
    rcases (show i = 32 ∨ i = 33 ∨ i = 34 ∨ i = 35 ∨ i = 36 ∨ i = 37 by omega) with rfl | rfl | rfl | rfl | rfl | rfl <;> rfl
  have f15 : ∀ i, 32 < i → i < 32 + (1 + 5) → HR0 i = fun _ => none := fun i h1 h2 => by
    rcases (show i = 33 ∨ i = 34 ∨ i = 35 ∨ i = 36 ∨ i = 37 by omega) with rfl | rfl | rfl | rfl | rfl <;> rfl
  have iv15 := iv14.grid e15 hr_32 f15
  generalize am_mkIs h13 32 (1 + 5) = h15 at iv15 ⊢
  generalize am_mks g14 32 5 = g15 at iv15 ⊢
  refine NP.putRF (ci := 7) (j := 6) (q := (RX7, TX7, 7)) d_X7_init_74 rfl (iv15.lt (by decide)) rfl (by decide) rfl rfl rfl rfl rfl (fun _ => rfl) (fun _ => rfl) gw_236 ?_
  have iv16 := iv15.putR 6 32
  generalize am_upr g15 1 6 32 = g16 at iv16 ⊢
  exact NP.vret d_X7_init_77 rfl (hΦ _ _ (iv16.fin rfl hr_1))
theorem gw_97 : Cond.methodLinkNest "CaveEchoes" 11 yX7_init "CaveEchoes" ∈ am_NW := am_nw 97 (by decide +kernel) (by decide +kernel)
theorem gw_99 : Cond.code yX7_init prog_9_method_1_code 1 none ∈ am_GT := am_gt 99 (by decide +kernel) (by decide +kernel)
theorem gw_98 : Cond.instanceMethod yX7_init ∈ am_GT := am_gt 98 (by decide +kernel) (by decide +kernel)
theorem ki_X9_init_11 : am_csI M_X9_init 11 M_X7_init := ⟨by decide +kernel, rfl, rfl, gw_68, gw_99, gw_98, Or.inr gw_97⟩
theorem gw_345 : Cond.fieldLink "CaveEchoes" 12 "CaveEchoes" "study" "LCaveEchoes$Study;" ∈ am_GT := am_gt 345 (by decide +kernel) (by decide +kernel)
theorem gw_227 : Cond.fieldLink "CaveEchoes" 16 "CaveEchoes$Study" "state" "LCaveEchoes$State;" ∈ am_GT := am_gt 227 (by decide +kernel) (by decide +kernel)
theorem gw_346 : Cond.fieldLink "CaveEchoes" 20 "CaveEchoes" "now" "LCaveEchoes$State;" ∈ am_GT := am_gt 346 (by decide +kernel) (by decide +kernel)
theorem gw_252 : Cond.classLink "CaveEchoes" 23 "CaveEchoes$History" ∈ am_GT := am_gt 252 (by decide +kernel) (by decide +kernel)
theorem gw_253 : Cond.instantiable "CaveEchoes$History" 2 ∈ am_GT := am_gt 253 (by decide +kernel) (by decide +kernel)
theorem gw_72 : Cond.initialized "CaveEchoes$History" ∈ am_GT := am_gt 72 (by decide +kernel) (by decide +kernel)
theorem gw_257 : Cond.methodLink "CaveEchoes$History" 3 Lib.objectInit ∈ am_GT := am_gt 257 (by decide +kernel) (by decide +kernel)
theorem gw_258 : Cond.classLink "CaveEchoes$History" 9 "CaveEchoes$State" ∈ am_GT := am_gt 258 (by decide +kernel) (by decide +kernel)
theorem gw_261 : Cond.fieldLink "CaveEchoes$History" 11 "CaveEchoes$History" "saved" "[LCaveEchoes$State;" ∈ am_GT := am_gt 261 (by decide +kernel) (by decide +kernel)
theorem gw_262 : Cond.fieldLink "CaveEchoes$History" 17 "CaveEchoes$History" "count" "I" ∈ am_GT := am_gt 262 (by decide +kernel) (by decide +kernel)
theorem ci_X2_43 {hi : am_HI} {g : am_G} (hg : g.1 = some 44) (hz : hi 43 = fun _ => 0) (hr : g.2.1 43 = fun _ => none) : am_Cn M_X2_init (5, 112) [.ref 43] hi g (FINP 43 49 hi g) := by
  refine am_cn rfl (by decide) (Nat.le_of_ble_eq_true rfl) (fun Φ hΦ => ?_)
  show NP M_X2_init _ 0 [.ref 43] [] hi g Φ
  have iv := IV.st hg hz hr
  refine NP.aload_n (i := 0) d_X2_init_0 rfl rfl ?_
  refine NP.objInit d_X2_init_1 gw_112 (by decide) (by decide) ?_
  refine NP.aload_n (i := 0) d_X2_init_4 rfl rfl ?_
  refine NP.iconst (x := 4) d_X2_init_5 (by decide) ?_
  refine NP.newI (b := (4, 108)) (n := 44) (N := 4) d_X2_init_6 iv.1 rfl rfl (by decide) ?_
  have iw1 := iv.new
  generalize am_mkI hi 44 = h1 at iw1 ⊢
  generalize am_mk g 44 = g1 at iw1 ⊢
  have iv1 := iw1.done rfl rfl
  refine NP.putRF (ci := 2) (j := 0) (q := (RX2, TX2, 8)) d_X2_init_8 rfl (iv1.lt (by decide)) rfl (by decide) rfl rfl rfl rfl rfl (fun _ => rfl) (fun _ => rfl) gw_113 ?_
  have iv2 := iv1.putR 0 44
  generalize am_upr g1 43 0 44 = g2 at iv2 ⊢
  refine NP.aload_n (i := 0) d_X2_init_11 rfl rfl ?_
  refine NP.bipush (x := 6) d_X2_init_12 (by decide) ?_
  refine NP.newI (b := (3, 102)) (n := 45) (N := 6) d_X2_init_14 iv2.1 rfl rfl (by decide) ?_
  have iw3 := iv2.new
  generalize am_mkI h1 45 = h3 at iw3 ⊢
  generalize am_mk g2 45 = g3 at iw3 ⊢
  have iv3 := iw3.done rfl rfl
  refine NP.putRF (ci := 2) (j := 1) (q := (RX2, TX2, 8)) d_X2_init_16 rfl (iv3.lt (by decide)) rfl (by decide) rfl rfl rfl rfl rfl (fun _ => rfl) (fun _ => rfl) gw_116 ?_
  have iv4 := iv3.putR 1 45
  generalize am_upr g3 43 1 45 = g4 at iv4 ⊢
  refine NP.aload_n (i := 0) d_X2_init_19 rfl rfl ?_
  refine NP.bipush (x := 6) d_X2_init_20 (by decide) ?_
  refine NP.newI (b := (2, 96)) (n := 46) (N := 6) d_X2_init_22 iv4.1 rfl rfl (by decide) ?_
  have iw5 := iv4.new
  generalize am_mkI h3 46 = h5 at iw5 ⊢
  generalize am_mk g4 46 = g5 at iw5 ⊢
  have iv5 := iw5.done rfl rfl
  refine NP.putRF (ci := 2) (j := 2) (q := (RX2, TX2, 8)) d_X2_init_24 rfl (iv5.lt (by decide)) rfl (by decide) rfl rfl rfl rfl rfl (fun _ => rfl) (fun _ => rfl) gw_120 ?_
  have iv6 := iv5.putR 2 46
  generalize am_upr g5 43 2 46 = g6 at iv6 ⊢
  refine NP.aload_n (i := 0) d_X2_init_27 rfl rfl ?_
  refine NP.bipush (x := 48) d_X2_init_28 (by decide) ?_
  refine NP.newI (b := (1, 48)) (n := 47) (N := 48) d_X2_init_30 iv6.1 rfl rfl (by decide) ?_
  have iw7 := iv6.new
  generalize am_mkI h5 47 = h7 at iw7 ⊢
  generalize am_mk g6 47 = g7 at iw7 ⊢
  have iv7 := iw7.done rfl rfl
  refine NP.putRF (ci := 2) (j := 3) (q := (RX2, TX2, 8)) d_X2_init_32 rfl (iv7.lt (by decide)) rfl (by decide) rfl rfl rfl rfl rfl (fun _ => rfl) (fun _ => rfl) gw_123 ?_
  have iv8 := iv7.putR 3 47
  generalize am_upr g7 43 3 47 = g8 at iv8 ⊢
  refine NP.aload_n (i := 0) d_X2_init_35 rfl rfl ?_
  refine NP.bipush (x := 48) d_X2_init_36 (by decide) ?_
  refine NP.newI (b := (0, 0)) (n := 48) (N := 48) d_X2_init_38 iv8.1 rfl rfl (by decide) ?_
  have iw9 := iv8.new
  generalize am_mkI h7 48 = h9 at iw9 ⊢
  generalize am_mk g8 48 = g9 at iw9 ⊢
  have iv9 := iw9.done rfl rfl
  refine NP.putRF (ci := 2) (j := 4) (q := (RX2, TX2, 8)) d_X2_init_40 rfl (iv9.lt (by decide)) rfl (by decide) rfl rfl rfl rfl rfl (fun _ => rfl) (fun _ => rfl) gw_127 ?_
  have iv10 := iv9.putR 4 48
  generalize am_upr g9 43 4 48 = g10 at iv10 ⊢
  refine NP.aload_n (i := 0) d_X2_init_43 rfl rfl ?_
  refine NP.iconst (x := 0) d_X2_init_44 (by decide) ?_
  refine NP.putI (ci := 2) (j := 5) (q := (RX2, TX2, 8)) d_X2_init_45 rfl (iv10.lt (by decide)) rfl (by decide) rfl rfl gw_130 ?_
  have iv11 := iv10.putI 5 0
  generalize am_up h9 43 5 0 = h11 at iv11 ⊢
  refine NP.aload_n (i := 0) d_X2_init_48 rfl rfl ?_
  refine NP.iconst (x := 1) d_X2_init_49 (by decide) ?_
  refine NP.putI (ci := 2) (j := 6) (q := (RX2, TX2, 8)) d_X2_init_50 rfl (iv11.lt (by decide)) rfl (by decide) rfl rfl gw_134 ?_
  have iv12 := iv11.putI 6 1
  generalize am_up h11 43 6 1 = h12 at iv12 ⊢
  refine NP.aload_n (i := 0) d_X2_init_53 rfl rfl ?_
  refine NP.iconst (x := 0) d_X2_init_54 (by decide) ?_
  refine NP.putI (ci := 2) (j := 7) (q := (RX2, TX2, 8)) d_X2_init_55 rfl (iv12.lt (by decide)) rfl (by decide) rfl rfl gw_137 ?_
  have iv13 := iv12.putI 7 0
  generalize am_up h12 43 7 0 = h13 at iv13 ⊢
  exact NP.vret d_X2_init_58 rfl (hΦ _ _ (iv13.fin rfl hr_43))
theorem ci_X6_40 {hi : am_HI} {g : am_G} (hg : g.1 = some 41) (hz : hi 40 = fun _ => 0) (hr : g.2.1 40 = fun _ => none) : am_Cn M_X6_init (8, 172) [.ref 40] hi g (FINP 40 49 hi g) := by
  refine am_cn rfl (by decide) (Nat.le_of_ble_eq_true rfl) (fun Φ hΦ => ?_)
  show NP M_X6_init _ 0 [.ref 40] [] hi g Φ
  have iv := IV.st hg hz hr
  refine NP.aload_n (i := 0) d_X6_init_0 rfl rfl ?_
  refine NP.objInit d_X6_init_1 gw_106 (by decide) (by decide) ?_
  refine NP.aload_n (i := 0) d_X6_init_4 rfl rfl ?_
  refine NP.bipush (x := 48) d_X6_init_5 (by decide) ?_
  refine NP.newI (b := (7, 124)) (n := 41) (N := 48) d_X6_init_7 iv.1 rfl rfl (by decide) ?_
  have iw1 := iv.new
  generalize am_mkI hi 41 = h1 at iw1 ⊢
  generalize am_mk g 41 = g1 at iw1 ⊢
  have iv1 := iw1.done rfl rfl
  refine NP.putRF (ci := 6) (j := 0) (q := (RX6, TX6, 8)) d_X6_init_9 rfl (iv1.lt (by decide)) rfl (by decide) rfl rfl rfl rfl rfl (fun _ => rfl) (fun _ => rfl) gw_158 ?_
  have iv2 := iv1.putR 0 41
  generalize am_upr g1 40 0 41 = g2 at iv2 ⊢
  refine NP.aload_n (i := 0) d_X6_init_12 rfl rfl ?_
  refine NP.iconst (x := 4) d_X6_init_13 (by decide) ?_
  refine NP.newI (b := (6, 120)) (n := 42) (N := 4) d_X6_init_14 iv2.1 rfl rfl (by decide) ?_
  have iw3 := iv2.new
  generalize am_mkI h1 42 = h3 at iw3 ⊢
  generalize am_mk g2 42 = g3 at iw3 ⊢
  refine NP.dup d_X6_init_16 rfl ?_
  refine NP.iconst (x := 0) d_X6_init_17 (by decide) ?_
  refine NP.bipush (x := 16) d_X6_init_18 (by decide) ?_
  refine NP.iast (n := 4) (j := 0) d_X6_init_20 rfl (iw3.lt (by decide)) (by decide) rfl (by decide) ?_
  have iw4 := iw3.putI 0 16
  generalize am_up h3 42 0 16 = h4 at iw4 ⊢
  refine NP.dup d_X6_init_21 rfl ?_
  refine NP.iconst (x := 1) d_X6_init_22 (by decide) ?_
  refine NP.iconst (x := 0) d_X6_init_23 (by decide) ?_
  refine NP.iast (n := 4) (j := 1) d_X6_init_24 rfl (iw4.lt (by decide)) (by decide) rfl (by decide) ?_
  have iw5 := iw4.putI 1 0
  generalize am_up h4 42 1 0 = h5 at iw5 ⊢
  refine NP.dup d_X6_init_25 rfl ?_
  refine NP.iconst (x := 2) d_X6_init_26 (by decide) ?_
  refine NP.iconst (x := 0) d_X6_init_27 (by decide) ?_
  refine NP.iast (n := 4) (j := 2) d_X6_init_28 rfl (iw5.lt (by decide)) (by decide) rfl (by decide) ?_
  have iw6 := iw5.putI 2 0
  generalize am_up h5 42 2 0 = h6 at iw6 ⊢
  refine NP.dup d_X6_init_29 rfl ?_
  refine NP.iconst (x := 3) d_X6_init_30 (by decide) ?_
  refine NP.iconst (x := 0) d_X6_init_31 (by decide) ?_
  refine NP.iast (n := 4) (j := 3) d_X6_init_32 rfl (iw6.lt (by decide)) (by decide) rfl (by decide) ?_
  have iw7 := iw6.putI 3 0
  generalize am_up h6 42 3 0 = h7 at iw7 ⊢
  have iv7 := iw7.done rfl rfl
  refine NP.putRF (ci := 6) (j := 1) (q := (RX6, TX6, 8)) d_X6_init_33 rfl (iv7.lt (by decide)) rfl (by decide) rfl rfl rfl rfl rfl (fun _ => rfl) (fun _ => rfl) gw_161 ?_
  have iv8 := iv7.putR 1 42
  generalize am_upr g3 40 1 42 = g8 at iv8 ⊢
  refine NP.aload_n (i := 0) d_X6_init_36 rfl rfl ?_
  refine NP.newo (b := (5, 112)) (n := 43) d_X6_init_37 iv8.1 rfl (q := (RX2, TX2, 8)) rfl rfl gw_107 gw_108 gw_70 ?_
  have iw9 := iv8.new
  generalize am_mkI h7 43 = h9 at iw9 ⊢
  generalize am_mk g8 43 = g9 at iw9 ⊢
  refine NP.dup d_X6_init_40 rfl ?_
  refine NP.init (b := (0, 0)) (b' := (5, 112)) d_X6_init_41 (ci_X2_43 iw9.1 iw9.2.2.2.2.2.1 iw9.2.2.2.2.2.2) ki_X6_init_20 (by decide) (FINP.ph iw9.1 (by decide)) (fun h10 g10 f10 => ?_)
  have iv10 := iw9.call f10 (by decide)
  refine NP.putRF (ci := 6) (j := 2) (q := (RX6, TX6, 8)) d_X6_init_44 rfl (iv10.lt (by decide)) rfl (by decide) rfl rfl rfl rfl rfl (fun _ => rfl) (fun _ => rfl) gw_164 ?_
  have iv11 := iv10.putR 2 43
  generalize am_upr g10 40 2 43 = g11 at iv11 ⊢
  refine NP.aload_n (i := 0) d_X6_init_47 rfl rfl ?_
  refine NP.iconst (x := 0) d_X6_init_48 (by decide) ?_
  refine NP.putI (ci := 6) (j := 3) (q := (RX6, TX6, 8)) d_X6_init_49 rfl (iv11.lt (by decide)) rfl (by decide) rfl rfl gw_166 ?_
  have iv12 := iv11.putI 3 0
  generalize am_up h10 40 3 0 = h12 at iv12 ⊢
  refine NP.aload_n (i := 0) d_X6_init_52 rfl rfl ?_
  refine NP.iconst (x := 4) d_X6_init_53 (by decide) ?_
  refine NP.putI (ci := 6) (j := 4) (q := (RX6, TX6, 8)) d_X6_init_54 rfl (iv12.lt (by decide)) rfl (by decide) rfl rfl gw_169 ?_
  have iv13 := iv12.putI 4 4
  generalize am_up h12 40 4 4 = h13 at iv13 ⊢
  refine NP.aload_n (i := 0) d_X6_init_57 rfl rfl ?_
  refine NP.iconst (x := 1) d_X6_init_58 (by decide) ?_
  refine NP.putI (ci := 6) (j := 5) (q := (RX6, TX6, 8)) d_X6_init_59 rfl (iv13.lt (by decide)) rfl (by decide) rfl rfl gw_172 ?_
  have iv14 := iv13.putI 5 1
  generalize am_up h13 40 5 1 = h14 at iv14 ⊢
  refine NP.aload_n (i := 0) d_X6_init_62 rfl rfl ?_
  refine NP.bipush (x := 31) d_X6_init_63 (by decide) ?_
  refine NP.putI (ci := 6) (j := 6) (q := (RX6, TX6, 8)) d_X6_init_65 rfl (iv14.lt (by decide)) rfl (by decide) rfl rfl gw_175 ?_
  have iv15 := iv14.putI 6 31
  generalize am_up h14 40 6 31 = h15 at iv15 ⊢
  refine NP.aload_n (i := 0) d_X6_init_68 rfl rfl ?_
  refine NP.iconst (x := 0) d_X6_init_69 (by decide) ?_
  refine NP.putI (ci := 6) (j := 7) (q := (RX6, TX6, 8)) d_X6_init_70 rfl (iv15.lt (by decide)) rfl (by decide) rfl rfl gw_177 ?_
  have iv16 := iv15.putI 7 0
  generalize am_up h15 40 7 0 = h16 at iv16 ⊢
  exact NP.vret d_X6_init_73 rfl (hΦ _ _ (iv16.fin rfl hr_40))
theorem gw_260 : Cond.methodLinkNest "CaveEchoes$History" 21 yX6_init "CaveEchoes" ∈ am_NW := am_nw 260 (by decide +kernel) (by decide +kernel)
theorem ki_X1_init_21 : am_csI M_X1_init 21 M_X6_init := ⟨by decide +kernel, rfl, rfl, gw_69, gw_105, gw_104, Or.inr gw_260⟩
theorem ci_X2_52 {hi : am_HI} {g : am_G} (hg : g.1 = some 53) (hz : hi 52 = fun _ => 0) (hr : g.2.1 52 = fun _ => none) : am_Cn M_X2_init (5, 112) [.ref 52] hi g (FINP 52 58 hi g) := by
  refine am_cn rfl (by decide) (Nat.le_of_ble_eq_true rfl) (fun Φ hΦ => ?_)
  show NP M_X2_init _ 0 [.ref 52] [] hi g Φ
  have iv := IV.st hg hz hr
  refine NP.aload_n (i := 0) d_X2_init_0 rfl rfl ?_
  refine NP.objInit d_X2_init_1 gw_112 (by decide) (by decide) ?_
  refine NP.aload_n (i := 0) d_X2_init_4 rfl rfl ?_
  refine NP.iconst (x := 4) d_X2_init_5 (by decide) ?_
  refine NP.newI (b := (4, 108)) (n := 53) (N := 4) d_X2_init_6 iv.1 rfl rfl (by decide) ?_
  have iw1 := iv.new
  generalize am_mkI hi 53 = h1 at iw1 ⊢
  generalize am_mk g 53 = g1 at iw1 ⊢
  have iv1 := iw1.done rfl rfl
  refine NP.putRF (ci := 2) (j := 0) (q := (RX2, TX2, 8)) d_X2_init_8 rfl (iv1.lt (by decide)) rfl (by decide) rfl rfl rfl rfl rfl (fun _ => rfl) (fun _ => rfl) gw_113 ?_
  have iv2 := iv1.putR 0 53
  generalize am_upr g1 52 0 53 = g2 at iv2 ⊢
  refine NP.aload_n (i := 0) d_X2_init_11 rfl rfl ?_
  refine NP.bipush (x := 6) d_X2_init_12 (by decide) ?_
  refine NP.newI (b := (3, 102)) (n := 54) (N := 6) d_X2_init_14 iv2.1 rfl rfl (by decide) ?_
  have iw3 := iv2.new
  generalize am_mkI h1 54 = h3 at iw3 ⊢
  generalize am_mk g2 54 = g3 at iw3 ⊢
  have iv3 := iw3.done rfl rfl
  refine NP.putRF (ci := 2) (j := 1) (q := (RX2, TX2, 8)) d_X2_init_16 rfl (iv3.lt (by decide)) rfl (by decide) rfl rfl rfl rfl rfl (fun _ => rfl) (fun _ => rfl) gw_116 ?_
  have iv4 := iv3.putR 1 54
  generalize am_upr g3 52 1 54 = g4 at iv4 ⊢
  refine NP.aload_n (i := 0) d_X2_init_19 rfl rfl ?_
  refine NP.bipush (x := 6) d_X2_init_20 (by decide) ?_
  refine NP.newI (b := (2, 96)) (n := 55) (N := 6) d_X2_init_22 iv4.1 rfl rfl (by decide) ?_
  have iw5 := iv4.new
  generalize am_mkI h3 55 = h5 at iw5 ⊢
  generalize am_mk g4 55 = g5 at iw5 ⊢
  have iv5 := iw5.done rfl rfl
  refine NP.putRF (ci := 2) (j := 2) (q := (RX2, TX2, 8)) d_X2_init_24 rfl (iv5.lt (by decide)) rfl (by decide) rfl rfl rfl rfl rfl (fun _ => rfl) (fun _ => rfl) gw_120 ?_
  have iv6 := iv5.putR 2 55
  generalize am_upr g5 52 2 55 = g6 at iv6 ⊢
  refine NP.aload_n (i := 0) d_X2_init_27 rfl rfl ?_
  refine NP.bipush (x := 48) d_X2_init_28 (by decide) ?_
  refine NP.newI (b := (1, 48)) (n := 56) (N := 48) d_X2_init_30 iv6.1 rfl rfl (by decide) ?_
  have iw7 := iv6.new
  generalize am_mkI h5 56 = h7 at iw7 ⊢
  generalize am_mk g6 56 = g7 at iw7 ⊢
  have iv7 := iw7.done rfl rfl
  refine NP.putRF (ci := 2) (j := 3) (q := (RX2, TX2, 8)) d_X2_init_32 rfl (iv7.lt (by decide)) rfl (by decide) rfl rfl rfl rfl rfl (fun _ => rfl) (fun _ => rfl) gw_123 ?_
  have iv8 := iv7.putR 3 56
  generalize am_upr g7 52 3 56 = g8 at iv8 ⊢
  refine NP.aload_n (i := 0) d_X2_init_35 rfl rfl ?_
  refine NP.bipush (x := 48) d_X2_init_36 (by decide) ?_
  refine NP.newI (b := (0, 0)) (n := 57) (N := 48) d_X2_init_38 iv8.1 rfl rfl (by decide) ?_
  have iw9 := iv8.new
  generalize am_mkI h7 57 = h9 at iw9 ⊢
  generalize am_mk g8 57 = g9 at iw9 ⊢
  have iv9 := iw9.done rfl rfl
  refine NP.putRF (ci := 2) (j := 4) (q := (RX2, TX2, 8)) d_X2_init_40 rfl (iv9.lt (by decide)) rfl (by decide) rfl rfl rfl rfl rfl (fun _ => rfl) (fun _ => rfl) gw_127 ?_
  have iv10 := iv9.putR 4 57
  generalize am_upr g9 52 4 57 = g10 at iv10 ⊢
  refine NP.aload_n (i := 0) d_X2_init_43 rfl rfl ?_
  refine NP.iconst (x := 0) d_X2_init_44 (by decide) ?_
  refine NP.putI (ci := 2) (j := 5) (q := (RX2, TX2, 8)) d_X2_init_45 rfl (iv10.lt (by decide)) rfl (by decide) rfl rfl gw_130 ?_
  have iv11 := iv10.putI 5 0
  generalize am_up h9 52 5 0 = h11 at iv11 ⊢
  refine NP.aload_n (i := 0) d_X2_init_48 rfl rfl ?_
  refine NP.iconst (x := 1) d_X2_init_49 (by decide) ?_
  refine NP.putI (ci := 2) (j := 6) (q := (RX2, TX2, 8)) d_X2_init_50 rfl (iv11.lt (by decide)) rfl (by decide) rfl rfl gw_134 ?_
  have iv12 := iv11.putI 6 1
  generalize am_up h11 52 6 1 = h12 at iv12 ⊢
  refine NP.aload_n (i := 0) d_X2_init_53 rfl rfl ?_
  refine NP.iconst (x := 0) d_X2_init_54 (by decide) ?_
  refine NP.putI (ci := 2) (j := 7) (q := (RX2, TX2, 8)) d_X2_init_55 rfl (iv12.lt (by decide)) rfl (by decide) rfl rfl gw_137 ?_
  have iv13 := iv12.putI 7 0
  generalize am_up h12 52 7 0 = h13 at iv13 ⊢
  exact NP.vret d_X2_init_58 rfl (hΦ _ _ (iv13.fin rfl hr_52))
theorem ci_X6_49 {hi : am_HI} {g : am_G} (hg : g.1 = some 50) (hz : hi 49 = fun _ => 0) (hr : g.2.1 49 = fun _ => none) : am_Cn M_X6_init (8, 172) [.ref 49] hi g (FINP 49 58 hi g) := by
  refine am_cn rfl (by decide) (Nat.le_of_ble_eq_true rfl) (fun Φ hΦ => ?_)
  show NP M_X6_init _ 0 [.ref 49] [] hi g Φ
  have iv := IV.st hg hz hr
  refine NP.aload_n (i := 0) d_X6_init_0 rfl rfl ?_
  refine NP.objInit d_X6_init_1 gw_106 (by decide) (by decide) ?_
  refine NP.aload_n (i := 0) d_X6_init_4 rfl rfl ?_
  refine NP.bipush (x := 48) d_X6_init_5 (by decide) ?_
  refine NP.newI (b := (7, 124)) (n := 50) (N := 48) d_X6_init_7 iv.1 rfl rfl (by decide) ?_
  have iw1 := iv.new
  generalize am_mkI hi 50 = h1 at iw1 ⊢
  generalize am_mk g 50 = g1 at iw1 ⊢
  have iv1 := iw1.done rfl rfl
  refine NP.putRF (ci := 6) (j := 0) (q := (RX6, TX6, 8)) d_X6_init_9 rfl (iv1.lt (by decide)) rfl (by decide) rfl rfl rfl rfl rfl (fun _ => rfl) (fun _ => rfl) gw_158 ?_
  have iv2 := iv1.putR 0 50
  generalize am_upr g1 49 0 50 = g2 at iv2 ⊢
  refine NP.aload_n (i := 0) d_X6_init_12 rfl rfl ?_
  refine NP.iconst (x := 4) d_X6_init_13 (by decide) ?_
  refine NP.newI (b := (6, 120)) (n := 51) (N := 4) d_X6_init_14 iv2.1 rfl rfl (by decide) ?_
  have iw3 := iv2.new
  generalize am_mkI h1 51 = h3 at iw3 ⊢
  generalize am_mk g2 51 = g3 at iw3 ⊢
  refine NP.dup d_X6_init_16 rfl ?_
  refine NP.iconst (x := 0) d_X6_init_17 (by decide) ?_
  refine NP.bipush (x := 16) d_X6_init_18 (by decide) ?_
  refine NP.iast (n := 4) (j := 0) d_X6_init_20 rfl (iw3.lt (by decide)) (by decide) rfl (by decide) ?_
  have iw4 := iw3.putI 0 16
  generalize am_up h3 51 0 16 = h4 at iw4 ⊢
  refine NP.dup d_X6_init_21 rfl ?_
  refine NP.iconst (x := 1) d_X6_init_22 (by decide) ?_
  refine NP.iconst (x := 0) d_X6_init_23 (by decide) ?_
  refine NP.iast (n := 4) (j := 1) d_X6_init_24 rfl (iw4.lt (by decide)) (by decide) rfl (by decide) ?_
  have iw5 := iw4.putI 1 0
  generalize am_up h4 51 1 0 = h5 at iw5 ⊢
  refine NP.dup d_X6_init_25 rfl ?_
  refine NP.iconst (x := 2) d_X6_init_26 (by decide) ?_
  refine NP.iconst (x := 0) d_X6_init_27 (by decide) ?_
  refine NP.iast (n := 4) (j := 2) d_X6_init_28 rfl (iw5.lt (by decide)) (by decide) rfl (by decide) ?_
  have iw6 := iw5.putI 2 0
  generalize am_up h5 51 2 0 = h6 at iw6 ⊢
  refine NP.dup d_X6_init_29 rfl ?_
  refine NP.iconst (x := 3) d_X6_init_30 (by decide) ?_
  refine NP.iconst (x := 0) d_X6_init_31 (by decide) ?_
  refine NP.iast (n := 4) (j := 3) d_X6_init_32 rfl (iw6.lt (by decide)) (by decide) rfl (by decide) ?_
  have iw7 := iw6.putI 3 0
  generalize am_up h6 51 3 0 = h7 at iw7 ⊢
  have iv7 := iw7.done rfl rfl
  refine NP.putRF (ci := 6) (j := 1) (q := (RX6, TX6, 8)) d_X6_init_33 rfl (iv7.lt (by decide)) rfl (by decide) rfl rfl rfl rfl rfl (fun _ => rfl) (fun _ => rfl) gw_161 ?_
  have iv8 := iv7.putR 1 51
  generalize am_upr g3 49 1 51 = g8 at iv8 ⊢
  refine NP.aload_n (i := 0) d_X6_init_36 rfl rfl ?_
  refine NP.newo (b := (5, 112)) (n := 52) d_X6_init_37 iv8.1 rfl (q := (RX2, TX2, 8)) rfl rfl gw_107 gw_108 gw_70 ?_
  have iw9 := iv8.new
  generalize am_mkI h7 52 = h9 at iw9 ⊢
  generalize am_mk g8 52 = g9 at iw9 ⊢
  refine NP.dup d_X6_init_40 rfl ?_
  refine NP.init (b := (0, 0)) (b' := (5, 112)) d_X6_init_41 (ci_X2_52 iw9.1 iw9.2.2.2.2.2.1 iw9.2.2.2.2.2.2) ki_X6_init_20 (by decide) (FINP.ph iw9.1 (by decide)) (fun h10 g10 f10 => ?_)
  have iv10 := iw9.call f10 (by decide)
  refine NP.putRF (ci := 6) (j := 2) (q := (RX6, TX6, 8)) d_X6_init_44 rfl (iv10.lt (by decide)) rfl (by decide) rfl rfl rfl rfl rfl (fun _ => rfl) (fun _ => rfl) gw_164 ?_
  have iv11 := iv10.putR 2 52
  generalize am_upr g10 49 2 52 = g11 at iv11 ⊢
  refine NP.aload_n (i := 0) d_X6_init_47 rfl rfl ?_
  refine NP.iconst (x := 0) d_X6_init_48 (by decide) ?_
  refine NP.putI (ci := 6) (j := 3) (q := (RX6, TX6, 8)) d_X6_init_49 rfl (iv11.lt (by decide)) rfl (by decide) rfl rfl gw_166 ?_
  have iv12 := iv11.putI 3 0
  generalize am_up h10 49 3 0 = h12 at iv12 ⊢
  refine NP.aload_n (i := 0) d_X6_init_52 rfl rfl ?_
  refine NP.iconst (x := 4) d_X6_init_53 (by decide) ?_
  refine NP.putI (ci := 6) (j := 4) (q := (RX6, TX6, 8)) d_X6_init_54 rfl (iv12.lt (by decide)) rfl (by decide) rfl rfl gw_169 ?_
  have iv13 := iv12.putI 4 4
  generalize am_up h12 49 4 4 = h13 at iv13 ⊢
  refine NP.aload_n (i := 0) d_X6_init_57 rfl rfl ?_
  refine NP.iconst (x := 1) d_X6_init_58 (by decide) ?_
  refine NP.putI (ci := 6) (j := 5) (q := (RX6, TX6, 8)) d_X6_init_59 rfl (iv13.lt (by decide)) rfl (by decide) rfl rfl gw_172 ?_
  have iv14 := iv13.putI 5 1
  generalize am_up h13 49 5 1 = h14 at iv14 ⊢
  refine NP.aload_n (i := 0) d_X6_init_62 rfl rfl ?_
  refine NP.bipush (x := 31) d_X6_init_63 (by decide) ?_
  refine NP.putI (ci := 6) (j := 6) (q := (RX6, TX6, 8)) d_X6_init_65 rfl (iv14.lt (by decide)) rfl (by decide) rfl rfl gw_175 ?_
  have iv15 := iv14.putI 6 31
  generalize am_up h14 49 6 31 = h15 at iv15 ⊢
  refine NP.aload_n (i := 0) d_X6_init_68 rfl rfl ?_
  refine NP.iconst (x := 0) d_X6_init_69 (by decide) ?_
  refine NP.putI (ci := 6) (j := 7) (q := (RX6, TX6, 8)) d_X6_init_70 rfl (iv15.lt (by decide)) rfl (by decide) rfl rfl gw_177 ?_
  have iv16 := iv15.putI 7 0
  generalize am_up h15 49 7 0 = h16 at iv16 ⊢
  exact NP.vret d_X6_init_73 rfl (hΦ _ _ (iv16.fin rfl hr_49))
theorem ci_X2_61 {hi : am_HI} {g : am_G} (hg : g.1 = some 62) (hz : hi 61 = fun _ => 0) (hr : g.2.1 61 = fun _ => none) : am_Cn M_X2_init (5, 112) [.ref 61] hi g (FINP 61 67 hi g) := by
  refine am_cn rfl (by decide) (Nat.le_of_ble_eq_true rfl) (fun Φ hΦ => ?_)
  show NP M_X2_init _ 0 [.ref 61] [] hi g Φ
  have iv := IV.st hg hz hr
  refine NP.aload_n (i := 0) d_X2_init_0 rfl rfl ?_
  refine NP.objInit d_X2_init_1 gw_112 (by decide) (by decide) ?_
  refine NP.aload_n (i := 0) d_X2_init_4 rfl rfl ?_
  refine NP.iconst (x := 4) d_X2_init_5 (by decide) ?_
  refine NP.newI (b := (4, 108)) (n := 62) (N := 4) d_X2_init_6 iv.1 rfl rfl (by decide) ?_
  have iw1 := iv.new
  generalize am_mkI hi 62 = h1 at iw1 ⊢
  generalize am_mk g 62 = g1 at iw1 ⊢
  have iv1 := iw1.done rfl rfl
  refine NP.putRF (ci := 2) (j := 0) (q := (RX2, TX2, 8)) d_X2_init_8 rfl (iv1.lt (by decide)) rfl (by decide) rfl rfl rfl rfl rfl (fun _ => rfl) (fun _ => rfl) gw_113 ?_
  have iv2 := iv1.putR 0 62
  generalize am_upr g1 61 0 62 = g2 at iv2 ⊢
  refine NP.aload_n (i := 0) d_X2_init_11 rfl rfl ?_
  refine NP.bipush (x := 6) d_X2_init_12 (by decide) ?_
  refine NP.newI (b := (3, 102)) (n := 63) (N := 6) d_X2_init_14 iv2.1 rfl rfl (by decide) ?_
  have iw3 := iv2.new
  generalize am_mkI h1 63 = h3 at iw3 ⊢
  generalize am_mk g2 63 = g3 at iw3 ⊢
  have iv3 := iw3.done rfl rfl
  refine NP.putRF (ci := 2) (j := 1) (q := (RX2, TX2, 8)) d_X2_init_16 rfl (iv3.lt (by decide)) rfl (by decide) rfl rfl rfl rfl rfl (fun _ => rfl) (fun _ => rfl) gw_116 ?_
  have iv4 := iv3.putR 1 63
  generalize am_upr g3 61 1 63 = g4 at iv4 ⊢
  refine NP.aload_n (i := 0) d_X2_init_19 rfl rfl ?_
  refine NP.bipush (x := 6) d_X2_init_20 (by decide) ?_
  refine NP.newI (b := (2, 96)) (n := 64) (N := 6) d_X2_init_22 iv4.1 rfl rfl (by decide) ?_
  have iw5 := iv4.new
  generalize am_mkI h3 64 = h5 at iw5 ⊢
  generalize am_mk g4 64 = g5 at iw5 ⊢
  have iv5 := iw5.done rfl rfl
  refine NP.putRF (ci := 2) (j := 2) (q := (RX2, TX2, 8)) d_X2_init_24 rfl (iv5.lt (by decide)) rfl (by decide) rfl rfl rfl rfl rfl (fun _ => rfl) (fun _ => rfl) gw_120 ?_
  have iv6 := iv5.putR 2 64
  generalize am_upr g5 61 2 64 = g6 at iv6 ⊢
  refine NP.aload_n (i := 0) d_X2_init_27 rfl rfl ?_
  refine NP.bipush (x := 48) d_X2_init_28 (by decide) ?_
  refine NP.newI (b := (1, 48)) (n := 65) (N := 48) d_X2_init_30 iv6.1 rfl rfl (by decide) ?_
  have iw7 := iv6.new
  generalize am_mkI h5 65 = h7 at iw7 ⊢
  generalize am_mk g6 65 = g7 at iw7 ⊢
  have iv7 := iw7.done rfl rfl
  refine NP.putRF (ci := 2) (j := 3) (q := (RX2, TX2, 8)) d_X2_init_32 rfl (iv7.lt (by decide)) rfl (by decide) rfl rfl rfl rfl rfl (fun _ => rfl) (fun _ => rfl) gw_123 ?_
  have iv8 := iv7.putR 3 65
  generalize am_upr g7 61 3 65 = g8 at iv8 ⊢
  refine NP.aload_n (i := 0) d_X2_init_35 rfl rfl ?_
  refine NP.bipush (x := 48) d_X2_init_36 (by decide) ?_
  refine NP.newI (b := (0, 0)) (n := 66) (N := 48) d_X2_init_38 iv8.1 rfl rfl (by decide) ?_
  have iw9 := iv8.new
  generalize am_mkI h7 66 = h9 at iw9 ⊢
  generalize am_mk g8 66 = g9 at iw9 ⊢
  have iv9 := iw9.done rfl rfl
  refine NP.putRF (ci := 2) (j := 4) (q := (RX2, TX2, 8)) d_X2_init_40 rfl (iv9.lt (by decide)) rfl (by decide) rfl rfl rfl rfl rfl (fun _ => rfl) (fun _ => rfl) gw_127 ?_
  have iv10 := iv9.putR 4 66
  generalize am_upr g9 61 4 66 = g10 at iv10 ⊢
  refine NP.aload_n (i := 0) d_X2_init_43 rfl rfl ?_
  refine NP.iconst (x := 0) d_X2_init_44 (by decide) ?_
  refine NP.putI (ci := 2) (j := 5) (q := (RX2, TX2, 8)) d_X2_init_45 rfl (iv10.lt (by decide)) rfl (by decide) rfl rfl gw_130 ?_
  have iv11 := iv10.putI 5 0
  generalize am_up h9 61 5 0 = h11 at iv11 ⊢
  refine NP.aload_n (i := 0) d_X2_init_48 rfl rfl ?_
  refine NP.iconst (x := 1) d_X2_init_49 (by decide) ?_
  refine NP.putI (ci := 2) (j := 6) (q := (RX2, TX2, 8)) d_X2_init_50 rfl (iv11.lt (by decide)) rfl (by decide) rfl rfl gw_134 ?_
  have iv12 := iv11.putI 6 1
  generalize am_up h11 61 6 1 = h12 at iv12 ⊢
  refine NP.aload_n (i := 0) d_X2_init_53 rfl rfl ?_
  refine NP.iconst (x := 0) d_X2_init_54 (by decide) ?_
  refine NP.putI (ci := 2) (j := 7) (q := (RX2, TX2, 8)) d_X2_init_55 rfl (iv12.lt (by decide)) rfl (by decide) rfl rfl gw_137 ?_
  have iv13 := iv12.putI 7 0
  generalize am_up h12 61 7 0 = h13 at iv13 ⊢
  exact NP.vret d_X2_init_58 rfl (hΦ _ _ (iv13.fin rfl hr_61))
theorem ci_X6_58 {hi : am_HI} {g : am_G} (hg : g.1 = some 59) (hz : hi 58 = fun _ => 0) (hr : g.2.1 58 = fun _ => none) : am_Cn M_X6_init (8, 172) [.ref 58] hi g (FINP 58 67 hi g) := by
  refine am_cn rfl (by decide) (Nat.le_of_ble_eq_true rfl) (fun Φ hΦ => ?_)
  show NP M_X6_init _ 0 [.ref 58] [] hi g Φ
  have iv := IV.st hg hz hr
  refine NP.aload_n (i := 0) d_X6_init_0 rfl rfl ?_
  refine NP.objInit d_X6_init_1 gw_106 (by decide) (by decide) ?_
  refine NP.aload_n (i := 0) d_X6_init_4 rfl rfl ?_
  refine NP.bipush (x := 48) d_X6_init_5 (by decide) ?_
  refine NP.newI (b := (7, 124)) (n := 59) (N := 48) d_X6_init_7 iv.1 rfl rfl (by decide) ?_
  have iw1 := iv.new
  generalize am_mkI hi 59 = h1 at iw1 ⊢
  generalize am_mk g 59 = g1 at iw1 ⊢
  have iv1 := iw1.done rfl rfl
  refine NP.putRF (ci := 6) (j := 0) (q := (RX6, TX6, 8)) d_X6_init_9 rfl (iv1.lt (by decide)) rfl (by decide) rfl rfl rfl rfl rfl (fun _ => rfl) (fun _ => rfl) gw_158 ?_
  have iv2 := iv1.putR 0 59
  generalize am_upr g1 58 0 59 = g2 at iv2 ⊢
  refine NP.aload_n (i := 0) d_X6_init_12 rfl rfl ?_
  refine NP.iconst (x := 4) d_X6_init_13 (by decide) ?_
  refine NP.newI (b := (6, 120)) (n := 60) (N := 4) d_X6_init_14 iv2.1 rfl rfl (by decide) ?_
  have iw3 := iv2.new
  generalize am_mkI h1 60 = h3 at iw3 ⊢
  generalize am_mk g2 60 = g3 at iw3 ⊢
  refine NP.dup d_X6_init_16 rfl ?_
  refine NP.iconst (x := 0) d_X6_init_17 (by decide) ?_
  refine NP.bipush (x := 16) d_X6_init_18 (by decide) ?_
  refine NP.iast (n := 4) (j := 0) d_X6_init_20 rfl (iw3.lt (by decide)) (by decide) rfl (by decide) ?_
  have iw4 := iw3.putI 0 16
  generalize am_up h3 60 0 16 = h4 at iw4 ⊢
  refine NP.dup d_X6_init_21 rfl ?_
  refine NP.iconst (x := 1) d_X6_init_22 (by decide) ?_
  refine NP.iconst (x := 0) d_X6_init_23 (by decide) ?_
  refine NP.iast (n := 4) (j := 1) d_X6_init_24 rfl (iw4.lt (by decide)) (by decide) rfl (by decide) ?_
  have iw5 := iw4.putI 1 0
  generalize am_up h4 60 1 0 = h5 at iw5 ⊢
  refine NP.dup d_X6_init_25 rfl ?_
  refine NP.iconst (x := 2) d_X6_init_26 (by decide) ?_
  refine NP.iconst (x := 0) d_X6_init_27 (by decide) ?_
  refine NP.iast (n := 4) (j := 2) d_X6_init_28 rfl (iw5.lt (by decide)) (by decide) rfl (by decide) ?_
  have iw6 := iw5.putI 2 0
  generalize am_up h5 60 2 0 = h6 at iw6 ⊢
  refine NP.dup d_X6_init_29 rfl ?_
  refine NP.iconst (x := 3) d_X6_init_30 (by decide) ?_
  refine NP.iconst (x := 0) d_X6_init_31 (by decide) ?_
  refine NP.iast (n := 4) (j := 3) d_X6_init_32 rfl (iw6.lt (by decide)) (by decide) rfl (by decide) ?_
  have iw7 := iw6.putI 3 0
  generalize am_up h6 60 3 0 = h7 at iw7 ⊢
  have iv7 := iw7.done rfl rfl
  refine NP.putRF (ci := 6) (j := 1) (q := (RX6, TX6, 8)) d_X6_init_33 rfl (iv7.lt (by decide)) rfl (by decide) rfl rfl rfl rfl rfl (fun _ => rfl) (fun _ => rfl) gw_161 ?_
  have iv8 := iv7.putR 1 60
  generalize am_upr g3 58 1 60 = g8 at iv8 ⊢
  refine NP.aload_n (i := 0) d_X6_init_36 rfl rfl ?_
  refine NP.newo (b := (5, 112)) (n := 61) d_X6_init_37 iv8.1 rfl (q := (RX2, TX2, 8)) rfl rfl gw_107 gw_108 gw_70 ?_
  have iw9 := iv8.new
  generalize am_mkI h7 61 = h9 at iw9 ⊢
  generalize am_mk g8 61 = g9 at iw9 ⊢
  refine NP.dup d_X6_init_40 rfl ?_
  refine NP.init (b := (0, 0)) (b' := (5, 112)) d_X6_init_41 (ci_X2_61 iw9.1 iw9.2.2.2.2.2.1 iw9.2.2.2.2.2.2) ki_X6_init_20 (by decide) (FINP.ph iw9.1 (by decide)) (fun h10 g10 f10 => ?_)
  have iv10 := iw9.call f10 (by decide)
  refine NP.putRF (ci := 6) (j := 2) (q := (RX6, TX6, 8)) d_X6_init_44 rfl (iv10.lt (by decide)) rfl (by decide) rfl rfl rfl rfl rfl (fun _ => rfl) (fun _ => rfl) gw_164 ?_
  have iv11 := iv10.putR 2 61
  generalize am_upr g10 58 2 61 = g11 at iv11 ⊢
  refine NP.aload_n (i := 0) d_X6_init_47 rfl rfl ?_
  refine NP.iconst (x := 0) d_X6_init_48 (by decide) ?_
  refine NP.putI (ci := 6) (j := 3) (q := (RX6, TX6, 8)) d_X6_init_49 rfl (iv11.lt (by decide)) rfl (by decide) rfl rfl gw_166 ?_
  have iv12 := iv11.putI 3 0
  generalize am_up h10 58 3 0 = h12 at iv12 ⊢
  refine NP.aload_n (i := 0) d_X6_init_52 rfl rfl ?_
  refine NP.iconst (x := 4) d_X6_init_53 (by decide) ?_
  refine NP.putI (ci := 6) (j := 4) (q := (RX6, TX6, 8)) d_X6_init_54 rfl (iv12.lt (by decide)) rfl (by decide) rfl rfl gw_169 ?_
  have iv13 := iv12.putI 4 4
  generalize am_up h12 58 4 4 = h13 at iv13 ⊢
  refine NP.aload_n (i := 0) d_X6_init_57 rfl rfl ?_
  refine NP.iconst (x := 1) d_X6_init_58 (by decide) ?_
  refine NP.putI (ci := 6) (j := 5) (q := (RX6, TX6, 8)) d_X6_init_59 rfl (iv13.lt (by decide)) rfl (by decide) rfl rfl gw_172 ?_
  have iv14 := iv13.putI 5 1
  generalize am_up h13 58 5 1 = h14 at iv14 ⊢
  refine NP.aload_n (i := 0) d_X6_init_62 rfl rfl ?_
  refine NP.bipush (x := 31) d_X6_init_63 (by decide) ?_
  refine NP.putI (ci := 6) (j := 6) (q := (RX6, TX6, 8)) d_X6_init_65 rfl (iv14.lt (by decide)) rfl (by decide) rfl rfl gw_175 ?_
  have iv15 := iv14.putI 6 31
  generalize am_up h14 58 6 31 = h15 at iv15 ⊢
  refine NP.aload_n (i := 0) d_X6_init_68 rfl rfl ?_
  refine NP.iconst (x := 0) d_X6_init_69 (by decide) ?_
  refine NP.putI (ci := 6) (j := 7) (q := (RX6, TX6, 8)) d_X6_init_70 rfl (iv15.lt (by decide)) rfl (by decide) rfl rfl gw_177 ?_
  have iv16 := iv15.putI 7 0
  generalize am_up h15 58 7 0 = h16 at iv16 ⊢
  exact NP.vret d_X6_init_73 rfl (hΦ _ _ (iv16.fin rfl hr_58))
theorem ci_X2_70 {hi : am_HI} {g : am_G} (hg : g.1 = some 71) (hz : hi 70 = fun _ => 0) (hr : g.2.1 70 = fun _ => none) : am_Cn M_X2_init (5, 112) [.ref 70] hi g (FINP 70 76 hi g) := by
  refine am_cn rfl (by decide) (Nat.le_of_ble_eq_true rfl) (fun Φ hΦ => ?_)
  show NP M_X2_init _ 0 [.ref 70] [] hi g Φ
  have iv := IV.st hg hz hr
  refine NP.aload_n (i := 0) d_X2_init_0 rfl rfl ?_
  refine NP.objInit d_X2_init_1 gw_112 (by decide) (by decide) ?_
  refine NP.aload_n (i := 0) d_X2_init_4 rfl rfl ?_
  refine NP.iconst (x := 4) d_X2_init_5 (by decide) ?_
  refine NP.newI (b := (4, 108)) (n := 71) (N := 4) d_X2_init_6 iv.1 rfl rfl (by decide) ?_
  have iw1 := iv.new
  generalize am_mkI hi 71 = h1 at iw1 ⊢
  generalize am_mk g 71 = g1 at iw1 ⊢
  have iv1 := iw1.done rfl rfl
  refine NP.putRF (ci := 2) (j := 0) (q := (RX2, TX2, 8)) d_X2_init_8 rfl (iv1.lt (by decide)) rfl (by decide) rfl rfl rfl rfl rfl (fun _ => rfl) (fun _ => rfl) gw_113 ?_
  have iv2 := iv1.putR 0 71
  generalize am_upr g1 70 0 71 = g2 at iv2 ⊢
  refine NP.aload_n (i := 0) d_X2_init_11 rfl rfl ?_
  refine NP.bipush (x := 6) d_X2_init_12 (by decide) ?_
  refine NP.newI (b := (3, 102)) (n := 72) (N := 6) d_X2_init_14 iv2.1 rfl rfl (by decide) ?_
  have iw3 := iv2.new
  generalize am_mkI h1 72 = h3 at iw3 ⊢
  generalize am_mk g2 72 = g3 at iw3 ⊢
  have iv3 := iw3.done rfl rfl
  refine NP.putRF (ci := 2) (j := 1) (q := (RX2, TX2, 8)) d_X2_init_16 rfl (iv3.lt (by decide)) rfl (by decide) rfl rfl rfl rfl rfl (fun _ => rfl) (fun _ => rfl) gw_116 ?_
  have iv4 := iv3.putR 1 72
  generalize am_upr g3 70 1 72 = g4 at iv4 ⊢
  refine NP.aload_n (i := 0) d_X2_init_19 rfl rfl ?_
  refine NP.bipush (x := 6) d_X2_init_20 (by decide) ?_
  refine NP.newI (b := (2, 96)) (n := 73) (N := 6) d_X2_init_22 iv4.1 rfl rfl (by decide) ?_
  have iw5 := iv4.new
  generalize am_mkI h3 73 = h5 at iw5 ⊢
  generalize am_mk g4 73 = g5 at iw5 ⊢
  have iv5 := iw5.done rfl rfl
  refine NP.putRF (ci := 2) (j := 2) (q := (RX2, TX2, 8)) d_X2_init_24 rfl (iv5.lt (by decide)) rfl (by decide) rfl rfl rfl rfl rfl (fun _ => rfl) (fun _ => rfl) gw_120 ?_
  have iv6 := iv5.putR 2 73
  generalize am_upr g5 70 2 73 = g6 at iv6 ⊢
  refine NP.aload_n (i := 0) d_X2_init_27 rfl rfl ?_
  refine NP.bipush (x := 48) d_X2_init_28 (by decide) ?_
  refine NP.newI (b := (1, 48)) (n := 74) (N := 48) d_X2_init_30 iv6.1 rfl rfl (by decide) ?_
  have iw7 := iv6.new
  generalize am_mkI h5 74 = h7 at iw7 ⊢
  generalize am_mk g6 74 = g7 at iw7 ⊢
  have iv7 := iw7.done rfl rfl
  refine NP.putRF (ci := 2) (j := 3) (q := (RX2, TX2, 8)) d_X2_init_32 rfl (iv7.lt (by decide)) rfl (by decide) rfl rfl rfl rfl rfl (fun _ => rfl) (fun _ => rfl) gw_123 ?_
  have iv8 := iv7.putR 3 74
  generalize am_upr g7 70 3 74 = g8 at iv8 ⊢
  refine NP.aload_n (i := 0) d_X2_init_35 rfl rfl ?_
  refine NP.bipush (x := 48) d_X2_init_36 (by decide) ?_
  refine NP.newI (b := (0, 0)) (n := 75) (N := 48) d_X2_init_38 iv8.1 rfl rfl (by decide) ?_
  have iw9 := iv8.new
  generalize am_mkI h7 75 = h9 at iw9 ⊢
  generalize am_mk g8 75 = g9 at iw9 ⊢
  have iv9 := iw9.done rfl rfl
  refine NP.putRF (ci := 2) (j := 4) (q := (RX2, TX2, 8)) d_X2_init_40 rfl (iv9.lt (by decide)) rfl (by decide) rfl rfl rfl rfl rfl (fun _ => rfl) (fun _ => rfl) gw_127 ?_
  have iv10 := iv9.putR 4 75
  generalize am_upr g9 70 4 75 = g10 at iv10 ⊢
  refine NP.aload_n (i := 0) d_X2_init_43 rfl rfl ?_
  refine NP.iconst (x := 0) d_X2_init_44 (by decide) ?_
  refine NP.putI (ci := 2) (j := 5) (q := (RX2, TX2, 8)) d_X2_init_45 rfl (iv10.lt (by decide)) rfl (by decide) rfl rfl gw_130 ?_
  have iv11 := iv10.putI 5 0
  generalize am_up h9 70 5 0 = h11 at iv11 ⊢
  refine NP.aload_n (i := 0) d_X2_init_48 rfl rfl ?_
  refine NP.iconst (x := 1) d_X2_init_49 (by decide) ?_
  refine NP.putI (ci := 2) (j := 6) (q := (RX2, TX2, 8)) d_X2_init_50 rfl (iv11.lt (by decide)) rfl (by decide) rfl rfl gw_134 ?_
  have iv12 := iv11.putI 6 1
  generalize am_up h11 70 6 1 = h12 at iv12 ⊢
  refine NP.aload_n (i := 0) d_X2_init_53 rfl rfl ?_
  refine NP.iconst (x := 0) d_X2_init_54 (by decide) ?_
  refine NP.putI (ci := 2) (j := 7) (q := (RX2, TX2, 8)) d_X2_init_55 rfl (iv12.lt (by decide)) rfl (by decide) rfl rfl gw_137 ?_
  have iv13 := iv12.putI 7 0
  generalize am_up h12 70 7 0 = h13 at iv13 ⊢
  exact NP.vret d_X2_init_58 rfl (hΦ _ _ (iv13.fin rfl hr_70))
theorem ci_X6_67 {hi : am_HI} {g : am_G} (hg : g.1 = some 68) (hz : hi 67 = fun _ => 0) (hr : g.2.1 67 = fun _ => none) : am_Cn M_X6_init (8, 172) [.ref 67] hi g (FINP 67 76 hi g) := by
  refine am_cn rfl (by decide) (Nat.le_of_ble_eq_true rfl) (fun Φ hΦ => ?_)
  show NP M_X6_init _ 0 [.ref 67] [] hi g Φ
  have iv := IV.st hg hz hr
  refine NP.aload_n (i := 0) d_X6_init_0 rfl rfl ?_
  refine NP.objInit d_X6_init_1 gw_106 (by decide) (by decide) ?_
  refine NP.aload_n (i := 0) d_X6_init_4 rfl rfl ?_
  refine NP.bipush (x := 48) d_X6_init_5 (by decide) ?_
  refine NP.newI (b := (7, 124)) (n := 68) (N := 48) d_X6_init_7 iv.1 rfl rfl (by decide) ?_
  have iw1 := iv.new
  generalize am_mkI hi 68 = h1 at iw1 ⊢
  generalize am_mk g 68 = g1 at iw1 ⊢
  have iv1 := iw1.done rfl rfl
  refine NP.putRF (ci := 6) (j := 0) (q := (RX6, TX6, 8)) d_X6_init_9 rfl (iv1.lt (by decide)) rfl (by decide) rfl rfl rfl rfl rfl (fun _ => rfl) (fun _ => rfl) gw_158 ?_
  have iv2 := iv1.putR 0 68
  generalize am_upr g1 67 0 68 = g2 at iv2 ⊢
  refine NP.aload_n (i := 0) d_X6_init_12 rfl rfl ?_
  refine NP.iconst (x := 4) d_X6_init_13 (by decide) ?_
  refine NP.newI (b := (6, 120)) (n := 69) (N := 4) d_X6_init_14 iv2.1 rfl rfl (by decide) ?_
  have iw3 := iv2.new
  generalize am_mkI h1 69 = h3 at iw3 ⊢
  generalize am_mk g2 69 = g3 at iw3 ⊢
  refine NP.dup d_X6_init_16 rfl ?_
  refine NP.iconst (x := 0) d_X6_init_17 (by decide) ?_
  refine NP.bipush (x := 16) d_X6_init_18 (by decide) ?_
  refine NP.iast (n := 4) (j := 0) d_X6_init_20 rfl (iw3.lt (by decide)) (by decide) rfl (by decide) ?_
  have iw4 := iw3.putI 0 16
  generalize am_up h3 69 0 16 = h4 at iw4 ⊢
  refine NP.dup d_X6_init_21 rfl ?_
  refine NP.iconst (x := 1) d_X6_init_22 (by decide) ?_
  refine NP.iconst (x := 0) d_X6_init_23 (by decide) ?_
  refine NP.iast (n := 4) (j := 1) d_X6_init_24 rfl (iw4.lt (by decide)) (by decide) rfl (by decide) ?_
  have iw5 := iw4.putI 1 0
  generalize am_up h4 69 1 0 = h5 at iw5 ⊢
  refine NP.dup d_X6_init_25 rfl ?_
  refine NP.iconst (x := 2) d_X6_init_26 (by decide) ?_
  refine NP.iconst (x := 0) d_X6_init_27 (by decide) ?_
  refine NP.iast (n := 4) (j := 2) d_X6_init_28 rfl (iw5.lt (by decide)) (by decide) rfl (by decide) ?_
  have iw6 := iw5.putI 2 0
  generalize am_up h5 69 2 0 = h6 at iw6 ⊢
  refine NP.dup d_X6_init_29 rfl ?_
  refine NP.iconst (x := 3) d_X6_init_30 (by decide) ?_
  refine NP.iconst (x := 0) d_X6_init_31 (by decide) ?_
  refine NP.iast (n := 4) (j := 3) d_X6_init_32 rfl (iw6.lt (by decide)) (by decide) rfl (by decide) ?_
  have iw7 := iw6.putI 3 0
  generalize am_up h6 69 3 0 = h7 at iw7 ⊢
  have iv7 := iw7.done rfl rfl
  refine NP.putRF (ci := 6) (j := 1) (q := (RX6, TX6, 8)) d_X6_init_33 rfl (iv7.lt (by decide)) rfl (by decide) rfl rfl rfl rfl rfl (fun _ => rfl) (fun _ => rfl) gw_161 ?_
  have iv8 := iv7.putR 1 69
  generalize am_upr g3 67 1 69 = g8 at iv8 ⊢
  refine NP.aload_n (i := 0) d_X6_init_36 rfl rfl ?_
  refine NP.newo (b := (5, 112)) (n := 70) d_X6_init_37 iv8.1 rfl (q := (RX2, TX2, 8)) rfl rfl gw_107 gw_108 gw_70 ?_
  have iw9 := iv8.new
  generalize am_mkI h7 70 = h9 at iw9 ⊢
  generalize am_mk g8 70 = g9 at iw9 ⊢
  refine NP.dup d_X6_init_40 rfl ?_
  refine NP.init (b := (0, 0)) (b' := (5, 112)) d_X6_init_41 (ci_X2_70 iw9.1 iw9.2.2.2.2.2.1 iw9.2.2.2.2.2.2) ki_X6_init_20 (by decide) (FINP.ph iw9.1 (by decide)) (fun h10 g10 f10 => ?_)
  have iv10 := iw9.call f10 (by decide)
  refine NP.putRF (ci := 6) (j := 2) (q := (RX6, TX6, 8)) d_X6_init_44 rfl (iv10.lt (by decide)) rfl (by decide) rfl rfl rfl rfl rfl (fun _ => rfl) (fun _ => rfl) gw_164 ?_
  have iv11 := iv10.putR 2 70
  generalize am_upr g10 67 2 70 = g11 at iv11 ⊢
  refine NP.aload_n (i := 0) d_X6_init_47 rfl rfl ?_
  refine NP.iconst (x := 0) d_X6_init_48 (by decide) ?_
  refine NP.putI (ci := 6) (j := 3) (q := (RX6, TX6, 8)) d_X6_init_49 rfl (iv11.lt (by decide)) rfl (by decide) rfl rfl gw_166 ?_
  have iv12 := iv11.putI 3 0
  generalize am_up h10 67 3 0 = h12 at iv12 ⊢
  refine NP.aload_n (i := 0) d_X6_init_52 rfl rfl ?_
  refine NP.iconst (x := 4) d_X6_init_53 (by decide) ?_
  refine NP.putI (ci := 6) (j := 4) (q := (RX6, TX6, 8)) d_X6_init_54 rfl (iv12.lt (by decide)) rfl (by decide) rfl rfl gw_169 ?_
  have iv13 := iv12.putI 4 4
  generalize am_up h12 67 4 4 = h13 at iv13 ⊢
  refine NP.aload_n (i := 0) d_X6_init_57 rfl rfl ?_
  refine NP.iconst (x := 1) d_X6_init_58 (by decide) ?_
  refine NP.putI (ci := 6) (j := 5) (q := (RX6, TX6, 8)) d_X6_init_59 rfl (iv13.lt (by decide)) rfl (by decide) rfl rfl gw_172 ?_
  have iv14 := iv13.putI 5 1
  generalize am_up h13 67 5 1 = h14 at iv14 ⊢
  refine NP.aload_n (i := 0) d_X6_init_62 rfl rfl ?_
  refine NP.bipush (x := 31) d_X6_init_63 (by decide) ?_
  refine NP.putI (ci := 6) (j := 6) (q := (RX6, TX6, 8)) d_X6_init_65 rfl (iv14.lt (by decide)) rfl (by decide) rfl rfl gw_175 ?_
  have iv15 := iv14.putI 6 31
  generalize am_up h14 67 6 31 = h15 at iv15 ⊢
  refine NP.aload_n (i := 0) d_X6_init_68 rfl rfl ?_
  refine NP.iconst (x := 0) d_X6_init_69 (by decide) ?_
  refine NP.putI (ci := 6) (j := 7) (q := (RX6, TX6, 8)) d_X6_init_70 rfl (iv15.lt (by decide)) rfl (by decide) rfl rfl gw_177 ?_
  have iv16 := iv15.putI 7 0
  generalize am_up h15 67 7 0 = h16 at iv16 ⊢
  exact NP.vret d_X6_init_73 rfl (hΦ _ _ (iv16.fin rfl hr_67))
theorem ci_X2_79 {hi : am_HI} {g : am_G} (hg : g.1 = some 80) (hz : hi 79 = fun _ => 0) (hr : g.2.1 79 = fun _ => none) : am_Cn M_X2_init (5, 112) [.ref 79] hi g (FINP 79 85 hi g) := by
  refine am_cn rfl (by decide) (Nat.le_of_ble_eq_true rfl) (fun Φ hΦ => ?_)
  show NP M_X2_init _ 0 [.ref 79] [] hi g Φ
  have iv := IV.st hg hz hr
  refine NP.aload_n (i := 0) d_X2_init_0 rfl rfl ?_
  refine NP.objInit d_X2_init_1 gw_112 (by decide) (by decide) ?_
  refine NP.aload_n (i := 0) d_X2_init_4 rfl rfl ?_
  refine NP.iconst (x := 4) d_X2_init_5 (by decide) ?_
  refine NP.newI (b := (4, 108)) (n := 80) (N := 4) d_X2_init_6 iv.1 rfl rfl (by decide) ?_
  have iw1 := iv.new
  generalize am_mkI hi 80 = h1 at iw1 ⊢
  generalize am_mk g 80 = g1 at iw1 ⊢
  have iv1 := iw1.done rfl rfl
  refine NP.putRF (ci := 2) (j := 0) (q := (RX2, TX2, 8)) d_X2_init_8 rfl (iv1.lt (by decide)) rfl (by decide) rfl rfl rfl rfl rfl (fun _ => rfl) (fun _ => rfl) gw_113 ?_
  have iv2 := iv1.putR 0 80
  generalize am_upr g1 79 0 80 = g2 at iv2 ⊢
  refine NP.aload_n (i := 0) d_X2_init_11 rfl rfl ?_
  refine NP.bipush (x := 6) d_X2_init_12 (by decide) ?_
  refine NP.newI (b := (3, 102)) (n := 81) (N := 6) d_X2_init_14 iv2.1 rfl rfl (by decide) ?_
  have iw3 := iv2.new
  generalize am_mkI h1 81 = h3 at iw3 ⊢
  generalize am_mk g2 81 = g3 at iw3 ⊢
  have iv3 := iw3.done rfl rfl
  refine NP.putRF (ci := 2) (j := 1) (q := (RX2, TX2, 8)) d_X2_init_16 rfl (iv3.lt (by decide)) rfl (by decide) rfl rfl rfl rfl rfl (fun _ => rfl) (fun _ => rfl) gw_116 ?_
  have iv4 := iv3.putR 1 81
  generalize am_upr g3 79 1 81 = g4 at iv4 ⊢
  refine NP.aload_n (i := 0) d_X2_init_19 rfl rfl ?_
  refine NP.bipush (x := 6) d_X2_init_20 (by decide) ?_
  refine NP.newI (b := (2, 96)) (n := 82) (N := 6) d_X2_init_22 iv4.1 rfl rfl (by decide) ?_
  have iw5 := iv4.new
  generalize am_mkI h3 82 = h5 at iw5 ⊢
  generalize am_mk g4 82 = g5 at iw5 ⊢
  have iv5 := iw5.done rfl rfl
  refine NP.putRF (ci := 2) (j := 2) (q := (RX2, TX2, 8)) d_X2_init_24 rfl (iv5.lt (by decide)) rfl (by decide) rfl rfl rfl rfl rfl (fun _ => rfl) (fun _ => rfl) gw_120 ?_
  have iv6 := iv5.putR 2 82
  generalize am_upr g5 79 2 82 = g6 at iv6 ⊢
  refine NP.aload_n (i := 0) d_X2_init_27 rfl rfl ?_
  refine NP.bipush (x := 48) d_X2_init_28 (by decide) ?_
  refine NP.newI (b := (1, 48)) (n := 83) (N := 48) d_X2_init_30 iv6.1 rfl rfl (by decide) ?_
  have iw7 := iv6.new
  generalize am_mkI h5 83 = h7 at iw7 ⊢
  generalize am_mk g6 83 = g7 at iw7 ⊢
  have iv7 := iw7.done rfl rfl
  refine NP.putRF (ci := 2) (j := 3) (q := (RX2, TX2, 8)) d_X2_init_32 rfl (iv7.lt (by decide)) rfl (by decide) rfl rfl rfl rfl rfl (fun _ => rfl) (fun _ => rfl) gw_123 ?_
  have iv8 := iv7.putR 3 83
  generalize am_upr g7 79 3 83 = g8 at iv8 ⊢
  refine NP.aload_n (i := 0) d_X2_init_35 rfl rfl ?_
  refine NP.bipush (x := 48) d_X2_init_36 (by decide) ?_
  refine NP.newI (b := (0, 0)) (n := 84) (N := 48) d_X2_init_38 iv8.1 rfl rfl (by decide) ?_
  have iw9 := iv8.new
  generalize am_mkI h7 84 = h9 at iw9 ⊢
  generalize am_mk g8 84 = g9 at iw9 ⊢
  have iv9 := iw9.done rfl rfl
  refine NP.putRF (ci := 2) (j := 4) (q := (RX2, TX2, 8)) d_X2_init_40 rfl (iv9.lt (by decide)) rfl (by decide) rfl rfl rfl rfl rfl (fun _ => rfl) (fun _ => rfl) gw_127 ?_
  have iv10 := iv9.putR 4 84
  generalize am_upr g9 79 4 84 = g10 at iv10 ⊢
  refine NP.aload_n (i := 0) d_X2_init_43 rfl rfl ?_
  refine NP.iconst (x := 0) d_X2_init_44 (by decide) ?_
  refine NP.putI (ci := 2) (j := 5) (q := (RX2, TX2, 8)) d_X2_init_45 rfl (iv10.lt (by decide)) rfl (by decide) rfl rfl gw_130 ?_
  have iv11 := iv10.putI 5 0
  generalize am_up h9 79 5 0 = h11 at iv11 ⊢
  refine NP.aload_n (i := 0) d_X2_init_48 rfl rfl ?_
  refine NP.iconst (x := 1) d_X2_init_49 (by decide) ?_
  refine NP.putI (ci := 2) (j := 6) (q := (RX2, TX2, 8)) d_X2_init_50 rfl (iv11.lt (by decide)) rfl (by decide) rfl rfl gw_134 ?_
  have iv12 := iv11.putI 6 1
  generalize am_up h11 79 6 1 = h12 at iv12 ⊢
  refine NP.aload_n (i := 0) d_X2_init_53 rfl rfl ?_
  refine NP.iconst (x := 0) d_X2_init_54 (by decide) ?_
  refine NP.putI (ci := 2) (j := 7) (q := (RX2, TX2, 8)) d_X2_init_55 rfl (iv12.lt (by decide)) rfl (by decide) rfl rfl gw_137 ?_
  have iv13 := iv12.putI 7 0
  generalize am_up h12 79 7 0 = h13 at iv13 ⊢
  exact NP.vret d_X2_init_58 rfl (hΦ _ _ (iv13.fin rfl hr_79))
theorem ci_X6_76 {hi : am_HI} {g : am_G} (hg : g.1 = some 77) (hz : hi 76 = fun _ => 0) (hr : g.2.1 76 = fun _ => none) : am_Cn M_X6_init (8, 172) [.ref 76] hi g (FINP 76 85 hi g) := by
  refine am_cn rfl (by decide) (Nat.le_of_ble_eq_true rfl) (fun Φ hΦ => ?_)
  show NP M_X6_init _ 0 [.ref 76] [] hi g Φ
  have iv := IV.st hg hz hr
  refine NP.aload_n (i := 0) d_X6_init_0 rfl rfl ?_
  refine NP.objInit d_X6_init_1 gw_106 (by decide) (by decide) ?_
  refine NP.aload_n (i := 0) d_X6_init_4 rfl rfl ?_
  refine NP.bipush (x := 48) d_X6_init_5 (by decide) ?_
  refine NP.newI (b := (7, 124)) (n := 77) (N := 48) d_X6_init_7 iv.1 rfl rfl (by decide) ?_
  have iw1 := iv.new
  generalize am_mkI hi 77 = h1 at iw1 ⊢
  generalize am_mk g 77 = g1 at iw1 ⊢
  have iv1 := iw1.done rfl rfl
  refine NP.putRF (ci := 6) (j := 0) (q := (RX6, TX6, 8)) d_X6_init_9 rfl (iv1.lt (by decide)) rfl (by decide) rfl rfl rfl rfl rfl (fun _ => rfl) (fun _ => rfl) gw_158 ?_
  have iv2 := iv1.putR 0 77
  generalize am_upr g1 76 0 77 = g2 at iv2 ⊢
  refine NP.aload_n (i := 0) d_X6_init_12 rfl rfl ?_
  refine NP.iconst (x := 4) d_X6_init_13 (by decide) ?_
  refine NP.newI (b := (6, 120)) (n := 78) (N := 4) d_X6_init_14 iv2.1 rfl rfl (by decide) ?_
  have iw3 := iv2.new
  generalize am_mkI h1 78 = h3 at iw3 ⊢
  generalize am_mk g2 78 = g3 at iw3 ⊢
  refine NP.dup d_X6_init_16 rfl ?_
  refine NP.iconst (x := 0) d_X6_init_17 (by decide) ?_
  refine NP.bipush (x := 16) d_X6_init_18 (by decide) ?_
  refine NP.iast (n := 4) (j := 0) d_X6_init_20 rfl (iw3.lt (by decide)) (by decide) rfl (by decide) ?_
  have iw4 := iw3.putI 0 16
  generalize am_up h3 78 0 16 = h4 at iw4 ⊢
  refine NP.dup d_X6_init_21 rfl ?_
  refine NP.iconst (x := 1) d_X6_init_22 (by decide) ?_
  refine NP.iconst (x := 0) d_X6_init_23 (by decide) ?_
  refine NP.iast (n := 4) (j := 1) d_X6_init_24 rfl (iw4.lt (by decide)) (by decide) rfl (by decide) ?_
  have iw5 := iw4.putI 1 0
  generalize am_up h4 78 1 0 = h5 at iw5 ⊢
  refine NP.dup d_X6_init_25 rfl ?_
  refine NP.iconst (x := 2) d_X6_init_26 (by decide) ?_
  refine NP.iconst (x := 0) d_X6_init_27 (by decide) ?_
  refine NP.iast (n := 4) (j := 2) d_X6_init_28 rfl (iw5.lt (by decide)) (by decide) rfl (by decide) ?_
  have iw6 := iw5.putI 2 0
  generalize am_up h5 78 2 0 = h6 at iw6 ⊢
  refine NP.dup d_X6_init_29 rfl ?_
  refine NP.iconst (x := 3) d_X6_init_30 (by decide) ?_
  refine NP.iconst (x := 0) d_X6_init_31 (by decide) ?_
  refine NP.iast (n := 4) (j := 3) d_X6_init_32 rfl (iw6.lt (by decide)) (by decide) rfl (by decide) ?_
  have iw7 := iw6.putI 3 0
  generalize am_up h6 78 3 0 = h7 at iw7 ⊢
  have iv7 := iw7.done rfl rfl
  refine NP.putRF (ci := 6) (j := 1) (q := (RX6, TX6, 8)) d_X6_init_33 rfl (iv7.lt (by decide)) rfl (by decide) rfl rfl rfl rfl rfl (fun _ => rfl) (fun _ => rfl) gw_161 ?_
  have iv8 := iv7.putR 1 78
  generalize am_upr g3 76 1 78 = g8 at iv8 ⊢
  refine NP.aload_n (i := 0) d_X6_init_36 rfl rfl ?_
  refine NP.newo (b := (5, 112)) (n := 79) d_X6_init_37 iv8.1 rfl (q := (RX2, TX2, 8)) rfl rfl gw_107 gw_108 gw_70 ?_
  have iw9 := iv8.new
  generalize am_mkI h7 79 = h9 at iw9 ⊢
  generalize am_mk g8 79 = g9 at iw9 ⊢
  refine NP.dup d_X6_init_40 rfl ?_
  refine NP.init (b := (0, 0)) (b' := (5, 112)) d_X6_init_41 (ci_X2_79 iw9.1 iw9.2.2.2.2.2.1 iw9.2.2.2.2.2.2) ki_X6_init_20 (by decide) (FINP.ph iw9.1 (by decide)) (fun h10 g10 f10 => ?_)
  have iv10 := iw9.call f10 (by decide)
  refine NP.putRF (ci := 6) (j := 2) (q := (RX6, TX6, 8)) d_X6_init_44 rfl (iv10.lt (by decide)) rfl (by decide) rfl rfl rfl rfl rfl (fun _ => rfl) (fun _ => rfl) gw_164 ?_
  have iv11 := iv10.putR 2 79
  generalize am_upr g10 76 2 79 = g11 at iv11 ⊢
  refine NP.aload_n (i := 0) d_X6_init_47 rfl rfl ?_
  refine NP.iconst (x := 0) d_X6_init_48 (by decide) ?_
  refine NP.putI (ci := 6) (j := 3) (q := (RX6, TX6, 8)) d_X6_init_49 rfl (iv11.lt (by decide)) rfl (by decide) rfl rfl gw_166 ?_
  have iv12 := iv11.putI 3 0
  generalize am_up h10 76 3 0 = h12 at iv12 ⊢
  refine NP.aload_n (i := 0) d_X6_init_52 rfl rfl ?_
  refine NP.iconst (x := 4) d_X6_init_53 (by decide) ?_
  refine NP.putI (ci := 6) (j := 4) (q := (RX6, TX6, 8)) d_X6_init_54 rfl (iv12.lt (by decide)) rfl (by decide) rfl rfl gw_169 ?_
  have iv13 := iv12.putI 4 4
  generalize am_up h12 76 4 4 = h13 at iv13 ⊢
  refine NP.aload_n (i := 0) d_X6_init_57 rfl rfl ?_
  refine NP.iconst (x := 1) d_X6_init_58 (by decide) ?_
  refine NP.putI (ci := 6) (j := 5) (q := (RX6, TX6, 8)) d_X6_init_59 rfl (iv13.lt (by decide)) rfl (by decide) rfl rfl gw_172 ?_
  have iv14 := iv13.putI 5 1
  generalize am_up h13 76 5 1 = h14 at iv14 ⊢
  refine NP.aload_n (i := 0) d_X6_init_62 rfl rfl ?_
  refine NP.bipush (x := 31) d_X6_init_63 (by decide) ?_
  refine NP.putI (ci := 6) (j := 6) (q := (RX6, TX6, 8)) d_X6_init_65 rfl (iv14.lt (by decide)) rfl (by decide) rfl rfl gw_175 ?_
  have iv15 := iv14.putI 6 31
  generalize am_up h14 76 6 31 = h15 at iv15 ⊢
  refine NP.aload_n (i := 0) d_X6_init_68 rfl rfl ?_
  refine NP.iconst (x := 0) d_X6_init_69 (by decide) ?_
  refine NP.putI (ci := 6) (j := 7) (q := (RX6, TX6, 8)) d_X6_init_70 rfl (iv15.lt (by decide)) rfl (by decide) rfl rfl gw_177 ?_
  have iv16 := iv15.putI 7 0
  generalize am_up h15 76 7 0 = h16 at iv16 ⊢
  exact NP.vret d_X6_init_73 rfl (hΦ _ _ (iv16.fin rfl hr_76))
theorem ci_X2_88 {hi : am_HI} {g : am_G} (hg : g.1 = some 89) (hz : hi 88 = fun _ => 0) (hr : g.2.1 88 = fun _ => none) : am_Cn M_X2_init (5, 112) [.ref 88] hi g (FINP 88 94 hi g) := by
  refine am_cn rfl (by decide) (Nat.le_of_ble_eq_true rfl) (fun Φ hΦ => ?_)
  show NP M_X2_init _ 0 [.ref 88] [] hi g Φ
  have iv := IV.st hg hz hr
  refine NP.aload_n (i := 0) d_X2_init_0 rfl rfl ?_
  refine NP.objInit d_X2_init_1 gw_112 (by decide) (by decide) ?_
  refine NP.aload_n (i := 0) d_X2_init_4 rfl rfl ?_
  refine NP.iconst (x := 4) d_X2_init_5 (by decide) ?_
  refine NP.newI (b := (4, 108)) (n := 89) (N := 4) d_X2_init_6 iv.1 rfl rfl (by decide) ?_
  have iw1 := iv.new
  generalize am_mkI hi 89 = h1 at iw1 ⊢
  generalize am_mk g 89 = g1 at iw1 ⊢
  have iv1 := iw1.done rfl rfl
  refine NP.putRF (ci := 2) (j := 0) (q := (RX2, TX2, 8)) d_X2_init_8 rfl (iv1.lt (by decide)) rfl (by decide) rfl rfl rfl rfl rfl (fun _ => rfl) (fun _ => rfl) gw_113 ?_
  have iv2 := iv1.putR 0 89
  generalize am_upr g1 88 0 89 = g2 at iv2 ⊢
  refine NP.aload_n (i := 0) d_X2_init_11 rfl rfl ?_
  refine NP.bipush (x := 6) d_X2_init_12 (by decide) ?_
  refine NP.newI (b := (3, 102)) (n := 90) (N := 6) d_X2_init_14 iv2.1 rfl rfl (by decide) ?_
  have iw3 := iv2.new
  generalize am_mkI h1 90 = h3 at iw3 ⊢
  generalize am_mk g2 90 = g3 at iw3 ⊢
  have iv3 := iw3.done rfl rfl
  refine NP.putRF (ci := 2) (j := 1) (q := (RX2, TX2, 8)) d_X2_init_16 rfl (iv3.lt (by decide)) rfl (by decide) rfl rfl rfl rfl rfl (fun _ => rfl) (fun _ => rfl) gw_116 ?_
  have iv4 := iv3.putR 1 90
  generalize am_upr g3 88 1 90 = g4 at iv4 ⊢
  refine NP.aload_n (i := 0) d_X2_init_19 rfl rfl ?_
  refine NP.bipush (x := 6) d_X2_init_20 (by decide) ?_
  refine NP.newI (b := (2, 96)) (n := 91) (N := 6) d_X2_init_22 iv4.1 rfl rfl (by decide) ?_
  have iw5 := iv4.new
  generalize am_mkI h3 91 = h5 at iw5 ⊢
  generalize am_mk g4 91 = g5 at iw5 ⊢
  have iv5 := iw5.done rfl rfl
  refine NP.putRF (ci := 2) (j := 2) (q := (RX2, TX2, 8)) d_X2_init_24 rfl (iv5.lt (by decide)) rfl (by decide) rfl rfl rfl rfl rfl (fun _ => rfl) (fun _ => rfl) gw_120 ?_
  have iv6 := iv5.putR 2 91
  generalize am_upr g5 88 2 91 = g6 at iv6 ⊢
  refine NP.aload_n (i := 0) d_X2_init_27 rfl rfl ?_
  refine NP.bipush (x := 48) d_X2_init_28 (by decide) ?_
  refine NP.newI (b := (1, 48)) (n := 92) (N := 48) d_X2_init_30 iv6.1 rfl rfl (by decide) ?_
  have iw7 := iv6.new
  generalize am_mkI h5 92 = h7 at iw7 ⊢
  generalize am_mk g6 92 = g7 at iw7 ⊢
  have iv7 := iw7.done rfl rfl
  refine NP.putRF (ci := 2) (j := 3) (q := (RX2, TX2, 8)) d_X2_init_32 rfl (iv7.lt (by decide)) rfl (by decide) rfl rfl rfl rfl rfl (fun _ => rfl) (fun _ => rfl) gw_123 ?_
  have iv8 := iv7.putR 3 92
  generalize am_upr g7 88 3 92 = g8 at iv8 ⊢
  refine NP.aload_n (i := 0) d_X2_init_35 rfl rfl ?_
  refine NP.bipush (x := 48) d_X2_init_36 (by decide) ?_
  refine NP.newI (b := (0, 0)) (n := 93) (N := 48) d_X2_init_38 iv8.1 rfl rfl (by decide) ?_
  have iw9 := iv8.new
  generalize am_mkI h7 93 = h9 at iw9 ⊢
  generalize am_mk g8 93 = g9 at iw9 ⊢
  have iv9 := iw9.done rfl rfl
  refine NP.putRF (ci := 2) (j := 4) (q := (RX2, TX2, 8)) d_X2_init_40 rfl (iv9.lt (by decide)) rfl (by decide) rfl rfl rfl rfl rfl (fun _ => rfl) (fun _ => rfl) gw_127 ?_
  have iv10 := iv9.putR 4 93
  generalize am_upr g9 88 4 93 = g10 at iv10 ⊢
  refine NP.aload_n (i := 0) d_X2_init_43 rfl rfl ?_
  refine NP.iconst (x := 0) d_X2_init_44 (by decide) ?_
  refine NP.putI (ci := 2) (j := 5) (q := (RX2, TX2, 8)) d_X2_init_45 rfl (iv10.lt (by decide)) rfl (by decide) rfl rfl gw_130 ?_
  have iv11 := iv10.putI 5 0
  generalize am_up h9 88 5 0 = h11 at iv11 ⊢
  refine NP.aload_n (i := 0) d_X2_init_48 rfl rfl ?_
  refine NP.iconst (x := 1) d_X2_init_49 (by decide) ?_
  refine NP.putI (ci := 2) (j := 6) (q := (RX2, TX2, 8)) d_X2_init_50 rfl (iv11.lt (by decide)) rfl (by decide) rfl rfl gw_134 ?_
  have iv12 := iv11.putI 6 1
  generalize am_up h11 88 6 1 = h12 at iv12 ⊢
  refine NP.aload_n (i := 0) d_X2_init_53 rfl rfl ?_
  refine NP.iconst (x := 0) d_X2_init_54 (by decide) ?_
  refine NP.putI (ci := 2) (j := 7) (q := (RX2, TX2, 8)) d_X2_init_55 rfl (iv12.lt (by decide)) rfl (by decide) rfl rfl gw_137 ?_
  have iv13 := iv12.putI 7 0
  generalize am_up h12 88 7 0 = h13 at iv13 ⊢
  exact NP.vret d_X2_init_58 rfl (hΦ _ _ (iv13.fin rfl hr_88))
theorem ci_X6_85 {hi : am_HI} {g : am_G} (hg : g.1 = some 86) (hz : hi 85 = fun _ => 0) (hr : g.2.1 85 = fun _ => none) : am_Cn M_X6_init (8, 172) [.ref 85] hi g (FINP 85 94 hi g) := by
  refine am_cn rfl (by decide) (Nat.le_of_ble_eq_true rfl) (fun Φ hΦ => ?_)
  show NP M_X6_init _ 0 [.ref 85] [] hi g Φ
  have iv := IV.st hg hz hr
  refine NP.aload_n (i := 0) d_X6_init_0 rfl rfl ?_
  refine NP.objInit d_X6_init_1 gw_106 (by decide) (by decide) ?_
  refine NP.aload_n (i := 0) d_X6_init_4 rfl rfl ?_
  refine NP.bipush (x := 48) d_X6_init_5 (by decide) ?_
  refine NP.newI (b := (7, 124)) (n := 86) (N := 48) d_X6_init_7 iv.1 rfl rfl (by decide) ?_
  have iw1 := iv.new
  generalize am_mkI hi 86 = h1 at iw1 ⊢
  generalize am_mk g 86 = g1 at iw1 ⊢
  have iv1 := iw1.done rfl rfl
  refine NP.putRF (ci := 6) (j := 0) (q := (RX6, TX6, 8)) d_X6_init_9 rfl (iv1.lt (by decide)) rfl (by decide) rfl rfl rfl rfl rfl (fun _ => rfl) (fun _ => rfl) gw_158 ?_
  have iv2 := iv1.putR 0 86
  generalize am_upr g1 85 0 86 = g2 at iv2 ⊢
  refine NP.aload_n (i := 0) d_X6_init_12 rfl rfl ?_
  refine NP.iconst (x := 4) d_X6_init_13 (by decide) ?_
  refine NP.newI (b := (6, 120)) (n := 87) (N := 4) d_X6_init_14 iv2.1 rfl rfl (by decide) ?_
  have iw3 := iv2.new
  generalize am_mkI h1 87 = h3 at iw3 ⊢
  generalize am_mk g2 87 = g3 at iw3 ⊢
  refine NP.dup d_X6_init_16 rfl ?_
  refine NP.iconst (x := 0) d_X6_init_17 (by decide) ?_
  refine NP.bipush (x := 16) d_X6_init_18 (by decide) ?_
  refine NP.iast (n := 4) (j := 0) d_X6_init_20 rfl (iw3.lt (by decide)) (by decide) rfl (by decide) ?_
  have iw4 := iw3.putI 0 16
  generalize am_up h3 87 0 16 = h4 at iw4 ⊢
  refine NP.dup d_X6_init_21 rfl ?_
  refine NP.iconst (x := 1) d_X6_init_22 (by decide) ?_
  refine NP.iconst (x := 0) d_X6_init_23 (by decide) ?_
  refine NP.iast (n := 4) (j := 1) d_X6_init_24 rfl (iw4.lt (by decide)) (by decide) rfl (by decide) ?_
  have iw5 := iw4.putI 1 0
  generalize am_up h4 87 1 0 = h5 at iw5 ⊢
  refine NP.dup d_X6_init_25 rfl ?_
  refine NP.iconst (x := 2) d_X6_init_26 (by decide) ?_
  refine NP.iconst (x := 0) d_X6_init_27 (by decide) ?_
  refine NP.iast (n := 4) (j := 2) d_X6_init_28 rfl (iw5.lt (by decide)) (by decide) rfl (by decide) ?_
  have iw6 := iw5.putI 2 0
  generalize am_up h5 87 2 0 = h6 at iw6 ⊢
  refine NP.dup d_X6_init_29 rfl ?_
  refine NP.iconst (x := 3) d_X6_init_30 (by decide) ?_
  refine NP.iconst (x := 0) d_X6_init_31 (by decide) ?_
  refine NP.iast (n := 4) (j := 3) d_X6_init_32 rfl (iw6.lt (by decide)) (by decide) rfl (by decide) ?_
  have iw7 := iw6.putI 3 0
  generalize am_up h6 87 3 0 = h7 at iw7 ⊢
  have iv7 := iw7.done rfl rfl
  refine NP.putRF (ci := 6) (j := 1) (q := (RX6, TX6, 8)) d_X6_init_33 rfl (iv7.lt (by decide)) rfl (by decide) rfl rfl rfl rfl rfl (fun _ => rfl) (fun _ => rfl) gw_161 ?_
  have iv8 := iv7.putR 1 87
  generalize am_upr g3 85 1 87 = g8 at iv8 ⊢
  refine NP.aload_n (i := 0) d_X6_init_36 rfl rfl ?_
  refine NP.newo (b := (5, 112)) (n := 88) d_X6_init_37 iv8.1 rfl (q := (RX2, TX2, 8)) rfl rfl gw_107 gw_108 gw_70 ?_
  have iw9 := iv8.new
  generalize am_mkI h7 88 = h9 at iw9 ⊢
  generalize am_mk g8 88 = g9 at iw9 ⊢
  refine NP.dup d_X6_init_40 rfl ?_
  refine NP.init (b := (0, 0)) (b' := (5, 112)) d_X6_init_41 (ci_X2_88 iw9.1 iw9.2.2.2.2.2.1 iw9.2.2.2.2.2.2) ki_X6_init_20 (by decide) (FINP.ph iw9.1 (by decide)) (fun h10 g10 f10 => ?_)
  have iv10 := iw9.call f10 (by decide)
  refine NP.putRF (ci := 6) (j := 2) (q := (RX6, TX6, 8)) d_X6_init_44 rfl (iv10.lt (by decide)) rfl (by decide) rfl rfl rfl rfl rfl (fun _ => rfl) (fun _ => rfl) gw_164 ?_
  have iv11 := iv10.putR 2 88
  generalize am_upr g10 85 2 88 = g11 at iv11 ⊢
  refine NP.aload_n (i := 0) d_X6_init_47 rfl rfl ?_
  refine NP.iconst (x := 0) d_X6_init_48 (by decide) ?_
  refine NP.putI (ci := 6) (j := 3) (q := (RX6, TX6, 8)) d_X6_init_49 rfl (iv11.lt (by decide)) rfl (by decide) rfl rfl gw_166 ?_
  have iv12 := iv11.putI 3 0
  generalize am_up h10 85 3 0 = h12 at iv12 ⊢
  refine NP.aload_n (i := 0) d_X6_init_52 rfl rfl ?_
  refine NP.iconst (x := 4) d_X6_init_53 (by decide) ?_
  refine NP.putI (ci := 6) (j := 4) (q := (RX6, TX6, 8)) d_X6_init_54 rfl (iv12.lt (by decide)) rfl (by decide) rfl rfl gw_169 ?_
  have iv13 := iv12.putI 4 4
  generalize am_up h12 85 4 4 = h13 at iv13 ⊢
  refine NP.aload_n (i := 0) d_X6_init_57 rfl rfl ?_
  refine NP.iconst (x := 1) d_X6_init_58 (by decide) ?_
  refine NP.putI (ci := 6) (j := 5) (q := (RX6, TX6, 8)) d_X6_init_59 rfl (iv13.lt (by decide)) rfl (by decide) rfl rfl gw_172 ?_
  have iv14 := iv13.putI 5 1
  generalize am_up h13 85 5 1 = h14 at iv14 ⊢
  refine NP.aload_n (i := 0) d_X6_init_62 rfl rfl ?_
  refine NP.bipush (x := 31) d_X6_init_63 (by decide) ?_
  refine NP.putI (ci := 6) (j := 6) (q := (RX6, TX6, 8)) d_X6_init_65 rfl (iv14.lt (by decide)) rfl (by decide) rfl rfl gw_175 ?_
  have iv15 := iv14.putI 6 31
  generalize am_up h14 85 6 31 = h15 at iv15 ⊢
  refine NP.aload_n (i := 0) d_X6_init_68 rfl rfl ?_
  refine NP.iconst (x := 0) d_X6_init_69 (by decide) ?_
  refine NP.putI (ci := 6) (j := 7) (q := (RX6, TX6, 8)) d_X6_init_70 rfl (iv15.lt (by decide)) rfl (by decide) rfl rfl gw_177 ?_
  have iv16 := iv15.putI 7 0
  generalize am_up h15 85 7 0 = h16 at iv16 ⊢
  exact NP.vret d_X6_init_73 rfl (hΦ _ _ (iv16.fin rfl hr_85))
theorem ci_X1_38 {hi : am_HI} {g : am_G} (hg : g.1 = some 39) (hz : hi 38 = fun _ => 0) (hr : g.2.1 38 = fun _ => none) : am_Cn M_X1_init (55, 1086) [.ref 38] hi g (FINP 38 94 hi g) := by
  refine am_cn rfl (by decide) (Nat.le_of_ble_eq_true rfl) (fun Φ hΦ => ?_)
  show NP M_X1_init _ 0 [.ref 38, jk] [] hi g Φ
  have iv := IV.st hg hz hr
  refine NP.aload_n (i := 0) d_X1_init_0 rfl rfl ?_
  refine NP.objInit d_X1_init_1 gw_257 (by decide) (by decide) ?_
  refine NP.aload_n (i := 0) d_X1_init_4 rfl rfl ?_
  refine NP.bipush (x := 6) d_X1_init_5 (by decide) ?_
  refine NP.newq (b := (54, 1080)) (n := 39) (N := 6) d_X1_init_7 iv.1 rfl gw_258 rfl (by decide) ?_
  have iv1 : IV 39 hi g (fun _ => 0) (fun _ => none) 40 (am_mkI hi 39) (am_mk g 39) := ⟨rfl, fun i hi => ⟨mkI_ne (by omega), mk_ne (by omega)⟩, ⟨mkI_at _ _, mk_at _ _⟩, fun i h1 h2 => by omega, by decide⟩
  generalize am_mkI hi 39 = h1 at iv1 ⊢
  generalize am_mk g 39 = g1 at iv1 ⊢
  refine NP.putRF (ci := 1) (j := 0) (q := (RX1, TX1, 2)) d_X1_init_10 rfl (iv1.lt (by decide)) rfl (by decide) rfl rfl rfl rfl rfl (fun _ => rfl) (fun _ => rfl) gw_261 ?_
  refine NP.aload_n (i := 0) d_X1_init_13 rfl rfl ?_
  refine NP.iconst (x := 0) d_X1_init_14 (by decide) ?_
  refine NP.putI (ci := 1) (j := 1) (q := (RX1, TX1, 2)) d_X1_init_15 rfl (iv1.lt (by decide)) rfl (by decide) rfl rfl gw_262 ?_
  have b38 : ∀ i, i < 38 → am_up h1 38 1 0 i = hi i ∧ (am_upr g1 38 0 39).2.1 i = g.2.1 i := fun i hi => ⟨(up_other (by omega)).trans (iv1.2.1 i (by omega)).1, (upr_other (by omega)).trans (iv1.2.1 i (by omega)).2⟩
  have e38I : am_up h1 38 1 0 38 = HI0 38 := by rw [up_same, (iv1.2.1 38 (by decide)).1, hz]; rfl
  have e38R : (am_upr g1 38 0 39).2.1 38 = HR0 38 := by rw [upr_same, (iv1.2.1 38 (by decide)).2, hr]; exact hr_38
  have iv2 : IV 39 (am_up h1 38 1 0) (am_upr g1 38 0 39) (fun _ => 0) (fun _ => none) 40 (am_up h1 38 1 0) (am_upr g1 38 0 39) := ⟨iv1.1, fun i _ => ⟨rfl, rfl⟩, ⟨(up_other (by decide)).trans iv1.2.2.1.1, (upr_other (by decide)).trans iv1.2.2.1.2⟩, fun i h1 h2 => by omega, by decide⟩
  generalize am_up h1 38 1 0 = h2 at iv2 b38 e38I ⊢
  generalize am_upr g1 38 0 39 = g2 at iv2 b38 e38R ⊢
  refine NP.iconst (x := 0) d_X1_init_18 (by decide) ?_
  refine NP.istore_n (i := 1) (L' := [.ref 38, .int 0]) d_X1_init_19 rfl (by decide) rfl ?_
  refine NP.iload_n (i := 1) d_X1_init_20 rfl rfl ?_
  refine NP.bipush (x := 6) d_X1_init_21 (by decide) ?_
  refine NP.icmp_ge (tgt := 45) d_X1_init_23 (by decide) (fun q => absurd q (by decide)) (fun _ => ?_)
  refine NP.aload_n (i := 0) d_X1_init_26 rfl rfl ?_
  refine NP.getR (ci := 1) (j := 0) (r := 39) (q := (RX1, TX1, 2)) d_X1_init_27 rfl (iv2.lt (by decide)) rfl (by decide) rfl gw_261 (by rw [(iv2.2.1 38 (by decide)).2, e38R]; rfl) ?_
  refine NP.iload_n (i := 1) d_X1_init_30 rfl rfl ?_
  refine NP.newo (b := (53, 1072)) (n := 40) d_X1_init_31 iv2.1 rfl (q := (RX6, TX6, 8)) rfl rfl gw_258 gw_102 gw_69 ?_
  have iw3 := iv2.new
  generalize am_mkI h2 40 = h3 at iw3 ⊢
  generalize am_mk g2 40 = g3 at iw3 ⊢
  refine NP.dup d_X1_init_34 rfl ?_
  refine NP.init (b := (45, 900)) (b' := (8, 172)) d_X1_init_35 (ci_X6_40 iw3.1 iw3.2.2.2.2.2.1 iw3.2.2.2.2.2.2) ki_X1_init_21 (by decide) (FINP.ph iw3.1 (by decide)) (fun h4 g4 f4 => ?_)
  have iv4 := iw3.call f4 (by decide)
  refine NP.aast (n := 6) (j := 0) d_X1_init_38 rfl (iv4.lt (by decide)) (by decide) rfl (by decide) rfl (iv4.lt (by decide)) ?_
  have iv5 := iv4.putR 0 40
  generalize am_upr g4 39 0 40 = g5 at iv5 ⊢
  refine NP.iinc (i := 1) (y := 1) (L' := [.ref 38, .int 1]) d_X1_init_39 rfl (by decide) (by decide) rfl ?_
  refine NP.goto (tgt := 20) d_X1_init_42 (by decide) ?_
  refine NP.iload_n (i := 1) d_X1_init_20 rfl rfl ?_
  refine NP.bipush (x := 6) d_X1_init_21 (by decide) ?_
  refine NP.icmp_ge (tgt := 45) d_X1_init_23 (by decide) (fun q => absurd q (by decide)) (fun _ => ?_)
  refine NP.aload_n (i := 0) d_X1_init_26 rfl rfl ?_
  refine NP.getR (ci := 1) (j := 0) (r := 39) (q := (RX1, TX1, 2)) d_X1_init_27 rfl (iv5.lt (by decide)) rfl (by decide) rfl gw_261 (by rw [(iv5.2.1 38 (by decide)).2, e38R]; rfl) ?_
  refine NP.iload_n (i := 1) d_X1_init_30 rfl rfl ?_
  refine NP.newo (b := (44, 892)) (n := 49) d_X1_init_31 iv5.1 rfl (q := (RX6, TX6, 8)) rfl rfl gw_258 gw_102 gw_69 ?_
  have iw6 := iv5.new
  generalize am_mkI h4 49 = h6 at iw6 ⊢
  generalize am_mk g5 49 = g6 at iw6 ⊢
  refine NP.dup d_X1_init_34 rfl ?_
  refine NP.init (b := (36, 720)) (b' := (8, 172)) d_X1_init_35 (ci_X6_49 iw6.1 iw6.2.2.2.2.2.1 iw6.2.2.2.2.2.2) ki_X1_init_21 (by decide) (FINP.ph iw6.1 (by decide)) (fun h7 g7 f7 => ?_)
  have iv7 := iw6.call f7 (by decide)
  refine NP.aast (n := 6) (j := 1) d_X1_init_38 rfl (iv7.lt (by decide)) (by decide) rfl (by decide) rfl (iv7.lt (by decide)) ?_
  have iv8 := iv7.putR 1 49
  generalize am_upr g7 39 1 49 = g8 at iv8 ⊢
  refine NP.iinc (i := 1) (y := 2) (L' := [.ref 38, .int 2]) d_X1_init_39 rfl (by decide) (by decide) rfl ?_
  refine NP.goto (tgt := 20) d_X1_init_42 (by decide) ?_
  refine NP.iload_n (i := 1) d_X1_init_20 rfl rfl ?_
  refine NP.bipush (x := 6) d_X1_init_21 (by decide) ?_
  refine NP.icmp_ge (tgt := 45) d_X1_init_23 (by decide) (fun q => absurd q (by decide)) (fun _ => ?_)
  refine NP.aload_n (i := 0) d_X1_init_26 rfl rfl ?_
  refine NP.getR (ci := 1) (j := 0) (r := 39) (q := (RX1, TX1, 2)) d_X1_init_27 rfl (iv8.lt (by decide)) rfl (by decide) rfl gw_261 (by rw [(iv8.2.1 38 (by decide)).2, e38R]; rfl) ?_
  refine NP.iload_n (i := 1) d_X1_init_30 rfl rfl ?_
  refine NP.newo (b := (35, 712)) (n := 58) d_X1_init_31 iv8.1 rfl (q := (RX6, TX6, 8)) rfl rfl gw_258 gw_102 gw_69 ?_
  have iw9 := iv8.new
  generalize am_mkI h7 58 = h9 at iw9 ⊢
  generalize am_mk g8 58 = g9 at iw9 ⊢
  refine NP.dup d_X1_init_34 rfl ?_
  refine NP.init (b := (27, 540)) (b' := (8, 172)) d_X1_init_35 (ci_X6_58 iw9.1 iw9.2.2.2.2.2.1 iw9.2.2.2.2.2.2) ki_X1_init_21 (by decide) (FINP.ph iw9.1 (by decide)) (fun h10 g10 f10 => ?_)
  have iv10 := iw9.call f10 (by decide)
  refine NP.aast (n := 6) (j := 2) d_X1_init_38 rfl (iv10.lt (by decide)) (by decide) rfl (by decide) rfl (iv10.lt (by decide)) ?_
  have iv11 := iv10.putR 2 58
  generalize am_upr g10 39 2 58 = g11 at iv11 ⊢
  refine NP.iinc (i := 1) (y := 3) (L' := [.ref 38, .int 3]) d_X1_init_39 rfl (by decide) (by decide) rfl ?_
  refine NP.goto (tgt := 20) d_X1_init_42 (by decide) ?_
  refine NP.iload_n (i := 1) d_X1_init_20 rfl rfl ?_
  refine NP.bipush (x := 6) d_X1_init_21 (by decide) ?_
  refine NP.icmp_ge (tgt := 45) d_X1_init_23 (by decide) (fun q => absurd q (by decide)) (fun _ => ?_)
  refine NP.aload_n (i := 0) d_X1_init_26 rfl rfl ?_
  refine NP.getR (ci := 1) (j := 0) (r := 39) (q := (RX1, TX1, 2)) d_X1_init_27 rfl (iv11.lt (by decide)) rfl (by decide) rfl gw_261 (by rw [(iv11.2.1 38 (by decide)).2, e38R]; rfl) ?_
  refine NP.iload_n (i := 1) d_X1_init_30 rfl rfl ?_
  refine NP.newo (b := (26, 532)) (n := 67) d_X1_init_31 iv11.1 rfl (q := (RX6, TX6, 8)) rfl rfl gw_258 gw_102 gw_69 ?_
  have iw12 := iv11.new
  generalize am_mkI h10 67 = h12 at iw12 ⊢
  generalize am_mk g11 67 = g12 at iw12 ⊢
  refine NP.dup d_X1_init_34 rfl ?_
  refine NP.init (b := (18, 360)) (b' := (8, 172)) d_X1_init_35 (ci_X6_67 iw12.1 iw12.2.2.2.2.2.1 iw12.2.2.2.2.2.2) ki_X1_init_21 (by decide) (FINP.ph iw12.1 (by decide)) (fun h13 g13 f13 => ?_)
  have iv13 := iw12.call f13 (by decide)
  refine NP.aast (n := 6) (j := 3) d_X1_init_38 rfl (iv13.lt (by decide)) (by decide) rfl (by decide) rfl (iv13.lt (by decide)) ?_
  have iv14 := iv13.putR 3 67
  generalize am_upr g13 39 3 67 = g14 at iv14 ⊢
  refine NP.iinc (i := 1) (y := 4) (L' := [.ref 38, .int 4]) d_X1_init_39 rfl (by decide) (by decide) rfl ?_
  refine NP.goto (tgt := 20) d_X1_init_42 (by decide) ?_
  refine NP.iload_n (i := 1) d_X1_init_20 rfl rfl ?_
  refine NP.bipush (x := 6) d_X1_init_21 (by decide) ?_
  refine NP.icmp_ge (tgt := 45) d_X1_init_23 (by decide) (fun q => absurd q (by decide)) (fun _ => ?_)
  refine NP.aload_n (i := 0) d_X1_init_26 rfl rfl ?_
  refine NP.getR (ci := 1) (j := 0) (r := 39) (q := (RX1, TX1, 2)) d_X1_init_27 rfl (iv14.lt (by decide)) rfl (by decide) rfl gw_261 (by rw [(iv14.2.1 38 (by decide)).2, e38R]; rfl) ?_
  refine NP.iload_n (i := 1) d_X1_init_30 rfl rfl ?_
  refine NP.newo (b := (17, 352)) (n := 76) d_X1_init_31 iv14.1 rfl (q := (RX6, TX6, 8)) rfl rfl gw_258 gw_102 gw_69 ?_
  have iw15 := iv14.new
  generalize am_mkI h13 76 = h15 at iw15 ⊢
  generalize am_mk g14 76 = g15 at iw15 ⊢
  refine NP.dup d_X1_init_34 rfl ?_
  refine NP.init (b := (9, 180)) (b' := (8, 172)) d_X1_init_35 (ci_X6_76 iw15.1 iw15.2.2.2.2.2.1 iw15.2.2.2.2.2.2) ki_X1_init_21 (by decide) (FINP.ph iw15.1 (by decide)) (fun h16 g16 f16 => ?_)
  have iv16 := iw15.call f16 (by decide)
  refine NP.aast (n := 6) (j := 4) d_X1_init_38 rfl (iv16.lt (by decide)) (by decide) rfl (by decide) rfl (iv16.lt (by decide)) ?_
  have iv17 := iv16.putR 4 76
  generalize am_upr g16 39 4 76 = g17 at iv17 ⊢
  refine NP.iinc (i := 1) (y := 5) (L' := [.ref 38, .int 5]) d_X1_init_39 rfl (by decide) (by decide) rfl ?_
  refine NP.goto (tgt := 20) d_X1_init_42 (by decide) ?_
  refine NP.iload_n (i := 1) d_X1_init_20 rfl rfl ?_
  refine NP.bipush (x := 6) d_X1_init_21 (by decide) ?_
  refine NP.icmp_ge (tgt := 45) d_X1_init_23 (by decide) (fun q => absurd q (by decide)) (fun _ => ?_)
  refine NP.aload_n (i := 0) d_X1_init_26 rfl rfl ?_
  refine NP.getR (ci := 1) (j := 0) (r := 39) (q := (RX1, TX1, 2)) d_X1_init_27 rfl (iv17.lt (by decide)) rfl (by decide) rfl gw_261 (by rw [(iv17.2.1 38 (by decide)).2, e38R]; rfl) ?_
  refine NP.iload_n (i := 1) d_X1_init_30 rfl rfl ?_
  refine NP.newo (b := (8, 172)) (n := 85) d_X1_init_31 iv17.1 rfl (q := (RX6, TX6, 8)) rfl rfl gw_258 gw_102 gw_69 ?_
  have iw18 := iv17.new
  generalize am_mkI h16 85 = h18 at iw18 ⊢
  generalize am_mk g17 85 = g18 at iw18 ⊢
  refine NP.dup d_X1_init_34 rfl ?_
  refine NP.init (b := (0, 0)) (b' := (8, 172)) d_X1_init_35 (ci_X6_85 iw18.1 iw18.2.2.2.2.2.1 iw18.2.2.2.2.2.2) ki_X1_init_21 (by decide) (FINP.ph iw18.1 (by decide)) (fun h19 g19 f19 => ?_)
  have iv19 := iw18.call f19 (by decide)
  refine NP.aast (n := 6) (j := 5) d_X1_init_38 rfl (iv19.lt (by decide)) (by decide) rfl (by decide) rfl (iv19.lt (by decide)) ?_
  have iv20 := iv19.putR 5 85
  generalize am_upr g19 39 5 85 = g20 at iv20 ⊢
  refine NP.iinc (i := 1) (y := 6) (L' := [.ref 38, .int 6]) d_X1_init_39 rfl (by decide) (by decide) rfl ?_
  refine NP.goto (tgt := 20) d_X1_init_42 (by decide) ?_
  refine NP.iload_n (i := 1) d_X1_init_20 rfl rfl ?_
  refine NP.bipush (x := 6) d_X1_init_21 (by decide) ?_
  refine NP.icmp_ge (tgt := 45) d_X1_init_23 (by decide) (fun _ => ?_) (fun q => absurd (by decide) q)
  have ff := iv20.fin rfl hr_39
  refine NP.vret d_X1_init_45 rfl (hΦ _ _ ⟨ff.1, fun i hi => ⟨((ff.2.1 i (by omega)).1.trans (b38 i hi).1), ((ff.2.1 i (by omega)).2.trans (b38 i hi).2)⟩, fun i h1 h2 => ?_⟩)
  by_cases e : i = 38
  · subst e; exact ⟨(ff.2.1 38 (by decide)).1.trans e38I, (ff.2.1 38 (by decide)).2.trans e38R⟩
  · exact ff.2.2 i (by omega) h2
theorem gw_254 : Cond.methodLink "CaveEchoes" 25 yX1_init ∈ am_GT := am_gt 254 (by decide +kernel) (by decide +kernel)
theorem gw_256 : Cond.code yX1_init prog_3_method_1_code 2 none ∈ am_GT := am_gt 256 (by decide +kernel) (by decide +kernel)
theorem gw_255 : Cond.instanceMethod yX1_init ∈ am_GT := am_gt 255 (by decide +kernel) (by decide +kernel)
theorem ki_X9_init_25 : am_csI M_X9_init 25 M_X1_init := ⟨by decide +kernel, rfl, rfl, gw_72, gw_256, gw_255, Or.inl gw_254⟩
theorem gw_347 : Cond.fieldLink "CaveEchoes" 26 "CaveEchoes" "history" "LCaveEchoes$History;" ∈ am_GT := am_gt 347 (by decide +kernel) (by decide +kernel)
theorem gw_269 : Cond.classLink "CaveEchoes" 30 "CaveEchoes$Snapshots" ∈ am_GT := am_gt 269 (by decide +kernel) (by decide +kernel)
theorem gw_270 : Cond.instantiable "CaveEchoes$Snapshots" 2 ∈ am_GT := am_gt 270 (by decide +kernel) (by decide +kernel)
theorem gw_73 : Cond.initialized "CaveEchoes$Snapshots" ∈ am_GT := am_gt 73 (by decide +kernel) (by decide +kernel)
theorem gw_274 : Cond.methodLink "CaveEchoes$Snapshots" 3 Lib.objectInit ∈ am_GT := am_gt 274 (by decide +kernel) (by decide +kernel)
theorem gw_275 : Cond.classLink "CaveEchoes$Snapshots" 9 "CaveEchoes$State" ∈ am_GT := am_gt 275 (by decide +kernel) (by decide +kernel)
theorem ci_X2_99 {hi : am_HI} {g : am_G} (hg : g.1 = some 100) (hz : hi 99 = fun _ => 0) (hr : g.2.1 99 = fun _ => none) : am_Cn M_X2_init (5, 112) [.ref 99] hi g (FINP 99 105 hi g) := by
  refine am_cn rfl (by decide) (Nat.le_of_ble_eq_true rfl) (fun Φ hΦ => ?_)
  show NP M_X2_init _ 0 [.ref 99] [] hi g Φ
  have iv := IV.st hg hz hr
  refine NP.aload_n (i := 0) d_X2_init_0 rfl rfl ?_
  refine NP.objInit d_X2_init_1 gw_112 (by decide) (by decide) ?_
  refine NP.aload_n (i := 0) d_X2_init_4 rfl rfl ?_
  refine NP.iconst (x := 4) d_X2_init_5 (by decide) ?_
  refine NP.newI (b := (4, 108)) (n := 100) (N := 4) d_X2_init_6 iv.1 rfl rfl (by decide) ?_
  have iw1 := iv.new
  generalize am_mkI hi 100 = h1 at iw1 ⊢
  generalize am_mk g 100 = g1 at iw1 ⊢
  have iv1 := iw1.done rfl rfl
  refine NP.putRF (ci := 2) (j := 0) (q := (RX2, TX2, 8)) d_X2_init_8 rfl (iv1.lt (by decide)) rfl (by decide) rfl rfl rfl rfl rfl (fun _ => rfl) (fun _ => rfl) gw_113 ?_
  have iv2 := iv1.putR 0 100
  generalize am_upr g1 99 0 100 = g2 at iv2 ⊢
  refine NP.aload_n (i := 0) d_X2_init_11 rfl rfl ?_
  refine NP.bipush (x := 6) d_X2_init_12 (by decide) ?_
  refine NP.newI (b := (3, 102)) (n := 101) (N := 6) d_X2_init_14 iv2.1 rfl rfl (by decide) ?_
  have iw3 := iv2.new
  generalize am_mkI h1 101 = h3 at iw3 ⊢
  generalize am_mk g2 101 = g3 at iw3 ⊢
  have iv3 := iw3.done rfl rfl
  refine NP.putRF (ci := 2) (j := 1) (q := (RX2, TX2, 8)) d_X2_init_16 rfl (iv3.lt (by decide)) rfl (by decide) rfl rfl rfl rfl rfl (fun _ => rfl) (fun _ => rfl) gw_116 ?_
  have iv4 := iv3.putR 1 101
  generalize am_upr g3 99 1 101 = g4 at iv4 ⊢
  refine NP.aload_n (i := 0) d_X2_init_19 rfl rfl ?_
  refine NP.bipush (x := 6) d_X2_init_20 (by decide) ?_
  refine NP.newI (b := (2, 96)) (n := 102) (N := 6) d_X2_init_22 iv4.1 rfl rfl (by decide) ?_
  have iw5 := iv4.new
  generalize am_mkI h3 102 = h5 at iw5 ⊢
  generalize am_mk g4 102 = g5 at iw5 ⊢
  have iv5 := iw5.done rfl rfl
  refine NP.putRF (ci := 2) (j := 2) (q := (RX2, TX2, 8)) d_X2_init_24 rfl (iv5.lt (by decide)) rfl (by decide) rfl rfl rfl rfl rfl (fun _ => rfl) (fun _ => rfl) gw_120 ?_
  have iv6 := iv5.putR 2 102
  generalize am_upr g5 99 2 102 = g6 at iv6 ⊢
  refine NP.aload_n (i := 0) d_X2_init_27 rfl rfl ?_
  refine NP.bipush (x := 48) d_X2_init_28 (by decide) ?_
  refine NP.newI (b := (1, 48)) (n := 103) (N := 48) d_X2_init_30 iv6.1 rfl rfl (by decide) ?_
  have iw7 := iv6.new
  generalize am_mkI h5 103 = h7 at iw7 ⊢
  generalize am_mk g6 103 = g7 at iw7 ⊢
  have iv7 := iw7.done rfl rfl
  refine NP.putRF (ci := 2) (j := 3) (q := (RX2, TX2, 8)) d_X2_init_32 rfl (iv7.lt (by decide)) rfl (by decide) rfl rfl rfl rfl rfl (fun _ => rfl) (fun _ => rfl) gw_123 ?_
  have iv8 := iv7.putR 3 103
  generalize am_upr g7 99 3 103 = g8 at iv8 ⊢
  refine NP.aload_n (i := 0) d_X2_init_35 rfl rfl ?_
  refine NP.bipush (x := 48) d_X2_init_36 (by decide) ?_
  refine NP.newI (b := (0, 0)) (n := 104) (N := 48) d_X2_init_38 iv8.1 rfl rfl (by decide) ?_
  have iw9 := iv8.new
  generalize am_mkI h7 104 = h9 at iw9 ⊢
  generalize am_mk g8 104 = g9 at iw9 ⊢
  have iv9 := iw9.done rfl rfl
  refine NP.putRF (ci := 2) (j := 4) (q := (RX2, TX2, 8)) d_X2_init_40 rfl (iv9.lt (by decide)) rfl (by decide) rfl rfl rfl rfl rfl (fun _ => rfl) (fun _ => rfl) gw_127 ?_
  have iv10 := iv9.putR 4 104
  generalize am_upr g9 99 4 104 = g10 at iv10 ⊢
  refine NP.aload_n (i := 0) d_X2_init_43 rfl rfl ?_
  refine NP.iconst (x := 0) d_X2_init_44 (by decide) ?_
  refine NP.putI (ci := 2) (j := 5) (q := (RX2, TX2, 8)) d_X2_init_45 rfl (iv10.lt (by decide)) rfl (by decide) rfl rfl gw_130 ?_
  have iv11 := iv10.putI 5 0
  generalize am_up h9 99 5 0 = h11 at iv11 ⊢
  refine NP.aload_n (i := 0) d_X2_init_48 rfl rfl ?_
  refine NP.iconst (x := 1) d_X2_init_49 (by decide) ?_
  refine NP.putI (ci := 2) (j := 6) (q := (RX2, TX2, 8)) d_X2_init_50 rfl (iv11.lt (by decide)) rfl (by decide) rfl rfl gw_134 ?_
  have iv12 := iv11.putI 6 1
  generalize am_up h11 99 6 1 = h12 at iv12 ⊢
  refine NP.aload_n (i := 0) d_X2_init_53 rfl rfl ?_
  refine NP.iconst (x := 0) d_X2_init_54 (by decide) ?_
  refine NP.putI (ci := 2) (j := 7) (q := (RX2, TX2, 8)) d_X2_init_55 rfl (iv12.lt (by decide)) rfl (by decide) rfl rfl gw_137 ?_
  have iv13 := iv12.putI 7 0
  generalize am_up h12 99 7 0 = h13 at iv13 ⊢
  exact NP.vret d_X2_init_58 rfl (hΦ _ _ (iv13.fin rfl hr_99))
theorem ci_X6_96 {hi : am_HI} {g : am_G} (hg : g.1 = some 97) (hz : hi 96 = fun _ => 0) (hr : g.2.1 96 = fun _ => none) : am_Cn M_X6_init (8, 172) [.ref 96] hi g (FINP 96 105 hi g) := by
  refine am_cn rfl (by decide) (Nat.le_of_ble_eq_true rfl) (fun Φ hΦ => ?_)
  show NP M_X6_init _ 0 [.ref 96] [] hi g Φ
  have iv := IV.st hg hz hr
  refine NP.aload_n (i := 0) d_X6_init_0 rfl rfl ?_
  refine NP.objInit d_X6_init_1 gw_106 (by decide) (by decide) ?_
  refine NP.aload_n (i := 0) d_X6_init_4 rfl rfl ?_
  refine NP.bipush (x := 48) d_X6_init_5 (by decide) ?_
  refine NP.newI (b := (7, 124)) (n := 97) (N := 48) d_X6_init_7 iv.1 rfl rfl (by decide) ?_
  have iw1 := iv.new
  generalize am_mkI hi 97 = h1 at iw1 ⊢
  generalize am_mk g 97 = g1 at iw1 ⊢
  have iv1 := iw1.done rfl rfl
  refine NP.putRF (ci := 6) (j := 0) (q := (RX6, TX6, 8)) d_X6_init_9 rfl (iv1.lt (by decide)) rfl (by decide) rfl rfl rfl rfl rfl (fun _ => rfl) (fun _ => rfl) gw_158 ?_
  have iv2 := iv1.putR 0 97
  generalize am_upr g1 96 0 97 = g2 at iv2 ⊢
  refine NP.aload_n (i := 0) d_X6_init_12 rfl rfl ?_
  refine NP.iconst (x := 4) d_X6_init_13 (by decide) ?_
  refine NP.newI (b := (6, 120)) (n := 98) (N := 4) d_X6_init_14 iv2.1 rfl rfl (by decide) ?_
  have iw3 := iv2.new
  generalize am_mkI h1 98 = h3 at iw3 ⊢
  generalize am_mk g2 98 = g3 at iw3 ⊢
  refine NP.dup d_X6_init_16 rfl ?_
  refine NP.iconst (x := 0) d_X6_init_17 (by decide) ?_
  refine NP.bipush (x := 16) d_X6_init_18 (by decide) ?_
  refine NP.iast (n := 4) (j := 0) d_X6_init_20 rfl (iw3.lt (by decide)) (by decide) rfl (by decide) ?_
  have iw4 := iw3.putI 0 16
  generalize am_up h3 98 0 16 = h4 at iw4 ⊢
  refine NP.dup d_X6_init_21 rfl ?_
  refine NP.iconst (x := 1) d_X6_init_22 (by decide) ?_
  refine NP.iconst (x := 0) d_X6_init_23 (by decide) ?_
  refine NP.iast (n := 4) (j := 1) d_X6_init_24 rfl (iw4.lt (by decide)) (by decide) rfl (by decide) ?_
  have iw5 := iw4.putI 1 0
  generalize am_up h4 98 1 0 = h5 at iw5 ⊢
  refine NP.dup d_X6_init_25 rfl ?_
  refine NP.iconst (x := 2) d_X6_init_26 (by decide) ?_
  refine NP.iconst (x := 0) d_X6_init_27 (by decide) ?_
  refine NP.iast (n := 4) (j := 2) d_X6_init_28 rfl (iw5.lt (by decide)) (by decide) rfl (by decide) ?_
  have iw6 := iw5.putI 2 0
  generalize am_up h5 98 2 0 = h6 at iw6 ⊢
  refine NP.dup d_X6_init_29 rfl ?_
  refine NP.iconst (x := 3) d_X6_init_30 (by decide) ?_
  refine NP.iconst (x := 0) d_X6_init_31 (by decide) ?_
  refine NP.iast (n := 4) (j := 3) d_X6_init_32 rfl (iw6.lt (by decide)) (by decide) rfl (by decide) ?_
  have iw7 := iw6.putI 3 0
  generalize am_up h6 98 3 0 = h7 at iw7 ⊢
  have iv7 := iw7.done rfl rfl
  refine NP.putRF (ci := 6) (j := 1) (q := (RX6, TX6, 8)) d_X6_init_33 rfl (iv7.lt (by decide)) rfl (by decide) rfl rfl rfl rfl rfl (fun _ => rfl) (fun _ => rfl) gw_161 ?_
  have iv8 := iv7.putR 1 98
  generalize am_upr g3 96 1 98 = g8 at iv8 ⊢
  refine NP.aload_n (i := 0) d_X6_init_36 rfl rfl ?_
  refine NP.newo (b := (5, 112)) (n := 99) d_X6_init_37 iv8.1 rfl (q := (RX2, TX2, 8)) rfl rfl gw_107 gw_108 gw_70 ?_
  have iw9 := iv8.new
  generalize am_mkI h7 99 = h9 at iw9 ⊢
  generalize am_mk g8 99 = g9 at iw9 ⊢
  refine NP.dup d_X6_init_40 rfl ?_
  refine NP.init (b := (0, 0)) (b' := (5, 112)) d_X6_init_41 (ci_X2_99 iw9.1 iw9.2.2.2.2.2.1 iw9.2.2.2.2.2.2) ki_X6_init_20 (by decide) (FINP.ph iw9.1 (by decide)) (fun h10 g10 f10 => ?_)
  have iv10 := iw9.call f10 (by decide)
  refine NP.putRF (ci := 6) (j := 2) (q := (RX6, TX6, 8)) d_X6_init_44 rfl (iv10.lt (by decide)) rfl (by decide) rfl rfl rfl rfl rfl (fun _ => rfl) (fun _ => rfl) gw_164 ?_
  have iv11 := iv10.putR 2 99
  generalize am_upr g10 96 2 99 = g11 at iv11 ⊢
  refine NP.aload_n (i := 0) d_X6_init_47 rfl rfl ?_
  refine NP.iconst (x := 0) d_X6_init_48 (by decide) ?_
  refine NP.putI (ci := 6) (j := 3) (q := (RX6, TX6, 8)) d_X6_init_49 rfl (iv11.lt (by decide)) rfl (by decide) rfl rfl gw_166 ?_
  have iv12 := iv11.putI 3 0
  generalize am_up h10 96 3 0 = h12 at iv12 ⊢
  refine NP.aload_n (i := 0) d_X6_init_52 rfl rfl ?_
  refine NP.iconst (x := 4) d_X6_init_53 (by decide) ?_
  refine NP.putI (ci := 6) (j := 4) (q := (RX6, TX6, 8)) d_X6_init_54 rfl (iv12.lt (by decide)) rfl (by decide) rfl rfl gw_169 ?_
  have iv13 := iv12.putI 4 4
  generalize am_up h12 96 4 4 = h13 at iv13 ⊢
  refine NP.aload_n (i := 0) d_X6_init_57 rfl rfl ?_
  refine NP.iconst (x := 1) d_X6_init_58 (by decide) ?_
  refine NP.putI (ci := 6) (j := 5) (q := (RX6, TX6, 8)) d_X6_init_59 rfl (iv13.lt (by decide)) rfl (by decide) rfl rfl gw_172 ?_
  have iv14 := iv13.putI 5 1
  generalize am_up h13 96 5 1 = h14 at iv14 ⊢
  refine NP.aload_n (i := 0) d_X6_init_62 rfl rfl ?_
  refine NP.bipush (x := 31) d_X6_init_63 (by decide) ?_
  refine NP.putI (ci := 6) (j := 6) (q := (RX6, TX6, 8)) d_X6_init_65 rfl (iv14.lt (by decide)) rfl (by decide) rfl rfl gw_175 ?_
  have iv15 := iv14.putI 6 31
  generalize am_up h14 96 6 31 = h15 at iv15 ⊢
  refine NP.aload_n (i := 0) d_X6_init_68 rfl rfl ?_
  refine NP.iconst (x := 0) d_X6_init_69 (by decide) ?_
  refine NP.putI (ci := 6) (j := 7) (q := (RX6, TX6, 8)) d_X6_init_70 rfl (iv15.lt (by decide)) rfl (by decide) rfl rfl gw_177 ?_
  have iv16 := iv15.putI 7 0
  generalize am_up h15 96 7 0 = h16 at iv16 ⊢
  exact NP.vret d_X6_init_73 rfl (hΦ _ _ (iv16.fin rfl hr_96))
theorem gw_276 : Cond.methodLinkNest "CaveEchoes$Snapshots" 11 yX6_init "CaveEchoes" ∈ am_NW := am_nw 276 (by decide +kernel) (by decide +kernel)
theorem ki_X5_init_11 : am_csI M_X5_init 11 M_X6_init := ⟨by decide +kernel, rfl, rfl, gw_69, gw_105, gw_104, Or.inr gw_276⟩
theorem ci_X2_108 {hi : am_HI} {g : am_G} (hg : g.1 = some 109) (hz : hi 108 = fun _ => 0) (hr : g.2.1 108 = fun _ => none) : am_Cn M_X2_init (5, 112) [.ref 108] hi g (FINP 108 114 hi g) := by
  refine am_cn rfl (by decide) (Nat.le_of_ble_eq_true rfl) (fun Φ hΦ => ?_)
  show NP M_X2_init _ 0 [.ref 108] [] hi g Φ
  have iv := IV.st hg hz hr
  refine NP.aload_n (i := 0) d_X2_init_0 rfl rfl ?_
  refine NP.objInit d_X2_init_1 gw_112 (by decide) (by decide) ?_
  refine NP.aload_n (i := 0) d_X2_init_4 rfl rfl ?_
  refine NP.iconst (x := 4) d_X2_init_5 (by decide) ?_
  refine NP.newI (b := (4, 108)) (n := 109) (N := 4) d_X2_init_6 iv.1 rfl rfl (by decide) ?_
  have iw1 := iv.new
  generalize am_mkI hi 109 = h1 at iw1 ⊢
  generalize am_mk g 109 = g1 at iw1 ⊢
  have iv1 := iw1.done rfl rfl
  refine NP.putRF (ci := 2) (j := 0) (q := (RX2, TX2, 8)) d_X2_init_8 rfl (iv1.lt (by decide)) rfl (by decide) rfl rfl rfl rfl rfl (fun _ => rfl) (fun _ => rfl) gw_113 ?_
  have iv2 := iv1.putR 0 109
  generalize am_upr g1 108 0 109 = g2 at iv2 ⊢
  refine NP.aload_n (i := 0) d_X2_init_11 rfl rfl ?_
  refine NP.bipush (x := 6) d_X2_init_12 (by decide) ?_
  refine NP.newI (b := (3, 102)) (n := 110) (N := 6) d_X2_init_14 iv2.1 rfl rfl (by decide) ?_
  have iw3 := iv2.new
  generalize am_mkI h1 110 = h3 at iw3 ⊢
  generalize am_mk g2 110 = g3 at iw3 ⊢
  have iv3 := iw3.done rfl rfl
  refine NP.putRF (ci := 2) (j := 1) (q := (RX2, TX2, 8)) d_X2_init_16 rfl (iv3.lt (by decide)) rfl (by decide) rfl rfl rfl rfl rfl (fun _ => rfl) (fun _ => rfl) gw_116 ?_
  have iv4 := iv3.putR 1 110
  generalize am_upr g3 108 1 110 = g4 at iv4 ⊢
  refine NP.aload_n (i := 0) d_X2_init_19 rfl rfl ?_
  refine NP.bipush (x := 6) d_X2_init_20 (by decide) ?_
  refine NP.newI (b := (2, 96)) (n := 111) (N := 6) d_X2_init_22 iv4.1 rfl rfl (by decide) ?_
  have iw5 := iv4.new
  generalize am_mkI h3 111 = h5 at iw5 ⊢
  generalize am_mk g4 111 = g5 at iw5 ⊢
  have iv5 := iw5.done rfl rfl
  refine NP.putRF (ci := 2) (j := 2) (q := (RX2, TX2, 8)) d_X2_init_24 rfl (iv5.lt (by decide)) rfl (by decide) rfl rfl rfl rfl rfl (fun _ => rfl) (fun _ => rfl) gw_120 ?_
  have iv6 := iv5.putR 2 111
  generalize am_upr g5 108 2 111 = g6 at iv6 ⊢
  refine NP.aload_n (i := 0) d_X2_init_27 rfl rfl ?_
  refine NP.bipush (x := 48) d_X2_init_28 (by decide) ?_
  refine NP.newI (b := (1, 48)) (n := 112) (N := 48) d_X2_init_30 iv6.1 rfl rfl (by decide) ?_
  have iw7 := iv6.new
  generalize am_mkI h5 112 = h7 at iw7 ⊢
  generalize am_mk g6 112 = g7 at iw7 ⊢
  have iv7 := iw7.done rfl rfl
  refine NP.putRF (ci := 2) (j := 3) (q := (RX2, TX2, 8)) d_X2_init_32 rfl (iv7.lt (by decide)) rfl (by decide) rfl rfl rfl rfl rfl (fun _ => rfl) (fun _ => rfl) gw_123 ?_
  have iv8 := iv7.putR 3 112
  generalize am_upr g7 108 3 112 = g8 at iv8 ⊢
  refine NP.aload_n (i := 0) d_X2_init_35 rfl rfl ?_
  refine NP.bipush (x := 48) d_X2_init_36 (by decide) ?_
  refine NP.newI (b := (0, 0)) (n := 113) (N := 48) d_X2_init_38 iv8.1 rfl rfl (by decide) ?_
  have iw9 := iv8.new
  generalize am_mkI h7 113 = h9 at iw9 ⊢
  generalize am_mk g8 113 = g9 at iw9 ⊢
  have iv9 := iw9.done rfl rfl
  refine NP.putRF (ci := 2) (j := 4) (q := (RX2, TX2, 8)) d_X2_init_40 rfl (iv9.lt (by decide)) rfl (by decide) rfl rfl rfl rfl rfl (fun _ => rfl) (fun _ => rfl) gw_127 ?_
  have iv10 := iv9.putR 4 113
  generalize am_upr g9 108 4 113 = g10 at iv10 ⊢
  refine NP.aload_n (i := 0) d_X2_init_43 rfl rfl ?_
  refine NP.iconst (x := 0) d_X2_init_44 (by decide) ?_
  refine NP.putI (ci := 2) (j := 5) (q := (RX2, TX2, 8)) d_X2_init_45 rfl (iv10.lt (by decide)) rfl (by decide) rfl rfl gw_130 ?_
  have iv11 := iv10.putI 5 0
  generalize am_up h9 108 5 0 = h11 at iv11 ⊢
  refine NP.aload_n (i := 0) d_X2_init_48 rfl rfl ?_
  refine NP.iconst (x := 1) d_X2_init_49 (by decide) ?_
  refine NP.putI (ci := 2) (j := 6) (q := (RX2, TX2, 8)) d_X2_init_50 rfl (iv11.lt (by decide)) rfl (by decide) rfl rfl gw_134 ?_
  have iv12 := iv11.putI 6 1
  generalize am_up h11 108 6 1 = h12 at iv12 ⊢
  refine NP.aload_n (i := 0) d_X2_init_53 rfl rfl ?_
  refine NP.iconst (x := 0) d_X2_init_54 (by decide) ?_
  refine NP.putI (ci := 2) (j := 7) (q := (RX2, TX2, 8)) d_X2_init_55 rfl (iv12.lt (by decide)) rfl (by decide) rfl rfl gw_137 ?_
  have iv13 := iv12.putI 7 0
  generalize am_up h12 108 7 0 = h13 at iv13 ⊢
  exact NP.vret d_X2_init_58 rfl (hΦ _ _ (iv13.fin rfl hr_108))
theorem ci_X6_105 {hi : am_HI} {g : am_G} (hg : g.1 = some 106) (hz : hi 105 = fun _ => 0) (hr : g.2.1 105 = fun _ => none) : am_Cn M_X6_init (8, 172) [.ref 105] hi g (FINP 105 114 hi g) := by
  refine am_cn rfl (by decide) (Nat.le_of_ble_eq_true rfl) (fun Φ hΦ => ?_)
  show NP M_X6_init _ 0 [.ref 105] [] hi g Φ
  have iv := IV.st hg hz hr
  refine NP.aload_n (i := 0) d_X6_init_0 rfl rfl ?_
  refine NP.objInit d_X6_init_1 gw_106 (by decide) (by decide) ?_
  refine NP.aload_n (i := 0) d_X6_init_4 rfl rfl ?_
  refine NP.bipush (x := 48) d_X6_init_5 (by decide) ?_
  refine NP.newI (b := (7, 124)) (n := 106) (N := 48) d_X6_init_7 iv.1 rfl rfl (by decide) ?_
  have iw1 := iv.new
  generalize am_mkI hi 106 = h1 at iw1 ⊢
  generalize am_mk g 106 = g1 at iw1 ⊢
  have iv1 := iw1.done rfl rfl
  refine NP.putRF (ci := 6) (j := 0) (q := (RX6, TX6, 8)) d_X6_init_9 rfl (iv1.lt (by decide)) rfl (by decide) rfl rfl rfl rfl rfl (fun _ => rfl) (fun _ => rfl) gw_158 ?_
  have iv2 := iv1.putR 0 106
  generalize am_upr g1 105 0 106 = g2 at iv2 ⊢
  refine NP.aload_n (i := 0) d_X6_init_12 rfl rfl ?_
  refine NP.iconst (x := 4) d_X6_init_13 (by decide) ?_
  refine NP.newI (b := (6, 120)) (n := 107) (N := 4) d_X6_init_14 iv2.1 rfl rfl (by decide) ?_
  have iw3 := iv2.new
  generalize am_mkI h1 107 = h3 at iw3 ⊢
  generalize am_mk g2 107 = g3 at iw3 ⊢
  refine NP.dup d_X6_init_16 rfl ?_
  refine NP.iconst (x := 0) d_X6_init_17 (by decide) ?_
  refine NP.bipush (x := 16) d_X6_init_18 (by decide) ?_
  refine NP.iast (n := 4) (j := 0) d_X6_init_20 rfl (iw3.lt (by decide)) (by decide) rfl (by decide) ?_
  have iw4 := iw3.putI 0 16
  generalize am_up h3 107 0 16 = h4 at iw4 ⊢
  refine NP.dup d_X6_init_21 rfl ?_
  refine NP.iconst (x := 1) d_X6_init_22 (by decide) ?_
  refine NP.iconst (x := 0) d_X6_init_23 (by decide) ?_
  refine NP.iast (n := 4) (j := 1) d_X6_init_24 rfl (iw4.lt (by decide)) (by decide) rfl (by decide) ?_
  have iw5 := iw4.putI 1 0
  generalize am_up h4 107 1 0 = h5 at iw5 ⊢
  refine NP.dup d_X6_init_25 rfl ?_
  refine NP.iconst (x := 2) d_X6_init_26 (by decide) ?_
  refine NP.iconst (x := 0) d_X6_init_27 (by decide) ?_
  refine NP.iast (n := 4) (j := 2) d_X6_init_28 rfl (iw5.lt (by decide)) (by decide) rfl (by decide) ?_
  have iw6 := iw5.putI 2 0
  generalize am_up h5 107 2 0 = h6 at iw6 ⊢
  refine NP.dup d_X6_init_29 rfl ?_
  refine NP.iconst (x := 3) d_X6_init_30 (by decide) ?_
  refine NP.iconst (x := 0) d_X6_init_31 (by decide) ?_
  refine NP.iast (n := 4) (j := 3) d_X6_init_32 rfl (iw6.lt (by decide)) (by decide) rfl (by decide) ?_
  have iw7 := iw6.putI 3 0
  generalize am_up h6 107 3 0 = h7 at iw7 ⊢
  have iv7 := iw7.done rfl rfl
  refine NP.putRF (ci := 6) (j := 1) (q := (RX6, TX6, 8)) d_X6_init_33 rfl (iv7.lt (by decide)) rfl (by decide) rfl rfl rfl rfl rfl (fun _ => rfl) (fun _ => rfl) gw_161 ?_
  have iv8 := iv7.putR 1 107
  generalize am_upr g3 105 1 107 = g8 at iv8 ⊢
  refine NP.aload_n (i := 0) d_X6_init_36 rfl rfl ?_
  refine NP.newo (b := (5, 112)) (n := 108) d_X6_init_37 iv8.1 rfl (q := (RX2, TX2, 8)) rfl rfl gw_107 gw_108 gw_70 ?_
  have iw9 := iv8.new
  generalize am_mkI h7 108 = h9 at iw9 ⊢
  generalize am_mk g8 108 = g9 at iw9 ⊢
  refine NP.dup d_X6_init_40 rfl ?_
  refine NP.init (b := (0, 0)) (b' := (5, 112)) d_X6_init_41 (ci_X2_108 iw9.1 iw9.2.2.2.2.2.1 iw9.2.2.2.2.2.2) ki_X6_init_20 (by decide) (FINP.ph iw9.1 (by decide)) (fun h10 g10 f10 => ?_)
  have iv10 := iw9.call f10 (by decide)
  refine NP.putRF (ci := 6) (j := 2) (q := (RX6, TX6, 8)) d_X6_init_44 rfl (iv10.lt (by decide)) rfl (by decide) rfl rfl rfl rfl rfl (fun _ => rfl) (fun _ => rfl) gw_164 ?_
  have iv11 := iv10.putR 2 108
  generalize am_upr g10 105 2 108 = g11 at iv11 ⊢
  refine NP.aload_n (i := 0) d_X6_init_47 rfl rfl ?_
  refine NP.iconst (x := 0) d_X6_init_48 (by decide) ?_
  refine NP.putI (ci := 6) (j := 3) (q := (RX6, TX6, 8)) d_X6_init_49 rfl (iv11.lt (by decide)) rfl (by decide) rfl rfl gw_166 ?_
  have iv12 := iv11.putI 3 0
  generalize am_up h10 105 3 0 = h12 at iv12 ⊢
  refine NP.aload_n (i := 0) d_X6_init_52 rfl rfl ?_
  refine NP.iconst (x := 4) d_X6_init_53 (by decide) ?_
  refine NP.putI (ci := 6) (j := 4) (q := (RX6, TX6, 8)) d_X6_init_54 rfl (iv12.lt (by decide)) rfl (by decide) rfl rfl gw_169 ?_
  have iv13 := iv12.putI 4 4
  generalize am_up h12 105 4 4 = h13 at iv13 ⊢
  refine NP.aload_n (i := 0) d_X6_init_57 rfl rfl ?_
  refine NP.iconst (x := 1) d_X6_init_58 (by decide) ?_
  refine NP.putI (ci := 6) (j := 5) (q := (RX6, TX6, 8)) d_X6_init_59 rfl (iv13.lt (by decide)) rfl (by decide) rfl rfl gw_172 ?_
  have iv14 := iv13.putI 5 1
  generalize am_up h13 105 5 1 = h14 at iv14 ⊢
  refine NP.aload_n (i := 0) d_X6_init_62 rfl rfl ?_
  refine NP.bipush (x := 31) d_X6_init_63 (by decide) ?_
  refine NP.putI (ci := 6) (j := 6) (q := (RX6, TX6, 8)) d_X6_init_65 rfl (iv14.lt (by decide)) rfl (by decide) rfl rfl gw_175 ?_
  have iv15 := iv14.putI 6 31
  generalize am_up h14 105 6 31 = h15 at iv15 ⊢
  refine NP.aload_n (i := 0) d_X6_init_68 rfl rfl ?_
  refine NP.iconst (x := 0) d_X6_init_69 (by decide) ?_
  refine NP.putI (ci := 6) (j := 7) (q := (RX6, TX6, 8)) d_X6_init_70 rfl (iv15.lt (by decide)) rfl (by decide) rfl rfl gw_177 ?_
  have iv16 := iv15.putI 7 0
  generalize am_up h15 105 7 0 = h16 at iv16 ⊢
  exact NP.vret d_X6_init_73 rfl (hΦ _ _ (iv16.fin rfl hr_105))
theorem gw_277 : Cond.fieldLink "CaveEchoes$Snapshots" 12 "CaveEchoes$Snapshots" "kept" "[LCaveEchoes$State;" ∈ am_GT := am_gt 277 (by decide +kernel) (by decide +kernel)
theorem gw_278 : Cond.fieldLink "CaveEchoes$Snapshots" 18 "CaveEchoes$Snapshots" "full" "[Z" ∈ am_GT := am_gt 278 (by decide +kernel) (by decide +kernel)
theorem ci_X5_94 {hi : am_HI} {g : am_G} (hg : g.1 = some 95) (hz : hi 94 = fun _ => 0) (hr : g.2.1 94 = fun _ => none) : am_Cn M_X5_init (20, 364) [.ref 94] hi g (FINP 94 115 hi g) := by
  refine am_cn rfl (by decide) (Nat.le_of_ble_eq_true rfl) (fun Φ hΦ => ?_)
  show NP M_X5_init _ 0 [.ref 94] [] hi g Φ
  have iv := IV.st hg hz hr
  refine NP.aload_n (i := 0) d_X5_init_0 rfl rfl ?_
  refine NP.objInit d_X5_init_1 gw_274 (by decide) (by decide) ?_
  refine NP.aload_n (i := 0) d_X5_init_4 rfl rfl ?_
  refine NP.iconst (x := 2) d_X5_init_5 (by decide) ?_
  refine NP.newq (b := (19, 362)) (n := 95) (N := 2) d_X5_init_6 iv.1 rfl gw_275 rfl (by decide) ?_
  have iv1 : IV 95 hi g (fun _ => 0) (fun _ => none) 96 (am_mkI hi 95) (am_mk g 95) := ⟨rfl, fun i hi => ⟨mkI_ne (by omega), mk_ne (by omega)⟩, ⟨mkI_at _ _, mk_at _ _⟩, fun i h1 h2 => by omega, by decide⟩
  generalize am_mkI hi 95 = h1 at iv1 ⊢
  generalize am_mk g 95 = g1 at iv1 ⊢
  refine NP.dup d_X5_init_9 rfl ?_
  refine NP.iconst (x := 0) d_X5_init_10 (by decide) ?_
  refine NP.newo (b := (18, 354)) (n := 96) d_X5_init_11 iv1.1 rfl (q := (RX6, TX6, 8)) rfl rfl gw_275 gw_102 gw_69 ?_
  have iw2 := iv1.new
  generalize am_mkI h1 96 = h2 at iw2 ⊢
  generalize am_mk g1 96 = g2 at iw2 ⊢
  refine NP.dup d_X5_init_14 rfl ?_
  refine NP.init (b := (10, 182)) (b' := (8, 172)) d_X5_init_15 (ci_X6_96 iw2.1 iw2.2.2.2.2.2.1 iw2.2.2.2.2.2.2) ki_X5_init_11 (by decide) (FINP.ph iw2.1 (by decide)) (fun h3 g3 f3 => ?_)
  have iv3 := iw2.call f3 (by decide)
  refine NP.aast (n := 2) (j := 0) d_X5_init_18 rfl (iv3.lt (by decide)) (by decide) rfl (by decide) rfl (iv3.lt (by decide)) ?_
  have iv4 := iv3.putR 0 96
  generalize am_upr g3 95 0 96 = g4 at iv4 ⊢
  refine NP.dup d_X5_init_19 rfl ?_
  refine NP.iconst (x := 1) d_X5_init_20 (by decide) ?_
  refine NP.newo (b := (9, 174)) (n := 105) d_X5_init_21 iv4.1 rfl (q := (RX6, TX6, 8)) rfl rfl gw_275 gw_102 gw_69 ?_
  have iw5 := iv4.new
  generalize am_mkI h3 105 = h5 at iw5 ⊢
  generalize am_mk g4 105 = g5 at iw5 ⊢
  refine NP.dup d_X5_init_24 rfl ?_
  refine NP.init (b := (1, 2)) (b' := (8, 172)) d_X5_init_25 (ci_X6_105 iw5.1 iw5.2.2.2.2.2.1 iw5.2.2.2.2.2.2) ki_X5_init_11 (by decide) (FINP.ph iw5.1 (by decide)) (fun h6 g6 f6 => ?_)
  have iv6 := iw5.call f6 (by decide)
  refine NP.aast (n := 2) (j := 1) d_X5_init_28 rfl (iv6.lt (by decide)) (by decide) rfl (by decide) rfl (iv6.lt (by decide)) ?_
  have iv7 := iv6.putR 1 105
  generalize am_upr g6 95 1 105 = g7 at iv7 ⊢
  have ib := iv7.back rfl hr_95
  rw [hz, hr] at ib
  refine NP.putRF (ci := 5) (j := 0) (q := (RX5, TX5, 2)) d_X5_init_29 rfl (ib.lt (by decide)) rfl (by decide) rfl rfl rfl rfl rfl (fun _ => rfl) (fun _ => rfl) gw_277 ?_
  have iv8 := ib.putR 0 95
  generalize am_upr g7 94 0 95 = g8 at iv8 ⊢
  refine NP.aload_n (i := 0) d_X5_init_32 rfl rfl ?_
  refine NP.iconst (x := 2) d_X5_init_33 (by decide) ?_
  refine NP.newZ (b := (0, 0)) (n := 114) (N := 2) d_X5_init_34 iv8.1 rfl rfl (by decide) ?_
  have iw9 := iv8.new
  generalize am_mkI h6 114 = h9 at iw9 ⊢
  generalize am_mk g8 114 = g9 at iw9 ⊢
  have iv9 := iw9.done rfl rfl
  refine NP.putRF (ci := 5) (j := 1) (q := (RX5, TX5, 2)) d_X5_init_36 rfl (iv9.lt (by decide)) rfl (by decide) rfl rfl rfl rfl rfl (fun _ => rfl) (fun _ => rfl) gw_278 ?_
  have iv10 := iv9.putR 1 114
  generalize am_upr g9 94 1 114 = g10 at iv10 ⊢
  exact NP.vret d_X5_init_39 rfl (hΦ _ _ (iv10.fin rfl hr_94))
theorem gw_271 : Cond.methodLinkNest "CaveEchoes" 32 yX5_init "CaveEchoes" ∈ am_NW := am_nw 271 (by decide +kernel) (by decide +kernel)
theorem gw_273 : Cond.code yX5_init prog_7_method_1_code 1 none ∈ am_GT := am_gt 273 (by decide +kernel) (by decide +kernel)
theorem gw_272 : Cond.instanceMethod yX5_init ∈ am_GT := am_gt 272 (by decide +kernel) (by decide +kernel)
theorem ki_X9_init_32 : am_csI M_X9_init 32 M_X5_init := ⟨by decide +kernel, rfl, rfl, gw_73, gw_273, gw_272, Or.inr gw_271⟩
theorem gw_348 : Cond.fieldLink "CaveEchoes" 33 "CaveEchoes" "snapshots" "LCaveEchoes$Snapshots;" ∈ am_GT := am_gt 348 (by decide +kernel) (by decide +kernel)
theorem gw_285 : Cond.classLink "CaveEchoes" 37 "CaveEchoes$Works" ∈ am_GT := am_gt 285 (by decide +kernel) (by decide +kernel)
theorem gw_286 : Cond.instantiable "CaveEchoes$Works" 6 ∈ am_GT := am_gt 286 (by decide +kernel) (by decide +kernel)
theorem gw_74 : Cond.initialized "CaveEchoes$Works" ∈ am_GT := am_gt 74 (by decide +kernel) (by decide +kernel)
theorem gw_290 : Cond.methodLink "CaveEchoes$Works" 3 Lib.objectInit ∈ am_GT := am_gt 290 (by decide +kernel) (by decide +kernel)
theorem gw_291 : Cond.fieldLink "CaveEchoes$Works" 9 "CaveEchoes$Works" "codes" "[I" ∈ am_GT := am_gt 291 (by decide +kernel) (by decide +kernel)
theorem gw_292 : Cond.fieldLink "CaveEchoes$Works" 15 "CaveEchoes$Works" "length" "I" ∈ am_GT := am_gt 292 (by decide +kernel) (by decide +kernel)
theorem gw_294 : Cond.fieldLink "CaveEchoes$Works" 19 "CaveEchoes$Works" "at" "I" ∈ am_GT := am_gt 294 (by decide +kernel) (by decide +kernel)
theorem gw_296 : Cond.fieldLink "CaveEchoes$Works" 22 "CaveEchoes$Works" "work" "I" ∈ am_GT := am_gt 296 (by decide +kernel) (by decide +kernel)
theorem gw_298 : Cond.fieldLink "CaveEchoes$Works" 25 "CaveEchoes$Works" "place" "I" ∈ am_GT := am_gt 298 (by decide +kernel) (by decide +kernel)
theorem gw_300 : Cond.fieldLink "CaveEchoes$Works" 28 "CaveEchoes$Works" "value" "I" ∈ am_GT := am_gt 300 (by decide +kernel) (by decide +kernel)
theorem ci_X8_115 {hi : am_HI} {g : am_G} (hg : g.1 = some 116) (hz : hi 115 = fun _ => 0) (hr : g.2.1 115 = fun _ => none) : am_Cn M_X8_init (1, 80) [.ref 115] hi g (FINP 115 117 hi g) := by
  refine am_cn rfl (by decide) (Nat.le_of_ble_eq_true rfl) (fun Φ hΦ => ?_)
  show NP M_X8_init _ 0 [.ref 115] [] hi g Φ
  have iv := IV.st hg hz hr
  refine NP.aload_n (i := 0) d_X8_init_0 rfl rfl ?_
  refine NP.objInit d_X8_init_1 gw_290 (by decide) (by decide) ?_
  refine NP.aload_n (i := 0) d_X8_init_4 rfl rfl ?_
  refine NP.bipush (x := 80) d_X8_init_5 (by decide) ?_
  refine NP.newI (b := (0, 0)) (n := 116) (N := 80) d_X8_init_7 iv.1 rfl rfl (by decide) ?_
  have iw1 := iv.new
  generalize am_mkI hi 116 = h1 at iw1 ⊢
  generalize am_mk g 116 = g1 at iw1 ⊢
  have iv1 := iw1.done rfl rfl
  refine NP.putRF (ci := 8) (j := 0) (q := (RX8, TX8, 6)) d_X8_init_9 rfl (iv1.lt (by decide)) rfl (by decide) rfl rfl rfl rfl rfl (fun _ => rfl) (fun _ => rfl) gw_291 ?_
  have iv2 := iv1.putR 0 116
  generalize am_upr g1 115 0 116 = g2 at iv2 ⊢
  refine NP.aload_n (i := 0) d_X8_init_12 rfl rfl ?_
  refine NP.iconst (x := 0) d_X8_init_13 (by decide) ?_
  refine NP.putI (ci := 8) (j := 1) (q := (RX8, TX8, 6)) d_X8_init_14 rfl (iv2.lt (by decide)) rfl (by decide) rfl rfl gw_292 ?_
  have iv3 := iv2.putI 1 0
  generalize am_up h1 115 1 0 = h3 at iv3 ⊢
  refine NP.aload_n (i := 0) d_X8_init_17 rfl rfl ?_
  refine NP.iconst (x := 0) d_X8_init_18 (by decide) ?_
  refine NP.putI (ci := 8) (j := 2) (q := (RX8, TX8, 6)) d_X8_init_19 rfl (iv3.lt (by decide)) rfl (by decide) rfl rfl gw_294 ?_
  have iv4 := iv3.putI 2 0
  generalize am_up h3 115 2 0 = h4 at iv4 ⊢
  refine NP.aload_n (i := 0) d_X8_init_22 rfl rfl ?_
  refine NP.iconst (x := 0) d_X8_init_23 (by decide) ?_
  refine NP.putI (ci := 8) (j := 3) (q := (RX8, TX8, 6)) d_X8_init_24 rfl (iv4.lt (by decide)) rfl (by decide) rfl rfl gw_296 ?_
  have iv5 := iv4.putI 3 0
  generalize am_up h4 115 3 0 = h5 at iv5 ⊢
  refine NP.aload_n (i := 0) d_X8_init_27 rfl rfl ?_
  refine NP.iconst (x := 0) d_X8_init_28 (by decide) ?_
  refine NP.putI (ci := 8) (j := 4) (q := (RX8, TX8, 6)) d_X8_init_29 rfl (iv5.lt (by decide)) rfl (by decide) rfl rfl gw_298 ?_
  have iv6 := iv5.putI 4 0
  generalize am_up h5 115 4 0 = h6 at iv6 ⊢
  refine NP.aload_n (i := 0) d_X8_init_32 rfl rfl ?_
  refine NP.iconst (x := 0) d_X8_init_33 (by decide) ?_
  refine NP.putI (ci := 8) (j := 5) (q := (RX8, TX8, 6)) d_X8_init_34 rfl (iv6.lt (by decide)) rfl (by decide) rfl rfl gw_300 ?_
  have iv7 := iv6.putI 5 0
  generalize am_up h6 115 5 0 = h7 at iv7 ⊢
  exact NP.vret d_X8_init_37 rfl (hΦ _ _ (iv7.fin rfl hr_115))
theorem gw_287 : Cond.methodLinkNest "CaveEchoes" 39 yX8_init "CaveEchoes" ∈ am_NW := am_nw 287 (by decide +kernel) (by decide +kernel)
theorem gw_289 : Cond.code yX8_init prog_10_method_1_code 1 none ∈ am_GT := am_gt 289 (by decide +kernel) (by decide +kernel)
theorem gw_288 : Cond.instanceMethod yX8_init ∈ am_GT := am_gt 288 (by decide +kernel) (by decide +kernel)
theorem ki_X9_init_39 : am_csI M_X9_init 39 M_X8_init := ⟨by decide +kernel, rfl, rfl, gw_74, gw_289, gw_288, Or.inr gw_287⟩
theorem gw_349 : Cond.fieldLink "CaveEchoes" 40 "CaveEchoes" "works" "LCaveEchoes$Works;" ∈ am_GT := am_gt 349 (by decide +kernel) (by decide +kernel)
theorem gw_315 : Cond.classLink "CaveEchoes" 44 "CaveEchoes$Reader" ∈ am_GT := am_gt 315 (by decide +kernel) (by decide +kernel)
theorem gw_316 : Cond.instantiable "CaveEchoes$Reader" 1 ∈ am_GT := am_gt 316 (by decide +kernel) (by decide +kernel)
theorem gw_75 : Cond.initialized "CaveEchoes$Reader" ∈ am_GT := am_gt 75 (by decide +kernel) (by decide +kernel)
theorem gw_320 : Cond.methodLink "CaveEchoes$Reader" 3 Lib.objectInit ∈ am_GT := am_gt 320 (by decide +kernel) (by decide +kernel)
theorem gw_321 : Cond.classLink "CaveEchoes$Reader" 9 "CaveEchoes$Foreteller" ∈ am_GT := am_gt 321 (by decide +kernel) (by decide +kernel)
theorem ci_X0_118 {hi : am_HI} {g : am_G} (hg : g.1 = some 119) (hz : hi 118 = fun _ => 0) (hr : g.2.1 118 = fun _ => none) : am_Cn M_X0_init (2, 52) [.ref 118] hi g (FINP 118 121 hi g) := by
  refine am_cn rfl (by decide) (Nat.le_of_ble_eq_true rfl) (fun Φ hΦ => ?_)
  show NP M_X0_init _ 0 [.ref 118] [] hi g Φ
  have iv := IV.st hg hz hr
  refine NP.aload_n (i := 0) d_X0_init_0 rfl rfl ?_
  refine NP.objInit d_X0_init_1 gw_201 (by decide) (by decide) ?_
  refine NP.aload_n (i := 0) d_X0_init_4 rfl rfl ?_
  refine NP.bipush (x := 48) d_X0_init_5 (by decide) ?_
  refine NP.newI (b := (1, 4)) (n := 119) (N := 48) d_X0_init_7 iv.1 rfl rfl (by decide) ?_
  have iw1 := iv.new
  generalize am_mkI hi 119 = h1 at iw1 ⊢
  generalize am_mk g 119 = g1 at iw1 ⊢
  have iv1 := iw1.done rfl rfl
  refine NP.putRF (ci := 0) (j := 0) (q := (RX0, TX0, 6)) d_X0_init_9 rfl (iv1.lt (by decide)) rfl (by decide) rfl rfl rfl rfl rfl (fun _ => rfl) (fun _ => rfl) gw_202 ?_
  have iv2 := iv1.putR 0 119
  generalize am_upr g1 118 0 119 = g2 at iv2 ⊢
  refine NP.aload_n (i := 0) d_X0_init_12 rfl rfl ?_
  refine NP.iconst (x := 4) d_X0_init_13 (by decide) ?_
  refine NP.newI (b := (0, 0)) (n := 120) (N := 4) d_X0_init_14 iv2.1 rfl rfl (by decide) ?_
  have iw3 := iv2.new
  generalize am_mkI h1 120 = h3 at iw3 ⊢
  generalize am_mk g2 120 = g3 at iw3 ⊢
  have iv3 := iw3.done rfl rfl
  refine NP.putRF (ci := 0) (j := 1) (q := (RX0, TX0, 6)) d_X0_init_16 rfl (iv3.lt (by decide)) rfl (by decide) rfl rfl rfl rfl rfl (fun _ => rfl) (fun _ => rfl) gw_204 ?_
  have iv4 := iv3.putR 1 120
  generalize am_upr g3 118 1 120 = g4 at iv4 ⊢
  refine NP.aload_n (i := 0) d_X0_init_19 rfl rfl ?_
  refine NP.iconst (x := 0) d_X0_init_20 (by decide) ?_
  refine NP.putI (ci := 0) (j := 2) (q := (RX0, TX0, 6)) d_X0_init_21 rfl (iv4.lt (by decide)) rfl (by decide) rfl rfl gw_206 ?_
  have iv5 := iv4.putI 2 0
  generalize am_up h3 118 2 0 = h5 at iv5 ⊢
  refine NP.aload_n (i := 0) d_X0_init_24 rfl rfl ?_
  refine NP.iconst (x := 1) d_X0_init_25 (by decide) ?_
  refine NP.putI (ci := 0) (j := 3) (q := (RX0, TX0, 6)) d_X0_init_26 rfl (iv5.lt (by decide)) rfl (by decide) rfl rfl gw_208 ?_
  have iv6 := iv5.putI 3 1
  generalize am_up h5 118 3 1 = h6 at iv6 ⊢
  refine NP.aload_n (i := 0) d_X0_init_29 rfl rfl ?_
  refine NP.iconst (x := 0) d_X0_init_30 (by decide) ?_
  refine NP.putI (ci := 0) (j := 4) (q := (RX0, TX0, 6)) d_X0_init_31 rfl (iv6.lt (by decide)) rfl (by decide) rfl rfl gw_209 ?_
  have iv7 := iv6.putI 4 0
  generalize am_up h6 118 4 0 = h7 at iv7 ⊢
  refine NP.aload_n (i := 0) d_X0_init_34 rfl rfl ?_
  refine NP.iconst (x := 0) d_X0_init_35 (by decide) ?_
  refine NP.putI (ci := 0) (j := 5) (q := (RX0, TX0, 6)) d_X0_init_36 rfl (iv7.lt (by decide)) rfl (by decide) rfl rfl gw_210 ?_
  have iv8 := iv7.putI 5 0
  generalize am_up h7 118 5 0 = h8 at iv8 ⊢
  exact NP.vret d_X0_init_39 rfl (hΦ _ _ (iv8.fin rfl hr_118))
theorem gw_322 : Cond.methodLinkNest "CaveEchoes$Reader" 11 yX0_init "CaveEchoes" ∈ am_NW := am_nw 322 (by decide +kernel) (by decide +kernel)
theorem ki_X4_init_11 : am_csI M_X4_init 11 M_X0_init := ⟨by decide +kernel, rfl, rfl, gw_71, gw_200, gw_199, Or.inr gw_322⟩
theorem gw_323 : Cond.fieldLink "CaveEchoes$Reader" 12 "CaveEchoes$Reader" "foreteller" "LCaveEchoes$Foreteller;" ∈ am_GT := am_gt 323 (by decide +kernel) (by decide +kernel)
theorem ci_X4_117 {hi : am_HI} {g : am_G} (hg : g.1 = some 118) (hz : hi 117 = fun _ => 0) (hr : g.2.1 117 = fun _ => none) : am_Cn M_X4_init (3, 58) [.ref 117] hi g (FINP 117 121 hi g) := by
  refine am_cn rfl (by decide) (Nat.le_of_ble_eq_true rfl) (fun Φ hΦ => ?_)
  show NP M_X4_init _ 0 [.ref 117] [] hi g Φ
  have iv := IV.st hg hz hr
  refine NP.aload_n (i := 0) d_X4_init_0 rfl rfl ?_
  refine NP.objInit d_X4_init_1 gw_320 (by decide) (by decide) ?_
  refine NP.aload_n (i := 0) d_X4_init_4 rfl rfl ?_
  refine NP.newo (b := (2, 52)) (n := 118) d_X4_init_5 iv.1 rfl (q := (RX0, TX0, 6)) rfl rfl gw_321 gw_197 gw_71 ?_
  have iw1 := iv.new
  generalize am_mkI hi 118 = h1 at iw1 ⊢
  generalize am_mk g 118 = g1 at iw1 ⊢
  refine NP.dup d_X4_init_8 rfl ?_
  refine NP.init (b := (0, 0)) (b' := (2, 52)) d_X4_init_9 (ci_X0_118 iw1.1 iw1.2.2.2.2.2.1 iw1.2.2.2.2.2.2) ki_X4_init_11 (by decide) (FINP.ph iw1.1 (by decide)) (fun h2 g2 f2 => ?_)
  have iv2 := iw1.call f2 (by decide)
  refine NP.putRF (ci := 4) (j := 0) (q := (RX4, TX4, 1)) d_X4_init_12 rfl (iv2.lt (by decide)) rfl (by decide) rfl rfl rfl rfl rfl (fun _ => rfl) (fun _ => rfl) gw_323 ?_
  have iv3 := iv2.putR 0 118
  generalize am_upr g2 117 0 118 = g3 at iv3 ⊢
  exact NP.vret d_X4_init_15 rfl (hΦ _ _ (iv3.fin rfl hr_117))
theorem gw_317 : Cond.methodLinkNest "CaveEchoes" 46 yX4_init "CaveEchoes" ∈ am_NW := am_nw 317 (by decide +kernel) (by decide +kernel)
theorem gw_319 : Cond.code yX4_init prog_6_method_1_code 1 none ∈ am_GT := am_gt 319 (by decide +kernel) (by decide +kernel)
theorem gw_318 : Cond.instanceMethod yX4_init ∈ am_GT := am_gt 318 (by decide +kernel) (by decide +kernel)
theorem ki_X9_init_46 : am_csI M_X9_init 46 M_X4_init := ⟨by decide +kernel, rfl, rfl, gw_75, gw_319, gw_318, Or.inr gw_317⟩
theorem gw_350 : Cond.fieldLink "CaveEchoes" 47 "CaveEchoes" "reader" "LCaveEchoes$Reader;" ∈ am_GT := am_gt 350 (by decide +kernel) (by decide +kernel)
theorem gw_327 : Cond.classLink "CaveEchoes" 51 "CaveEchoes$Paper" ∈ am_GT := am_gt 327 (by decide +kernel) (by decide +kernel)
theorem gw_328 : Cond.instantiable "CaveEchoes$Paper" 3 ∈ am_GT := am_gt 328 (by decide +kernel) (by decide +kernel)
theorem gw_76 : Cond.initialized "CaveEchoes$Paper" ∈ am_GT := am_gt 76 (by decide +kernel) (by decide +kernel)
theorem gw_332 : Cond.methodLink "CaveEchoes$Paper" 3 Lib.objectInit ∈ am_GT := am_gt 332 (by decide +kernel) (by decide +kernel)
theorem gw_333 : Cond.fieldLink "CaveEchoes$Paper" 9 "CaveEchoes$Paper" "ones" "[Z" ∈ am_GT := am_gt 333 (by decide +kernel) (by decide +kernel)
theorem gw_334 : Cond.fieldLink "CaveEchoes$Paper" 15 "CaveEchoes$Paper" "length" "I" ∈ am_GT := am_gt 334 (by decide +kernel) (by decide +kernel)
theorem gw_336 : Cond.fieldLink "CaveEchoes$Paper" 19 "CaveEchoes$Paper" "at" "I" ∈ am_GT := am_gt 336 (by decide +kernel) (by decide +kernel)
theorem ci_X3_121 {hi : am_HI} {g : am_G} (hg : g.1 = some 122) (hz : hi 121 = fun _ => 0) (hr : g.2.1 121 = fun _ => none) : am_Cn M_X3_init (1, 19092) [.ref 121] hi g (FINP 121 123 hi g) := by
  refine am_cn rfl (by decide) (Nat.le_of_ble_eq_true rfl) (fun Φ hΦ => ?_)
  show NP M_X3_init _ 0 [.ref 121] [] hi g Φ
  have iv := IV.st hg hz hr
  refine NP.aload_n (i := 0) d_X3_init_0 rfl rfl ?_
  refine NP.objInit d_X3_init_1 gw_332 (by decide) (by decide) ?_
  refine NP.aload_n (i := 0) d_X3_init_4 rfl rfl ?_
  refine NP.sipush (x := 19092) d_X3_init_5 (by decide) ?_
  refine NP.newZ (b := (0, 0)) (n := 122) (N := 19092) d_X3_init_8 iv.1 rfl rfl (by decide) ?_
  have iw1 := iv.new
  generalize am_mkI hi 122 = h1 at iw1 ⊢
  generalize am_mk g 122 = g1 at iw1 ⊢
  have iv1 := iw1.done rfl rfl
  refine NP.putRF (ci := 3) (j := 0) (q := (RX3, TX3, 3)) d_X3_init_10 rfl (iv1.lt (by decide)) rfl (by decide) rfl rfl rfl rfl rfl (fun _ => rfl) (fun _ => rfl) gw_333 ?_
  have iv2 := iv1.putR 0 122
  generalize am_upr g1 121 0 122 = g2 at iv2 ⊢
  refine NP.aload_n (i := 0) d_X3_init_13 rfl rfl ?_
  refine NP.iconst (x := 0) d_X3_init_14 (by decide) ?_
  refine NP.putI (ci := 3) (j := 1) (q := (RX3, TX3, 3)) d_X3_init_15 rfl (iv2.lt (by decide)) rfl (by decide) rfl rfl gw_334 ?_
  have iv3 := iv2.putI 1 0
  generalize am_up h1 121 1 0 = h3 at iv3 ⊢
  refine NP.aload_n (i := 0) d_X3_init_18 rfl rfl ?_
  refine NP.iconst (x := 0) d_X3_init_19 (by decide) ?_
  refine NP.putI (ci := 3) (j := 2) (q := (RX3, TX3, 3)) d_X3_init_20 rfl (iv3.lt (by decide)) rfl (by decide) rfl rfl gw_336 ?_
  have iv4 := iv3.putI 2 0
  generalize am_up h3 121 2 0 = h4 at iv4 ⊢
  exact NP.vret d_X3_init_23 rfl (hΦ _ _ (iv4.fin rfl hr_121))
theorem gw_329 : Cond.methodLinkNest "CaveEchoes" 53 yX3_init "CaveEchoes" ∈ am_NW := am_nw 329 (by decide +kernel) (by decide +kernel)
theorem gw_331 : Cond.code yX3_init prog_5_method_1_code 1 none ∈ am_GT := am_gt 331 (by decide +kernel) (by decide +kernel)
theorem gw_330 : Cond.instanceMethod yX3_init ∈ am_GT := am_gt 330 (by decide +kernel) (by decide +kernel)
theorem ki_X9_init_53 : am_csI M_X9_init 53 M_X3_init := ⟨by decide +kernel, rfl, rfl, gw_76, gw_331, gw_330, Or.inr gw_329⟩
theorem gw_351 : Cond.fieldLink "CaveEchoes" 54 "CaveEchoes" "paper" "LCaveEchoes$Paper;" ∈ am_GT := am_gt 351 (by decide +kernel) (by decide +kernel)
theorem ci_X9_0 {hi : am_HI} {g : am_G} (hg : g.1 = some 1) (hz : hi 0 = fun _ => 0) (hr : g.2.1 0 = fun _ => none) : am_Cn M_X9_init (122, 21463) [.ref 0] hi g (FINP 0 123 hi g) := by
  refine am_cn rfl (by decide) (Nat.le_of_ble_eq_true rfl) (fun Φ hΦ => ?_)
  show NP M_X9_init _ 0 [.ref 0] [] hi g Φ
  have iv := IV.st hg hz hr
  refine NP.aload_n (i := 0) d_X9_init_0 rfl rfl ?_
  refine NP.objInit d_X9_init_1 gw_92 (by decide) (by decide) ?_
  refine NP.aload_n (i := 0) d_X9_init_4 rfl rfl ?_
  refine NP.newo (b := (121, 21456)) (n := 1) d_X9_init_5 iv.1 rfl (q := (RX7, TX7, 7)) rfl rfl gw_95 gw_96 gw_68 ?_
  have iw1 := iv.new
  generalize am_mkI hi 1 = h1 at iw1 ⊢
  generalize am_mk g 1 = g1 at iw1 ⊢
  refine NP.dup d_X9_init_8 rfl ?_
  refine NP.init (b := (85, 20694)) (b' := (36, 762)) d_X9_init_9 (ci_X7_1 iw1.1 iw1.2.2.2.2.2.1 iw1.2.2.2.2.2.2) ki_X9_init_11 (by decide) (FINP.ph iw1.1 (by decide)) (fun h2 g2 f2 => ?_)
  have iv2 := iw1.call f2 (by decide)
  refine NP.putRF (ci := 9) (j := 0) (q := (RX9, TX9, 7)) d_X9_init_12 rfl (iv2.lt (by decide)) rfl (by decide) rfl rfl rfl rfl rfl (fun _ => rfl) (fun _ => rfl) gw_345 ?_
  have iv3 := iv2.putR 0 1
  generalize am_upr g2 0 0 1 = g3 at iv3 ⊢
  refine NP.aload_n (i := 0) d_X9_init_15 rfl rfl ?_
  refine NP.aload_n (i := 0) d_X9_init_16 rfl rfl ?_
  refine NP.getR (ci := 9) (j := 0) (r := 1) (q := (RX9, TX9, 7)) d_X9_init_17 rfl (iv3.lt (by decide)) rfl (by decide) rfl gw_345 (by rw [iv3.2.2.1.2]; rfl) ?_
  refine NP.getR (ci := 7) (j := 0) (r := 2) (q := (RX7, TX7, 7)) d_X9_init_20 rfl (iv3.lt (by decide)) rfl (by decide) rfl gw_227 (by rw [(iv3.2.2.2.1 1 (by decide) (by decide)).2]; rfl) ?_
  refine NP.putRF (ci := 9) (j := 1) (q := (RX9, TX9, 7)) d_X9_init_23 rfl (iv3.lt (by decide)) rfl (by decide) rfl rfl rfl rfl rfl (fun _ => rfl) (fun _ => rfl) gw_346 ?_
  have iv4 := iv3.putR 1 2
  generalize am_upr g3 0 1 2 = g4 at iv4 ⊢
  refine NP.aload_n (i := 0) d_X9_init_26 rfl rfl ?_
  refine NP.newo (b := (84, 20692)) (n := 38) d_X9_init_27 iv4.1 rfl (q := (RX1, TX1, 2)) rfl rfl gw_252 gw_253 gw_72 ?_
  have iw5 := iv4.new
  generalize am_mkI h2 38 = h5 at iw5 ⊢
  generalize am_mk g4 38 = g5 at iw5 ⊢
  refine NP.dup d_X9_init_30 rfl ?_
  refine NP.init (b := (29, 19606)) (b' := (55, 1086)) d_X9_init_31 (ci_X1_38 iw5.1 iw5.2.2.2.2.2.1 iw5.2.2.2.2.2.2) ki_X9_init_25 (by decide) (FINP.ph iw5.1 (by decide)) (fun h6 g6 f6 => ?_)
  have iv6 := iw5.call f6 (by decide)
  refine NP.putRF (ci := 9) (j := 2) (q := (RX9, TX9, 7)) d_X9_init_34 rfl (iv6.lt (by decide)) rfl (by decide) rfl rfl rfl rfl rfl (fun _ => rfl) (fun _ => rfl) gw_347 ?_
  have iv7 := iv6.putR 2 38
  generalize am_upr g6 0 2 38 = g7 at iv7 ⊢
  refine NP.aload_n (i := 0) d_X9_init_37 rfl rfl ?_
  refine NP.newo (b := (28, 19604)) (n := 94) d_X9_init_38 iv7.1 rfl (q := (RX5, TX5, 2)) rfl rfl gw_269 gw_270 gw_73 ?_
  have iw8 := iv7.new
  generalize am_mkI h6 94 = h8 at iw8 ⊢
  generalize am_mk g7 94 = g8 at iw8 ⊢
  refine NP.dup d_X9_init_41 rfl ?_
  refine NP.init (b := (8, 19240)) (b' := (20, 364)) d_X9_init_42 (ci_X5_94 iw8.1 iw8.2.2.2.2.2.1 iw8.2.2.2.2.2.2) ki_X9_init_32 (by decide) (FINP.ph iw8.1 (by decide)) (fun h9 g9 f9 => ?_)
  have iv9 := iw8.call f9 (by decide)
  refine NP.putRF (ci := 9) (j := 3) (q := (RX9, TX9, 7)) d_X9_init_45 rfl (iv9.lt (by decide)) rfl (by decide) rfl rfl rfl rfl rfl (fun _ => rfl) (fun _ => rfl) gw_348 ?_
  have iv10 := iv9.putR 3 94
  generalize am_upr g9 0 3 94 = g10 at iv10 ⊢
  refine NP.aload_n (i := 0) d_X9_init_48 rfl rfl ?_
  refine NP.newo (b := (7, 19234)) (n := 115) d_X9_init_49 iv10.1 rfl (q := (RX8, TX8, 6)) rfl rfl gw_285 gw_286 gw_74 ?_
  have iw11 := iv10.new
  generalize am_mkI h9 115 = h11 at iw11 ⊢
  generalize am_mk g10 115 = g11 at iw11 ⊢
  refine NP.dup d_X9_init_52 rfl ?_
  refine NP.init (b := (6, 19154)) (b' := (1, 80)) d_X9_init_53 (ci_X8_115 iw11.1 iw11.2.2.2.2.2.1 iw11.2.2.2.2.2.2) ki_X9_init_39 (by decide) (FINP.ph iw11.1 (by decide)) (fun h12 g12 f12 => ?_)
  have iv12 := iw11.call f12 (by decide)
  refine NP.putRF (ci := 9) (j := 4) (q := (RX9, TX9, 7)) d_X9_init_56 rfl (iv12.lt (by decide)) rfl (by decide) rfl rfl rfl rfl rfl (fun _ => rfl) (fun _ => rfl) gw_349 ?_
  have iv13 := iv12.putR 4 115
  generalize am_upr g12 0 4 115 = g13 at iv13 ⊢
  refine NP.aload_n (i := 0) d_X9_init_59 rfl rfl ?_
  refine NP.newo (b := (5, 19153)) (n := 117) d_X9_init_60 iv13.1 rfl (q := (RX4, TX4, 1)) rfl rfl gw_315 gw_316 gw_75 ?_
  have iw14 := iv13.new
  generalize am_mkI h12 117 = h14 at iw14 ⊢
  generalize am_mk g13 117 = g14 at iw14 ⊢
  refine NP.dup d_X9_init_63 rfl ?_
  refine NP.init (b := (2, 19095)) (b' := (3, 58)) d_X9_init_64 (ci_X4_117 iw14.1 iw14.2.2.2.2.2.1 iw14.2.2.2.2.2.2) ki_X9_init_46 (by decide) (FINP.ph iw14.1 (by decide)) (fun h15 g15 f15 => ?_)
  have iv15 := iw14.call f15 (by decide)
  refine NP.putRF (ci := 9) (j := 5) (q := (RX9, TX9, 7)) d_X9_init_67 rfl (iv15.lt (by decide)) rfl (by decide) rfl rfl rfl rfl rfl (fun _ => rfl) (fun _ => rfl) gw_350 ?_
  have iv16 := iv15.putR 5 117
  generalize am_upr g15 0 5 117 = g16 at iv16 ⊢
  refine NP.aload_n (i := 0) d_X9_init_70 rfl rfl ?_
  refine NP.newo (b := (1, 19092)) (n := 121) d_X9_init_71 iv16.1 rfl (q := (RX3, TX3, 3)) rfl rfl gw_327 gw_328 gw_76 ?_
  have iw17 := iv16.new
  generalize am_mkI h15 121 = h17 at iw17 ⊢
  generalize am_mk g16 121 = g17 at iw17 ⊢
  refine NP.dup d_X9_init_74 rfl ?_
  refine NP.init (b := (0, 0)) (b' := (1, 19092)) d_X9_init_75 (ci_X3_121 iw17.1 iw17.2.2.2.2.2.1 iw17.2.2.2.2.2.2) ki_X9_init_53 (by decide) (FINP.ph iw17.1 (by decide)) (fun h18 g18 f18 => ?_)
  have iv18 := iw17.call f18 (by decide)
  refine NP.putRF (ci := 9) (j := 6) (q := (RX9, TX9, 7)) d_X9_init_78 rfl (iv18.lt (by decide)) rfl (by decide) rfl rfl rfl rfl rfl (fun _ => rfl) (fun _ => rfl) gw_351 ?_
  have iv19 := iv18.putR 6 121
  generalize am_upr g18 0 6 121 = g19 at iv19 ⊢
  exact NP.vret d_X9_init_81 rfl (hΦ _ _ (iv19.fin rfl hr_0))
theorem gw_1207 : Cond.methodLink "CaveEchoesModel" 1 Lib.objectInit ∈ am_GT := am_gt 1207 (by decide +kernel) (by decide +kernel)
theorem gw_1208 : Cond.fieldLink "CaveEchoesModel" 7 "CaveEchoesModel" "z" "[I" ∈ am_GT := am_gt 1208 (by decide +kernel) (by decide +kernel)
theorem gw_1209 : Cond.fieldLink "CaveEchoesModel" 13 "CaveEchoesModel" "past" "[I" ∈ am_GT := am_gt 1209 (by decide +kernel) (by decide +kernel)
theorem gw_1211 : Cond.fieldLink "CaveEchoesModel" 16 "CaveEchoesModel" "slots" "[I" ∈ am_GT := am_gt 1211 (by decide +kernel) (by decide +kernel)
theorem gw_1212 : Cond.fieldLink "CaveEchoesModel" 19 "CaveEchoesModel" "full" "[I" ∈ am_GT := am_gt 1212 (by decide +kernel) (by decide +kernel)
theorem gw_1213 : Cond.fieldLink "CaveEchoesModel" 22 "CaveEchoesModel" "weights" "[I" ∈ am_GT := am_gt 1213 (by decide +kernel) (by decide +kernel)
theorem gw_1214 : Cond.fieldLink "CaveEchoesModel" 25 "CaveEchoesModel" "lefts" "[I" ∈ am_GT := am_gt 1214 (by decide +kernel) (by decide +kernel)
theorem gw_1215 : Cond.fieldLink "CaveEchoesModel" 28 "CaveEchoesModel" "ears" "[I" ∈ am_GT := am_gt 1215 (by decide +kernel) (by decide +kernel)
theorem gw_1216 : Cond.fieldLink "CaveEchoesModel" 31 "CaveEchoesModel" "buffer" "[C" ∈ am_GT := am_gt 1216 (by decide +kernel) (by decide +kernel)
theorem gw_1219 : Cond.fieldLink "CaveEchoesModel" 35 "CaveEchoesModel" "works" "[I" ∈ am_GT := am_gt 1219 (by decide +kernel) (by decide +kernel)
theorem ci_X10_123 {hi : am_HI} {g : am_G} (hg : g.1 = some 124) (hz : hi 123 = fun _ => 0) (hr : g.2.1 123 = fun _ => none) : am_Cn M_X10_init (9, 1853) [.ref 123] hi g (FINZ hi g) := by
  refine am_cn rfl (by decide) (Nat.le_of_ble_eq_true rfl) (fun Φ hΦ => ?_)
  show NP M_X10_init _ 0 [.ref 123] [] hi g Φ
  have iv := IV.st hg hz hr
  refine NP.aload_n (i := 0) d_X10_init_0 rfl rfl ?_
  refine NP.objInit d_X10_init_1 gw_1207 (by decide) (by decide) ?_
  refine NP.aload_n (i := 0) d_X10_init_4 rfl rfl ?_
  refine NP.sipush (x := 172) d_X10_init_5 (by decide) ?_
  refine NP.newI (b := (8, 1681)) (n := 124) (N := 172) d_X10_init_8 iv.1 rfl rfl (by decide) ?_
  have iw1 := iv.new
  generalize am_mkI hi 124 = h1 at iw1 ⊢
  generalize am_mk g 124 = g1 at iw1 ⊢
  have iv1 := iw1.done rfl rfl
  refine NP.putRF (ci := 10) (j := 0) (q := (RX10, TX10, 15)) d_X10_init_10 rfl (iv1.lt (by decide)) rfl (by decide) rfl rfl rfl rfl rfl (fun _ => rfl) (fun _ => rfl) gw_1208 ?_
  have iv2 := iv1.putR 0 124
  generalize am_upr g1 123 0 124 = g2 at iv2 ⊢
  refine NP.aload_n (i := 0) d_X10_init_13 rfl rfl ?_
  refine NP.sipush (x := 1032) d_X10_init_14 (by decide) ?_
  refine NP.newI (b := (7, 649)) (n := 125) (N := 1032) d_X10_init_17 iv2.1 rfl rfl (by decide) ?_
  have iw3 := iv2.new
  generalize am_mkI h1 125 = h3 at iw3 ⊢
  generalize am_mk g2 125 = g3 at iw3 ⊢
  have iv3 := iw3.done rfl rfl
  refine NP.putRF (ci := 10) (j := 1) (q := (RX10, TX10, 15)) d_X10_init_19 rfl (iv3.lt (by decide)) rfl (by decide) rfl rfl rfl rfl rfl (fun _ => rfl) (fun _ => rfl) gw_1209 ?_
  have iv4 := iv3.putR 1 125
  generalize am_upr g3 123 1 125 = g4 at iv4 ⊢
  refine NP.aload_n (i := 0) d_X10_init_22 rfl rfl ?_
  refine NP.sipush (x := 344) d_X10_init_23 (by decide) ?_
  refine NP.newI (b := (6, 305)) (n := 126) (N := 344) d_X10_init_26 iv4.1 rfl rfl (by decide) ?_
  have iw5 := iv4.new
  generalize am_mkI h3 126 = h5 at iw5 ⊢
  generalize am_mk g4 126 = g5 at iw5 ⊢
  have iv5 := iw5.done rfl rfl
  refine NP.putRF (ci := 10) (j := 3) (q := (RX10, TX10, 15)) d_X10_init_28 rfl (iv5.lt (by decide)) rfl (by decide) rfl rfl rfl rfl rfl (fun _ => rfl) (fun _ => rfl) gw_1211 ?_
  have iv6 := iv5.putR 3 126
  generalize am_upr g5 123 3 126 = g6 at iv6 ⊢
  refine NP.aload_n (i := 0) d_X10_init_31 rfl rfl ?_
  refine NP.iconst (x := 2) d_X10_init_32 (by decide) ?_
  refine NP.newI (b := (5, 303)) (n := 127) (N := 2) d_X10_init_33 iv6.1 rfl rfl (by decide) ?_
  have iw7 := iv6.new
  generalize am_mkI h5 127 = h7 at iw7 ⊢
  generalize am_mk g6 127 = g7 at iw7 ⊢
  have iv7 := iw7.done rfl rfl
  refine NP.putRF (ci := 10) (j := 4) (q := (RX10, TX10, 15)) d_X10_init_35 rfl (iv7.lt (by decide)) rfl (by decide) rfl rfl rfl rfl rfl (fun _ => rfl) (fun _ => rfl) gw_1212 ?_
  have iv8 := iv7.putR 4 127
  generalize am_upr g7 123 4 127 = g8 at iv8 ⊢
  refine NP.aload_n (i := 0) d_X10_init_38 rfl rfl ?_
  refine NP.iconst (x := 4) d_X10_init_39 (by decide) ?_
  refine NP.newI (b := (4, 299)) (n := 128) (N := 4) d_X10_init_40 iv8.1 rfl rfl (by decide) ?_
  have iw9 := iv8.new
  generalize am_mkI h7 128 = h9 at iw9 ⊢
  generalize am_mk g8 128 = g9 at iw9 ⊢
  have iv9 := iw9.done rfl rfl
  refine NP.putRF (ci := 10) (j := 5) (q := (RX10, TX10, 15)) d_X10_init_42 rfl (iv9.lt (by decide)) rfl (by decide) rfl rfl rfl rfl rfl (fun _ => rfl) (fun _ => rfl) gw_1213 ?_
  have iv10 := iv9.putR 5 128
  generalize am_upr g9 123 5 128 = g10 at iv10 ⊢
  refine NP.aload_n (i := 0) d_X10_init_45 rfl rfl ?_
  refine NP.bipush (x := 48) d_X10_init_46 (by decide) ?_
  refine NP.newI (b := (3, 251)) (n := 129) (N := 48) d_X10_init_48 iv10.1 rfl rfl (by decide) ?_
  have iw11 := iv10.new
  generalize am_mkI h9 129 = h11 at iw11 ⊢
  generalize am_mk g10 129 = g11 at iw11 ⊢
  have iv11 := iw11.done rfl rfl
  refine NP.putRF (ci := 10) (j := 6) (q := (RX10, TX10, 15)) d_X10_init_50 rfl (iv11.lt (by decide)) rfl (by decide) rfl rfl rfl rfl rfl (fun _ => rfl) (fun _ => rfl) gw_1214 ?_
  have iv12 := iv11.putR 6 129
  generalize am_upr g11 123 6 129 = g12 at iv12 ⊢
  refine NP.aload_n (i := 0) d_X10_init_53 rfl rfl ?_
  refine NP.bipush (x := 48) d_X10_init_54 (by decide) ?_
  refine NP.newI (b := (2, 203)) (n := 130) (N := 48) d_X10_init_56 iv12.1 rfl rfl (by decide) ?_
  have iw13 := iv12.new
  generalize am_mkI h11 130 = h13 at iw13 ⊢
  generalize am_mk g12 130 = g13 at iw13 ⊢
  have iv13 := iw13.done rfl rfl
  refine NP.putRF (ci := 10) (j := 7) (q := (RX10, TX10, 15)) d_X10_init_58 rfl (iv13.lt (by decide)) rfl (by decide) rfl rfl rfl rfl rfl (fun _ => rfl) (fun _ => rfl) gw_1215 ?_
  have iv14 := iv13.putR 7 130
  generalize am_upr g13 123 7 130 = g14 at iv14 ⊢
  refine NP.aload_n (i := 0) d_X10_init_61 rfl rfl ?_
  refine NP.bipush (x := 80) d_X10_init_62 (by decide) ?_
  refine NP.newC (b := (1, 123)) (n := 131) (N := 80) d_X10_init_64 iv14.1 rfl rfl (by decide) ?_
  have iw15 := iv14.new
  generalize am_mkI h13 131 = h15 at iw15 ⊢
  generalize am_mk g14 131 = g15 at iw15 ⊢
  have iv15 := iw15.done rfl rfl
  refine NP.putRF (ci := 10) (j := 8) (q := (RX10, TX10, 15)) d_X10_init_66 rfl (iv15.lt (by decide)) rfl (by decide) rfl rfl rfl rfl rfl (fun _ => rfl) (fun _ => rfl) gw_1216 ?_
  have iv16 := iv15.putR 8 131
  generalize am_upr g15 123 8 131 = g16 at iv16 ⊢
  refine NP.aload_n (i := 0) d_X10_init_69 rfl rfl ?_
  refine NP.bipush (x := 123) d_X10_init_70 (by decide) ?_
  refine NP.newI (b := (0, 0)) (n := 132) (N := 123) d_X10_init_72 iv16.1 rfl rfl (by decide) ?_
  have iw17 := iv16.new
  generalize am_mkI h15 132 = h17 at iw17 ⊢
  generalize am_mk g16 132 = g17 at iw17 ⊢
  have iv17 := iw17.done rfl rfl
  refine NP.putRF (ci := 10) (j := 11) (q := (RX10, TX10, 15)) d_X10_init_74 rfl (iv17.lt (by decide)) rfl (by decide) rfl rfl rfl rfl rfl (fun _ => rfl) (fun _ => rfl) gw_1219 ?_
  have iv18 := iv17.putR 11 132
  generalize am_upr g17 123 11 132 = g18 at iv18 ⊢
  refine NP.aload_n (i := 0) d_X10_init_77 rfl rfl ?_
  refine NP.getR (ci := 10) (j := 0) (r := 124) (q := (RX10, TX10, 15)) d_X10_init_78 rfl (iv18.lt (by decide)) rfl (by decide) rfl gw_1208 (by rw [iv18.2.2.1.2]; rfl) ?_
  refine NP.bipush (x := 49) d_X10_init_81 (by decide) ?_
  refine NP.iconst (x := 4) d_X10_init_83 (by decide) ?_
  refine NP.iast (n := 172) (j := 49) d_X10_init_84 rfl (iv18.lt (by decide)) (by decide) rfl (by decide) ?_
  refine NP.aload_n (i := 0) d_X10_init_85 rfl rfl ?_
  refine NP.getR (ci := 10) (j := 0) (r := 124) (q := (RX10, TX10, 15)) d_X10_init_86 rfl (iv18.lt (by decide)) rfl (by decide) rfl gw_1208 (by rw [iv18.2.2.1.2]; rfl) ?_
  refine NP.bipush (x := 50) d_X10_init_89 (by decide) ?_
  refine NP.iconst (x := 1) d_X10_init_91 (by decide) ?_
  refine NP.iast (n := 172) (j := 50) d_X10_init_92 rfl (iv18.lt (by decide)) (by decide) rfl (by decide) ?_
  refine NP.aload_n (i := 0) d_X10_init_93 rfl rfl ?_
  refine NP.getR (ci := 10) (j := 0) (r := 124) (q := (RX10, TX10, 15)) d_X10_init_94 rfl (iv18.lt (by decide)) rfl (by decide) rfl gw_1208 (by rw [iv18.2.2.1.2]; rfl) ?_
  refine NP.bipush (x := 51) d_X10_init_97 (by decide) ?_
  refine NP.bipush (x := 16) d_X10_init_99 (by decide) ?_
  refine NP.iast (n := 172) (j := 51) d_X10_init_101 rfl (iv18.lt (by decide)) (by decide) rfl (by decide) ?_
  refine NP.aload_n (i := 0) d_X10_init_102 rfl rfl ?_
  refine NP.getR (ci := 10) (j := 0) (r := 124) (q := (RX10, TX10, 15)) d_X10_init_103 rfl (iv18.lt (by decide)) rfl (by decide) rfl gw_1208 (by rw [iv18.2.2.1.2]; rfl) ?_
  refine NP.bipush (x := 55) d_X10_init_106 (by decide) ?_
  refine NP.bipush (x := 31) d_X10_init_108 (by decide) ?_
  refine NP.iast (n := 172) (j := 55) d_X10_init_110 rfl (iv18.lt (by decide)) (by decide) rfl (by decide) ?_
  obtain ⟨a1, a2, a3, a4, a5⟩ := iv18.fin rfl hr_123 |> fun f => (⟨f.1, f.2.1, f.2.2, True.intro, True.intro⟩ : _ ∧ _ ∧ _ ∧ True ∧ True)
  refine NP.vret d_X10_init_111 rfl (hΦ _ _ ⟨a1, fun i hi => ⟨?_, (a2 i hi).2⟩, fun i h1 h2 => ⟨?_, (a3 i h1 h2).2⟩⟩)
  · rw [up_other (by omega), up_other (by omega), up_other (by omega), up_other (by omega)]; exact (a2 i hi).1
  · by_cases e : i = 124
    · subst e; rw [if_pos rfl, up_same, up_same, up_same, up_same, (a3 124 (by decide) (by decide)).1]; rfl
    · rw [if_neg e, up_other e, up_other e, up_other e, up_other e]; exact (a3 i h1 h2).1
