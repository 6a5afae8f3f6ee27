/-! ===== what constructors leave ===== -/
def HI0 (i : Nat) : Nat → Int32 := match am_SH i with
  | (0, 6) => upd (upd (upd (upd (upd (fun _ => 0) 3 0) 4 4) 5 1) 6 31) 7 0
  | (0, 2) => upd (upd (upd (fun _ => 0) 5 0) 6 1) 7 0
  | (0, 0) => upd (upd (upd (upd (fun _ => 0) 2 0) 3 1) 4 0) 5 0
  | (0, 1) => upd (fun _ => 0) 1 0
  | (0, 3) => upd (upd (fun _ => 0) 1 0) 2 0
  | (0, 8) => upd (upd (upd (upd (upd (fun _ => 0) 1 0) 2 0) 3 0) 4 0) 5 0
  | (1, 4) => if am_SH (i - 1) = (1, 48) ∧ am_SH (i - 2) = (0, 6) then upd (upd (upd (upd (fun _ => 0) 0 16) 1 0) 2 0) 3 0 else fun _ => 0
  | (1, 172) => upd (upd (upd (upd (fun _ => 0) 49 4) 50 1) 51 16) 55 31
  | _ => fun _ => 0
def HR0 (i : Nat) : Nat → Option Nat := if i = 39 then (fun j => if j < 6 then some (40 + 9 * j) else none) else am_HRf i
def FINP (k n : Nat) (hi0 : am_HI) (g0 : am_G) (h : am_HI) (g : am_G) : Prop := g.1 = some n ∧ (∀ i, i < k → h i = hi0 i ∧ g.2.1 i = g0.2.1 i) ∧ ∀ i, k ≤ i → i < n → h i = HI0 i ∧ g.2.1 i = HR0 i
/-- while the cell k is being set up: n cells are made -/
def IV (k : Nat) (hi0 : am_HI) (g0 : am_G) (rI : Nat → Int32) (rR : Nat → Option Nat) (n : Nat) (h : am_HI) (g : am_G) : Prop := g.1 = some n ∧ (∀ i, i < k → h i = hi0 i ∧ g.2.1 i = g0.2.1 i) ∧ (h k = rI ∧ g.2.1 k = rR) ∧ (∀ i, k < i → i < n → h i = HI0 i ∧ g.2.1 i = HR0 i) ∧ k < n
/-- the same, and the cell n is being set up too -/
def IW (k : Nat) (hi0 : am_HI) (g0 : am_G) (rI : Nat → Int32) (rR : Nat → Option Nat) (n : Nat) (sI : Nat → Int32) (sR : Nat → Option Nat) (h : am_HI) (g : am_G) : Prop := g.1 = some (n + 1) ∧ (∀ i, i < k → h i = hi0 i ∧ g.2.1 i = g0.2.1 i) ∧ (h k = rI ∧ g.2.1 k = rR) ∧ (∀ i, k < i → i < n → h i = HI0 i ∧ g.2.1 i = HR0 i) ∧ k < n ∧ h n = sI ∧ g.2.1 n = sR
section IVS
variable {k n : Nat} {hi0 h : am_HI} {g0 g : am_G} {rI sI : Nat → Int32} {rR sR : Nat → Option Nat}
theorem up_same (h : am_HI) (k j : Nat) (x : Int32) : am_up h k j x k = upd (h k) j x := am_va_at _ _ _
theorem up_other {h : am_HI} {k i j : Nat} {x : Int32} (e : i ≠ k) : am_up h k j x i = h i := am_va_ne e
theorem IV.putI (a : IV k hi0 g0 rI rR n h g) (j : Nat) (x : Int32) : IV k hi0 g0 (upd rI j x) rR n (am_up h k j x) g :=
  ⟨a.1, fun i hi => ⟨(up_other (by omega)).trans (a.2.1 i hi).1, (a.2.1 i hi).2⟩, ⟨by rw [up_same, a.2.2.1.1], a.2.2.1.2⟩, fun i h1 h2 => ⟨(up_other (by omega)).trans (a.2.2.2.1 i h1 h2).1, (a.2.2.2.1 i h1 h2).2⟩, a.2.2.2.2⟩
theorem IV.putR (a : IV k hi0 g0 rI rR n h g) (j r : Nat) : IV k hi0 g0 rI (va_up rR j (some r)) n h (am_upr g k j r) :=
  ⟨a.1, fun i hi => ⟨(a.2.1 i hi).1, (am_va_ne (by omega)).trans (a.2.1 i hi).2⟩, ⟨a.2.2.1.1, by rw [← a.2.2.1.2]; exact am_va_at _ _ _⟩, fun i h1 h2 => ⟨(a.2.2.2.1 i h1 h2).1, (am_va_ne (by omega)).trans (a.2.2.2.1 i h1 h2).2⟩, a.2.2.2.2⟩
theorem IV.new (a : IV k hi0 g0 rI rR n h g) : IW k hi0 g0 rI rR n (fun _ => 0) (fun _ => none) (am_mkI h n) (am_mk g n) :=
  have hk := a.2.2.2.2
  ⟨rfl, fun i hi => ⟨(am_va_ne (by omega)).trans (a.2.1 i hi).1, (am_va_ne (by omega)).trans (a.2.1 i hi).2⟩, ⟨(am_va_ne (by omega)).trans a.2.2.1.1, (am_va_ne (by omega)).trans a.2.2.1.2⟩, fun i h1 h2 => ⟨(am_va_ne (by omega)).trans (a.2.2.2.1 i h1 h2).1, (am_va_ne (by omega)).trans (a.2.2.2.1 i h1 h2).2⟩, hk, am_va_at _ _ _, am_va_at _ _ _⟩
theorem IW.putI (a : IW k hi0 g0 rI rR n sI sR h g) (j : Nat) (x : Int32) : IW k hi0 g0 rI rR n (upd sI j x) sR (am_up h n j x) g := by
  obtain ⟨a1, a2, a3, a4, a5, a6, a7⟩ := a
  exact ⟨a1, fun i hi => ⟨(up_other (by omega)).trans (a2 i hi).1, (a2 i hi).2⟩, ⟨(up_other (by omega)).trans a3.1, a3.2⟩, fun i h1 h2 => ⟨(up_other (by omega)).trans (a4 i h1 h2).1, (a4 i h1 h2).2⟩, a5, by rw [up_same, a6], a7⟩
theorem IW.done (a : IW k hi0 g0 rI rR n sI sR h g) (e1 : sI = HI0 n) (e2 : sR = HR0 n) : IV k hi0 g0 rI rR (n + 1) h g := by
  obtain ⟨a1, a2, a3, a4, a5, a6, a7⟩ := a
  refine ⟨a1, a2, a3, fun i h1 h2 => ?_, by omega⟩
  by_cases e : i = n
  · subst e; exact ⟨a6.trans e1, a7.trans e2⟩
  · exact a4 i h1 (by omega)
theorem IW.call {n' : Nat} {h' : am_HI} {g' : am_G} (a : IW k hi0 g0 rI rR n sI sR h g) (f : FINP n n' h g h' g') (hn : n < n') : IV k hi0 g0 rI rR n' h' g' := by
  obtain ⟨a1, a2, a3, a4, a5, a6, a7⟩ := a
  obtain ⟨f1, f2, f3⟩ := f
  refine ⟨f1, fun i hi => ⟨(f2 i (by omega)).1.trans (a2 i hi).1, (f2 i (by omega)).2.trans (a2 i hi).2⟩, ⟨(f2 k a5).1.trans a3.1, (f2 k a5).2.trans a3.2⟩, fun i h1 h2 => ?_, by omega⟩
  by_cases e : i < n
  · exact ⟨(f2 i e).1.trans (a4 i h1 e).1, (f2 i e).2.trans (a4 i h1 e).2⟩
  · exact f3 i (by omega) h2
theorem IV.fin (a : IV k hi0 g0 rI rR n h g) (e1 : rI = HI0 k) (e2 : rR = HR0 k) : FINP k n hi0 g0 h g := by
  obtain ⟨a1, a2, a3, a4, a5⟩ := a
  refine ⟨a1, a2, fun i h1 h2 => ?_⟩
  by_cases e : i = k
  · subst e; exact ⟨a3.1.trans e1, a3.2.trans e2⟩
  · exact a4 i (by omega) h2
/-- the cell above is done: back to the one below -/
theorem IV.back (a : IV (k + 1) hi0 g0 rI rR n h g) (e1 : rI = HI0 (k + 1)) (e2 : rR = HR0 (k + 1)) : IV k hi0 g0 (hi0 k) (g0.2.1 k) n h g := by
  obtain ⟨a1, a2, a3, a4, a5⟩ := a
  refine ⟨a1, fun i hi => a2 i (by omega), a2 k (by omega), fun i h1 h2 => ?_, by omega⟩
  by_cases e : i = k + 1
  · subst e; exact ⟨a3.1.trans e1, a3.2.trans e2⟩
  · exact a4 i (by omega) h2
theorem IV.grid {N : Nat} (a : IV k hi0 g0 rI rR n h g) (e1 : ∀ i, n ≤ i → i < n + (1 + N) → HI0 i = fun _ => 0) (e2 : HR0 n = fun j => if j < N then some (n + 1 + j) else none) (e3 : ∀ i, n < i → i < n + (1 + N) → HR0 i = fun _ => none) : IV k hi0 g0 rI rR (n + (1 + N)) (am_mkIs h n (1 + N)) (am_mks g n N) := by
  obtain ⟨a1, a2, a3, a4, a5⟩ := a
  have f : ∀ i, i < n → am_mkIs h n (1 + N) i = h i ∧ (am_mks g n N).2.1 i = g.2.1 i := fun i hi => ⟨if_neg (by omega), (if_neg (by omega)).trans (if_neg (by omega))⟩
  refine ⟨rfl, fun i hi => ⟨(f i (by omega)).1.trans (a2 i hi).1, (f i (by omega)).2.trans (a2 i hi).2⟩, ⟨(f k a5).1.trans a3.1, (f k a5).2.trans a3.2⟩, fun i h1 h2 => ?_, by omega⟩
  by_cases e : i < n
  · exact ⟨(f i e).1.trans (a4 i h1 e).1, (f i e).2.trans (a4 i h1 e).2⟩
  · refine ⟨(if_pos ⟨by omega, by omega⟩).trans (e1 i (by omega) h2).symm, ?_⟩
    by_cases en : i = n
    · subst en; exact (if_pos rfl).trans e2.symm
    · exact ((if_neg en).trans (if_pos ⟨by omega, by omega⟩)).trans (e3 i (by omega) h2).symm
theorem IV.lt {i : Nat} (a : IV k hi0 g0 rI rR n h g) (hi : i < n) : i < am_N g.1 := by rw [a.1]; exact hi
theorem IW.lt {i : Nat} (a : IW k hi0 g0 rI rR n sI sR h g) (hi : i < n + 1) : i < am_N g.1 := by rw [a.1]; exact hi
theorem IV.st (hg : g.1 = some (k + 1)) (hz : h k = fun _ => 0) (hr : g.2.1 k = fun _ => none) : IV k h g (fun _ => 0) (fun _ => none) (k + 1) h g := ⟨hg, fun i _ => ⟨rfl, rfl⟩, ⟨hz, hr⟩, fun i h1 h2 => by omega, by omega⟩
end IVS
theorem FINP.ph {k n c : Nat} {hi0 : am_HI} {g0 : am_G} (hg : g0.1 = some (k + 1)) (e : k + 1 + c = n) : ∀ h g', FINP k n hi0 g0 h g' → ∀ n', g'.1 = some n' → ∃ j, g0.1 = some j ∧ j + c ≤ n' := fun h g' f n' hn => ⟨k + 1, hg, by have := f.1.symm.trans hn; cases this; omega⟩
theorem hr_0 : (va_up (va_up (va_up (va_up (va_up (va_up (va_up (fun _ => none) 0 (some 1)) 1 (some 2)) 2 (some 38)) 3 (some 94)) 4 (some 115)) 5 (some 117)) 6 (some 121)) = HR0 0 := by
  funext j
  match j with
  | 0 => rfl
  | 1 => rfl
  | 2 => rfl
  | 3 => rfl
  | 4 => rfl
  | 5 => rfl
  | 6 => rfl
  | j + 7 => rfl
theorem hr_1 : (va_up (va_up (va_up (va_up (va_up (va_up (va_up (fun _ => none) 0 (some 2)) 1 (some 11)) 2 (some 14)) 3 (some 15)) 4 (some 21)) 5 (some 26)) 6 (some 32)) = HR0 1 := by
  funext j
  match j with
  | 0 => rfl
  | 1 => rfl
  | 2 => rfl
  | 3 => rfl
  | 4 => rfl
  | 5 => rfl
  | 6 => rfl
  | j + 7 => rfl
theorem hr_2 : (va_up (va_up (va_up (fun _ => none) 0 (some 3)) 1 (some 4)) 2 (some 5)) = HR0 2 := by
  funext j
  match j with
  | 0 => rfl
  | 1 => rfl
  | 2 => rfl
  | 3 => rfl
  | 4 => rfl
  | 5 => rfl
  | 6 => rfl
  | 7 => rfl
  | j + 8 => rfl
theorem hr_5 : (va_up (va_up (va_up (va_up (va_up (fun _ => none) 0 (some 6)) 1 (some 7)) 2 (some 8)) 3 (some 9)) 4 (some 10)) = HR0 5 := by
  funext j
  match j with
  | 0 => rfl
  | 1 => rfl
  | 2 => rfl
  | 3 => rfl
  | 4 => rfl
  | 5 => rfl
  | 6 => rfl
  | 7 => rfl
  | j + 8 => rfl
theorem hr_11 : (va_up (va_up (fun _ => none) 0 (some 12)) 1 (some 13)) = HR0 11 := by
  funext j
  match j with
  | 0 => rfl
  | 1 => rfl
  | 2 => rfl
  | 3 => rfl
  | 4 => rfl
  | 5 => rfl
  | j + 6 => rfl
theorem hr_15 : HR0 15 = fun j => if j < 5 then some (15 + 1 + j) else none := by
  funext j
  match j with
  | 0 => rfl
  | 1 => rfl
  | 2 => rfl
  | 3 => rfl
  | 4 => rfl
  | j + 5 => rfl
theorem hr_21 : HR0 21 = fun j => if j < 4 then some (21 + 1 + j) else none := by
  funext j
  match j with
  | 0 => rfl
  | 1 => rfl
  | 2 => rfl
  | 3 => rfl
  | j + 4 => rfl
theorem hr_26 : HR0 26 = fun j => if j < 5 then some (26 + 1 + j) else none := by
  funext j
  match j with
  | 0 => rfl
  | 1 => rfl
  | 2 => rfl
  | 3 => rfl
  | 4 => rfl
  | j + 5 => rfl
theorem hr_32 : HR0 32 = fun j => if j < 5 then some (32 + 1 + j) else none := by
  funext j
  match j with
  | 0 => rfl
  | 1 => rfl
  | 2 => rfl
  | 3 => rfl
  | 4 => rfl
  | j + 5 => rfl
theorem hr_38 : (va_up (fun _ => none) 0 (some 39)) = HR0 38 := by
  funext j
  match j with
  | 0 => rfl
  | 1 => rfl
  | j + 2 => rfl
theorem hr_39 : (va_up (va_up (va_up (va_up (va_up (va_up (fun _ => none) 0 (some 40)) 1 (some 49)) 2 (some 58)) 3 (some 67)) 4 (some 76)) 5 (some 85)) = HR0 39 := by
  funext j
  match j with
  | 0 => rfl
  | 1 => rfl
  | 2 => rfl
  | 3 => rfl
  | 4 => rfl
  | 5 => rfl
  | j + 6 => rfl
theorem hr_40 : (va_up (va_up (va_up (fun _ => none) 0 (some 41)) 1 (some 42)) 2 (some 43)) = HR0 40 := by
  funext j
  match j with
  | 0 => rfl
  | 1 => rfl
  | 2 => rfl
  | 3 => rfl
  | 4 => rfl
  | 5 => rfl
  | 6 => rfl
  | 7 => rfl
  | j + 8 => rfl
theorem hr_43 : (va_up (va_up (va_up (va_up (va_up (fun _ => none) 0 (some 44)) 1 (some 45)) 2 (some 46)) 3 (some 47)) 4 (some 48)) = HR0 43 := by
  funext j
  match j with
  | 0 => rfl
  | 1 => rfl
  | 2 => rfl
  | 3 => rfl
  | 4 => rfl
  | 5 => rfl
  | 6 => rfl
  | 7 => rfl
  | j + 8 => rfl
theorem hr_49 : (va_up (va_up (va_up (fun _ => none) 0 (some 50)) 1 (some 51)) 2 (some 52)) = HR0 49 := by
  funext j
  match j with
  | 0 => rfl
  | 1 => rfl
  | 2 => rfl
  | 3 => rfl
  | 4 => rfl
  | 5 => rfl
  | 6 => rfl
  | 7 => rfl
  | j + 8 => rfl
theorem hr_52 : (va_up (va_up (va_up (va_up (va_up (fun _ => none) 0 (some 53)) 1 (some 54)) 2 (some 55)) 3 (some 56)) 4 (some 57)) = HR0 52 := by
  funext j
  match j with
  | 0 => rfl
  | 1 => rfl
  | 2 => rfl
  | 3 => rfl
  | 4 => rfl
  | 5 => rfl
  | 6 => rfl
  | 7 => rfl
  | j + 8 => rfl
theorem hr_58 : (va_up (va_up (va_up (fun _ => none) 0 (some 59)) 1 (some 60)) 2 (some 61)) = HR0 58 := by
  funext j
  match j with
  | 0 => rfl
  | 1 => rfl
  | 2 => rfl
  | 3 => rfl
  | 4 => rfl
  | 5 => rfl
  | 6 => rfl
  | 7 => rfl
  | j + 8 => rfl
theorem hr_61 : (va_up (va_up (va_up (va_up (va_up (fun _ => none) 0 (some 62)) 1 (some 63)) 2 (some 64)) 3 (some 65)) 4 (some 66)) = HR0 61 := by
  funext j
  match j with
  | 0 => rfl
  | 1 => rfl
  | 2 => rfl
  | 3 => rfl
  | 4 => rfl
  | 5 => rfl
  | 6 => rfl
  | 7 => rfl
  | j + 8 => rfl
theorem hr_67 : (va_up (va_up (va_up (fun _ => none) 0 (some 68)) 1 (some 69)) 2 (some 70)) = HR0 67 := by
  funext j
  match j with
  | 0 => rfl
  | 1 => rfl
  | 2 => rfl
  | 3 => rfl
  | 4 => rfl
  | 5 => rfl
  | 6 => rfl
  | 7 => rfl
  | j + 8 => rfl
theorem hr_70 : (va_up (va_up (va_up (va_up (va_up (fun _ => none) 0 (some 71)) 1 (some 72)) 2 (some 73)) 3 (some 74)) 4 (some 75)) = HR0 70 := by
  funext j
  match j with
  | 0 => rfl
  | 1 => rfl
  | 2 => rfl
  | 3 => rfl
  | 4 => rfl
  | 5 => rfl
  | 6 => rfl
  | 7 => rfl
  | j + 8 => rfl
theorem hr_76 : (va_up (va_up (va_up (fun _ => none) 0 (some 77)) 1 (some 78)) 2 (some 79)) = HR0 76 := by
  funext j
  match j with
  | 0 => rfl
  | 1 => rfl
  | 2 => rfl
  | 3 => rfl
  | 4 => rfl
  | 5 => rfl
  | 6 => rfl
  | 7 => rfl
  | j + 8 => rfl
theorem hr_79 : (va_up (va_up (va_up (va_up (va_up (fun _ => none) 0 (some 80)) 1 (some 81)) 2 (some 82)) 3 (some 83)) 4 (some 84)) = HR0 79 := by
  funext j
  match j with
  | 0 => rfl
  | 1 => rfl
  | 2 => rfl
  | 3 => rfl
  | 4 => rfl
  | 5 => rfl
  | 6 => rfl
  | 7 => rfl
  | j + 8 => rfl
theorem hr_85 : (va_up (va_up (va_up (fun _ => none) 0 (some 86)) 1 (some 87)) 2 (some 88)) = HR0 85 := by
  funext j
  match j with
  | 0 => rfl
  | 1 => rfl
  | 2 => rfl
  | 3 => rfl
  | 4 => rfl
  | 5 => rfl
  | 6 => rfl
  | 7 => rfl
  | j + 8 => rfl
theorem hr_88 : (va_up (va_up (va_up (va_up (va_up (fun _ => none) 0 (some 89)) 1 (some 90)) 2 (some 91)) 3 (some 92)) 4 (some 93)) = HR0 88 := by
  funext j
  match j with
  | 0 => rfl
  | 1 => rfl
  | 2 => rfl
  | 3 => rfl
  | 4 => rfl
  | 5 => rfl
  | 6 => rfl
  | 7 => rfl
  | j + 8 => rfl
theorem hr_94 : (va_up (va_up (fun _ => none) 0 (some 95)) 1 (some 114)) = HR0 94 := by
  funext j
  match j with
  | 0 => rfl
  | 1 => rfl
  | j + 2 => rfl
theorem hr_95 : (va_up (va_up (fun _ => none) 0 (some 96)) 1 (some 105)) = HR0 95 := by
  funext j
  match j with
  | 0 => rfl
  | 1 => rfl
  | j + 2 => rfl
theorem hr_96 : (va_up (va_up (va_up (fun _ => none) 0 (some 97)) 1 (some 98)) 2 (some 99)) = HR0 96 := by
  funext j
  match j with
  | 0 => rfl
  | 1 => rfl
  | 2 => rfl
  | 3 => rfl
  | 4 => rfl
  | 5 => rfl
  | 6 => rfl
  | 7 => rfl
  | j + 8 => rfl
theorem hr_99 : (va_up (va_up (va_up (va_up (va_up (fun _ => none) 0 (some 100)) 1 (some 101)) 2 (some 102)) 3 (some 103)) 4 (some 104)) = HR0 99 := by
  funext j
  match j with
  | 0 => rfl
  | 1 => rfl
  | 2 => rfl
  | 3 => rfl
  | 4 => rfl
  | 5 => rfl
  | 6 => rfl
  | 7 => rfl
  | j + 8 => rfl
theorem hr_105 : (va_up (va_up (va_up (fun _ => none) 0 (some 106)) 1 (some 107)) 2 (some 108)) = HR0 105 := by
  funext j
  match j with
  | 0 => rfl
  | 1 => rfl
  | 2 => rfl
  | 3 => rfl
  | 4 => rfl
  | 5 => rfl
  | 6 => rfl
  | 7 => rfl
  | j + 8 => rfl
theorem hr_108 : (va_up (va_up (va_up (va_up (va_up (fun _ => none) 0 (some 109)) 1 (some 110)) 2 (some 111)) 3 (some 112)) 4 (some 113)) = HR0 108 := by
  funext j
  match j with
  | 0 => rfl
  | 1 => rfl
  | 2 => rfl
  | 3 => rfl
  | 4 => rfl
  | 5 => rfl
  | 6 => rfl
  | 7 => rfl
  | j + 8 => rfl
theorem hr_115 : (va_up (fun _ => none) 0 (some 116)) = HR0 115 := by
  funext j
  match j with
  | 0 => rfl
  | 1 => rfl
  | 2 => rfl
  | 3 => rfl
  | 4 => rfl
  | 5 => rfl
  | j + 6 => rfl
theorem hr_117 : (va_up (fun _ => none) 0 (some 118)) = HR0 117 := by
  funext j
  match j with
  | 0 => rfl
  | j + 1 => rfl
theorem hr_118 : (va_up (va_up (fun _ => none) 0 (some 119)) 1 (some 120)) = HR0 118 := by
  funext j
  match j with
  | 0 => rfl
  | 1 => rfl
  | 2 => rfl
  | 3 => rfl
  | 4 => rfl
  | 5 => rfl
  | j + 6 => rfl
theorem hr_121 : (va_up (fun _ => none) 0 (some 122)) = HR0 121 := by
  funext j
  match j with
  | 0 => rfl
  | 1 => rfl
  | 2 => rfl
  | j + 3 => rfl
theorem hr_123 : (va_up (va_up (va_up (va_up (va_up (va_up (va_up (va_up (va_up (fun _ => none) 0 (some 124)) 1 (some 125)) 3 (some 126)) 4 (some 127)) 5 (some 128)) 6 (some 129)) 7 (some 130)) 8 (some 131)) 11 (some 132)) = HR0 123 := by
  funext j
  match j with
  | 0 => rfl
  | 1 => rfl
  | 2 => rfl
  | 3 => rfl
  | 4 => rfl
  | 5 => rfl
  | 6 => rfl
  | 7 => rfl
  | 8 => rfl
  | 9 => rfl
  | 10 => rfl
  | 11 => rfl
  | 12 => rfl
  | 13 => rfl
  | 14 => rfl
  | j + 15 => rfl
theorem d_X0_init_0 : decode (am_cc M_X0_init) 0 = .ok (.aload_n 0, 1) := by decide +kernel
theorem d_X0_init_1 : decode (am_cc M_X0_init) 1 = .ok (.invokespecial 3, 3) := by decide +kernel
theorem d_X0_init_4 : decode (am_cc M_X0_init) 4 = .ok (.aload_n 0, 1) := by decide +kernel
theorem d_X0_init_5 : decode (am_cc M_X0_init) 5 = .ok (.bipush 48, 2) := by decide +kernel
theorem d_X0_init_7 : decode (am_cc M_X0_init) 7 = .ok (.newarray .int, 2) := by decide +kernel
theorem d_X0_init_9 : decode (am_cc M_X0_init) 9 = .ok (.putfield 9, 3) := by decide +kernel
theorem d_X0_init_12 : decode (am_cc M_X0_init) 12 = .ok (.aload_n 0, 1) := by decide +kernel
theorem d_X0_init_13 : decode (am_cc M_X0_init) 13 = .ok (.iconst 4, 1) := by decide +kernel
theorem d_X0_init_14 : decode (am_cc M_X0_init) 14 = .ok (.newarray .int, 2) := by decide +kernel
theorem d_X0_init_16 : decode (am_cc M_X0_init) 16 = .ok (.putfield 15, 3) := by decide +kernel
theorem d_X0_init_19 : decode (am_cc M_X0_init) 19 = .ok (.aload_n 0, 1) := by decide +kernel
theorem d_X0_init_20 : decode (am_cc M_X0_init) 20 = .ok (.iconst 0, 1) := by decide +kernel
theorem d_X0_init_21 : decode (am_cc M_X0_init) 21 = .ok (.putfield 18, 3) := by decide +kernel
theorem d_X0_init_24 : decode (am_cc M_X0_init) 24 = .ok (.aload_n 0, 1) := by decide +kernel
theorem d_X0_init_25 : decode (am_cc M_X0_init) 25 = .ok (.iconst 1, 1) := by decide +kernel
theorem d_X0_init_26 : decode (am_cc M_X0_init) 26 = .ok (.putfield 22, 3) := by decide +kernel
theorem d_X0_init_29 : decode (am_cc M_X0_init) 29 = .ok (.aload_n 0, 1) := by decide +kernel
theorem d_X0_init_30 : decode (am_cc M_X0_init) 30 = .ok (.iconst 0, 1) := by decide +kernel
theorem d_X0_init_31 : decode (am_cc M_X0_init) 31 = .ok (.putfield 25, 3) := by decide +kernel
theorem d_X0_init_34 : decode (am_cc M_X0_init) 34 = .ok (.aload_n 0, 1) := by decide +kernel
theorem d_X0_init_35 : decode (am_cc M_X0_init) 35 = .ok (.iconst 0, 1) := by decide +kernel
theorem d_X0_init_36 : decode (am_cc M_X0_init) 36 = .ok (.putfield 28, 3) := by decide +kernel
theorem d_X0_init_39 : decode (am_cc M_X0_init) 39 = .ok (.return_, 1) := by decide +kernel
theorem d_X1_init_0 : decode (am_cc M_X1_init) 0 = .ok (.aload_n 0, 1) := by decide +kernel
theorem d_X1_init_1 : decode (am_cc M_X1_init) 1 = .ok (.invokespecial 3, 3) := by decide +kernel
theorem d_X1_init_4 : decode (am_cc M_X1_init) 4 = .ok (.aload_n 0, 1) := by decide +kernel
theorem d_X1_init_5 : decode (am_cc M_X1_init) 5 = .ok (.bipush 6, 2) := by decide +kernel
theorem d_X1_init_7 : decode (am_cc M_X1_init) 7 = .ok (.anewarray 9, 3) := by decide +kernel
theorem d_X1_init_10 : decode (am_cc M_X1_init) 10 = .ok (.putfield 11, 3) := by decide +kernel
theorem d_X1_init_13 : decode (am_cc M_X1_init) 13 = .ok (.aload_n 0, 1) := by decide +kernel
theorem d_X1_init_14 : decode (am_cc M_X1_init) 14 = .ok (.iconst 0, 1) := by decide +kernel
theorem d_X1_init_15 : decode (am_cc M_X1_init) 15 = .ok (.putfield 17, 3) := by decide +kernel
theorem d_X1_init_18 : decode (am_cc M_X1_init) 18 = .ok (.iconst 0, 1) := by decide +kernel
theorem d_X1_init_19 : decode (am_cc M_X1_init) 19 = .ok (.istore_n 1, 1) := by decide +kernel
theorem d_X1_init_20 : decode (am_cc M_X1_init) 20 = .ok (.iload_n 1, 1) := by decide +kernel
theorem d_X1_init_21 : decode (am_cc M_X1_init) 21 = .ok (.bipush 6, 2) := by decide +kernel
theorem d_X1_init_23 : decode (am_cc M_X1_init) 23 = .ok (.if_icmp .ge 22, 3) := by decide +kernel
theorem d_X1_init_26 : decode (am_cc M_X1_init) 26 = .ok (.aload_n 0, 1) := by decide +kernel
theorem d_X1_init_27 : decode (am_cc M_X1_init) 27 = .ok (.getfield 11, 3) := by decide +kernel
theorem d_X1_init_30 : decode (am_cc M_X1_init) 30 = .ok (.iload_n 1, 1) := by decide +kernel
theorem d_X1_init_31 : decode (am_cc M_X1_init) 31 = .ok (.new 9, 3) := by decide +kernel
theorem d_X1_init_34 : decode (am_cc M_X1_init) 34 = .ok (.dup, 1) := by decide +kernel
theorem d_X1_init_35 : decode (am_cc M_X1_init) 35 = .ok (.invokespecial 21, 3) := by decide +kernel
theorem d_X1_init_38 : decode (am_cc M_X1_init) 38 = .ok (.aastore, 1) := by decide +kernel
theorem d_X1_init_39 : decode (am_cc M_X1_init) 39 = .ok (.iinc 1 1, 3) := by decide +kernel
theorem d_X1_init_42 : decode (am_cc M_X1_init) 42 = .ok (.goto (-22), 3) := by decide +kernel
theorem d_X1_init_45 : decode (am_cc M_X1_init) 45 = .ok (.return_, 1) := by decide +kernel
theorem d_X2_init_0 : decode (am_cc M_X2_init) 0 = .ok (.aload_n 0, 1) := by decide +kernel
theorem d_X2_init_1 : decode (am_cc M_X2_init) 1 = .ok (.invokespecial 3, 3) := by decide +kernel
theorem d_X2_init_4 : decode (am_cc M_X2_init) 4 = .ok (.aload_n 0, 1) := by decide +kernel
theorem d_X2_init_5 : decode (am_cc M_X2_init) 5 = .ok (.iconst 4, 1) := by decide +kernel
theorem d_X2_init_6 : decode (am_cc M_X2_init) 6 = .ok (.newarray .int, 2) := by decide +kernel
theorem d_X2_init_8 : decode (am_cc M_X2_init) 8 = .ok (.putfield 9, 3) := by decide +kernel
theorem d_X2_init_11 : decode (am_cc M_X2_init) 11 = .ok (.aload_n 0, 1) := by decide +kernel
theorem d_X2_init_12 : decode (am_cc M_X2_init) 12 = .ok (.bipush 6, 2) := by decide +kernel
theorem d_X2_init_14 : decode (am_cc M_X2_init) 14 = .ok (.newarray .int, 2) := by decide +kernel
theorem d_X2_init_16 : decode (am_cc M_X2_init) 16 = .ok (.putfield 15, 3) := by decide +kernel
theorem d_X2_init_19 : decode (am_cc M_X2_init) 19 = .ok (.aload_n 0, 1) := by decide +kernel
theorem d_X2_init_20 : decode (am_cc M_X2_init) 20 = .ok (.bipush 6, 2) := by decide +kernel
theorem d_X2_init_22 : decode (am_cc M_X2_init) 22 = .ok (.newarray .int, 2) := by decide +kernel
theorem d_X2_init_24 : decode (am_cc M_X2_init) 24 = .ok (.putfield 18, 3) := by decide +kernel
theorem d_X2_init_27 : decode (am_cc M_X2_init) 27 = .ok (.aload_n 0, 1) := by decide +kernel
theorem d_X2_init_28 : decode (am_cc M_X2_init) 28 = .ok (.bipush 48, 2) := by decide +kernel
theorem d_X2_init_30 : decode (am_cc M_X2_init) 30 = .ok (.newarray .int, 2) := by decide +kernel
theorem d_X2_init_32 : decode (am_cc M_X2_init) 32 = .ok (.putfield 21, 3) := by decide +kernel
theorem d_X2_init_35 : decode (am_cc M_X2_init) 35 = .ok (.aload_n 0, 1) := by decide +kernel
theorem d_X2_init_36 : decode (am_cc M_X2_init) 36 = .ok (.bipush 48, 2) := by decide +kernel
theorem d_X2_init_38 : decode (am_cc M_X2_init) 38 = .ok (.newarray .int, 2) := by decide +kernel
theorem d_X2_init_40 : decode (am_cc M_X2_init) 40 = .ok (.putfield 24, 3) := by decide +kernel
theorem d_X2_init_43 : decode (am_cc M_X2_init) 43 = .ok (.aload_n 0, 1) := by decide +kernel
theorem d_X2_init_44 : decode (am_cc M_X2_init) 44 = .ok (.iconst 0, 1) := by decide +kernel
theorem d_X2_init_45 : decode (am_cc M_X2_init) 45 = .ok (.putfield 27, 3) := by decide +kernel
theorem d_X2_init_48 : decode (am_cc M_X2_init) 48 = .ok (.aload_n 0, 1) := by decide +kernel
theorem d_X2_init_49 : decode (am_cc M_X2_init) 49 = .ok (.iconst 1, 1) := by decide +kernel
theorem d_X2_init_50 : decode (am_cc M_X2_init) 50 = .ok (.putfield 31, 3) := by decide +kernel
theorem d_X2_init_53 : decode (am_cc M_X2_init) 53 = .ok (.aload_n 0, 1) := by decide +kernel
theorem d_X2_init_54 : decode (am_cc M_X2_init) 54 = .ok (.iconst 0, 1) := by decide +kernel
theorem d_X2_init_55 : decode (am_cc M_X2_init) 55 = .ok (.putfield 34, 3) := by decide +kernel
theorem d_X2_init_58 : decode (am_cc M_X2_init) 58 = .ok (.return_, 1) := by decide +kernel
theorem d_X3_init_0 : decode (am_cc M_X3_init) 0 = .ok (.aload_n 0, 1) := by decide +kernel
theorem d_X3_init_1 : decode (am_cc M_X3_init) 1 = .ok (.invokespecial 3, 3) := by decide +kernel
theorem d_X3_init_4 : decode (am_cc M_X3_init) 4 = .ok (.aload_n 0, 1) := by decide +kernel
theorem d_X3_init_5 : decode (am_cc M_X3_init) 5 = .ok (.sipush 19092, 3) := by decide +kernel
theorem d_X3_init_8 : decode (am_cc M_X3_init) 8 = .ok (.newarray .boolean, 2) := by decide +kernel
theorem d_X3_init_10 : decode (am_cc M_X3_init) 10 = .ok (.putfield 9, 3) := by decide +kernel
theorem d_X3_init_13 : decode (am_cc M_X3_init) 13 = .ok (.aload_n 0, 1) := by decide +kernel
theorem d_X3_init_14 : decode (am_cc M_X3_init) 14 = .ok (.iconst 0, 1) := by decide +kernel
theorem d_X3_init_15 : decode (am_cc M_X3_init) 15 = .ok (.putfield 15, 3) := by decide +kernel
theorem d_X3_init_18 : decode (am_cc M_X3_init) 18 = .ok (.aload_n 0, 1) := by decide +kernel
theorem d_X3_init_19 : decode (am_cc M_X3_init) 19 = .ok (.iconst 0, 1) := by decide +kernel
theorem d_X3_init_20 : decode (am_cc M_X3_init) 20 = .ok (.putfield 19, 3) := by decide +kernel
theorem d_X3_init_23 : decode (am_cc M_X3_init) 23 = .ok (.return_, 1) := by decide +kernel
theorem d_X4_init_0 : decode (am_cc M_X4_init) 0 = .ok (.aload_n 0, 1) := by decide +kernel
theorem d_X4_init_1 : decode (am_cc M_X4_init) 1 = .ok (.invokespecial 3, 3) := by decide +kernel
theorem d_X4_init_4 : decode (am_cc M_X4_init) 4 = .ok (.aload_n 0, 1) := by decide +kernel
theorem d_X4_init_5 : decode (am_cc M_X4_init) 5 = .ok (.new 9, 3) := by decide +kernel
theorem d_X4_init_8 : decode (am_cc M_X4_init) 8 = .ok (.dup, 1) := by decide +kernel
theorem d_X4_init_9 : decode (am_cc M_X4_init) 9 = .ok (.invokespecial 11, 3) := by decide +kernel
theorem d_X4_init_12 : decode (am_cc M_X4_init) 12 = .ok (.putfield 12, 3) := by decide +kernel
theorem d_X4_init_15 : decode (am_cc M_X4_init) 15 = .ok (.return_, 1) := by decide +kernel
theorem d_X5_init_0 : decode (am_cc M_X5_init) 0 = .ok (.aload_n 0, 1) := by decide +kernel
theorem d_X5_init_1 : decode (am_cc M_X5_init) 1 = .ok (.invokespecial 3, 3) := by decide +kernel
theorem d_X5_init_4 : decode (am_cc M_X5_init) 4 = .ok (.aload_n 0, 1) := by decide +kernel
theorem d_X5_init_5 : decode (am_cc M_X5_init) 5 = .ok (.iconst 2, 1) := by decide +kernel
theorem d_X5_init_6 : decode (am_cc M_X5_init) 6 = .ok (.anewarray 9, 3) := by decide +kernel
theorem d_X5_init_9 : decode (am_cc M_X5_init) 9 = .ok (.dup, 1) := by decide +kernel
theorem d_X5_init_10 : decode (am_cc M_X5_init) 10 = .ok (.iconst 0, 1) := by decide +kernel
theorem d_X5_init_11 : decode (am_cc M_X5_init) 11 = .ok (.new 9, 3) := by decide +kernel
theorem d_X5_init_14 : decode (am_cc M_X5_init) 14 = .ok (.dup, 1) := by decide +kernel
theorem d_X5_init_15 : decode (am_cc M_X5_init) 15 = .ok (.invokespecial 11, 3) := by decide +kernel
theorem d_X5_init_18 : decode (am_cc M_X5_init) 18 = .ok (.aastore, 1) := by decide +kernel
theorem d_X5_init_19 : decode (am_cc M_X5_init) 19 = .ok (.dup, 1) := by decide +kernel
theorem d_X5_init_20 : decode (am_cc M_X5_init) 20 = .ok (.iconst 1, 1) := by decide +kernel
theorem d_X5_init_21 : decode (am_cc M_X5_init) 21 = .ok (.new 9, 3) := by decide +kernel
theorem d_X5_init_24 : decode (am_cc M_X5_init) 24 = .ok (.dup, 1) := by decide +kernel
theorem d_X5_init_25 : decode (am_cc M_X5_init) 25 = .ok (.invokespecial 11, 3) := by decide +kernel
theorem d_X5_init_28 : decode (am_cc M_X5_init) 28 = .ok (.aastore, 1) := by decide +kernel
theorem d_X5_init_29 : decode (am_cc M_X5_init) 29 = .ok (.putfield 12, 3) := by decide +kernel
theorem d_X5_init_32 : decode (am_cc M_X5_init) 32 = .ok (.aload_n 0, 1) := by decide +kernel
theorem d_X5_init_33 : decode (am_cc M_X5_init) 33 = .ok (.iconst 2, 1) := by decide +kernel
theorem d_X5_init_34 : decode (am_cc M_X5_init) 34 = .ok (.newarray .boolean, 2) := by decide +kernel
theorem d_X5_init_36 : decode (am_cc M_X5_init) 36 = .ok (.putfield 18, 3) := by decide +kernel
theorem d_X5_init_39 : decode (am_cc M_X5_init) 39 = .ok (.return_, 1) := by decide +kernel
theorem d_X6_init_0 : decode (am_cc M_X6_init) 0 = .ok (.aload_n 0, 1) := by decide +kernel
theorem d_X6_init_1 : decode (am_cc M_X6_init) 1 = .ok (.invokespecial 3, 3) := by decide +kernel
theorem d_X6_init_4 : decode (am_cc M_X6_init) 4 = .ok (.aload_n 0, 1) := by decide +kernel
theorem d_X6_init_5 : decode (am_cc M_X6_init) 5 = .ok (.bipush 48, 2) := by decide +kernel
theorem d_X6_init_7 : decode (am_cc M_X6_init) 7 = .ok (.newarray .int, 2) := by decide +kernel
theorem d_X6_init_9 : decode (am_cc M_X6_init) 9 = .ok (.putfield 9, 3) := by decide +kernel
theorem d_X6_init_12 : decode (am_cc M_X6_init) 12 = .ok (.aload_n 0, 1) := by decide +kernel
theorem d_X6_init_13 : decode (am_cc M_X6_init) 13 = .ok (.iconst 4, 1) := by decide +kernel
theorem d_X6_init_14 : decode (am_cc M_X6_init) 14 = .ok (.newarray .int, 2) := by decide +kernel
theorem d_X6_init_16 : decode (am_cc M_X6_init) 16 = .ok (.dup, 1) := by decide +kernel
theorem d_X6_init_17 : decode (am_cc M_X6_init) 17 = .ok (.iconst 0, 1) := by decide +kernel
theorem d_X6_init_18 : decode (am_cc M_X6_init) 18 = .ok (.bipush 16, 2) := by decide +kernel
theorem d_X6_init_20 : decode (am_cc M_X6_init) 20 = .ok (.iastore, 1) := by decide +kernel
theorem d_X6_init_21 : decode (am_cc M_X6_init) 21 = .ok (.dup, 1) := by decide +kernel
theorem d_X6_init_22 : decode (am_cc M_X6_init) 22 = .ok (.iconst 1, 1) := by decide +kernel
theorem d_X6_init_23 : decode (am_cc M_X6_init) 23 = .ok (.iconst 0, 1) := by decide +kernel
theorem d_X6_init_24 : decode (am_cc M_X6_init) 24 = .ok (.iastore, 1) := by decide +kernel
theorem d_X6_init_25 : decode (am_cc M_X6_init) 25 = .ok (.dup, 1) := by decide +kernel
theorem d_X6_init_26 : decode (am_cc M_X6_init) 26 = .ok (.iconst 2, 1) := by decide +kernel
theorem d_X6_init_27 : decode (am_cc M_X6_init) 27 = .ok (.iconst 0, 1) := by decide +kernel
theorem d_X6_init_28 : decode (am_cc M_X6_init) 28 = .ok (.iastore, 1) := by decide +kernel
theorem d_X6_init_29 : decode (am_cc M_X6_init) 29 = .ok (.dup, 1) := by decide +kernel
theorem d_X6_init_30 : decode (am_cc M_X6_init) 30 = .ok (.iconst 3, 1) := by decide +kernel
theorem d_X6_init_31 : decode (am_cc M_X6_init) 31 = .ok (.iconst 0, 1) := by decide +kernel
theorem d_X6_init_32 : decode (am_cc M_X6_init) 32 = .ok (.iastore, 1) := by decide +kernel
theorem d_X6_init_33 : decode (am_cc M_X6_init) 33 = .ok (.putfield 15, 3) := by decide +kernel
theorem d_X6_init_36 : decode (am_cc M_X6_init) 36 = .ok (.aload_n 0, 1) := by decide +kernel
theorem d_X6_init_37 : decode (am_cc M_X6_init) 37 = .ok (.new 18, 3) := by decide +kernel
theorem d_X6_init_40 : decode (am_cc M_X6_init) 40 = .ok (.dup, 1) := by decide +kernel
theorem d_X6_init_41 : decode (am_cc M_X6_init) 41 = .ok (.invokespecial 20, 3) := by decide +kernel
theorem d_X6_init_44 : decode (am_cc M_X6_init) 44 = .ok (.putfield 21, 3) := by decide +kernel
theorem d_X6_init_47 : decode (am_cc M_X6_init) 47 = .ok (.aload_n 0, 1) := by decide +kernel
theorem d_X6_init_48 : decode (am_cc M_X6_init) 48 = .ok (.iconst 0, 1) := by decide +kernel
theorem d_X6_init_49 : decode (am_cc M_X6_init) 49 = .ok (.putfield 25, 3) := by decide +kernel
theorem d_X6_init_52 : decode (am_cc M_X6_init) 52 = .ok (.aload_n 0, 1) := by decide +kernel
theorem d_X6_init_53 : decode (am_cc M_X6_init) 53 = .ok (.iconst 4, 1) := by decide +kernel
theorem d_X6_init_54 : decode (am_cc M_X6_init) 54 = .ok (.putfield 29, 3) := by decide +kernel
theorem d_X6_init_57 : decode (am_cc M_X6_init) 57 = .ok (.aload_n 0, 1) := by decide +kernel
theorem d_X6_init_58 : decode (am_cc M_X6_init) 58 = .ok (.iconst 1, 1) := by decide +kernel
theorem d_X6_init_59 : decode (am_cc M_X6_init) 59 = .ok (.putfield 32, 3) := by decide +kernel
theorem d_X6_init_62 : decode (am_cc M_X6_init) 62 = .ok (.aload_n 0, 1) := by decide +kernel
theorem d_X6_init_63 : decode (am_cc M_X6_init) 63 = .ok (.bipush 31, 2) := by decide +kernel
theorem d_X6_init_65 : decode (am_cc M_X6_init) 65 = .ok (.putfield 35, 3) := by decide +kernel
theorem d_X6_init_68 : decode (am_cc M_X6_init) 68 = .ok (.aload_n 0, 1) := by decide +kernel
theorem d_X6_init_69 : decode (am_cc M_X6_init) 69 = .ok (.iconst 0, 1) := by decide +kernel
theorem d_X6_init_70 : decode (am_cc M_X6_init) 70 = .ok (.putfield 38, 3) := by decide +kernel
theorem d_X6_init_73 : decode (am_cc M_X6_init) 73 = .ok (.return_, 1) := by decide +kernel
theorem d_X7_init_0 : decode (am_cc M_X7_init) 0 = .ok (.aload_n 0, 1) := by decide +kernel
theorem d_X7_init_1 : decode (am_cc M_X7_init) 1 = .ok (.invokespecial 3, 3) := by decide +kernel
theorem d_X7_init_4 : decode (am_cc M_X7_init) 4 = .ok (.aload_n 0, 1) := by decide +kernel
theorem d_X7_init_5 : decode (am_cc M_X7_init) 5 = .ok (.new 9, 3) := by decide +kernel
theorem d_X7_init_8 : decode (am_cc M_X7_init) 8 = .ok (.dup, 1) := by decide +kernel
theorem d_X7_init_9 : decode (am_cc M_X7_init) 9 = .ok (.invokespecial 11, 3) := by decide +kernel
theorem d_X7_init_12 : decode (am_cc M_X7_init) 12 = .ok (.putfield 12, 3) := by decide +kernel
theorem d_X7_init_15 : decode (am_cc M_X7_init) 15 = .ok (.aload_n 0, 1) := by decide +kernel
theorem d_X7_init_16 : decode (am_cc M_X7_init) 16 = .ok (.new 18, 3) := by decide +kernel
theorem d_X7_init_19 : decode (am_cc M_X7_init) 19 = .ok (.dup, 1) := by decide +kernel
theorem d_X7_init_20 : decode (am_cc M_X7_init) 20 = .ok (.invokespecial 20, 3) := by decide +kernel
theorem d_X7_init_23 : decode (am_cc M_X7_init) 23 = .ok (.putfield 21, 3) := by decide +kernel
theorem d_X7_init_26 : decode (am_cc M_X7_init) 26 = .ok (.aload_n 0, 1) := by decide +kernel
theorem d_X7_init_27 : decode (am_cc M_X7_init) 27 = .ok (.iconst 4, 1) := by decide +kernel
theorem d_X7_init_28 : decode (am_cc M_X7_init) 28 = .ok (.newarray .int, 2) := by decide +kernel
theorem d_X7_init_30 : decode (am_cc M_X7_init) 30 = .ok (.putfield 25, 3) := by decide +kernel
theorem d_X7_init_33 : decode (am_cc M_X7_init) 33 = .ok (.aload_n 0, 1) := by decide +kernel
theorem d_X7_init_34 : decode (am_cc M_X7_init) 34 = .ok (.iconst 5, 1) := by decide +kernel
theorem d_X7_init_35 : decode (am_cc M_X7_init) 35 = .ok (.bipush 49, 2) := by decide +kernel
theorem d_X7_init_37 : decode (am_cc M_X7_init) 37 = .ok (.multianewarray 29 2, 4) := by decide +kernel
theorem d_X7_init_41 : decode (am_cc M_X7_init) 41 = .ok (.putfield 31, 3) := by decide +kernel
theorem d_X7_init_44 : decode (am_cc M_X7_init) 44 = .ok (.aload_n 0, 1) := by decide +kernel
theorem d_X7_init_45 : decode (am_cc M_X7_init) 45 = .ok (.iconst 4, 1) := by decide +kernel
theorem d_X7_init_46 : decode (am_cc M_X7_init) 46 = .ok (.bipush 49, 2) := by decide +kernel
theorem d_X7_init_48 : decode (am_cc M_X7_init) 48 = .ok (.multianewarray 29 2, 4) := by decide +kernel
theorem d_X7_init_52 : decode (am_cc M_X7_init) 52 = .ok (.putfield 34, 3) := by decide +kernel
theorem d_X7_init_55 : decode (am_cc M_X7_init) 55 = .ok (.aload_n 0, 1) := by decide +kernel
theorem d_X7_init_56 : decode (am_cc M_X7_init) 56 = .ok (.iconst 5, 1) := by decide +kernel
theorem d_X7_init_57 : decode (am_cc M_X7_init) 57 = .ok (.bipush 6, 2) := by decide +kernel
theorem d_X7_init_59 : decode (am_cc M_X7_init) 59 = .ok (.multianewarray 29 2, 4) := by decide +kernel
theorem d_X7_init_63 : decode (am_cc M_X7_init) 63 = .ok (.putfield 37, 3) := by decide +kernel
theorem d_X7_init_66 : decode (am_cc M_X7_init) 66 = .ok (.aload_n 0, 1) := by decide +kernel
theorem d_X7_init_67 : decode (am_cc M_X7_init) 67 = .ok (.iconst 5, 1) := by decide +kernel
theorem d_X7_init_68 : decode (am_cc M_X7_init) 68 = .ok (.bipush 6, 2) := by decide +kernel
theorem d_X7_init_70 : decode (am_cc M_X7_init) 70 = .ok (.multianewarray 29 2, 4) := by decide +kernel
theorem d_X7_init_74 : decode (am_cc M_X7_init) 74 = .ok (.putfield 40, 3) := by decide +kernel
theorem d_X7_init_77 : decode (am_cc M_X7_init) 77 = .ok (.return_, 1) := by decide +kernel
theorem d_X8_init_0 : decode (am_cc M_X8_init) 0 = .ok (.aload_n 0, 1) := by decide +kernel
theorem d_X8_init_1 : decode (am_cc M_X8_init) 1 = .ok (.invokespecial 3, 3) := by decide +kernel
theorem d_X8_init_4 : decode (am_cc M_X8_init) 4 = .ok (.aload_n 0, 1) := by decide +kernel
theorem d_X8_init_5 : decode (am_cc M_X8_init) 5 = .ok (.bipush 80, 2) := by decide +kernel
theorem d_X8_init_7 : decode (am_cc M_X8_init) 7 = .ok (.newarray .int, 2) := by decide +kernel
theorem d_X8_init_9 : decode (am_cc M_X8_init) 9 = .ok (.putfield 9, 3) := by decide +kernel
theorem d_X8_init_12 : decode (am_cc M_X8_init) 12 = .ok (.aload_n 0, 1) := by decide +kernel
theorem d_X8_init_13 : decode (am_cc M_X8_init) 13 = .ok (.iconst 0, 1) := by decide +kernel
theorem d_X8_init_14 : decode (am_cc M_X8_init) 14 = .ok (.putfield 15, 3) := by decide +kernel
theorem d_X8_init_17 : decode (am_cc M_X8_init) 17 = .ok (.aload_n 0, 1) := by decide +kernel
theorem d_X8_init_18 : decode (am_cc M_X8_init) 18 = .ok (.iconst 0, 1) := by decide +kernel
theorem d_X8_init_19 : decode (am_cc M_X8_init) 19 = .ok (.putfield 19, 3) := by decide +kernel
theorem d_X8_init_22 : decode (am_cc M_X8_init) 22 = .ok (.aload_n 0, 1) := by decide +kernel
theorem d_X8_init_23 : decode (am_cc M_X8_init) 23 = .ok (.iconst 0, 1) := by decide +kernel
theorem d_X8_init_24 : decode (am_cc M_X8_init) 24 = .ok (.putfield 22, 3) := by decide +kernel
theorem d_X8_init_27 : decode (am_cc M_X8_init) 27 = .ok (.aload_n 0, 1) := by decide +kernel
theorem d_X8_init_28 : decode (am_cc M_X8_init) 28 = .ok (.iconst 0, 1) := by decide +kernel
theorem d_X8_init_29 : decode (am_cc M_X8_init) 29 = .ok (.putfield 25, 3) := by decide +kernel
theorem d_X8_init_32 : decode (am_cc M_X8_init) 32 = .ok (.aload_n 0, 1) := by decide +kernel
theorem d_X8_init_33 : decode (am_cc M_X8_init) 33 = .ok (.iconst 0, 1) := by decide +kernel
theorem d_X8_init_34 : decode (am_cc M_X8_init) 34 = .ok (.putfield 28, 3) := by decide +kernel
theorem d_X8_init_37 : decode (am_cc M_X8_init) 37 = .ok (.return_, 1) := by decide +kernel
theorem d_X9_init_0 : decode (am_cc M_X9_init) 0 = .ok (.aload_n 0, 1) := by decide +kernel
theorem d_X9_init_1 : decode (am_cc M_X9_init) 1 = .ok (.invokespecial 3, 3) := by decide +kernel
theorem d_X9_init_4 : decode (am_cc M_X9_init) 4 = .ok (.aload_n 0, 1) := by decide +kernel
theorem d_X9_init_5 : decode (am_cc M_X9_init) 5 = .ok (.new 9, 3) := by decide +kernel
theorem d_X9_init_8 : decode (am_cc M_X9_init) 8 = .ok (.dup, 1) := by decide +kernel
theorem d_X9_init_9 : decode (am_cc M_X9_init) 9 = .ok (.invokespecial 11, 3) := by decide +kernel
theorem d_X9_init_12 : decode (am_cc M_X9_init) 12 = .ok (.putfield 12, 3) := by decide +kernel
theorem d_X9_init_15 : decode (am_cc M_X9_init) 15 = .ok (.aload_n 0, 1) := by decide +kernel
theorem d_X9_init_16 : decode (am_cc M_X9_init) 16 = .ok (.aload_n 0, 1) := by decide +kernel
theorem d_X9_init_17 : decode (am_cc M_X9_init) 17 = .ok (.getfield 12, 3) := by decide +kernel
theorem d_X9_init_20 : decode (am_cc M_X9_init) 20 = .ok (.getfield 16, 3) := by decide +kernel
theorem d_X9_init_23 : decode (am_cc M_X9_init) 23 = .ok (.putfield 20, 3) := by decide +kernel
theorem d_X9_init_26 : decode (am_cc M_X9_init) 26 = .ok (.aload_n 0, 1) := by decide +kernel
theorem d_X9_init_27 : decode (am_cc M_X9_init) 27 = .ok (.new 23, 3) := by decide +kernel
theorem d_X9_init_30 : decode (am_cc M_X9_init) 30 = .ok (.dup, 1) := by decide +kernel
theorem d_X9_init_31 : decode (am_cc M_X9_init) 31 = .ok (.invokespecial 25, 3) := by decide +kernel
theorem d_X9_init_34 : decode (am_cc M_X9_init) 34 = .ok (.putfield 26, 3) := by decide +kernel
theorem d_X9_init_37 : decode (am_cc M_X9_init) 37 = .ok (.aload_n 0, 1) := by decide +kernel
theorem d_X9_init_38 : decode (am_cc M_X9_init) 38 = .ok (.new 30, 3) := by decide +kernel
theorem d_X9_init_41 : decode (am_cc M_X9_init) 41 = .ok (.dup, 1) := by decide +kernel
theorem d_X9_init_42 : decode (am_cc M_X9_init) 42 = .ok (.invokespecial 32, 3) := by decide +kernel
theorem d_X9_init_45 : decode (am_cc M_X9_init) 45 = .ok (.putfield 33, 3) := by decide +kernel
theorem d_X9_init_48 : decode (am_cc M_X9_init) 48 = .ok (.aload_n 0, 1) := by decide +kernel
theorem d_X9_init_49 : decode (am_cc M_X9_init) 49 = .ok (.new 37, 3) := by decide +kernel
theorem d_X9_init_52 : decode (am_cc M_X9_init) 52 = .ok (.dup, 1) := by decide +kernel
theorem d_X9_init_53 : decode (am_cc M_X9_init) 53 = .ok (.invokespecial 39, 3) := by decide +kernel
theorem d_X9_init_56 : decode (am_cc M_X9_init) 56 = .ok (.putfield 40, 3) := by decide +kernel
theorem d_X9_init_59 : decode (am_cc M_X9_init) 59 = .ok (.aload_n 0, 1) := by decide +kernel
theorem d_X9_init_60 : decode (am_cc M_X9_init) 60 = .ok (.new 44, 3) := by decide +kernel
theorem d_X9_init_63 : decode (am_cc M_X9_init) 63 = .ok (.dup, 1) := by decide +kernel
theorem d_X9_init_64 : decode (am_cc M_X9_init) 64 = .ok (.invokespecial 46, 3) := by decide +kernel
theorem d_X9_init_67 : decode (am_cc M_X9_init) 67 = .ok (.putfield 47, 3) := by decide +kernel
theorem d_X9_init_70 : decode (am_cc M_X9_init) 70 = .ok (.aload_n 0, 1) := by decide +kernel
theorem d_X9_init_71 : decode (am_cc M_X9_init) 71 = .ok (.new 51, 3) := by decide +kernel
theorem d_X9_init_74 : decode (am_cc M_X9_init) 74 = .ok (.dup, 1) := by decide +kernel
theorem d_X9_init_75 : decode (am_cc M_X9_init) 75 = .ok (.invokespecial 53, 3) := by decide +kernel
theorem d_X9_init_78 : decode (am_cc M_X9_init) 78 = .ok (.putfield 54, 3) := by decide +kernel
theorem d_X9_init_81 : decode (am_cc M_X9_init) 81 = .ok (.return_, 1) := by decide +kernel
theorem d_X10_init_0 : decode (am_cc M_X10_init) 0 = .ok (.aload_n 0, 1) := by decide +kernel
theorem d_X10_init_1 : decode (am_cc M_X10_init) 1 = .ok (.invokespecial 1, 3) := by decide +kernel
theorem d_X10_init_4 : decode (am_cc M_X10_init) 4 = .ok (.aload_n 0, 1) := by decide +kernel
theorem d_X10_init_5 : decode (am_cc M_X10_init) 5 = .ok (.sipush 172, 3) := by decide +kernel
theorem d_X10_init_8 : decode (am_cc M_X10_init) 8 = .ok (.newarray .int, 2) := by decide +kernel
theorem d_X10_init_10 : decode (am_cc M_X10_init) 10 = .ok (.putfield 7, 3) := by decide +kernel
theorem d_X10_init_13 : decode (am_cc M_X10_init) 13 = .ok (.aload_n 0, 1) := by decide +kernel
theorem d_X10_init_14 : decode (am_cc M_X10_init) 14 = .ok (.sipush 1032, 3) := by decide +kernel
theorem d_X10_init_17 : decode (am_cc M_X10_init) 17 = .ok (.newarray .int, 2) := by decide +kernel
theorem d_X10_init_19 : decode (am_cc M_X10_init) 19 = .ok (.putfield 13, 3) := by decide +kernel
theorem d_X10_init_22 : decode (am_cc M_X10_init) 22 = .ok (.aload_n 0, 1) := by decide +kernel
theorem d_X10_init_23 : decode (am_cc M_X10_init) 23 = .ok (.sipush 344, 3) := by decide +kernel
theorem d_X10_init_26 : decode (am_cc M_X10_init) 26 = .ok (.newarray .int, 2) := by decide +kernel
theorem d_X10_init_28 : decode (am_cc M_X10_init) 28 = .ok (.putfield 16, 3) := by decide +kernel
theorem d_X10_init_31 : decode (am_cc M_X10_init) 31 = .ok (.aload_n 0, 1) := by decide +kernel
theorem d_X10_init_32 : decode (am_cc M_X10_init) 32 = .ok (.iconst 2, 1) := by decide +kernel
theorem d_X10_init_33 : decode (am_cc M_X10_init) 33 = .ok (.newarray .int, 2) := by decide +kernel
theorem d_X10_init_35 : decode (am_cc M_X10_init) 35 = .ok (.putfield 19, 3) := by decide +kernel
theorem d_X10_init_38 : decode (am_cc M_X10_init) 38 = .ok (.aload_n 0, 1) := by decide +kernel
theorem d_X10_init_39 : decode (am_cc M_X10_init) 39 = .ok (.iconst 4, 1) := by decide +kernel
theorem d_X10_init_40 : decode (am_cc M_X10_init) 40 = .ok (.newarray .int, 2) := by decide +kernel
theorem d_X10_init_42 : decode (am_cc M_X10_init) 42 = .ok (.putfield 22, 3) := by decide +kernel
theorem d_X10_init_45 : decode (am_cc M_X10_init) 45 = .ok (.aload_n 0, 1) := by decide +kernel
theorem d_X10_init_46 : decode (am_cc M_X10_init) 46 = .ok (.bipush 48, 2) := by decide +kernel
theorem d_X10_init_48 : decode (am_cc M_X10_init) 48 = .ok (.newarray .int, 2) := by decide +kernel
theorem d_X10_init_50 : decode (am_cc M_X10_init) 50 = .ok (.putfield 25, 3) := by decide +kernel
theorem d_X10_init_53 : decode (am_cc M_X10_init) 53 = .ok (.aload_n 0, 1) := by decide +kernel
theorem d_X10_init_54 : decode (am_cc M_X10_init) 54 = .ok (.bipush 48, 2) := by decide +kernel
theorem d_X10_init_56 : decode (am_cc M_X10_init) 56 = .ok (.newarray .int, 2) := by decide +kernel
theorem d_X10_init_58 : decode (am_cc M_X10_init) 58 = .ok (.putfield 28, 3) := by decide +kernel
theorem d_X10_init_61 : decode (am_cc M_X10_init) 61 = .ok (.aload_n 0, 1) := by decide +kernel
theorem d_X10_init_62 : decode (am_cc M_X10_init) 62 = .ok (.bipush 80, 2) := by decide +kernel
theorem d_X10_init_64 : decode (am_cc M_X10_init) 64 = .ok (.newarray .char, 2) := by decide +kernel
theorem d_X10_init_66 : decode (am_cc M_X10_init) 66 = .ok (.putfield 31, 3) := by decide +kernel
theorem d_X10_init_69 : decode (am_cc M_X10_init) 69 = .ok (.aload_n 0, 1) := by decide +kernel
theorem d_X10_init_70 : decode (am_cc M_X10_init) 70 = .ok (.bipush 123, 2) := by decide +kernel
theorem d_X10_init_72 : decode (am_cc M_X10_init) 72 = .ok (.newarray .int, 2) := by decide +kernel
theorem d_X10_init_74 : decode (am_cc M_X10_init) 74 = .ok (.putfield 35, 3) := by decide +kernel
theorem d_X10_init_77 : decode (am_cc M_X10_init) 77 = .ok (.aload_n 0, 1) := by decide +kernel
theorem d_X10_init_78 : decode (am_cc M_X10_init) 78 = .ok (.getfield 7, 3) := by decide +kernel
theorem d_X10_init_81 : decode (am_cc M_X10_init) 81 = .ok (.bipush 49, 2) := by decide +kernel
theorem d_X10_init_83 : decode (am_cc M_X10_init) 83 = .ok (.iconst 4, 1) := by decide +kernel
theorem d_X10_init_84 : decode (am_cc M_X10_init) 84 = .ok (.iastore, 1) := by decide +kernel
theorem d_X10_init_85 : decode (am_cc M_X10_init) 85 = .ok (.aload_n 0, 1) := by decide +kernel
theorem d_X10_init_86 : decode (am_cc M_X10_init) 86 = .ok (.getfield 7, 3) := by decide +kernel
theorem d_X10_init_89 : decode (am_cc M_X10_init) 89 = .ok (.bipush 50, 2) := by decide +kernel
theorem d_X10_init_91 : decode (am_cc M_X10_init) 91 = .ok (.iconst 1, 1) := by decide +kernel
theorem d_X10_init_92 : decode (am_cc M_X10_init) 92 = .ok (.iastore, 1) := by decide +kernel
theorem d_X10_init_93 : decode (am_cc M_X10_init) 93 = .ok (.aload_n 0, 1) := by decide +kernel
theorem d_X10_init_94 : decode (am_cc M_X10_init) 94 = .ok (.getfield 7, 3) := by decide +kernel
theorem d_X10_init_97 : decode (am_cc M_X10_init) 97 = .ok (.bipush 51, 2) := by decide +kernel
theorem d_X10_init_99 : decode (am_cc M_X10_init) 99 = .ok (.bipush 16, 2) := by decide +kernel
theorem d_X10_init_101 : decode (am_cc M_X10_init) 101 = .ok (.iastore, 1) := by decide +kernel
theorem d_X10_init_102 : decode (am_cc M_X10_init) 102 = .ok (.aload_n 0, 1) := by decide +kernel
theorem d_X10_init_103 : decode (am_cc M_X10_init) 103 = .ok (.getfield 7, 3) := by decide +kernel
theorem d_X10_init_106 : decode (am_cc M_X10_init) 106 = .ok (.bipush 55, 2) := by decide +kernel
theorem d_X10_init_108 : decode (am_cc M_X10_init) 108 = .ok (.bipush 31, 2) := by decide +kernel
theorem d_X10_init_110 : decode (am_cc M_X10_init) 110 = .ok (.iastore, 1) := by decide +kernel
theorem d_X10_init_111 : decode (am_cc M_X10_init) 111 = .ok (.return_, 1) := by decide +kernel
theorem gw_201 : Cond.methodLink "CaveEchoes$Foreteller" 3 Lib.objectInit ∈ am_GT := am_gt 201 (by decide +kernel) (by decide +kernel)
theorem gw_202 : Cond.fieldLink "CaveEchoes$Foreteller" 9 "CaveEchoes$Foreteller" "shown" "[I" ∈ am_GT := am_gt 202 (by decide +kernel) (by decide +kernel)
theorem gw_204 : Cond.fieldLink "CaveEchoes$Foreteller" 15 "CaveEchoes$Foreteller" "weights" "[I" ∈ am_GT := am_gt 204 (by decide +kernel) (by decide +kernel)
theorem gw_206 : Cond.fieldLink "CaveEchoes$Foreteller" 18 "CaveEchoes$Foreteller" "count" "I" ∈ am_GT := am_gt 206 (by decide +kernel) (by decide +kernel)
theorem gw_208 : Cond.fieldLink "CaveEchoes$Foreteller" 22 "CaveEchoes$Foreteller" "delay" "I" ∈ am_GT := am_gt 208 (by decide +kernel) (by decide +kernel)
theorem gw_209 : Cond.fieldLink "CaveEchoes$Foreteller" 25 "CaveEchoes$Foreteller" "speed" "I" ∈ am_GT := am_gt 209 (by decide +kernel) (by decide +kernel)
theorem gw_210 : Cond.fieldLink "CaveEchoes$Foreteller" 28 "CaveEchoes$Foreteller" "weighed" "I" ∈ am_GT := am_gt 210 (by decide +kernel) (by decide +kernel)
theorem ci_X0_11 {hi : am_HI} {g : am_G} (hg : g.1 = some 12) (hz : hi 11 = fun _ => 0) (hr : g.2.1 11 = fun _ => none) : am_Cn M_X0_init (2, 52) [.ref 11] hi g (FINP 11 14 hi g) := by
  refine am_cn rfl (by decide) (Nat.le_of_ble_eq_true rfl) (fun Φ hΦ => ?_)
  show NP M_X0_init _ 0 [.ref 11] [] hi g Φ
  have iv := IV.st hg hz hr
  refine NP.aload_n (i := 0) d_X0_init_0 rfl rfl ?_
  refine NP.objInit d_X0_init_1 gw_201 (by decide) (by decide) ?_
  refine NP.aload_n (i := 0) d_X0_init_4 rfl rfl ?_
  refine NP.bipush (x := 48) d_X0_init_5 (by decide) ?_
  refine NP.newI (b := (1, 4)) (n := 12) (N := 48) d_X0_init_7 iv.1 rfl rfl (by decide) ?_
  have iw1 := iv.new
  generalize am_mkI hi 12 = h1 at iw1 ⊢
  generalize am_mk g 12 = g1 at iw1 ⊢
  have iv1 := iw1.done rfl rfl
  refine NP.putRF (ci := 0) (j := 0) (q := (RX0, TX0, 6)) d_X0_init_9 rfl (iv1.lt (by decide)) rfl (by decide) rfl rfl rfl rfl rfl (fun _ => rfl) (fun _ => rfl) gw_202 ?_
  have iv2 := iv1.putR 0 12
  generalize am_upr g1 11 0 12 = g2 at iv2 ⊢
  refine NP.aload_n (i := 0) d_X0_init_12 rfl rfl ?_
  refine NP.iconst (x := 4) d_X0_init_13 (by decide) ?_
  refine NP.newI (b := (0, 0)) (n := 13) (N := 4) d_X0_init_14 iv2.1 rfl rfl (by decide) ?_
  have iw3 := iv2.new
  generalize am_mkI h1 13 = h3 at iw3 ⊢
  generalize am_mk g2 13 = g3 at iw3 ⊢
  have iv3 := iw3.done rfl rfl
  refine NP.putRF (ci := 0) (j := 1) (q := (RX0, TX0, 6)) d_X0_init_16 rfl (iv3.lt (by decide)) rfl (by decide) rfl rfl rfl rfl rfl (fun _ => rfl) (fun _ => rfl) gw_204 ?_
  have iv4 := iv3.putR 1 13
  generalize am_upr g3 11 1 13 = g4 at iv4 ⊢
  refine NP.aload_n (i := 0) d_X0_init_19 rfl rfl ?_
  refine NP.iconst (x := 0) d_X0_init_20 (by decide) ?_
  refine NP.putI (ci := 0) (j := 2) (q := (RX0, TX0, 6)) d_X0_init_21 rfl (iv4.lt (by decide)) rfl (by decide) rfl rfl gw_206 ?_
  have iv5 := iv4.putI 2 0
  generalize am_up h3 11 2 0 = h5 at iv5 ⊢
  refine NP.aload_n (i := 0) d_X0_init_24 rfl rfl ?_
  refine NP.iconst (x := 1) d_X0_init_25 (by decide) ?_
  refine NP.putI (ci := 0) (j := 3) (q := (RX0, TX0, 6)) d_X0_init_26 rfl (iv5.lt (by decide)) rfl (by decide) rfl rfl gw_208 ?_
  have iv6 := iv5.putI 3 1
  generalize am_up h5 11 3 1 = h6 at iv6 ⊢
  refine NP.aload_n (i := 0) d_X0_init_29 rfl rfl ?_
  refine NP.iconst (x := 0) d_X0_init_30 (by decide) ?_
  refine NP.putI (ci := 0) (j := 4) (q := (RX0, TX0, 6)) d_X0_init_31 rfl (iv6.lt (by decide)) rfl (by decide) rfl rfl gw_209 ?_
  have iv7 := iv6.putI 4 0
  generalize am_up h6 11 4 0 = h7 at iv7 ⊢
  refine NP.aload_n (i := 0) d_X0_init_34 rfl rfl ?_
  refine NP.iconst (x := 0) d_X0_init_35 (by decide) ?_
  refine NP.putI (ci := 0) (j := 5) (q := (RX0, TX0, 6)) d_X0_init_36 rfl (iv7.lt (by decide)) rfl (by decide) rfl rfl gw_210 ?_
  have iv8 := iv7.putI 5 0
  generalize am_up h7 11 5 0 = h8 at iv8 ⊢
  exact NP.vret d_X0_init_39 rfl (hΦ _ _ (iv8.fin rfl hr_11))
theorem gw_112 : Cond.methodLink "CaveEchoes$Letter" 3 Lib.objectInit ∈ am_GT := am_gt 112 (by decide +kernel) (by decide +kernel)
theorem gw_113 : Cond.fieldLink "CaveEchoes$Letter" 9 "CaveEchoes$Letter" "first" "[I" ∈ am_GT := am_gt 113 (by decide +kernel) (by decide +kernel)
theorem gw_116 : Cond.fieldLink "CaveEchoes$Letter" 15 "CaveEchoes$Letter" "kinds" "[I" ∈ am_GT := am_gt 116 (by decide +kernel) (by decide +kernel)
theorem gw_120 : Cond.fieldLink "CaveEchoes$Letter" 18 "CaveEchoes$Letter" "parameters" "[I" ∈ am_GT := am_gt 120 (by decide +kernel) (by decide +kernel)
theorem gw_123 : Cond.fieldLink "CaveEchoes$Letter" 21 "CaveEchoes$Letter" "lefts" "[I" ∈ am_GT := am_gt 123 (by decide +kernel) (by decide +kernel)
theorem gw_127 : Cond.fieldLink "CaveEchoes$Letter" 24 "CaveEchoes$Letter" "sound" "[I" ∈ am_GT := am_gt 127 (by decide +kernel) (by decide +kernel)
theorem gw_130 : Cond.fieldLink "CaveEchoes$Letter" 27 "CaveEchoes$Letter" "count" "I" ∈ am_GT := am_gt 130 (by decide +kernel) (by decide +kernel)
theorem gw_134 : Cond.fieldLink "CaveEchoes$Letter" 31 "CaveEchoes$Letter" "delay" "I" ∈ am_GT := am_gt 134 (by decide +kernel) (by decide +kernel)
theorem gw_137 : Cond.fieldLink "CaveEchoes$Letter" 34 "CaveEchoes$Letter" "speed" "I" ∈ am_GT := am_gt 137 (by decide +kernel) (by decide +kernel)
theorem ci_X2_5 {hi : am_HI} {g : am_G} (hg : g.1 = some 6) (hz : hi 5 = fun _ => 0) (hr : g.2.1 5 = fun _ => none) : am_Cn M_X2_init (5, 112) [.ref 5] hi g (FINP 5 11 hi g) := by
  refine am_cn rfl (by decide) (Nat.le_of_ble_eq_true rfl) (fun Φ hΦ => ?_)
  show NP M_X2_init _ 0 [.ref 5] [] hi g Φ
  have iv := IV.st hg hz hr
  refine NP.aload_n (i := 0) d_X2_init_0 rfl rfl ?_
  refine NP.objInit d_X2_init_1 gw_112 (by decide) (by decide) ?_
  refine NP.aload_n (i := 0) d_X2_init_4 rfl rfl ?_
  refine NP.iconst (x := 4) d_X2_init_5 (by decide) ?_
  refine NP.newI (b := (4, 108)) (n := 6) (N := 4) d_X2_init_6 iv.1 rfl rfl (by decide) ?_
  have iw1 := iv.new
  generalize am_mkI hi 6 = h1 at iw1 ⊢
  generalize am_mk g 6 = g1 at iw1 ⊢
  have iv1 := iw1.done rfl rfl
  refine NP.putRF (ci := 2) (j := 0) (q := (RX2, TX2, 8)) d_X2_init_8 rfl (iv1.lt (by decide)) rfl (by decide) rfl rfl rfl rfl rfl (fun _ => rfl) (fun _ => rfl) gw_113 ?_
  have iv2 := iv1.putR 0 6
  generalize am_upr g1 5 0 6 = g2 at iv2 ⊢
  refine NP.aload_n (i := 0) d_X2_init_11 rfl rfl ?_
  refine NP.bipush (x := 6) d_X2_init_12 (by decide) ?_
  refine NP.newI (b := (3, 102)) (n := 7) (N := 6) d_X2_init_14 iv2.1 rfl rfl (by decide) ?_
  have iw3 := iv2.new
  generalize am_mkI h1 7 = h3 at iw3 ⊢
  generalize am_mk g2 7 = g3 at iw3 ⊢
  have iv3 := iw3.done rfl rfl
  refine NP.putRF (ci := 2) (j := 1) (q := (RX2, TX2, 8)) d_X2_init_16 rfl (iv3.lt (by decide)) rfl (by decide) rfl rfl rfl rfl rfl (fun _ => rfl) (fun _ => rfl) gw_116 ?_
  have iv4 := iv3.putR 1 7
  generalize am_upr g3 5 1 7 = g4 at iv4 ⊢
  refine NP.aload_n (i := 0) d_X2_init_19 rfl rfl ?_
  refine NP.bipush (x := 6) d_X2_init_20 (by decide) ?_
  refine NP.newI (b := (2, 96)) (n := 8) (N := 6) d_X2_init_22 iv4.1 rfl rfl (by decide) ?_
  have iw5 := iv4.new
  generalize am_mkI h3 8 = h5 at iw5 ⊢
  generalize am_mk g4 8 = g5 at iw5 ⊢
  have iv5 := iw5.done rfl rfl
  refine NP.putRF (ci := 2) (j := 2) (q := (RX2, TX2, 8)) d_X2_init_24 rfl (iv5.lt (by decide)) rfl (by decide) rfl rfl rfl rfl rfl (fun _ => rfl) (fun _ => rfl) gw_120 ?_
  have iv6 := iv5.putR 2 8
  generalize am_upr g5 5 2 8 = g6 at iv6 ⊢
  refine NP.aload_n (i := 0) d_X2_init_27 rfl rfl ?_
  refine NP.bipush (x := 48) d_X2_init_28 (by decide) ?_
  refine NP.newI (b := (1, 48)) (n := 9) (N := 48) d_X2_init_30 iv6.1 rfl rfl (by decide) ?_
  have iw7 := iv6.new
  generalize am_mkI h5 9 = h7 at iw7 ⊢
  generalize am_mk g6 9 = g7 at iw7 ⊢
  have iv7 := iw7.done rfl rfl
  refine NP.putRF (ci := 2) (j := 3) (q := (RX2, TX2, 8)) d_X2_init_32 rfl (iv7.lt (by decide)) rfl (by decide) rfl rfl rfl rfl rfl (fun _ => rfl) (fun _ => rfl) gw_123 ?_
  have iv8 := iv7.putR 3 9
  generalize am_upr g7 5 3 9 = g8 at iv8 ⊢
  refine NP.aload_n (i := 0) d_X2_init_35 rfl rfl ?_
  refine NP.bipush (x := 48) d_X2_init_36 (by decide) ?_
  refine NP.newI (b := (0, 0)) (n := 10) (N := 48) d_X2_init_38 iv8.1 rfl rfl (by decide) ?_
  have iw9 := iv8.new
  generalize am_mkI h7 10 = h9 at iw9 ⊢
  generalize am_mk g8 10 = g9 at iw9 ⊢
  have iv9 := iw9.done rfl rfl
  refine NP.putRF (ci := 2) (j := 4) (q := (RX2, TX2, 8)) d_X2_init_40 rfl (iv9.lt (by decide)) rfl (by decide) rfl rfl rfl rfl rfl (fun _ => rfl) (fun _ => rfl) gw_127 ?_
  have iv10 := iv9.putR 4 10
  generalize am_upr g9 5 4 10 = g10 at iv10 ⊢
  refine NP.aload_n (i := 0) d_X2_init_43 rfl rfl ?_
  refine NP.iconst (x := 0) d_X2_init_44 (by decide) ?_
  refine NP.putI (ci := 2) (j := 5) (q := (RX2, TX2, 8)) d_X2_init_45 rfl (iv10.lt (by decide)) rfl (by decide) rfl rfl gw_130 ?_
  have iv11 := iv10.putI 5 0
  generalize am_up h9 5 5 0 = h11 at iv11 ⊢
  refine NP.aload_n (i := 0) d_X2_init_48 rfl rfl ?_
  refine NP.iconst (x := 1) d_X2_init_49 (by decide) ?_
  refine NP.putI (ci := 2) (j := 6) (q := (RX2, TX2, 8)) d_X2_init_50 rfl (iv11.lt (by decide)) rfl (by decide) rfl rfl gw_134 ?_
  have iv12 := iv11.putI 6 1
  generalize am_up h11 5 6 1 = h12 at iv12 ⊢
  refine NP.aload_n (i := 0) d_X2_init_53 rfl rfl ?_
  refine NP.iconst (x := 0) d_X2_init_54 (by decide) ?_
  refine NP.putI (ci := 2) (j := 7) (q := (RX2, TX2, 8)) d_X2_init_55 rfl (iv12.lt (by decide)) rfl (by decide) rfl rfl gw_137 ?_
  have iv13 := iv12.putI 7 0
  generalize am_up h12 5 7 0 = h13 at iv13 ⊢
  exact NP.vret d_X2_init_58 rfl (hΦ _ _ (iv13.fin rfl hr_5))
theorem gw_332 : Cond.methodLink "CaveEchoes$Paper" 3 Lib.objectInit ∈ am_GT := am_gt 332 (by decide +kernel) (by decide +kernel)
theorem gw_333 : Cond.fieldLink "CaveEchoes$Paper" 9 "CaveEchoes$Paper" "ones" "[Z" ∈ am_GT := am_gt 333 (by decide +kernel) (by decide +kernel)
theorem gw_334 : Cond.fieldLink "CaveEchoes$Paper" 15 "CaveEchoes$Paper" "length" "I" ∈ am_GT := am_gt 334 (by decide +kernel) (by decide +kernel)
theorem gw_336 : Cond.fieldLink "CaveEchoes$Paper" 19 "CaveEchoes$Paper" "at" "I" ∈ am_GT := am_gt 336 (by decide +kernel) (by decide +kernel)
theorem ci_X3_121 {hi : am_HI} {g : am_G} (hg : g.1 = some 122) (hz : hi 121 = fun _ => 0) (hr : g.2.1 121 = fun _ => none) : am_Cn M_X3_init (1, 19092) [.ref 121] hi g (FINP 121 123 hi g) := by
  refine am_cn rfl (by decide) (Nat.le_of_ble_eq_true rfl) (fun Φ hΦ => ?_)
  show NP M_X3_init _ 0 [.ref 121] [] hi g Φ
  have iv := IV.st hg hz hr
  refine NP.aload_n (i := 0) d_X3_init_0 rfl rfl ?_
  refine NP.objInit d_X3_init_1 gw_332 (by decide) (by decide) ?_
  refine NP.aload_n (i := 0) d_X3_init_4 rfl rfl ?_
  refine NP.sipush (x := 19092) d_X3_init_5 (by decide) ?_
  refine NP.newZ (b := (0, 0)) (n := 122) (N := 19092) d_X3_init_8 iv.1 rfl rfl (by decide) ?_
  have iw1 := iv.new
  generalize am_mkI hi 122 = h1 at iw1 ⊢
  generalize am_mk g 122 = g1 at iw1 ⊢
  have iv1 := iw1.done rfl rfl
  refine NP.putRF (ci := 3) (j := 0) (q := (RX3, TX3, 3)) d_X3_init_10 rfl (iv1.lt (by decide)) rfl (by decide) rfl rfl rfl rfl rfl (fun _ => rfl) (fun _ => rfl) gw_333 ?_
  have iv2 := iv1.putR 0 122
  generalize am_upr g1 121 0 122 = g2 at iv2 ⊢
  refine NP.aload_n (i := 0) d_X3_init_13 rfl rfl ?_
  refine NP.iconst (x := 0) d_X3_init_14 (by decide) ?_
  refine NP.putI (ci := 3) (j := 1) (q := (RX3, TX3, 3)) d_X3_init_15 rfl (iv2.lt (by decide)) rfl (by decide) rfl rfl gw_334 ?_
  have iv3 := iv2.putI 1 0
  generalize am_up h1 121 1 0 = h3 at iv3 ⊢
  refine NP.aload_n (i := 0) d_X3_init_18 rfl rfl ?_
  refine NP.iconst (x := 0) d_X3_init_19 (by decide) ?_
  refine NP.putI (ci := 3) (j := 2) (q := (RX3, TX3, 3)) d_X3_init_20 rfl (iv3.lt (by decide)) rfl (by decide) rfl rfl gw_336 ?_
  have iv4 := iv3.putI 2 0
  generalize am_up h3 121 2 0 = h4 at iv4 ⊢
  exact NP.vret d_X3_init_23 rfl (hΦ _ _ (iv4.fin rfl hr_121))
theorem gw_290 : Cond.methodLink "CaveEchoes$Works" 3 Lib.objectInit ∈ am_GT := am_gt 290 (by decide +kernel) (by decide +kernel)
theorem gw_291 : Cond.fieldLink "CaveEchoes$Works" 9 "CaveEchoes$Works" "codes" "[I" ∈ am_GT := am_gt 291 (by decide +kernel) (by decide +kernel)
theorem gw_292 : Cond.fieldLink "CaveEchoes$Works" 15 "CaveEchoes$Works" "length" "I" ∈ am_GT := am_gt 292 (by decide +kernel) (by decide +kernel)
theorem gw_294 : Cond.fieldLink "CaveEchoes$Works" 19 "CaveEchoes$Works" "at" "I" ∈ am_GT := am_gt 294 (by decide +kernel) (by decide +kernel)
theorem gw_296 : Cond.fieldLink "CaveEchoes$Works" 22 "CaveEchoes$Works" "work" "I" ∈ am_GT := am_gt 296 (by decide +kernel) (by decide +kernel)
theorem gw_298 : Cond.fieldLink "CaveEchoes$Works" 25 "CaveEchoes$Works" "place" "I" ∈ am_GT := am_gt 298 (by decide +kernel) (by decide +kernel)
theorem gw_300 : Cond.fieldLink "CaveEchoes$Works" 28 "CaveEchoes$Works" "value" "I" ∈ am_GT := am_gt 300 (by decide +kernel) (by decide +kernel)
theorem ci_X8_115 {hi : am_HI} {g : am_G} (hg : g.1 = some 116) (hz : hi 115 = fun _ => 0) (hr : g.2.1 115 = fun _ => none) : am_Cn M_X8_init (1, 80) [.ref 115] hi g (FINP 115 117 hi g) := by
  refine am_cn rfl (by decide) (Nat.le_of_ble_eq_true rfl) (fun Φ hΦ => ?_)
  show NP M_X8_init _ 0 [.ref 115] [] hi g Φ
  have iv := IV.st hg hz hr
  refine NP.aload_n (i := 0) d_X8_init_0 rfl rfl ?_
  refine NP.objInit d_X8_init_1 gw_290 (by decide) (by decide) ?_
  refine NP.aload_n (i := 0) d_X8_init_4 rfl rfl ?_
  refine NP.bipush (x := 80) d_X8_init_5 (by decide) ?_
  refine NP.newI (b := (0, 0)) (n := 116) (N := 80) d_X8_init_7 iv.1 rfl rfl (by decide) ?_
  have iw1 := iv.new
  generalize am_mkI hi 116 = h1 at iw1 ⊢
  generalize am_mk g 116 = g1 at iw1 ⊢
  have iv1 := iw1.done rfl rfl
  refine NP.putRF (ci := 8) (j := 0) (q := (RX8, TX8, 6)) d_X8_init_9 rfl (iv1.lt (by decide)) rfl (by decide) rfl rfl rfl rfl rfl (fun _ => rfl) (fun _ => rfl) gw_291 ?_
  have iv2 := iv1.putR 0 116
  generalize am_upr g1 115 0 116 = g2 at iv2 ⊢
  refine NP.aload_n (i := 0) d_X8_init_12 rfl rfl ?_
  refine NP.iconst (x := 0) d_X8_init_13 (by decide) ?_
  refine NP.putI (ci := 8) (j := 1) (q := (RX8, TX8, 6)) d_X8_init_14 rfl (iv2.lt (by decide)) rfl (by decide) rfl rfl gw_292 ?_
  have iv3 := iv2.putI 1 0
  generalize am_up h1 115 1 0 = h3 at iv3 ⊢
  refine NP.aload_n (i := 0) d_X8_init_17 rfl rfl ?_
  refine NP.iconst (x := 0) d_X8_init_18 (by decide) ?_
  refine NP.putI (ci := 8) (j := 2) (q := (RX8, TX8, 6)) d_X8_init_19 rfl (iv3.lt (by decide)) rfl (by decide) rfl rfl gw_294 ?_
  have iv4 := iv3.putI 2 0
  generalize am_up h3 115 2 0 = h4 at iv4 ⊢
  refine NP.aload_n (i := 0) d_X8_init_22 rfl rfl ?_
  refine NP.iconst (x := 0) d_X8_init_23 (by decide) ?_
  refine NP.putI (ci := 8) (j := 3) (q := (RX8, TX8, 6)) d_X8_init_24 rfl (iv4.lt (by decide)) rfl (by decide) rfl rfl gw_296 ?_
  have iv5 := iv4.putI 3 0
  generalize am_up h4 115 3 0 = h5 at iv5 ⊢
  refine NP.aload_n (i := 0) d_X8_init_27 rfl rfl ?_
  refine NP.iconst (x := 0) d_X8_init_28 (by decide) ?_
  refine NP.putI (ci := 8) (j := 4) (q := (RX8, TX8, 6)) d_X8_init_29 rfl (iv5.lt (by decide)) rfl (by decide) rfl rfl gw_298 ?_
  have iv6 := iv5.putI 4 0
  generalize am_up h5 115 4 0 = h6 at iv6 ⊢
  refine NP.aload_n (i := 0) d_X8_init_32 rfl rfl ?_
  refine NP.iconst (x := 0) d_X8_init_33 (by decide) ?_
  refine NP.putI (ci := 8) (j := 5) (q := (RX8, TX8, 6)) d_X8_init_34 rfl (iv6.lt (by decide)) rfl (by decide) rfl rfl gw_300 ?_
  have iv7 := iv6.putI 5 0
  generalize am_up h6 115 5 0 = h7 at iv7 ⊢
  exact NP.vret d_X8_init_37 rfl (hΦ _ _ (iv7.fin rfl hr_115))
theorem gw_106 : Cond.methodLink "CaveEchoes$State" 3 Lib.objectInit ∈ am_GT := am_gt 106 (by decide +kernel) (by decide +kernel)
theorem gw_158 : Cond.fieldLink "CaveEchoes$State" 9 "CaveEchoes$State" "sound" "[I" ∈ am_GT := am_gt 158 (by decide +kernel) (by decide +kernel)
theorem gw_161 : Cond.fieldLink "CaveEchoes$State" 15 "CaveEchoes$State" "first" "[I" ∈ am_GT := am_gt 161 (by decide +kernel) (by decide +kernel)
theorem gw_107 : Cond.classLink "CaveEchoes$State" 18 "CaveEchoes$Letter" ∈ am_GT := am_gt 107 (by decide +kernel) (by decide +kernel)
theorem gw_108 : Cond.instantiable "CaveEchoes$Letter" 8 ∈ am_GT := am_gt 108 (by decide +kernel) (by decide +kernel)
theorem gw_70 : Cond.initialized "CaveEchoes$Letter" ∈ am_GT := am_gt 70 (by decide +kernel) (by decide +kernel)
theorem gw_109 : Cond.methodLinkNest "CaveEchoes$State" 20 yX2_init "CaveEchoes" ∈ am_NW := am_nw 109 (by decide +kernel) (by decide +kernel)
theorem gw_111 : Cond.code yX2_init prog_4_method_1_code 1 none ∈ am_GT := am_gt 111 (by decide +kernel) (by decide +kernel)
theorem gw_110 : Cond.instanceMethod yX2_init ∈ am_GT := am_gt 110 (by decide +kernel) (by decide +kernel)
theorem ki_X6_init_20 : am_csI M_X6_init 20 M_X2_init := ⟨by decide +kernel, rfl, rfl, gw_70, gw_111, gw_110, Or.inr gw_109⟩
theorem gw_164 : Cond.fieldLink "CaveEchoes$State" 21 "CaveEchoes$State" "letter" "LCaveEchoes$Letter;" ∈ am_GT := am_gt 164 (by decide +kernel) (by decide +kernel)
theorem gw_166 : Cond.fieldLink "CaveEchoes$State" 25 "CaveEchoes$State" "count" "I" ∈ am_GT := am_gt 166 (by decide +kernel) (by decide +kernel)
theorem gw_169 : Cond.fieldLink "CaveEchoes$State" 29 "CaveEchoes$State" "delay" "I" ∈ am_GT := am_gt 169 (by decide +kernel) (by decide +kernel)
theorem gw_172 : Cond.fieldLink "CaveEchoes$State" 32 "CaveEchoes$State" "speed" "I" ∈ am_GT := am_gt 172 (by decide +kernel) (by decide +kernel)
theorem gw_175 : Cond.fieldLink "CaveEchoes$State" 35 "CaveEchoes$State" "allowedKinds" "I" ∈ am_GT := am_gt 175 (by decide +kernel) (by decide +kernel)
theorem gw_177 : Cond.fieldLink "CaveEchoes$State" 38 "CaveEchoes$State" "lettersSent" "I" ∈ am_GT := am_gt 177 (by decide +kernel) (by decide +kernel)
theorem ci_X6_2 {hi : am_HI} {g : am_G} (hg : g.1 = some 3) (hz : hi 2 = fun _ => 0) (hr : g.2.1 2 = fun _ => none) : am_Cn M_X6_init (8, 172) [.ref 2] hi g (FINP 2 11 hi g) := by
  refine am_cn rfl (by decide) (Nat.le_of_ble_eq_true rfl) (fun Φ hΦ => ?_)
  show NP M_X6_init _ 0 [.ref 2] [] hi g Φ
  have iv := IV.st hg hz hr
  refine NP.aload_n (i := 0) d_X6_init_0 rfl rfl ?_
  refine NP.objInit d_X6_init_1 gw_106 (by decide) (by decide) ?_
  refine NP.aload_n (i := 0) d_X6_init_4 rfl rfl ?_
  refine NP.bipush (x := 48) d_X6_init_5 (by decide) ?_
  refine NP.newI (b := (7, 124)) (n := 3) (N := 48) d_X6_init_7 iv.1 rfl rfl (by decide) ?_
  have iw1 := iv.new
  generalize am_mkI hi 3 = h1 at iw1 ⊢
  generalize am_mk g 3 = g1 at iw1 ⊢
  have iv1 := iw1.done rfl rfl
  refine NP.putRF (ci := 6) (j := 0) (q := (RX6, TX6, 8)) d_X6_init_9 rfl (iv1.lt (by decide)) rfl (by decide) rfl rfl rfl rfl rfl (fun _ => rfl) (fun _ => rfl) gw_158 ?_
  have iv2 := iv1.putR 0 3
  generalize am_upr g1 2 0 3 = g2 at iv2 ⊢
  refine NP.aload_n (i := 0) d_X6_init_12 rfl rfl ?_
  refine NP.iconst (x := 4) d_X6_init_13 (by decide) ?_
  refine NP.newI (b := (6, 120)) (n := 4) (N := 4) d_X6_init_14 iv2.1 rfl rfl (by decide) ?_
  have iw3 := iv2.new
  generalize am_mkI h1 4 = h3 at iw3 ⊢
  generalize am_mk g2 4 = g3 at iw3 ⊢
  refine NP.dup d_X6_init_16 rfl ?_
  refine NP.iconst (x := 0) d_X6_init_17 (by decide) ?_
  refine NP.bipush (x := 16) d_X6_init_18 (by decide) ?_
  refine NP.iast (n := 4) (j := 0) d_X6_init_20 rfl (iw3.lt (by decide)) (by decide) rfl (by decide) ?_
  have iw4 := iw3.putI 0 16
  generalize am_up h3 4 0 16 = h4 at iw4 ⊢
  refine NP.dup d_X6_init_21 rfl ?_
  refine NP.iconst (x := 1) d_X6_init_22 (by decide) ?_
  refine NP.iconst (x := 0) d_X6_init_23 (by decide) ?_
  refine NP.iast (n := 4) (j := 1) d_X6_init_24 rfl (iw4.lt (by decide)) (by decide) rfl (by decide) ?_
  have iw5 := iw4.putI 1 0
  generalize am_up h4 4 1 0 = h5 at iw5 ⊢
  refine NP.dup d_X6_init_25 rfl ?_
  refine NP.iconst (x := 2) d_X6_init_26 (by decide) ?_
  refine NP.iconst (x := 0) d_X6_init_27 (by decide) ?_
  refine NP.iast (n := 4) (j := 2) d_X6_init_28 rfl (iw5.lt (by decide)) (by decide) rfl (by decide) ?_
  have iw6 := iw5.putI 2 0
  generalize am_up h5 4 2 0 = h6 at iw6 ⊢
  refine NP.dup d_X6_init_29 rfl ?_
  refine NP.iconst (x := 3) d_X6_init_30 (by decide) ?_
  refine NP.iconst (x := 0) d_X6_init_31 (by decide) ?_
  refine NP.iast (n := 4) (j := 3) d_X6_init_32 rfl (iw6.lt (by decide)) (by decide) rfl (by decide) ?_
  have iw7 := iw6.putI 3 0
  generalize am_up h6 4 3 0 = h7 at iw7 ⊢
  have iv7 := iw7.done rfl rfl
  refine NP.putRF (ci := 6) (j := 1) (q := (RX6, TX6, 8)) d_X6_init_33 rfl (iv7.lt (by decide)) rfl (by decide) rfl rfl rfl rfl rfl (fun _ => rfl) (fun _ => rfl) gw_161 ?_
  have iv8 := iv7.putR 1 4
  generalize am_upr g3 2 1 4 = g8 at iv8 ⊢
  refine NP.aload_n (i := 0) d_X6_init_36 rfl rfl ?_
  refine NP.newo (b := (5, 112)) (n := 5) d_X6_init_37 iv8.1 rfl (q := (RX2, TX2, 8)) rfl rfl gw_107 gw_108 gw_70 ?_
  have iw9 := iv8.new
  generalize am_mkI h7 5 = h9 at iw9 ⊢
  generalize am_mk g8 5 = g9 at iw9 ⊢
  refine NP.dup d_X6_init_40 rfl ?_
  refine NP.init (b := (0, 0)) (b' := (5, 112)) d_X6_init_41 (ci_X2_5 iw9.1 iw9.2.2.2.2.2.1 iw9.2.2.2.2.2.2) ki_X6_init_20 (by decide) (FINP.ph iw9.1 (by decide)) (fun h10 g10 f10 => ?_)
  have iv10 := iw9.call f10 (by decide)
  refine NP.putRF (ci := 6) (j := 2) (q := (RX6, TX6, 8)) d_X6_init_44 rfl (iv10.lt (by decide)) rfl (by decide) rfl rfl rfl rfl rfl (fun _ => rfl) (fun _ => rfl) gw_164 ?_
  have iv11 := iv10.putR 2 5
  generalize am_upr g10 2 2 5 = g11 at iv11 ⊢
  refine NP.aload_n (i := 0) d_X6_init_47 rfl rfl ?_
  refine NP.iconst (x := 0) d_X6_init_48 (by decide) ?_
  refine NP.putI (ci := 6) (j := 3) (q := (RX6, TX6, 8)) d_X6_init_49 rfl (iv11.lt (by decide)) rfl (by decide) rfl rfl gw_166 ?_
  have iv12 := iv11.putI 3 0
  generalize am_up h10 2 3 0 = h12 at iv12 ⊢
  refine NP.aload_n (i := 0) d_X6_init_52 rfl rfl ?_
  refine NP.iconst (x := 4) d_X6_init_53 (by decide) ?_
  refine NP.putI (ci := 6) (j := 4) (q := (RX6, TX6, 8)) d_X6_init_54 rfl (iv12.lt (by decide)) rfl (by decide) rfl rfl gw_169 ?_
  have iv13 := iv12.putI 4 4
  generalize am_up h12 2 4 4 = h13 at iv13 ⊢
  refine NP.aload_n (i := 0) d_X6_init_57 rfl rfl ?_
  refine NP.iconst (x := 1) d_X6_init_58 (by decide) ?_
  refine NP.putI (ci := 6) (j := 5) (q := (RX6, TX6, 8)) d_X6_init_59 rfl (iv13.lt (by decide)) rfl (by decide) rfl rfl gw_172 ?_
  have iv14 := iv13.putI 5 1
  generalize am_up h13 2 5 1 = h14 at iv14 ⊢
  refine NP.aload_n (i := 0) d_X6_init_62 rfl rfl ?_
  refine NP.bipush (x := 31) d_X6_init_63 (by decide) ?_
  refine NP.putI (ci := 6) (j := 6) (q := (RX6, TX6, 8)) d_X6_init_65 rfl (iv14.lt (by decide)) rfl (by decide) rfl rfl gw_175 ?_
  have iv15 := iv14.putI 6 31
  generalize am_up h14 2 6 31 = h15 at iv15 ⊢
  refine NP.aload_n (i := 0) d_X6_init_68 rfl rfl ?_
  refine NP.iconst (x := 0) d_X6_init_69 (by decide) ?_
  refine NP.putI (ci := 6) (j := 7) (q := (RX6, TX6, 8)) d_X6_init_70 rfl (iv15.lt (by decide)) rfl (by decide) rfl rfl gw_177 ?_
  have iv16 := iv15.putI 7 0
  generalize am_up h15 2 7 0 = h16 at iv16 ⊢
  exact NP.vret d_X6_init_73 rfl (hΦ _ _ (iv16.fin rfl hr_2))
