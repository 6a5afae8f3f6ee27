/-! ===== the references that stay ===== -/
def am_HRL : List (List (Option Nat)) := [[some 1, some 2, some 38, some 94, some 115, some 117, some 121], [some 2, some 11, some 14, some 15, some 21, some 26, some 32], [some 3, some 4, some 5, none, none, none, none, none], [], [], [some 6, some 7, some 8, some 9, some 10, none, none, none], [], [], [], [], [], [some 12, some 13, none, none, none, none], [], [], [], [some 16, some 17, some 18, some 19, some 20], [], [], [], [], [], [some 22, some 23, some 24, some 25], [], [], [], [], [some 27, some 28, some 29, some 30, some 31], [], [], [], [], [], [some 33, some 34, some 35, some 36, some 37], [], [], [], [], [], [some 39, none], [], [some 41, some 42, some 43, none, none, none, none, none], [], [], [some 44, some 45, some 46, some 47, some 48, none, none, none], [], [], [], [], [], [some 50, some 51, some 52, none, none, none, none, none], [], [], [some 53, some 54, some 55, some 56, some 57, none, none, none], [], [], [], [], [], [some 59, some 60, some 61, none, none, none, none, none], [], [], [some 62, some 63, some 64, some 65, some 66, none, none, none], [], [], [], [], [], [some 68, some 69, some 70, none, none, none, none, none], [], [], [some 71, some 72, some 73, some 74, some 75, none, none, none], [], [], [], [], [], [some 77, some 78, some 79, none, none, none, none, none], [], [], [some 80, some 81, some 82, some 83, some 84, none, none, none], [], [], [], [], [], [some 86, some 87, some 88, none, none, none, none, none], [], [], [some 89, some 90, some 91, some 92, some 93, none, none, none], [], [], [], [], [], [some 95, some 114], [some 96, some 105], [some 97, some 98, some 99, none, none, none, none, none], [], [], [some 100, some 101, some 102, some 103, some 104, none, none, none], [], [], [], [], [], [some 106, some 107, some 108, none, none, none, none, none], [], [], [some 109, some 110, some 111, some 112, some 113, none, none, none], [], [], [], [], [], [], [some 116, none, none, none, none, none], [], [some 118], [some 119, some 120, none, none, none, none], [], [], [some 122, none, none], [], [some 124, some 125, none, some 126, some 127, some 128, some 129, some 130, some 131, none, none, some 132, none, none, none], [], [], [], [], [], [], [], [], [], []]
def am_HRf (k j : Nat) : Option Nat := (am_HRL.getD k []).getD j none
/-- all is made, and every reference is where it was put, but for the rows of saved states (the cell 39) -/
def am_Inv (g : am_G) : Prop := g.1 = none ∧ ∀ k j : Nat, k ≠ 39 → g.2.1 k j = am_HRf k j
theorem am_Inv.lt {g : am_G} (h : am_Inv g) {k : Nat} (hk : k < 134) : k < am_N g.1 := by
  rw [h.1]
  exact hk
theorem am_Inv.r {g : am_G} (h : am_Inv g) {k j r : Nat} (hk : k ≠ 39) (hr : am_HRf k j = some r) : g.2.1 k j = some r := (h.2 k j hk).trans hr
/-- a contract of a method that makes nothing, throws nothing, moves no reference: its answer, and what holds of the numbers then -/
def am_Cr (M : am_M) (av : List Value) (hi : am_HI) (g : am_G) (r : Option Value) (P : am_HI → Prop) : Prop := am_Ct M (0, 0) av hi g (fun r' hi' g' => r' = .ok r ∧ g' = g ∧ P hi')
theorem am_Ct.mono {M : am_M} {b : Nat × Nat} {av : List Value} {hi : am_HI} {g : am_G} {Φ Ψ : am_P} (h : am_Ct M b av hi g Φ) (hm : ∀ r hi' g', Φ r hi' g' → Ψ r hi' g') : am_Ct M b av hi g Ψ := by
  intro l v hl p e ha hc hk s m args below hf h1 h2 h3
  obtain ⟨k, o, e1, e2, e3, e4⟩ := h l v hl p e ha hc hk s m args below hf h1 h2 h3
  refine ⟨k, o, e1, e2, e3, ?_⟩
  rcases e4 with ⟨⟨r, hi', g', a1, a2, a3⟩, a4⟩ | ⟨q, a0, E, ce, L, ⟨hi', g', a2, a3⟩, a4⟩
  · exact Or.inl ⟨⟨r, hi', g', a1, hm _ _ _ a2, a3⟩, a4⟩
  · exact Or.inr ⟨q, a0, E, ce, L, ⟨hi', g', hm _ _ _ a2, a3⟩, a4⟩
theorem am_Cr.mono {M : am_M} {av : List Value} {hi : am_HI} {g : am_G} {r : Option Value} {P Q : am_HI → Prop} (h : am_Cr M av hi g r P) (hm : ∀ hi', P hi' → Q hi') : am_Cr M av hi g r Q :=
  am_Ct.mono h (fun _ _ _ q => ⟨q.1, q.2.1, hm _ q.2.2⟩)
theorem am_ci (n : Int32) : (Value.int n).category = 1 := rfl
theorem am_cr (n : Nat) : (Value.ref n).category = 1 := rfl
theorem am_cl (n : Int64) : (Value.long n).category = 2 := rfl
theorem am_cd (n : UInt64) : (Value.double n).category = 2 := rfl
section CR
variable {M M' : am_M} {b : Nat × Nat} {pc : Nat} {L st rest : List Value} {hi : am_HI} {g : am_G} {Φ : am_P} {r : Option Value} {P : am_HI → Prop}
theorem AP.callVr {idx k ci : Nat} {q : vw_C} {As : List Value} (hI : am_Inv g) (hc : am_Cr M' (.ref k :: As) hi g r P) (cs : am_csV M idx M' As.length) (hd : decode (am_cc M) pc = .ok (.invokevirtual idx, 3)) (hst : st = As.reverse ++ .ref k :: rest) (hs : am_SH k = (0, ci)) (hk : k < 134) (hq : vwCl[ci]? = some q) (hC : q.1 = (am_y M').cls) (hrest : (rest.map Value.category).sum ≤ 8)
    (h : ∀ hi' : am_HI, P hi' → AP M b (pc + 3) L (r.toList ++ rest) hi' g Φ) : AP M b pc L st hi g Φ :=
  AP.callV (b2 := b) hc cs hd hst hs (hI.lt hk) hq hC hrest ⟨by show 0 + b.1 ≤ b.1; omega, by show 0 + b.2 ≤ b.2; omega⟩ (am_ph.none hI.1 (fun r hi' g' h => by rw [h.2.1]; exact hI.1)) (fun E hi' g' h => by cases h.1) (fun r' hi' g' h' => by
    obtain ⟨h1, rfl, h3⟩ := h'
    cases h1
    exact h hi' h3)
theorem AP.callSr {idx : Nat} {As : List Value} (hI : am_Inv g) (hc : am_Cr M' As hi g r P) (cs : am_csS M idx M' As.length) (hd : decode (am_cc M) pc = .ok (.invokestatic idx, 3)) (hst : st = As.reverse ++ rest) (hrest : (rest.map Value.category).sum ≤ 8)
    (h : ∀ hi' : am_HI, P hi' → AP M b (pc + 3) L (r.toList ++ rest) hi' g Φ) : AP M b pc L st hi g Φ :=
  AP.callS (b2 := b) hc cs hd hst hrest ⟨by show 0 + b.1 ≤ b.1; omega, by show 0 + b.2 ≤ b.2; omega⟩ (am_ph.none hI.1 (fun r hi' g' h => by rw [h.2.1]; exact hI.1)) (fun E hi' g' h => by cases h.1) (fun r' hi' g' h' => by
    obtain ⟨h1, rfl, h3⟩ := h'
    cases h1
    exact h hi' h3)
theorem AP.callNr {idx : Nat} {As : List Value} (hI : am_Inv g) (hc : am_Cr M' As hi g r P) (cs : am_csN M idx M' As.length) (hd : decode (am_cc M) pc = .ok (.invokestatic idx, 3)) (hst : st = As.reverse ++ rest) (hrest : (rest.map Value.category).sum ≤ 8)
    (h : ∀ hi' : am_HI, P hi' → AP M b (pc + 3) L (r.toList ++ rest) hi' g Φ) : AP M b pc L st hi g Φ :=
  AP.callSN (b2 := b) hc cs hd hst hrest ⟨by show 0 + b.1 ≤ b.1; omega, by show 0 + b.2 ≤ b.2; omega⟩ (am_ph.none hI.1 (fun r hi' g' h => by rw [h.2.1]; exact hI.1)) (fun E hi' g' h => by cases h.1) (fun r' hi' g' h' => by
    obtain ⟨h1, rfl, h3⟩ := h'
    cases h1
    exact h hi' h3)
end CR
