/-! ===== the class: states are changed ===== -/
/-- where the number j of a state lies -/
def cmR (k i j : Nat) : Prop := (k = 3 ∧ i = j ∧ j < 48) ∨ (k = 2 ∧ i = 3 ∧ j = 48) ∨ (k = 2 ∧ i = 4 ∧ j = 49) ∨ (k = 2 ∧ i = 5 ∧ j = 50) ∨ (k = 4 ∧ i < 4 ∧ j = 51 + i) ∨ (k = 2 ∧ i = 6 ∧ j = 55) ∨ (k = 5 ∧ i = 5 ∧ j = 56) ∨ (k = 5 ∧ i = 6 ∧ j = 57) ∨ (k = 5 ∧ i = 7 ∧ j = 58) ∨ (k = 6 ∧ i < 4 ∧ j = 59 + i) ∨ (k = 7 ∧ i < 6 ∧ j = 63 + i) ∨ (k = 8 ∧ i < 6 ∧ j = 69 + i) ∨ (k = 9 ∧ i < 48 ∧ j = 75 + i) ∨ (k = 10 ∧ i < 48 ∧ j = 123 + i) ∨ (k = 2 ∧ i = 7 ∧ j = 171)
theorem ZB.cm {hi : am_HI} {z : Nat → Int32} : ZB hi 2 z ↔ ∀ k i j, cmR k i j → (j = 57 → z 56 ≠ 0) → hi k i = z j := by
  constructor
  · rintro ⟨⟨a1, a2, a3, a4, a5, a6⟩, ⟨b1, b2, b3, b4, b5, b6, b7, b8⟩, c1⟩ k i j h h57
    rcases h with ⟨rfl, rfl, h⟩ | ⟨rfl, rfl, rfl⟩ | ⟨rfl, rfl, rfl⟩ | ⟨rfl, rfl, rfl⟩ | ⟨rfl, h, rfl⟩ | ⟨rfl, rfl, rfl⟩ | ⟨rfl, rfl, rfl⟩ | ⟨rfl, rfl, rfl⟩ | ⟨rfl, rfl, rfl⟩ | ⟨rfl, h, rfl⟩ | ⟨rfl, h, rfl⟩ | ⟨rfl, h, rfl⟩ | ⟨rfl, h, rfl⟩ | ⟨rfl, h, rfl⟩ | ⟨rfl, rfl, rfl⟩
    · exact a1 _ h
    · exact a2
    · exact a3
    · exact a4
    · exact a5 _ h
    · exact a6
    · exact b1
    · exact b2 (h57 rfl)
    · exact b3
    · exact b4 _ h
    · exact b5 _ h
    · exact b6 _ h
    · exact b7 _ h
    · exact b8 _ h
    · exact c1
  · intro h
    have q : ∀ k i j, cmR k i j → j ≠ 57 → hi k i = z j := fun k i j a b => h k i j a (fun e => absurd e b)
    exact ⟨⟨fun t ht => q 3 t t (by simp only [cmR]; simp; try omega) (by omega), q 2 3 48 (by simp only [cmR]; simp; try omega) (by omega), q 2 4 49 (by simp only [cmR]; simp; try omega) (by omega), q 2 5 50 (by simp only [cmR]; simp; try omega) (by omega), fun t ht => q 4 t (51 + t) (by simp only [cmR]; simp; try omega) (by omega), q 2 6 55 (by simp only [cmR]; simp; try omega) (by omega)⟩, ⟨q 5 5 56 (by simp only [cmR]; simp; try omega) (by omega), fun e => h 5 6 57 (by simp [cmR]) (fun _ => e), q 5 7 58 (by simp only [cmR]; simp; try omega) (by omega), fun t ht => q 6 t (59 + t) (by simp only [cmR]; simp; try omega) (by omega), fun t ht => q 7 t (63 + t) (by simp only [cmR]; simp; try omega) (by omega), fun t ht => q 8 t (69 + t) (by simp only [cmR]; simp; try omega) (by omega), fun t ht => q 9 t (75 + t) (by simp only [cmR]; simp; try omega) (by omega), fun t ht => q 10 t (123 + t) (by simp only [cmR]; simp; try omega) (by omega)⟩, q 2 7 171 (by simp only [cmR]; simp; try omega) (by omega)⟩
theorem ZB.up {hi : am_HI} {z : Nat → Int32} {k0 i0 j0 : Nat} {v : Int32} (h : ZB hi 2 z) (hj : j0 ≠ 56) (e : ∀ k i j, cmR k i j → ((k = k0 ∧ i = i0) ↔ j = j0)) : ZB (am_up hi k0 i0 v) 2 (upd z j0 v) := by
  rw [ZB.cm] at h ⊢
  intro k i j hc h57
  have hh := e k i j hc
  rw [up_n (Ne.symm hj)] at h57
  rw [up_r]
  by_cases he : j = j0
  · rw [if_pos (hh.mpr he), he, up_f]
  · rw [if_neg (fun q => he (hh.mp q)), up_n he]
    exact h k i j hc h57
theorem ZB.cg {hi : am_HI} {B : Nat} {z z' : Nat → Int32} (h : ZB hi B z) (e : ∀ j, j < 172 → z j = z' j) : ZB hi B z' := by
  obtain ⟨⟨a1, a2, a3, a4, a5, a6⟩, ⟨b1, b2, b3, b4, b5, b6, b7, b8⟩, c1⟩ := h
  exact ⟨⟨fun t ht => (a1 t ht).trans (e _ (by omega)), a2.trans (e _ (by omega)), a3.trans (e _ (by omega)), a4.trans (e _ (by omega)), fun t ht => (a5 t ht).trans (e _ (by omega)), a6.trans (e _ (by omega))⟩, ⟨b1.trans (e _ (by omega)), fun q => (b2 (by rw [e 56 (by omega)]; exact q)).trans (e _ (by omega)), b3.trans (e _ (by omega)), fun t ht => (b4 t ht).trans (e _ (by omega)), fun t ht => (b5 t ht).trans (e _ (by omega)), fun t ht => (b6 t ht).trans (e _ (by omega)), fun t ht => (b7 t ht).trans (e _ (by omega)), fun t ht => (b8 t ht).trans (e _ (by omega))⟩, c1.trans (e _ (by omega))⟩
theorem OKz.cg {z z' : Nat → Int32} (h : OKz z) (e : ∀ j, j < 172 → z j = z' j) : OKz z' := by
  obtain ⟨⟨h1, h2, h3, h4, h5, h6, a, h7⟩, k1, k2, k3, k4, k5, k6⟩ := h
  unfold OKz
  unfold zc zd zt zld at *
  refine ⟨⟨?_, ?_, ?_, ?_, ?_, ?_, a, ?_⟩, ?_, ?_, ?_, ?_, ?_, ?_⟩
  · rw [← e 48 (by omega)]; exact h1
  · rw [← e 48 (by omega)]; exact h2
  · rw [← e 49 (by omega)]; exact h3
  · rw [← e 49 (by omega)]; exact h4
  · rw [← e 49 (by omega)]; exact h5
  · intro t ht; rw [← e t (by omega)]; exact h6 t ht
  · rw [← e 55 (by omega)]; exact h7
  · rw [← e 56 (by omega)]; exact k1
  · rw [← e 56 (by omega)]; exact k2
  · rw [← e 56 (by omega), ← e 57 (by omega)]; exact k3
  · intro b hb; rw [← e (63 + b) (by omega)]; exact k4 b hb
  · intro b hb; rw [← e (69 + b) (by omega)]; exact k5 b hb
  · intro t ht; rw [← e (75 + t) (by omega)]; exact k6 t ht
theorem OKz.up {z : Nat → Int32} {j : Nat} {v : Int32} (h : OKz z) (c1 : j < 48 → rng v) (c2 : j = 48 → ∃ c : Nat, c ≤ 48 ∧ v = nI c) (c3 : j = 49 → ∃ d : Nat, 1 ≤ d ∧ d ≤ 12 ∧ v = nI d) (c4 : j = 55 → ∃ a : Nat, v = nI a ∧ 1 ≤ a ∧ a ≤ 31) (c5 : j ≠ 56) (c6 : j ≠ 57) (c7 : j < 63 ∨ 75 ≤ j) (c8 : 75 ≤ j → j < 123 → -198 ≤ v.toInt ∧ v.toInt ≤ 198) : OKz (upd z j v) := by
  obtain ⟨⟨h1, h2, h3, h4, h5, h6, h7⟩, k1, k2, k3, k4, k5, k6⟩ := h
  have n0 : ∀ n : Nat, n < 1000 → (nI n).toInt.toNat = n := fun n hn => by rw [am_nI (by omega)]; exact Int.toNat_natCast n
  unfold OKz
  unfold zc zd zt zld at *
  rw [up_n (j := j) (i := 56) (Ne.symm c5), up_n (j := j) (i := 57) (Ne.symm c6)]
  refine ⟨⟨?_, ?_, ?_, ?_, ?_, ?_, ?_⟩, k1, k2, k3, ?_, ?_, ?_⟩
  · by_cases e : 48 = j
    · obtain ⟨c, q1, q2⟩ := c2 e.symm
      rw [← e, up_f, q2, n0 c (by omega)]
    · rw [up_n e]; exact h1
  · by_cases e : 48 = j
    · obtain ⟨c, q1, q2⟩ := c2 e.symm
      rw [← e, up_f, q2, n0 c (by omega)]; exact q1
    · rw [up_n e]; exact h2
  · by_cases e : 49 = j
    · obtain ⟨d, q1, q2, q3⟩ := c3 e.symm
      rw [← e, up_f, q3, n0 d (by omega)]
    · rw [up_n e]; exact h3
  · by_cases e : 49 = j
    · obtain ⟨d, q1, q2, q3⟩ := c3 e.symm
      rw [← e, up_f, q3, n0 d (by omega)]; exact q1
    · rw [up_n e]; exact h4
  · by_cases e : 49 = j
    · obtain ⟨d, q1, q2, q3⟩ := c3 e.symm
      rw [← e, up_f, q3, n0 d (by omega)]; exact q2
    · rw [up_n e]; exact h5
  · intro t ht
    by_cases e : t = j
    · rw [← e, up_f]; exact c1 (by omega)
    · rw [up_n e]; exact h6 t ht
  · by_cases e : 55 = j
    · obtain ⟨a, q⟩ := c4 e.symm
      exact ⟨a, by rw [← e, up_f]; exact q.1, q.2⟩
    · rw [up_n e]; exact h7
  · intro b hb; rw [up_n (by omega)]; exact k4 b hb
  · intro b hb; rw [up_n (by omega)]; exact k5 b hb
  · intro t ht
    by_cases e : 75 + t = j
    · rw [← e, up_f]; exact c8 (by omega) (by omega)
    · rw [up_n e]; exact k6 t ht
/-! what a state becomes -/
def zput (z : Nat → Int32) (v : Int32) : Nat → Int32 := upd (upd z (zc z) v) 48 (nI (zc z + 1))
theorem zc_upd {z : Nat → Int32} {j : Nat} {v : Int32} (h : j ≠ 48) : zc (upd z j v) = zc z := by
  unfold zc
  rw [up_n (Ne.symm h)]
theorem zput_c {z : Nat → Int32} {v : Int32} (h : zc z < 48) : zc (zput z v) = zc z + 1 := by
  unfold zput zc
  rw [up_f, am_nI (by have : zc z = (z 48).toInt.toNat := rfl; omega)]
  omega
theorem zput_ok {z : Nat → Int32} {v : Int32} (ok : OKz z) (h : zc z < 48) (hv : rng v) : OKz (zput z v) :=
  (ok.up (fun _ => hv) (fun e => by omega) (fun e => by omega) (fun e => by omega) (by omega) (by omega) (by omega) (fun e => by omega)).up (fun e => by omega) (fun _ => ⟨zc z + 1, by omega, rfl⟩) (fun e => by omega) (fun e => by omega) (by omega) (by omega) (by omega) (fun e => by omega)
theorem ZB.put {hi : am_HI} {z : Nat → Int32} {v : Int32} (h : ZB hi 2 z) (hc : zc z < 48) : ZB (am_up (am_up hi 3 (zc z) v) 2 3 (nI (zc z + 1))) 2 (zput z v) :=
  (h.up (by omega) (fun k i j q => by unfold cmR at q; omega)).up (by omega) (fun k i j q => by unfold cmR at q; omega)
/-- what the class has, but for its study, reader and paper -/
def SS (hi : am_HI) (Y : Nat → Nat → Int32) (c : Nat → Bool) : Prop := ∀ k, k < 2 → hi 114 k = bI (c k) ∧ (c k = true → ZB hi (96 + 9 * k) (Y k))
def CS (hi : am_HI) (g : am_G) (z : Nat → Int32) (Z : Nat → Nat → Int32) (p : Nat) (Y : Nat → Nat → Int32) (c : Nat → Bool) (cd : Nat → Nat) (n : Nat) : Prop := ZB hi 2 z ∧ HS hi g Z p ∧ SS hi Y c ∧ TX hi cd n
theorem HS.mv {hi h : am_HI} {g : am_G} {Z : Nat → Nat → Int32} {p : Nat} (a : HS hi g Z p) (e : ∀ k, k = 38 ∨ (40 ≤ k ∧ k ≤ 93) → h k = hi k) : HS h g Z p := by
  obtain ⟨w, w1, w2, w3, w4⟩ := a
  refine ⟨w, w1, by rw [e 38 (Or.inl rfl)]; exact w2, w3, fun i hi' => (w4 i hi').mv (fun j hj => e _ (Or.inr ?_))⟩
  have := his_in _ (w1.1 i (by omega)).2
  omega
theorem SS.mv {hi h : am_HI} {Y : Nat → Nat → Int32} {c : Nat → Bool} (a : SS hi Y c) (e : ∀ k, 96 ≤ k ∧ k ≤ 114 → h k = hi k) : SS h Y c := fun k hk => ⟨by rw [e 114 (by omega)]; exact (a k hk).1, fun q => ((a k hk).2 q).mv (fun i hi' => e _ (by omega))⟩
theorem TX.mv {hi h : am_HI} {cd : Nat → Nat} {n : Nat} (a : TX hi cd n) (e1 : h 115 1 = hi 115 1) (e2 : h 116 = hi 116) : TX h cd n := by
  unfold TX
  rw [e1, e2]
  exact a
/-- but for the sound, its settings and the letter, and what is scratch, nothing changed -/
abbrev nwS : List Nat := [2, 3, 4, 5, 6, 7, 8, 9, 10] ++ roS
theorem nwS_out : ∀ k ∈ nwS, ¬ (k = 38 ∨ (40 ≤ k ∧ k ≤ 93)) ∧ ¬ (96 ≤ k ∧ k ≤ 116) ∧ k < 123 := by decide
theorem CS.mvN {hi h : am_HI} {g : am_G} {z z' : Nat → Int32} {Z : Nat → Nat → Int32} {p : Nat} {Y : Nat → Nat → Int32} {c : Nat → Bool} {cd : Nat → Nat} {n : Nat} (a : CS hi g z Z p Y c cd n) (f : fr nwS hi h) (b : ZB h 2 z') : CS h g z' Z p Y c cd n :=
  ⟨b, a.2.1.mv (fun k hk => f k (fun q => (nwS_out k q).1 hk)), a.2.2.1.mv (fun k hk => f k (fun q => (nwS_out k q).2.1 (by omega))), a.2.2.2.mv (by rw [f 115 (fun q => (nwS_out 115 q).2.1 (by omega))]) (f 116 (fun q => (nwS_out 116 q).2.1 (by omega)))⟩
theorem CS.ro {hi h : am_HI} {g : am_G} {z : Nat → Int32} {Z : Nat → Nat → Int32} {p : Nat} {Y : Nat → Nat → Int32} {c : Nat → Bool} {cd : Nat → Nat} {n : Nat} (a : CS hi g z Z p Y c cd n) (f : RO hi h) : CS h g z Z p Y c cd n := a.mvN (f.mono (fun k hk => List.mem_append_right _ hk)) (a.1.ro f)
/-- the model's cells stay -/
def frC (hi h : am_HI) : Prop := ∀ k, 123 ≤ k → h k = hi k
theorem frC.of {S : List Nat} {hi h : am_HI} (f : fr S hi h) (e : ∀ k ∈ S, k < 123) : frC hi h := fun k hk => f k (fun q => by have := e k q; omega)
theorem frC.tr {h h1 h2 : am_HI} (a : frC h h1) (b : frC h1 h2) : frC h h2 := fun k hk => (b k hk).trans (a k hk)
theorem frC.rfl {h : am_HI} : frC h h := fun _ _ => Eq.refl _
theorem frH.C {hi h : am_HI} (a : frH hi h) : frC hi h := fun k hk => a k (by omega)
/-- the state is saved -/
theorem CS.sv {hi h : am_HI} {g g' : am_G} {z : Nat → Int32} {Z Z' : Nat → Nat → Int32} {p p' : Nat} {Y : Nat → Nat → Int32} {c : Nat → Bool} {cd : Nat → Nat} {n : Nat} (a : CS hi g z Z p Y c cd n) (f : frH hi h) (b : HS h g' Z' p') : CS h g' z Z' p' Y c cd n :=
  ⟨a.1.mv (fun i hi' => f _ (by omega)), b, a.2.2.1.mv (fun k hk => f k (by omega)), a.2.2.2.mv (by rw [f 115 (by omega)]) (f 116 (by omega))⟩
theorem fr.N {hi h : am_HI} {k j : Nat} {x : Int32} (a : fr nwS hi h) (hk : k ∈ nwS) : fr nwS hi (am_up h k j x) := a.up hk
theorem zc_pos {z : Nat → Int32} (ok : OKz z) : ¬ z 48 ≤ 0 ↔ 0 < zc z := by
  rw [ok.1.1, am_le, am_nI (by have := ok.1.2.1; omega), show (0 : Int32).toInt = 0 from rfl]
  omega
