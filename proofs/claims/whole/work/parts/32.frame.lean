/-! ===== what stays; loops ===== -/
/-- but for the cells of S, nothing changed -/
def fr (S : List Nat) (h h' : am_HI) : Prop := ∀ k, k ∉ S → h' k = h k
theorem fr.rfl {S : List Nat} {h : am_HI} : fr S h h := fun _ _ => Eq.refl _
theorem fr.tr {S : List Nat} {h h1 h2 : am_HI} (a : fr S h h1) (b : fr S h1 h2) : fr S h h2 := fun k hk => (b k hk).trans (a k hk)
theorem fr.mono {S S' : List Nat} {h h1 : am_HI} (a : fr S h h1) (hS : ∀ k ∈ S, k ∈ S') : fr S' h h1 := fun k hk => a k (fun z => hk (hS k z))
theorem fr.up {S : List Nat} {h h1 : am_HI} {k j : Nat} {x : Int32} (a : fr S h h1) (hk : k ∈ S) : fr S h (am_up h1 k j x) := fun i hi => (up_k (fun e => hi (by rw [e]; exact hk))).trans (a i hi)
theorem fr.cp {S : List Nat} {h h1 : am_HI} {k0 k1 n : Nat} (a : fr S h h1) (hk : k1 ∈ S) : fr S h (am_cp h1 k0 k1 n) := fun i hi => (if_neg (fun e => hi (by rw [e]; exact hk))).trans (a i hi)
theorem cp_k {hi : am_HI} {k0 k1 n k' : Nat} (h : k' ≠ k1) : am_cp hi k0 k1 n k' = hi k' := if_neg h
theorem cp_c {hi : am_HI} {k0 k1 n j : Nat} : am_cp hi k0 k1 n k1 j = if j < n then hi k0 j else hi k1 j := by
  unfold am_cp
  rw [am_va_at]
  unfold va_cpy
  by_cases h : j < n
  · rw [if_pos ⟨by omega, by omega⟩, if_pos h]
    congr 1
    omega
  · rw [if_neg (by omega), if_neg h]
theorem am_for {n : Nat} {Inv A : Nat → am_HI → Prop} (hend : ∀ h, Inv n h → A n h) (hstep : ∀ i h, i < n → Inv i h → (∀ h', Inv (i + 1) h' → A (i + 1) h') → A i h) : ∀ i h, i ≤ n → Inv i h → A i h := by
  intro i
  generalize hm : n - i = m
  induction m generalizing i with
  | zero =>
    intro h hi hv
    have : i = n := by omega
    subst this
    exact hend h hv
  | succ m ih =>
    intro h hi hv
    exact hstep i h (by omega) hv (fun h' hv' => ih (i + 1) (by omega) h' (by omega) hv')
/-- the loop, from its first round on -/
theorem am_for0 {n : Nat} {hi : am_HI} (Inv A : Nat → am_HI → Prop) (h0 : Inv 0 hi) (hend : ∀ h, Inv n h → A n h) (hstep : ∀ i h, i < n → Inv i h → (∀ h', Inv (i + 1) h' → A (i + 1) h') → A i h) : A 0 hi :=
  am_for hend hstep 0 hi (Nat.zero_le _) h0
theorem nsub_lt0 {a b : Nat} (ha : a < 2 ^ 30) (hb : b < 2 ^ 30) : nI a - nI b < 0 ↔ a < b := by
  rw [am_lt, pk_sub_toInt ha hb]
  show _ < (0 : Int) ↔ _
  omega
theorem sm_congr {r r' : Nat → Int32} {t k : Nat} (hk : 1 ≤ k) (h : ∀ i, i < t → r i = r' i) : sm r t k = sm r' t k := by
  unfold sm
  by_cases h1 : k ≤ t
  · rw [if_pos h1, if_pos h1, h _ (by omega)]
  · rw [if_neg h1, if_neg h1]
theorem wsum_congr {w w' r r' : Nat → Int32} {t : Nat} (hw : ∀ k, k < 4 → w k = w' k) (h : ∀ i, i < t → r i = r' i) : wsum w r t = wsum w' r' t := by
  unfold wsum
  rw [hw 0 (by decide), hw 1 (by decide), hw 2 (by decide), hw 3 (by decide), sm_congr (by decide) h, sm_congr (by decide) h, sm_congr (by decide) h, sm_congr (by decide) h]
theorem wfo_congr {w w' r r' : Nat → Int32} {t : Nat} (hw : ∀ k, k < 4 → w k = w' k) (h : ∀ i, i < t → r i = r' i) : wfo w r t = wfo w' r' t := by
  unfold wfo
  rw [wsum_congr hw h]
/-- what is foretold by a kind -/
def fore (kd d : Nat) (w r : Nat → Int32) (t : Nat) : Int32 := match kd with
  | 0 => 0
  | 1 => lim (sm r t 1)
  | 2 => lim (2 * sm r t 1 - sm r t 2)
  | 3 => lim (sm r t d)
  | _ => wfo w r t
theorem fore_congr {kd d : Nat} {w w' r r' : Nat → Int32} {t : Nat} (hd : 1 ≤ d) (hw : ∀ k, k < 4 → w k = w' k) (h : ∀ i, i < t → r i = r' i) : fore kd d w r t = fore kd d w' r' t := by
  unfold fore
  split
  · rfl
  · rw [sm_congr (by decide) h]
  · rw [sm_congr (by decide) h, sm_congr (k := 2) (by decide) h]
  · rw [sm_congr hd h]
  · exact wfo_congr hw h
theorem fore_rng (kd d : Nat) (w r : Nat → Int32) (t : Nat) : -99 ≤ (fore kd d w r t).toInt ∧ (fore kd d w r t).toInt ≤ 99 := by
  unfold fore
  split
  · decide
  · exact lim_rng _
  · exact lim_rng _
  · exact lim_rng _
  · exact lim_rng _
theorem sm_rng {r : Nat → Int32} {t k : Nat} (hk : 1 ≤ k) (h : ∀ i, i < t → -99 ≤ (r i).toInt ∧ (r i).toInt ≤ 99) : -99 ≤ (sm r t k).toInt ∧ (sm r t k).toInt ≤ 99 := by
  unfold sm
  by_cases h1 : k ≤ t
  · rw [if_pos h1]
    exact h _ (by omega)
  · rw [if_neg h1]
    decide
theorem adw_congr {w w' r r' : Nat → Int32} {sp : Int32} {t : Nat} (hw : ∀ k, k < 4 → w k = w' k) (h : ∀ i, i ≤ t → r i = r' i) : ∀ k, k < 4 → adw w r sp t k = adw w' r' sp t k := by
  intro k hk
  unfold adw
  rw [if_pos hk, if_pos hk, hw k hk, h t (Nat.le_refl _), wfo_congr hw (fun i hi => h i (by omega)), sm_congr (by omega) (fun i hi => h i (by omega))]
/-- the weights ahead of the sample t -/
def Wt (w0 r : Nat → Int32) (sp : Int32) : Nat → Nat → Int32
  | 0 => w0
  | t + 1 => adw (Wt w0 r sp t) r sp t
theorem Wt_congr {w w' r r' : Nat → Int32} {sp : Int32} (hw : ∀ k, k < 4 → w k = w' k) : ∀ t, (∀ i, i < t → r i = r' i) → ∀ k, k < 4 → Wt w r sp t k = Wt w' r' sp t k := by
  intro t
  induction t with
  | zero => intro _ k hk; exact hw k hk
  | succ t ih => intro h k hk; exact adw_congr (ih (fun i hi => h i (by omega))) (fun i hi => h i (by omega)) k hk
def wacc (w r : Nat → Int32) (t : Nat) : Nat → Int32
  | 0 => 8
  | i + 1 => wacc w r t i + w i * sm r t (i + 1)
theorem nI_i1 (i : Nat) : nI (i + 1) - 1 = nI i := nI_pred i
