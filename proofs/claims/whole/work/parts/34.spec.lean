/-! ===== what both classes tell, out of the row z of a state's numbers ===== -/
def rng (x : Int32) : Prop := -99 ≤ x.toInt ∧ x.toInt ≤ 99
def isum (f : Nat → Int32) : Nat → Int32
  | 0 => 0
  | n + 1 => isum f n + f n
theorem isum_rng {f : Nat → Int32} {B : Nat} : ∀ n : Nat, (∀ i, i < n → 0 ≤ (f i).toInt ∧ (f i).toInt ≤ B) → n * B < 2147483648 → 0 ≤ (isum f n).toInt ∧ (isum f n).toInt ≤ ((n * B : Nat) : Int) := by
  intro n
  induction n with
  | zero => intro _ _; exact ⟨by rw [isum]; decide, by rw [isum]; simp⟩
  | succ n ih =>
    intro h hb
    have e : (n + 1) * B = n * B + B := Nat.succ_mul n B
    obtain ⟨h1, h2⟩ := ih (fun i hi => h i (by omega)) (by omega)
    obtain ⟨h3, h4⟩ := h n (by omega)
    rw [isum, i_add (by omega) (by omega), e]
    omega
theorem isum_congr {f f' : Nat → Int32} : ∀ n : Nat, (∀ i, i < n → f i = f' i) → isum f n = isum f' n := by
  intro n
  induction n with
  | zero => intro _; rfl
  | succ n ih => intro h; rw [isum, isum, ih (fun i hi => h i (by omega)), h n (by omega)]
theorem absI_rng {x : Int32} {B : Nat} (hB : B < 2147483647) (h : -(B : Int) ≤ x.toInt) (h2 : x.toInt ≤ B) : 0 ≤ (absI x).toInt ∧ (absI x).toInt ≤ B := by
  unfold absI
  have e0 : (0 : Int32).toInt = 0 := rfl
  by_cases hx : 0 ≤ x
  · rw [if_pos hx]
    rw [am_le, e0] at hx
    omega
  · rw [if_neg hx]
    rw [am_le, e0] at hx
    have e : (-x).toInt = -x.toInt := by
      rw [show -x = 0 - x from by rw [Int32.zero_sub], i_sub (by rw [e0]; omega) (by rw [e0]; omega), e0]
      omega
    rw [e]
    omega
theorem dif_rng {x y : Int32} (hx : rng x) (hy : rng y) : -(198 : Int) ≤ (x - y).toInt ∧ (x - y).toInt ≤ 198 := by
  obtain ⟨a, b⟩ := hx
  obtain ⟨c, d⟩ := hy
  rw [i_sub (by omega) (by omega)]
  omega
/-- the first of the least among 0 .. n -/
def amin (f : Nat → Int32) : Nat → Nat
  | 0 => 0
  | n + 1 => if f (n + 1) < f (amin f n) then n + 1 else amin f n
theorem amin_le (f : Nat → Int32) : ∀ n, amin f n ≤ n := by
  intro n
  induction n with
  | zero => exact Nat.le_refl _
  | succ n ih =>
    rw [amin]
    split
    · exact Nat.le_refl _
    · omega
theorem amin_min (f : Nat → Int32) : ∀ n i, i ≤ n → f (amin f n) ≤ f i := by
  intro n
  induction n with
  | zero => intro i hi; rw [show i = 0 by omega]; exact Int32.le_refl _
  | succ n ih =>
    intro i hi
    rw [amin]
    by_cases h : f (n + 1) < f (amin f n)
    · rw [if_pos h]
      by_cases he : i = n + 1
      · rw [he]; exact Int32.le_refl _
      · exact Int32.le_trans (Int32.le_of_lt h) (ih i (by omega))
    · rw [if_neg h]
      by_cases he : i = n + 1
      · rw [he]; exact Int32.not_lt.mp h
      · exact ih i (by omega)
/-- as the class looks for it: the first of the least, and it, among those below n, all of them below a million -/
def bl (f : Nat → Int32) : Nat → Nat × Int32
  | 0 => (0, 1000000)
  | n + 1 => if f n < (bl f n).2 then (n, f n) else bl f n
theorem bl_amin {f : Nat → Int32} : ∀ n : Nat, (∀ i, i ≤ n → f i < 1000000) → bl f (n + 1) = (amin f n, f (amin f n)) := by
  intro n
  induction n with
  | zero => intro h; rw [bl, bl, if_pos (h 0 (Nat.le_refl _)), amin]
  | succ n ih =>
    intro h
    rw [bl, ih (fun i hi => h i (by omega)), amin]
    by_cases hc : f (n + 1) < f (amin f n)
    · rw [if_pos hc, if_pos hc]
    · rw [if_neg hc, if_neg hc]
/-- as it looks for the best of those that are allowed -/
def kbl (al : Nat → Bool) (f : Nat → Int32) : Nat → Nat × Int32
  | 0 => (0, 1000000)
  | n + 1 => if al n = true ∧ f n < (kbl al f n).2 then (n, f n) else kbl al f n
theorem kbl_le (al : Nat → Bool) (f : Nat → Int32) : ∀ n, (kbl al f n).1 ≤ n - 1 := by
  intro n
  induction n with
  | zero => exact Nat.le_refl _
  | succ n ih =>
    rw [kbl]
    split
    · exact Nat.le_refl _
    · omega
/-- the bits of a block, by left-overs -/
def bsum (f : Nat → Int32) (a : Nat) : Nat → Int32
  | 0 => 6
  | n + 1 => bsum f a n + f (a + n)
def bb (L : Nat → Int32) (c b : Nat) (p : Int32) : Int32 := bsum (fun t => bofI (foldI (L t)) p) (8 * b) (min (8 * b + 8) c - 8 * b)
def zc (z : Nat → Int32) : Nat := (z 48).toInt.toNat
def zd (z : Nat → Int32) : Nat := (z 49).toInt.toNat
def zt (z : Nat → Int32) : Nat := (z 56).toInt.toNat
def zld (z : Nat → Int32) : Nat := (z 57).toInt.toNat
/-- the first weights -/
def z0 (z : Nat → Int32) : Nat → Int32 := fun k => z (51 + k)
def zW (z : Nat → Int32) (t : Nat) : Nat → Int32 := Wt (z0 z) z (z 50) t
def zF (z : Nat → Int32) (kd t : Nat) : Int32 := fore kd (zd z) (zW z t) z t
def zL (z : Nat → Int32) (kd t : Nat) : Int32 := z t - zF z kd t
def zbb (z : Nat → Int32) (kd b p : Nat) : Int32 := bb (zL z kd) (zc z) b (nI p)
def zpb (z : Nat → Int32) (kd b : Nat) : Nat := amin (zbb z kd b) 7
def zfb (z : Nat → Int32) (kd b : Nat) : Int32 := zbb z kd b (zpb z kd b)
def alI (a k : Int32) : Bool := decide ((a >>> (k &&& 31)) &&& 1 = 1)
def zal (z : Nat → Int32) (kd : Nat) : Bool := alI (z 55) (nI kd)
def zkf (z : Nat → Int32) (b : Nat) : Nat := (kbl (zal z) (fun kd => zfb z kd b) 5).1
/-- how many blocks -/
def zn (z : Nat → Int32) : Nat := (zc z + 7) / 8
/-- the sum of the left-overs' sizes -/
def sumv (kd d : Nat) (w0 z : Nat → Int32) (sp : Int32) (n : Nat) : Int32 := isum (fun t => absI (z t - fore kd d (Wt w0 z sp t) z t)) n
theorem sumv_rng {kd d : Nat} {w0 z : Nat → Int32} {sp : Int32} {n : Nat} (hn : n ≤ 48) (h : ∀ t, t < 48 → rng (z t)) : 0 ≤ (sumv kd d w0 z sp n).toInt ∧ (sumv kd d w0 z sp n).toInt ≤ 9504 := by
  have := isum_rng (f := fun t => absI (z t - fore kd d (Wt w0 z sp t) z t)) (B := 198) n (fun i hi => absI_rng (by decide) (dif_rng (h i (by omega)) (fore_rng _ _ _ _ _)).1 (dif_rng (h i (by omega)) (fore_rng _ _ _ _ _)).2) (by omega)
  exact ⟨this.1, by have := this.2; unfold sumv; omega⟩
/-- a state's numbers are in their ranges -/
def OKz (z : Nat → Int32) : Prop :=
  (z 48 = nI (zc z) ∧ zc z ≤ 48 ∧ z 49 = nI (zd z) ∧ 1 ≤ zd z ∧ zd z ≤ 12 ∧ (∀ t, t < 48 → rng (z t)) ∧ ∃ a : Nat, z 55 = nI a ∧ 1 ≤ a ∧ a ≤ 31) ∧
  z 56 = nI (zt z) ∧ zt z ≤ 48 ∧ (zt z ≠ 0 → z 57 = nI (zld z) ∧ 1 ≤ zld z ∧ zld z ≤ 12) ∧ (∀ b, b < 6 → ∃ k : Nat, z (63 + b) = nI k ∧ k ≤ 4) ∧ (∀ b, b < 6 → ∃ p : Nat, z (69 + b) = nI p ∧ p ≤ 7) ∧ ∀ t, t < 48 → -198 ≤ (z (75 + t)).toInt ∧ (z (75 + t)).toInt ≤ 198
/-- the State at B holds the sound and settings of z .. -/
def ZS (hi : am_HI) (B : Nat) (z : Nat → Int32) : Prop :=
  (∀ t, t < 48 → hi (B + 1) t = z t) ∧ hi B 3 = z 48 ∧ hi B 4 = z 49 ∧ hi B 5 = z 50 ∧ (∀ k, k < 4 → hi (B + 2) k = z (51 + k)) ∧ hi B 6 = z 55
/-- .. and the letter at B -/
def ZL (hi : am_HI) (B : Nat) (z : Nat → Int32) : Prop :=
  hi B 5 = z 56 ∧ (z 56 ≠ 0 → hi B 6 = z 57) ∧ hi B 7 = z 58 ∧ (∀ k, k < 4 → hi (B + 1) k = z (59 + k)) ∧ (∀ b, b < 6 → hi (B + 2) b = z (63 + b)) ∧ (∀ b, b < 6 → hi (B + 3) b = z (69 + b)) ∧ (∀ t, t < 48 → hi (B + 4) t = z (75 + t)) ∧ ∀ t, t < 48 → hi (B + 5) t = z (123 + t)
/-- the State at B is z -/
def ZB (hi : am_HI) (B : Nat) (z : Nat → Int32) : Prop := ZS hi B z ∧ ZL hi (B + 3) z ∧ hi B 7 = z 171
theorem ZS.mv {hi h : am_HI} {B : Nat} {z : Nat → Int32} (a : ZS hi B z) (h0 : h B = hi B) (h1 : h (B + 1) = hi (B + 1)) (h2 : h (B + 2) = hi (B + 2)) : ZS h B z := by
  unfold ZS
  rw [h0, h1, h2]
  exact a
theorem zL_rng {z : Nat → Int32} (h : OKz z) {kd t : Nat} (ht : t < 48) : -(198 : Int) ≤ (zL z kd t).toInt ∧ (zL z kd t).toInt ≤ 198 := dif_rng (h.1.2.2.2.2.2.1 t ht) (fore_rng _ _ _ _ _)
theorem foldI_nI {x : Int32} (h : -(198 : Int) ≤ x.toInt ∧ x.toInt ≤ 198) : ∃ n : Nat, n ≤ 396 ∧ foldI x = nI n := by
  have e0 : (0 : Int32).toInt = 0 := rfl
  have e2 : (2 : Int32).toInt = 2 := rfl
  have e2' : (-2 : Int32).toInt = -2 := rfl
  have e1 : (1 : Int32).toInt = 1 := rfl
  unfold foldI
  by_cases hx : 0 ≤ x
  · rw [if_pos hx]
    rw [am_le, e0] at hx
    have e : (2 * x).toInt = 2 * x.toInt := i_mul (by rw [e2]; omega) (by rw [e2]; omega)
    exact ⟨(2 * x).toInt.toNat, by omega, am_ofInt (by omega)⟩
  · rw [if_neg hx]
    rw [am_le, e0] at hx
    have em : (-2 * x).toInt = -2 * x.toInt := i_mul (by rw [e2']; omega) (by rw [e2']; omega)
    have e : (-2 * x - 1).toInt = -2 * x.toInt - 1 := by rw [i_sub (by rw [em, e1]; omega) (by rw [em, e1]; omega), em, e1]
    exact ⟨(-2 * x - 1).toInt.toNat, by omega, am_ofInt (by omega)⟩
theorem shrN {n p : Nat} (hn : n < 2147483648) (hp : p ≤ 7) : nI n >>> (nI p &&& 31) = nI (n / 2 ^ p) := by
  apply pk_shrN (by omega)
  rcases (show p = 0 ∨ p = 1 ∨ p = 2 ∨ p = 3 ∨ p = 4 ∨ p = 5 ∨ p = 6 ∨ p = 7 by omega) with rfl | rfl | rfl | rfl | rfl | rfl | rfl | rfl <;> decide
theorem bofI_nI {n p : Nat} (hn : n ≤ 396) (hp : p ≤ 7) : bofI (nI n) (nI p) = nI (n / 2 ^ p + 1 + p) := by
  unfold bofI
  rw [shrN (by omega) hp, nI_1, nI_add]
theorem bof_le {n p : Nat} (hn : n ≤ 396) (hp : p ≤ 7) : n / 2 ^ p + 1 + p ≤ 404 := by
  have := Nat.div_le_self n (2 ^ p)
  omega
theorem bsum_rng {f : Nat → Int32} {a B : Nat} : ∀ n : Nat, (∀ i, i < n → 0 ≤ (f (a + i)).toInt ∧ (f (a + i)).toInt ≤ B) → n * B < 2147483000 → 0 ≤ (bsum f a n).toInt ∧ (bsum f a n).toInt ≤ ((n * B + 6 : Nat) : Int) := by
  intro n
  induction n with
  | zero => intro _ _; exact ⟨by rw [bsum]; decide, by rw [bsum, show (6 : Int32).toInt = 6 from rfl]; omega⟩
  | succ n ih =>
    intro h hb
    have e : (n + 1) * B = n * B + B := Nat.succ_mul n B
    obtain ⟨h1, h2⟩ := ih (fun i hi => h i (by omega)) (by omega)
    obtain ⟨h3, h4⟩ := h n (by omega)
    rw [bsum, i_add (by omega) (by omega), e]
    omega
theorem bb_rng {L : Nat → Int32} {c b p : Nat} (hc : c ≤ 48) (hp : p ≤ 7) (hL : ∀ t, t < 48 → -(198 : Int) ≤ (L t).toInt ∧ (L t).toInt ≤ 198) : 0 ≤ (bb L c b (nI p)).toInt ∧ (bb L c b (nI p)).toInt ≤ 3238 := by
  have := bsum_rng (f := fun t => bofI (foldI (L t)) (nI p)) (a := 8 * b) (B := 404) (min (8 * b + 8) c - 8 * b) (fun i hi => by
    obtain ⟨n, h1, h2⟩ := foldI_nI (hL (8 * b + i) (by omega))
    have hh := bof_le h1 hp
    rw [h2, bofI_nI h1 hp]
    generalize n / 2 ^ p = y at hh ⊢
    rw [am_nI (by omega)]
    omega) (by omega)
  have h8 : min (8 * b + 8) c - 8 * b ≤ 8 := by omega
  have h9 : (min (8 * b + 8) c - 8 * b) * 404 ≤ 8 * 404 := Nat.mul_le_mul_right _ h8
  exact ⟨this.1, by have := this.2; unfold bb; omega⟩
theorem zfb_rng {z : Nat → Int32} (h : OKz z) {kd b : Nat} : 0 ≤ (zfb z kd b).toInt ∧ (zfb z kd b).toInt ≤ 3238 :=
  bb_rng h.1.2.1 (amin_le _ 7) (fun t ht => zL_rng h ht)
theorem lt_mil {x : Int32} (h : x.toInt ≤ 9504) : x < 1000000 := by
  rw [am_lt, show (1000000 : Int32).toInt = 1000000 from rfl]
  omega
theorem hr15 {k : Nat} (h : k < 5) : am_HRf 15 k = some (16 + k) ∧ am_SH (16 + k) = (1, 49) ∧ 16 + k < 134 := by
  rcases (show k = 0 ∨ k = 1 ∨ k = 2 ∨ k = 3 ∨ k = 4 by omega) with rfl | rfl | rfl | rfl | rfl <;> exact ⟨rfl, rfl, by decide⟩
theorem hr21 {k : Nat} (h : k < 4) : am_HRf 21 k = some (22 + k) ∧ am_SH (22 + k) = (1, 49) ∧ 22 + k < 134 := by
  rcases (show k = 0 ∨ k = 1 ∨ k = 2 ∨ k = 3 by omega) with rfl | rfl | rfl | rfl <;> exact ⟨rfl, rfl, by decide⟩
theorem hr26 {k : Nat} (h : k < 5) : am_HRf 26 k = some (27 + k) ∧ am_SH (27 + k) = (1, 6) ∧ 27 + k < 134 := by
  rcases (show k = 0 ∨ k = 1 ∨ k = 2 ∨ k = 3 ∨ k = 4 by omega) with rfl | rfl | rfl | rfl | rfl <;> exact ⟨rfl, rfl, by decide⟩
theorem hr32 {k : Nat} (h : k < 5) : am_HRf 32 k = some (33 + k) ∧ am_SH (33 + k) = (1, 6) ∧ 33 + k < 134 := by
  rcases (show k = 0 ∨ k = 1 ∨ k = 2 ∨ k = 3 ∨ k = 4 by omega) with rfl | rfl | rfl | rfl | rfl <;> exact ⟨rfl, rfl, by decide⟩
