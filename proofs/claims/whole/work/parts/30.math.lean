/-! ===== numbers: what both classes compute ===== -/
theorem am_lt {x y : Int32} : x < y ↔ x.toInt < y.toInt := Int32.lt_iff_toInt_lt
theorem am_le {x y : Int32} : x ≤ y ↔ x.toInt ≤ y.toInt := Int32.le_iff_toInt_le
theorem am_eq {x y : Int32} : x = y ↔ x.toInt = y.toInt := ⟨fun h => by rw [h], fun h => Int32.toInt_inj.mp h⟩
theorem am_nI {n : Nat} (h : n < 2147483648) : (nI n).toInt = (n : Int) := nI_toInt h
/-- an int that isn't below 0, by its number -/
theorem am_ofInt {x : Int32} (h0 : 0 ≤ x.toInt) : x = nI x.toInt.toNat := by
  have h1 := Int32.toInt_lt x
  rw [am_eq, am_nI (by omega)]
  omega
theorem i_add {x y : Int32} (h1 : -2147483648 ≤ x.toInt + y.toInt) (h2 : x.toInt + y.toInt < 2147483648) : (x + y).toInt = x.toInt + y.toInt := Jvm.Kit.i32_add h1 h2
theorem i_sub {x y : Int32} (h1 : -2147483648 ≤ x.toInt - y.toInt) (h2 : x.toInt - y.toInt < 2147483648) : (x - y).toInt = x.toInt - y.toInt := Jvm.Kit.i32_sub h1 h2
theorem i_mul {x y : Int32} (h1 : -2147483648 ≤ x.toInt * y.toInt) (h2 : x.toInt * y.toInt < 2147483648) : (x * y).toInt = x.toInt * y.toInt := Jvm.Kit.i32_mul h1 h2
theorem am_rng (x : Int32) : -2147483648 ≤ x.toInt ∧ x.toInt < 2147483648 := ⟨Int32.le_toInt x, Int32.toInt_lt x⟩
/-- the sample t less k of a row -/
def sm (r : Nat → Int32) (t k : Nat) : Int32 := if k ≤ t then r (t - k) else 0
/-- at most 99, and at least -99 -/
def lim (x : Int32) : Int32 := if 99 < x then 99 else if x < -99 then -99 else x
/-- the sum of the weighed, and what is foretold by it -/
def wsum (w r : Nat → Int32) (t : Nat) : Int32 := 8 + w 0 * sm r t 1 + w 1 * sm r t 2 + w 2 * sm r t 3 + w 3 * sm r t 4
def wfo (w r : Nat → Int32) (t : Nat) : Int32 := lim (wsum w r t >>> 4)
/-- a weight behind a sample: v is the sample that it weighs, left the left-over -/
def ad1 (sp left v w : Int32) : Int32 := if left = 0 ∨ v = 0 then w else if (0 < v) = (0 < left) then w + sp else w + -sp
/-- all weights behind the sample t -/
def adw (w r : Nat → Int32) (sp : Int32) (t : Nat) : Nat → Int32 := fun k => if k < 4 then ad1 sp (r t - wfo w r t) (sm r t (k + 1)) (w k) else w k
theorem am_shr4 (x : Int32) : (x >>> (4 : Int32)).toInt = x.toInt / 16 := Jvm.Kit.i32_shr x 4 (k := 4) (by decide)
theorem tdiv16 (a : Int) : a.tdiv 16 = if 0 ≤ a then a / 16 else -((-a) / 16) := by
  by_cases h : 0 ≤ a
  · rw [if_pos h, Int.tdiv_eq_ediv_of_nonneg h]
  · rw [if_neg h]
    have e := Int.neg_tdiv (a := -a) (b := 16)
    rw [Int.neg_neg] at e
    rw [e, Int.tdiv_eq_ediv_of_nonneg (by omega)]
/-- rounded down: the JDK's floorDiv by 16 -/
theorem am_fd16 (x : Int32) : (if ¬ 0 ≤ (x ^^^ 16) ∧ ¬ x / 16 * 16 = x then x / 16 - 1 else x / 16) = x >>> (4 : Int32) := by
  have hx := am_rng x
  have ht := tdiv16 x.toInt
  have hd : (x / 16).toInt = x.toInt.tdiv 16 := Jvm.Kit.i32_div (by rw [show (16 : Int32).toInt = 16 from rfl]; omega)
  have hs : (0 ≤ (x ^^^ 16)) ↔ 0 ≤ x.toInt := by
    rw [am_le, show (0 : Int32).toInt = 0 from rfl]
    have e1 : (x ^^^ 16).toBitVec.msb = x.toBitVec.msb := by
      rw [show (x ^^^ 16).toBitVec = x.toBitVec ^^^ (16 : Int32).toBitVec from rfl, BitVec.msb_xor, show (16 : Int32).toBitVec.msb = false from by decide, Bool.xor_false]
    have f : ∀ z : Int32, 0 ≤ z.toInt ↔ z.toBitVec.msb = false := fun z => by
      rw [show z.toInt = z.toBitVec.toInt from rfl, BitVec.msb_eq_toInt]
      simp
    rw [f, f, e1]
  have hm : (x / 16 * 16).toInt = x.toInt.tdiv 16 * 16 := by
    have h16 : (16 : Int32).toInt = 16 := rfl
    have q : (x / 16).toInt * (16 : Int32).toInt = x.toInt.tdiv 16 * 16 := by rw [hd, h16]
    rw [i_mul (by rw [q]; omega) (by rw [q]; omega), q]
  by_cases h0 : 0 ≤ x.toInt
  · rw [if_neg (by rw [hs]; exact fun z => z.1 h0), am_eq, am_shr4, hd]
    omega
  · by_cases h1 : x / 16 * 16 = x
    · rw [if_neg (fun z => z.2 h1), am_eq, am_shr4, hd]
      rw [am_eq, hm] at h1
      omega
    · rw [if_pos ⟨by rw [hs]; exact h0, h1⟩, am_eq, am_shr4]
      rw [am_eq, hm] at h1
      have e1 : (1 : Int32).toInt = 1 := rfl
      rw [i_sub (by rw [hd, e1]; omega) (by rw [hd, e1]; omega), hd, e1]
      omega
theorem lim_rng (x : Int32) : -99 ≤ (lim x).toInt ∧ (lim x).toInt ≤ 99 := by
  unfold lim
  have e1 : (99 : Int32).toInt = 99 := rfl
  have e2 : (-99 : Int32).toInt = -99 := rfl
  by_cases h : 99 < x
  · rw [if_pos h, e1]; omega
  · rw [if_neg h]
    by_cases h2 : x < -99
    · rw [if_pos h2, e2]; omega
    · rw [if_neg h2]
      rw [am_lt, e1] at h
      rw [am_lt, e2] at h2
      omega
theorem lim_id {x : Int32} (h1 : -99 ≤ x.toInt) (h2 : x.toInt ≤ 99) : lim x = x := by
  unfold lim
  have e1 : (99 : Int32).toInt = 99 := rfl
  have e2 : (-99 : Int32).toInt = -99 := rfl
  rw [if_neg (by rw [am_lt, e1]; omega), if_neg (by rw [am_lt, e2]; omega)]
