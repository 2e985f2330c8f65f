/-! NUMBERS: the machine's ints and longs by whole numbers in range -/
def i32 (x : Int) : Prop := -2147483648 ≤ x ∧ x < 2147483648
def i64 (x : Int) : Prop := -9223372036854775808 ≤ x ∧ x < 9223372036854775808
theorem w32_i (x : Int) : i32 (w32 x) := by
  unfold i32 w32
  have h1 := Int.le_bmod (x := x) (m := 4294967296) (by decide)
  have h2 := Int.bmod_lt (x := x) (m := 4294967296) (by decide)
  constructor <;> omega
theorem w64_i (x : Int) : i64 (w64 x) := by
  unfold i64 w64
  have h1 := Int.le_bmod (x := x) (m := 18446744073709551616) (by decide)
  have h2 := Int.bmod_lt (x := x) (m := 18446744073709551616) (by decide)
  constructor <;> omega
theorem w32_eq {x : Int} (h : i32 x) : w32 x = x := Int.bmod_eq_of_le h.1 h.2
theorem w64_eq {x : Int} (h : i64 x) : w64 x = x := Int.bmod_eq_of_le h.1 h.2
theorem w32_of {x : Int} (h1 : -2147483648 ≤ x) (h2 : x < 2147483648) : w32 x = x := Int.bmod_eq_of_le h1 h2
theorem w64_of {x : Int} (h1 : -9223372036854775808 ≤ x) (h2 : x < 9223372036854775808) : w64 x = x := Int.bmod_eq_of_le h1 h2
theorem toInt_32 (x : Int) : (Int32.ofInt x).toInt = w32 x := Int32.toInt_ofInt
theorem toInt_64 (x : Int) : (Int64.ofInt x).toInt = w64 x := Int64.toInt_ofInt
theorem toInt_i {x : Int} (h : i32 x) : (Int32.ofInt x).toInt = x := by rw [toInt_32, w32_eq h]
theorem toInt_l {x : Int} (h : i64 x) : (Int64.ofInt x).toInt = x := by rw [toInt_64, w64_eq h]
theorem i32_to (z : Int32) : i32 z.toInt := ⟨z.le_toInt, z.toInt_lt⟩
theorem i64_to (z : Int64) : i64 z.toInt := ⟨z.le_toInt, z.toInt_lt⟩
theorem of_w32 (x : Int) : Int32.ofInt (w32 x) = Int32.ofInt x := Int32.toInt_inj.mp (by rw [toInt_32, toInt_32, w32_eq (w32_i x)])
theorem of_w64 (x : Int) : Int64.ofInt (w64 x) = Int64.ofInt x := Int64.toInt_inj.mp (by rw [toInt_64, toInt_64, w64_eq (w64_i x)])
theorem o_add (x y : Int) : Int32.ofInt x + Int32.ofInt y = Int32.ofInt (w32 (x + y)) := by rw [of_w32, Int32.ofInt_add]
theorem o_sub (x y : Int) : Int32.ofInt x - Int32.ofInt y = Int32.ofInt (w32 (x - y)) := by rw [of_w32, Int32.ofInt_sub]
theorem o_mul (x y : Int) : Int32.ofInt x * Int32.ofInt y = Int32.ofInt (w32 (x * y)) := by rw [of_w32, Int32.ofInt_mul]
theorem o_neg (x : Int) : -Int32.ofInt x = Int32.ofInt (w32 (-x)) := by rw [of_w32, Int32.ofInt_neg]
theorem ol_add (x y : Int) : Int64.ofInt x + Int64.ofInt y = Int64.ofInt (w64 (x + y)) := by rw [of_w64, Int64.ofInt_add]
theorem ol_sub (x y : Int) : Int64.ofInt x - Int64.ofInt y = Int64.ofInt (w64 (x - y)) := by rw [of_w64, Int64.ofInt_sub]
theorem ol_mul (x y : Int) : Int64.ofInt x * Int64.ofInt y = Int64.ofInt (w64 (x * y)) := by rw [of_w64, Int64.ofInt_mul]
theorem o_div {x y : Int} (hx : i32 x) (hy : i32 y) : Int32.ofInt x / Int32.ofInt y = Int32.ofInt (w32 (Int.tdiv x y)) := Int32.toInt_inj.mp (by rw [Int32.toInt_div, toInt_i hx, toInt_i hy, toInt_i (w32_i _)]; rfl)
theorem ol_div {x y : Int} (hx : i64 x) (hy : i64 y) : Int64.ofInt x / Int64.ofInt y = Int64.ofInt (w64 (Int.tdiv x y)) := Int64.toInt_inj.mp (by rw [Int64.toInt_div, toInt_l hx, toInt_l hy, toInt_l (w64_i _)]; rfl)
theorem tmod_i {x y : Int} (hx : i32 x) : i32 (Int.tmod x y) := by
  have h : (Int.tmod x y).natAbs ≤ x.natAbs := by rw [Int.natAbs_tmod]; exact Nat.mod_le _ _
  unfold i32 at *
  rcases Int.lt_or_le x 0 with h0 | h0
  · have h1 : Int.tmod x y = -(Int.tmod (-x) y) := by rw [Int.neg_tmod]; omega
    have h2 := Int.tmod_nonneg y (show 0 ≤ -x by omega)
    constructor <;> omega
  · have := Int.tmod_nonneg y h0
    constructor <;> omega
theorem tmod_l {x y : Int} (hx : i64 x) : i64 (Int.tmod x y) := by
  have h : (Int.tmod x y).natAbs ≤ x.natAbs := by rw [Int.natAbs_tmod]; exact Nat.mod_le _ _
  unfold i64 at *
  rcases Int.lt_or_le x 0 with h0 | h0
  · have h1 : Int.tmod x y = -(Int.tmod (-x) y) := by rw [Int.neg_tmod]; omega
    have h2 := Int.tmod_nonneg y (show 0 ≤ -x by omega)
    constructor <;> omega
  · have := Int.tmod_nonneg y h0
    constructor <;> omega
theorem o_rem {x y : Int} (hx : i32 x) (hy : i32 y) : Int32.ofInt x - Int32.ofInt x / Int32.ofInt y * Int32.ofInt y = Int32.ofInt (Int.tmod x y) := by
  rw [o_div hx hy, of_w32, ← Int32.ofInt_mul, ← Int32.ofInt_sub]
  congr 1
  have := Int.tmod_add_mul_tdiv x y
  rw [Int.mul_comm]
  omega
theorem ol_rem {x y : Int} (hx : i64 x) (hy : i64 y) : Int64.ofInt x - Int64.ofInt x / Int64.ofInt y * Int64.ofInt y = Int64.ofInt (Int.tmod x y) := by
  rw [ol_div hx hy, of_w64, ← Int64.ofInt_mul, ← Int64.ofInt_sub]
  congr 1
  have := Int.tmod_add_mul_tdiv x y
  rw [Int.mul_comm]
  omega
theorem o_eq {x y : Int} (hx : i32 x) (hy : i32 y) : Int32.ofInt x = Int32.ofInt y ↔ x = y := by rw [← Int32.toInt_inj, toInt_i hx, toInt_i hy]
theorem o_lt {x y : Int} (hx : i32 x) (hy : i32 y) : Int32.ofInt x < Int32.ofInt y ↔ x < y := by rw [Int32.lt_iff_toInt_lt, toInt_i hx, toInt_i hy]
theorem o_le {x y : Int} (hx : i32 x) (hy : i32 y) : Int32.ofInt x ≤ Int32.ofInt y ↔ x ≤ y := by rw [Int32.le_iff_toInt_le, toInt_i hx, toInt_i hy]
theorem ol_eq {x y : Int} (hx : i64 x) (hy : i64 y) : Int64.ofInt x = Int64.ofInt y ↔ x = y := by rw [← Int64.toInt_inj, toInt_l hx, toInt_l hy]
theorem ol_lt {x y : Int} (hx : i64 x) (hy : i64 y) : Int64.ofInt x < Int64.ofInt y ↔ x < y := by rw [Int64.lt_iff_toInt_lt, toInt_l hx, toInt_l hy]
theorem i32_0 : i32 0 := by unfold i32; omega
theorem i64_of_32 {x : Int} (h : i32 x) : i64 x := by unfold i32 at h; unfold i64; omega
theorem o_eq0 {x : Int} (hx : i32 x) : Int32.ofInt x = 0 ↔ x = 0 := o_eq hx i32_0
theorem o_lt0 {x : Int} (hx : i32 x) : Int32.ofInt x < 0 ↔ x < 0 := o_lt hx i32_0
theorem o_gt0 {x : Int} (hx : i32 x) : 0 < Int32.ofInt x ↔ 0 < x := o_lt i32_0 hx
theorem o_le0 {x : Int} (hx : i32 x) : Int32.ofInt x ≤ 0 ↔ x ≤ 0 := o_le hx i32_0
theorem o_ge0 {x : Int} (hx : i32 x) : 0 ≤ Int32.ofInt x ↔ 0 ≤ x := o_le i32_0 hx
theorem ol_eq0 {x : Int} (hx : i64 x) : Int64.ofInt x = 0 ↔ x = 0 := ol_eq hx (i64_of_32 i32_0)
theorem o_i2l {x : Int} (hx : i32 x) : (Int32.ofInt x).toInt64 = Int64.ofInt x := Int64.toInt_inj.mp (by rw [Int32.toInt_toInt64, toInt_i hx, toInt_l (i64_of_32 hx)])
theorem o_l2i {x : Int} (hx : i64 x) : (Int64.ofInt x).toInt32 = Int32.ofInt (w32 x) := Int32.toInt_inj.mp (by rw [Int64.toInt_toInt32, toInt_l hx, toInt_i (w32_i _)]; rfl)
theorem w8_b (x : Int) : -128 ≤ w8 x ∧ w8 x < 128 := by
  unfold w8
  have h1 := Int.le_bmod (x := x) (m := 256) (by decide)
  have h2 := Int.bmod_lt (x := x) (m := 256) (by decide)
  constructor <;> omega
theorem w16_b (x : Int) : -32768 ≤ w16 x ∧ w16 x < 32768 := by
  unfold w16
  have h1 := Int.le_bmod (x := x) (m := 65536) (by decide)
  have h2 := Int.bmod_lt (x := x) (m := 65536) (by decide)
  constructor <;> omega
theorem w8_i (x : Int) : i32 (w8 x) := by have := w8_b x; unfold i32; omega
theorem w16_i (x : Int) : i32 (w16 x) := by have := w16_b x; unfold i32; omega
theorem o_i2b {x : Int} (hx : i32 x) : (Int32.ofInt x).toInt8.toInt32 = Int32.ofInt (w8 x) := Int32.toInt_inj.mp (by rw [Int8.toInt_toInt32, Int32.toInt_toInt8, toInt_i hx, toInt_i (w8_i x)]; rfl)
theorem o_i2s {x : Int} (hx : i32 x) : (Int32.ofInt x).toInt16.toInt32 = Int32.ofInt (w16 x) := Int32.toInt_inj.mp (by rw [Int16.toInt_toInt32, Int32.toInt_toInt16, toInt_i hx, toInt_i (w16_i x)]; rfl)
theorem o_cl {x : Int} (hx : i32 x) : (Int32.ofInt x).toNatClampNeg = x.toNat := by
  show (Int32.ofInt x).toInt.toNat = x.toNat
  rw [toInt_i hx]
theorem o_in {i : Int} {n : Nat} (hi : i32 i) (h : 0 ≤ i ∧ i < n) : vp_in (Int32.ofInt i) n := by
  intro q
  rcases q with q | q
  · rw [o_lt0 hi] at q
    omega
  · rw [o_cl hi] at q
    omega
theorem o_cmp {x y : Int} (hx : i64 x) (hy : i64 y) : Int32.ofInt (cmp3 x y) = if Int64.ofInt x < Int64.ofInt y then -1 else if Int64.ofInt x = Int64.ofInt y then 0 else 1 := by
  unfold cmp3
  simp only [ol_lt hx hy, ol_eq hx hy]
  split
  · rfl
  · split <;> rfl
theorem cmp3_i (x y : Int) : i32 (cmp3 x y) := by
  unfold cmp3 i32
  split
  · omega
  · split <;> omega
theorem sub_tn {n : Nat} (h : n < 2147483648) : i32 (n : Int) := by unfold i32; omega
theorem o_nat {n : Nat} : Int32.ofInt (n : Int) = Int32.ofNat n := rfl
theorem mod2 (x : Int) : x % 2 = 0 ∨ x % 2 = 1 := by omega
