def r32 (x : Int) : Prop := -2147483648 ≤ x ∧ x < 2147483648
def r64 (x : Int) : Prop := -9223372036854775808 ≤ x ∧ x < 9223372036854775808
theorem r32_64 {x : Int} (h : r32 x) : r64 x := by unfold r32 at h; unfold r64; omega
theorem r32_w (z : Int) : r32 (w32 z) := by
  unfold r32 w32
  have h1 := Int.le_bmod (x := z) (m := 4294967296) (by decide)
  have h2 := Int.bmod_lt (x := z) (m := 4294967296) (by decide)
  omega
theorem r64_w (z : Int) : r64 (w64 z) := by
  unfold r64 w64
  have h1 := Int.le_bmod (x := z) (m := 18446744073709551616) (by decide)
  have h2 := Int.bmod_lt (x := z) (m := 18446744073709551616) (by decide)
  omega
theorem w32_id {x : Int} (h : r32 x) : w32 x = x := by
  unfold r32 at h
  exact Int.bmod_eq_of_le (by omega) (by omega)
theorem w64_id {x : Int} (h : r64 x) : w64 x = x := by
  unfold r64 at h
  exact Int.bmod_eq_of_le (by omega) (by omega)
theorem r32_i (x : Int32) : r32 x.toInt := by
  have h1 := x.le_toInt
  have h2 := x.toInt_lt
  unfold r32; omega
theorem r64_i (x : Int64) : r64 x.toInt := by
  have h1 := x.le_toInt
  have h2 := x.toInt_lt
  unfold r64; omega
theorem i32_to {x : Int} (h : r32 x) : (Int32.ofInt x).toInt = x := Int32.toInt_ofInt_of_le (by unfold r32 at h; omega) (by unfold r32 at h; omega)
theorem i64_to {x : Int} (h : r64 x) : (Int64.ofInt x).toInt = x := Int64.toInt_ofInt_of_le (by unfold r64 at h; omega) (by unfold r64 at h; omega)
theorem a_w32 (z : Int) : Int32.ofInt (w32 z) = Int32.ofInt z := by
  rw [Int32.ofInt_eq_iff_bmod_eq_toInt, Int32.toInt_ofInt]
  exact Int.bmod_bmod
theorem a_w64 (z : Int) : Int64.ofInt (w64 z) = Int64.ofInt z := by
  rw [Int64.ofInt_eq_iff_bmod_eq_toInt, Int64.toInt_ofInt]
  exact Int.bmod_bmod
theorem a_add (x y : Int) : Int32.ofInt (w32 (x + y)) = Int32.ofInt x + Int32.ofInt y := by rw [a_w32, Int32.ofInt_add]
theorem a_sub (x y : Int) : Int32.ofInt (w32 (x - y)) = Int32.ofInt x - Int32.ofInt y := by rw [a_w32, Int32.ofInt_sub]
theorem a_mul (x y : Int) : Int32.ofInt (w32 (x * y)) = Int32.ofInt x * Int32.ofInt y := by rw [a_w32, Int32.ofInt_mul]
theorem a_neg (x : Int) : Int32.ofInt (w32 (-x)) = -Int32.ofInt x := by rw [a_w32, Int32.ofInt_neg]
theorem mm32 : Int32.minValue.toInt = -2147483648 ∧ Int32.maxValue.toInt = 2147483647 := by decide
theorem mm64 : Int64.minValue.toInt = -9223372036854775808 ∧ Int64.maxValue.toInt = 9223372036854775807 := by decide
theorem t_div {x y : Int} (hx : r32 x) (hy : r32 y) : Int32.ofInt (Int.tdiv x y) = Int32.ofInt x / Int32.ofInt y := by
  unfold r32 at hx hy
  exact Int32.ofInt_tdiv (by rw [mm32.1]; omega) (by rw [mm32.2]; omega) (by rw [mm32.1]; omega) (by rw [mm32.2]; omega)
theorem t_divL {x y : Int} (hx : r64 x) (hy : r64 y) : Int64.ofInt (Int.tdiv x y) = Int64.ofInt x / Int64.ofInt y := by
  unfold r64 at hx hy
  exact Int64.ofInt_tdiv (by rw [mm64.1]; omega) (by rw [mm64.2]; omega) (by rw [mm64.1]; omega) (by rw [mm64.2]; omega)
theorem a_div {x y : Int} (hx : r32 x) (hy : r32 y) : Int32.ofInt (w32 (Int.tdiv x y)) = Int32.ofInt x / Int32.ofInt y := by
  rw [a_w32, t_div hx hy]
theorem a_rem {x y : Int} (hx : r32 x) (hy : r32 y) : Int32.ofInt (w32 (x - Int.tdiv x y * y)) = Int32.ofInt x - Int32.ofInt x / Int32.ofInt y * Int32.ofInt y := by
  rw [a_w32, Int32.ofInt_sub, Int32.ofInt_mul, t_div hx hy]
theorem a_addL (x y : Int) : Int64.ofInt (w64 (x + y)) = Int64.ofInt x + Int64.ofInt y := by rw [a_w64, Int64.ofInt_add]
theorem a_mulL (x y : Int) : Int64.ofInt (w64 (x * y)) = Int64.ofInt x * Int64.ofInt y := by rw [a_w64, Int64.ofInt_mul]
theorem a_divL {x y : Int} (hx : r64 x) (hy : r64 y) : Int64.ofInt (w64 (Int.tdiv x y)) = Int64.ofInt x / Int64.ofInt y := by
  rw [a_w64, t_divL hx hy]
theorem a_lt {x y : Int} (hx : r32 x) (hy : r32 y) : Int32.ofInt x < Int32.ofInt y ↔ x < y := by
  rw [Int32.lt_iff_toInt_lt, i32_to hx, i32_to hy]
theorem a_le {x y : Int} (hx : r32 x) (hy : r32 y) : Int32.ofInt x ≤ Int32.ofInt y ↔ x ≤ y := by
  rw [Int32.le_iff_toInt_le, i32_to hx, i32_to hy]
theorem a_eq {x y : Int} (hx : r32 x) (hy : r32 y) : Int32.ofInt x = Int32.ofInt y ↔ x = y := by
  rw [← Int32.toInt_inj, i32_to hx, i32_to hy]
theorem a_ltL {x y : Int} (hx : r64 x) (hy : r64 y) : Int64.ofInt x < Int64.ofInt y ↔ x < y := by
  rw [Int64.lt_iff_toInt_lt, i64_to hx, i64_to hy]
theorem a_eqL {x y : Int} (hx : r64 x) (hy : r64 y) : Int64.ofInt x = Int64.ofInt y ↔ x = y := by
  rw [← Int64.toInt_inj, i64_to hx, i64_to hy]
theorem a_cmp {x y : Int} (hx : r64 x) (hy : r64 y) : Int32.ofInt (lcm x y) = lg_cmp (Int64.ofInt x) (Int64.ofInt y) := by
  unfold lcm lg_cmp
  simp only [gt_iff_lt, a_ltL hy hx, a_eqL hx hy]
  repeat' split
  all_goals rfl
theorem r32_lcm (x y : Int) : r32 (lcm x y) := by unfold lcm r32; split <;> (try split) <;> omega
theorem a_i2l {x : Int} (hx : r32 x) : (Int32.ofInt x).toInt64 = Int64.ofInt x := by
  unfold r32 at hx
  exact Int32.toInt64_ofInt (by rw [mm32.1]; omega) (by rw [mm32.2]; omega)
theorem r32_b (x : Int) : -128 ≤ Int.bmod x 256 ∧ Int.bmod x 256 < 128 := by
  have h1 := Int.le_bmod (x := x) (m := 256) (by decide)
  have h2 := Int.bmod_lt (x := x) (m := 256) (by decide)
  omega
theorem a_i2b {x : Int} (hx : r32 x) : (Int32.ofInt x).toInt8.toInt32 = Int32.ofInt (Int.bmod x 256) := by
  have h := r32_b x
  apply Int32.toInt_inj.mp
  rw [i32_to (by unfold r32; omega), lg_i2b_toInt, i32_to hx]
theorem a_byte {x : Int} (h : -128 ≤ x ∧ x < 128) : vp_nar .byte (Int32.ofInt x) = Int32.ofInt x := by
  rw [vp_nar_byte]
  have hr : r32 x := by unfold r32; omega
  exact lg_i2b_small (by rw [i32_to hr]; omega) (by rw [i32_to hr]; omega)
theorem a_bool {x : Int} (h : x = 0 ∨ x = 1) : vp_nar .boolean (Int32.ofInt x) = Int32.ofInt x := by
  rcases h with rfl | rfl <;> rfl
theorem a_max {x y : Int} (hx : r32 x) (hy : r32 y) : Int32.ofInt (max x y) = if Int32.ofInt x < Int32.ofInt y then Int32.ofInt y else Int32.ofInt x := by
  simp only [a_lt hx hy]
  split
  · rw [Int.max_eq_right (by omega)]
  · rw [Int.max_eq_left (by omega)]
theorem a_min {x y : Int} (hx : r32 x) (hy : r32 y) : Int32.ofInt (min x y) = if Int32.ofInt y < Int32.ofInt x then Int32.ofInt y else Int32.ofInt x := by
  simp only [a_lt hy hx]
  split
  · rw [Int.min_eq_right (by omega)]
  · rw [Int.min_eq_left (by omega)]
theorem r32_max {x y : Int} (hx : r32 x) (hy : r32 y) : r32 (max x y) := by unfold r32 at *; omega
theorem r32_min {x y : Int} (hx : r32 x) (hy : r32 y) : r32 (min x y) := by unfold r32 at *; omega
theorem a_in {i : Int} {n : Nat} (h : 0 ≤ i ∧ i < (n : Int)) (hi : r32 i) : vp_in (Int32.ofInt i) n := by
  rw [vp_in_iff, i32_to hi]; exact h
theorem a_nat {i : Int} (h : 0 ≤ i) (hi : r32 i) : (Int32.ofInt i).toNatClampNeg = i.toNat := by
  unfold r32 at hi
  exact Int32.toNatClampNeg_ofInt_of_le (by omega) (by omega)
