/-! numbers -/
theorem q_b32 {z : Int} (h1 : -2147483648 ≤ z) (h2 : z < 2147483648) : z.bmod (2 ^ 32) = z := by
  rw [Int.bmod_def]; omega
theorem q_b64 {z : Int} (h1 : -9223372036854775808 ≤ z) (h2 : z < 9223372036854775808) : z.bmod (2 ^ 64) = z := by
  rw [Int.bmod_def]; omega
theorem q_a32 {x y : Int32} (h1 : -2147483648 ≤ x.toInt + y.toInt) (h2 : x.toInt + y.toInt < 2147483648) : (x + y).toInt = x.toInt + y.toInt := by rw [Int32.toInt_add, q_b32 h1 h2]
theorem q_s32 {x y : Int32} (h1 : -2147483648 ≤ x.toInt - y.toInt) (h2 : x.toInt - y.toInt < 2147483648) : (x - y).toInt = x.toInt - y.toInt := by rw [Int32.toInt_sub, q_b32 h1 h2]
theorem q_m32 {x y : Int32} (h1 : -2147483648 ≤ x.toInt * y.toInt) (h2 : x.toInt * y.toInt < 2147483648) : (x * y).toInt = x.toInt * y.toInt := by rw [Int32.toInt_mul, q_b32 h1 h2]
theorem q_n32 {x : Int32} (h1 : -2147483648 < x.toInt) : (-x).toInt = -x.toInt := by
  have := Int32.toInt_lt x
  rw [Int32.toInt_neg, q_b32 (by omega) (by omega)]
theorem q_a64 {x y : Int64} (h1 : -9223372036854775808 ≤ x.toInt + y.toInt) (h2 : x.toInt + y.toInt < 9223372036854775808) : (x + y).toInt = x.toInt + y.toInt := by rw [Int64.toInt_add, q_b64 h1 h2]
theorem q_s64 {x y : Int64} (h1 : -9223372036854775808 ≤ x.toInt - y.toInt) (h2 : x.toInt - y.toInt < 9223372036854775808) : (x - y).toInt = x.toInt - y.toInt := by rw [Int64.toInt_sub, q_b64 h1 h2]
theorem q_m64 {x y : Int64} (h1 : -9223372036854775808 ≤ x.toInt * y.toInt) (h2 : x.toInt * y.toInt < 9223372036854775808) : (x * y).toInt = x.toInt * y.toInt := by rw [Int64.toInt_mul, q_b64 h1 h2]
theorem q_n64 {x : Int64} (h1 : -9223372036854775808 < x.toInt) : (-x).toInt = -x.toInt := by
  have := Int64.toInt_lt x
  rw [Int64.toInt_neg, q_b64 (by omega) (by omega)]
theorem q_td {a b : Int} (hb : 0 < b) : (0 ≤ a → 0 ≤ a.tdiv b ∧ a.tdiv b ≤ a ∧ a.tdiv b = a / b) ∧ (a < 0 → a ≤ a.tdiv b ∧ a.tdiv b ≤ 0 ∧ a.tdiv b = -((-a) / b)) := by
  refine ⟨fun h => ?_, fun h => ?_⟩
  · rw [Int.tdiv_eq_ediv_of_nonneg h]
    exact ⟨Int.ediv_nonneg h (by omega), Int.ediv_le_self b h, rfl⟩
  · have e : a.tdiv b = -((-a).tdiv b) := by rw [Int.neg_tdiv, Int.neg_neg]
    have h2 : 0 ≤ -a := by omega
    rw [e, Int.tdiv_eq_ediv_of_nonneg h2]
    have k1 := Int.ediv_nonneg h2 (show 0 ≤ b by omega)
    have k2 := Int.ediv_le_self b h2
    exact ⟨by omega, by omega, rfl⟩
theorem q_d32 {x y : Int32} (hy : 0 < y.toInt) : (x / y).toInt = x.toInt.tdiv y.toInt := by
  have l1 := Int32.toInt_lt x
  have l2 := Int32.le_toInt x
  obtain ⟨k1, k2⟩ := q_td (a := x.toInt) hy
  rw [Int32.toInt_div]
  by_cases h : 0 ≤ x.toInt
  · have := k1 h
    exact q_b32 (by omega) (by omega)
  · have := k2 (by omega)
    exact q_b32 (by omega) (by omega)
theorem q_d64 {x y : Int64} (hy : 0 < y.toInt) : (x / y).toInt = x.toInt.tdiv y.toInt := by
  have l1 := Int64.toInt_lt x
  have l2 := Int64.le_toInt x
  obtain ⟨k1, k2⟩ := q_td (a := x.toInt) hy
  rw [Int64.toInt_div]
  by_cases h : 0 ≤ x.toInt
  · have := k1 h
    exact q_b64 (by omega) (by omega)
  · have := k2 (by omega)
    exact q_b64 (by omega) (by omega)
theorem q_c32 {x : Int64} (h1 : -2147483648 ≤ x.toInt) (h2 : x.toInt < 2147483648) : x.toInt32.toInt = x.toInt := by rw [Int64.toInt_toInt32, q_b32 h1 h2]
theorem q_eq64 {x : Int64} {y : Int32} (h : x.toInt = y.toInt) : x = y.toInt64 := Int64.toInt_inj.mp (by rw [Int32.toInt_toInt64, h])
theorem q_neg_div {x y : Int64} (hy : 0 < y.toInt) (hx : -9223372036854775808 < x.toInt) : (-x) / y = -(x / y) := by
  apply Int64.toInt_inj.mp
  have l1 := Int64.toInt_lt x
  obtain ⟨k1, k2⟩ := q_td (a := x.toInt) hy
  rw [q_d64 hy, q_n64 hx, q_n64, q_d64 hy, Int.neg_tdiv]
  rw [q_d64 hy]
  by_cases h : 0 ≤ x.toInt
  · have := k1 h
    omega
  · have := k2 (by omega)
    omega
/-! floorDiv -/
theorem q_xor {x y : Int32} (hy : 0 < y.toInt) : 0 ≤ (x ^^^ y) ↔ 0 ≤ x.toInt := by
  rw [Int32.le_iff_toInt_le, Int32.toInt_zero]
  have e : (x ^^^ y).toInt = (x.toBitVec ^^^ y.toBitVec).toInt := rfl
  have m := BitVec.msb_xor (x := x.toBitVec) (y := y.toBitVec)
  rw [BitVec.msb_eq_toInt, BitVec.msb_eq_toInt, BitVec.msb_eq_toInt] at m
  have ey : decide (y.toBitVec.toInt < 0) = false := decide_eq_false (by have : y.toBitVec.toInt = y.toInt := rfl; omega)
  rw [ey, Bool.xor_false] at m
  rw [e]
  have ex : x.toBitVec.toInt = x.toInt := rfl
  rw [ex] at m
  have := decide_eq_decide.mp m
  omega
theorem q_fd {x y : Int32} (hy : 0 < y.toInt) : (f_Math_floorDiv x y).toInt = x.toInt / y.toInt := by
  obtain ⟨k1, k2⟩ := q_td (a := x.toInt) hy
  have l1 := Int32.toInt_lt x
  have l2 := Int32.le_toInt x
  have em := Int.mul_ediv_add_emod x.toInt y.toInt
  have m1 := Int.emod_nonneg x.toInt (show y.toInt ≠ 0 by omega)
  have m2 := Int.emod_lt_of_pos x.toInt hy
  unfold f_Math_floorDiv
  by_cases h : 0 ≤ x.toInt
  · rw [if_pos ((q_xor hy).mpr h), q_d32 hy]
    exact (k1 h).2.2
  · rw [if_neg (fun q => h ((q_xor hy).mp q))]
    have w := k2 (by omega)
    have d := q_d32 (x := x) hy
    -- t = tdiv, with t * y between x and 0
    have hn : 0 ≤ -x.toInt := by omega
    have en := Int.mul_ediv_add_emod (-x.toInt) y.toInt
    have n1 := Int.emod_nonneg (-x.toInt) (show y.toInt ≠ 0 by omega)
    have n2 := Int.emod_lt_of_pos (-x.toInt) hy
    generalize hq : (-x.toInt) / y.toInt = q at *
    generalize hr : (-x.toInt) % y.toInt = r at *
    have hq0 : 0 ≤ q := by omega
    have hyq : q ≤ y.toInt * q := by
      have := Int.mul_le_mul_of_nonneg_right (show (1 : Int) ≤ y.toInt by omega) hq0
      omega
    have pm : (x / y).toInt * y.toInt = -(y.toInt * q) := by rw [d, w.2.2, Int.neg_mul, Int.mul_comm]
    have mm : (x / y * y).toInt = -(y.toInt * q) := by rw [q_m32 (by rw [pm]; omega) (by rw [pm]; omega), pm]
    by_cases e : x / y * y = x
    · rw [if_pos e]
      have e2 : -(y.toInt * q) = x.toInt := by rw [← mm, e]
      rw [d, w.2.2]
      have : x.toInt = (-q) * y.toInt := by rw [Int.neg_mul, Int.mul_comm q]; omega
      rw [this, Int.mul_ediv_cancel _ (by omega)]
    · rw [if_neg e]
      have e2 : -(y.toInt * q) ≠ x.toInt := fun h => e (Int32.toInt_inj.mp (by rw [mm, h]))
      rw [q_s32 (by rw [d, show (1 : Int32).toInt = 1 from rfl]; omega) (by rw [d, show (1 : Int32).toInt = 1 from rfl]; omega), d, w.2.2, show (1 : Int32).toInt = 1 from rfl]
      have hx : x.toInt = (y.toInt - r) + y.toInt * (-q - 1) := by
        rw [Int.mul_sub, Int.mul_neg, Int.mul_one]; omega
      have := (Int.ediv_emod_unique hy (a := x.toInt) (r := y.toInt - r) (q := -q - 1)).mpr ⟨by omega, by omega, by omega⟩
      exact this.1.symm
