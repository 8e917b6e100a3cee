/-! INTS IN RANGE -/
theorem q_norm (x : Int) : (Int32.ofInt x).toInt = x.bmod 4294967296 := by
  first
    | exact Int32.toInt_ofInt ..
    | simp [Int32.toInt_ofInt]
theorem q_bmod {x : Int} (h1 : -2147483648 ≤ x) (h2 : x ≤ 2147483647) : x.bmod 4294967296 = x := by
  rw [Int.bmod_def]
  split <;> omega
theorem q_of {x : Int} (h1 : -2147483648 ≤ x) (h2 : x ≤ 2147483647) : (Int32.ofInt x).toInt = x := by rw [q_norm, q_bmod h1 h2]
theorem q_add_b (x y : Int) : q_add x y = (x + y).bmod 4294967296 := by
  rw [q_add, Int32.toInt_add, q_norm, q_norm]
  simp [Int.bmod_add_bmod, Int.add_bmod_bmod]
theorem q_sub_b (x y : Int) : q_sub x y = (x - y).bmod 4294967296 := by
  rw [q_sub, Int32.toInt_sub, q_norm, q_norm]
  simp [Int.bmod_sub_bmod, Int.sub_bmod_bmod]
theorem q_mul_b (x y : Int) : q_mul x y = (x * y).bmod 4294967296 := by
  rw [q_mul, Int32.toInt_mul, q_norm, q_norm]
  simp [Int.bmod_mul_bmod, Int.mul_bmod_bmod]
theorem q_neg_b (x : Int) : q_neg x = (-x).bmod 4294967296 := by
  rw [q_neg, Int32.toInt_neg, q_norm]
  simp
theorem q_add_e {x y : Int} (h1 : -2147483648 ≤ x + y) (h2 : x + y ≤ 2147483647) : q_add x y = x + y := by rw [q_add_b, q_bmod h1 h2]
theorem q_sub_e {x y : Int} (h1 : -2147483648 ≤ x - y) (h2 : x - y ≤ 2147483647) : q_sub x y = x - y := by rw [q_sub_b, q_bmod h1 h2]
theorem q_mul_e {x y : Int} (h1 : -2147483648 ≤ x * y) (h2 : x * y ≤ 2147483647) : q_mul x y = x * y := by rw [q_mul_b, q_bmod h1 h2]
theorem q_neg_e {x : Int} (h1 : -2147483648 ≤ -x) (h2 : -x ≤ 2147483647) : q_neg x = -x := by rw [q_neg_b, q_bmod h1 h2]
