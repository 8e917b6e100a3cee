/-! NUMBERS OF THE MACHINE WITHIN THEIR BOUNDS -/
theorem q_lcmp_gt {x y : Int} (h : y < x) : q_lcmp x y = 1 := by
  unfold q_lcmp
  rw [if_neg (by omega), if_neg (by omega)]
theorem q_lcmp_eq {x y : Int} (h : x = y) : q_lcmp x y = 0 := by
  unfold q_lcmp
  rw [if_neg (by omega), if_pos h]
theorem q_i2l_e {x : Int} (h1 : -2147483648 ≤ x) (h2 : x ≤ 2147483647) : q_i2l x = x := by
  unfold q_i2l
  rw [Int32.toInt_toInt64, q_of h1 h2]
theorem q_norm64 (x : Int) : (Int64.ofInt x).toInt = x.bmod 18446744073709551616 := by
  first
    | exact Int64.toInt_ofInt ..
    | simp [Int64.toInt_ofInt]
theorem q_bmod64 {x : Int} (h1 : -9223372036854775808 ≤ x) (h2 : x ≤ 9223372036854775807) : x.bmod 18446744073709551616 = x := by
  rw [Int.bmod_def]
  split <;> omega
theorem q_ofL {x : Int} (h1 : -9223372036854775808 ≤ x) (h2 : x ≤ 9223372036854775807) : (Int64.ofInt x).toInt = x := by rw [q_norm64, q_bmod64 h1 h2]
theorem q_ladd_e {x y : Int} (h1 : -9223372036854775808 ≤ x + y) (h2 : x + y ≤ 9223372036854775807) : q_ladd x y = x + y := by
  rw [q_ladd, Int64.toInt_add, q_norm64, q_norm64]
  simp only [Int.bmod_add_bmod, Int.add_bmod_bmod]
  exact q_bmod64 h1 h2
theorem q_lmul_e {x y : Int} (h1 : -9223372036854775808 ≤ x * y) (h2 : x * y ≤ 9223372036854775807) : q_lmul x y = x * y := by
  rw [q_lmul, Int64.toInt_mul, q_norm64, q_norm64]
  simp only [Int.bmod_mul_bmod, Int.mul_bmod_bmod]
  exact q_bmod64 h1 h2
theorem q_ldiv_e {x y : Int} (h0 : 0 ≤ x) (h1 : x ≤ 9223372036854775807) (h2 : 0 < y) (h3 : y ≤ 9223372036854775807) : q_ldiv x y = x / y := by
  rw [q_ldiv, Int64.toInt_div, q_ofL (by omega) h1, q_ofL (by omega) h3, Int.tdiv_eq_ediv_of_nonneg h0]
  have a1 : 0 ≤ x / y := Int.ediv_nonneg h0 (by omega)
  have a2 : x / y ≤ x := Int.ediv_le_self _ h0
  exact q_bmod64 (by omega) (by omega)
theorem q_lrem_e {x y : Int} (h0 : 0 ≤ x) (h1 : x ≤ 9223372036854775807) (h2 : 0 < y) (h3 : y ≤ 9223372036854775807) : q_lrem x y = x % y := by
  have e := q_ldiv_e h0 h1 h2 h3
  unfold q_ldiv at e
  have a1 : 0 ≤ x % y := Int.emod_nonneg _ (by omega)
  have a2 : x % y < y := Int.emod_lt_of_pos _ h2
  have a3 : y * (x / y) + x % y = x := Int.mul_ediv_add_emod x y
  have a4 : x / y * y = y * (x / y) := Int.mul_comm _ _
  have a5 : 0 ≤ x / y := Int.ediv_nonneg h0 (by omega)
  have a6 : 0 ≤ y * (x / y) := Int.mul_nonneg (by omega) a5
  rw [q_lrem, Int64.toInt_sub, Int64.toInt_mul, e, q_ofL (by omega) h1, q_ofL (by omega) h3, q_bmod64 (x := x / y * y) (by omega) (by omega)]
  rw [q_bmod64 (by omega) (by omega)]
  omega
theorem q_l2i_e {x : Int} (h1 : -2147483648 ≤ x) (h2 : x ≤ 2147483647) : q_l2i x = x := by
  unfold q_l2i
  rw [Int64.toInt_toInt32, q_ofL (by omega) (by omega), q_bmod h1 h2]
theorem q_div_e {x y : Int} (h0 : 0 ≤ x) (h1 : x ≤ 2147483647) (h2 : 0 < y) (h3 : y ≤ 2147483647) : q_div x y = x / y := by
  rw [q_div, Int32.toInt_div, q_of (by omega) h1, q_of (by omega) h3, Int.tdiv_eq_ediv_of_nonneg h0]
  have a1 : 0 ≤ x / y := Int.ediv_nonneg h0 (by omega)
  have a2 : x / y ≤ x := Int.ediv_le_self _ h0
  exact q_bmod (by omega) (by omega)
theorem q_rem_e {x y : Int} (h0 : 0 ≤ x) (h1 : x ≤ 2147483647) (h2 : 0 < y) (h3 : y ≤ 2147483647) : q_rem x y = x % y := by
  have e := q_div_e h0 h1 h2 h3
  unfold q_div at e
  have a1 : 0 ≤ x % y := Int.emod_nonneg _ (by omega)
  have a2 : x % y < y := Int.emod_lt_of_pos _ h2
  have a3 : y * (x / y) + x % y = x := Int.mul_ediv_add_emod x y
  have a4 : x / y * y = y * (x / y) := Int.mul_comm _ _
  have a5 : 0 ≤ x / y := Int.ediv_nonneg h0 (by omega)
  have a6 : 0 ≤ y * (x / y) := Int.mul_nonneg (by omega) a5
  rw [q_rem, Int32.toInt_sub, Int32.toInt_mul, e, q_of (by omega) h1, q_of (by omega) h3, q_bmod (x := x / y * y) (by omega) (by omega)]
  rw [q_bmod (by omega) (by omega)]
  omega
