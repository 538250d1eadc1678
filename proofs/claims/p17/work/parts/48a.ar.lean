/-! ARITHMETIC of the exact answers -/
def ar_w (n : Int) : Int := Int.bmod n (2 ^ 32)
def ar_v (n : Int) : Int := Int.bmod n (2 ^ 64)
theorem ar_wr {n : Int} (h1 : -2147483648 ≤ n) (h2 : n ≤ 2147483647) : ar_w n = n := Int.bmod_eq_of_le (by omega) (by omega)
theorem ar_vr {n : Int} (h1 : -9223372036854775808 ≤ n) (h2 : n ≤ 9223372036854775807) : ar_v n = n := Int.bmod_eq_of_le (by omega) (by omega)
theorem ar_add (x y : Int32) : (x + y).toInt = ar_w (x.toInt + y.toInt) := Int32.toInt_add x y
theorem ar_sub (x y : Int32) : (x - y).toInt = ar_w (x.toInt - y.toInt) := Int32.toInt_sub x y
theorem ar_mul (x y : Int32) : (x * y).toInt = ar_w (x.toInt * y.toInt) := Int32.toInt_mul x y
theorem ar_neg (x : Int32) : (-x).toInt = ar_w (-x.toInt) := Int32.toInt_neg x
theorem ar_addl (x y : Int64) : (x + y).toInt = ar_v (x.toInt + y.toInt) := Int64.toInt_add x y
theorem ar_subl (x y : Int64) : (x - y).toInt = ar_v (x.toInt - y.toInt) := Int64.toInt_sub x y
theorem ar_mull (x y : Int64) : (x * y).toInt = ar_v (x.toInt * y.toInt) := Int64.toInt_mul x y
theorem ar_i2l (x : Int32) : x.toInt64.toInt = x.toInt := Int32.toInt_toInt64 x
theorem ar_cl (x : Int32) : x.toNatClampNeg = x.toInt.toNat := rfl
theorem ar_bd (x : Int32) : -2147483648 ≤ x.toInt ∧ x.toInt ≤ 2147483647 := q_rng x
theorem ar_m1 : (-1 : Int32).toInt = -1 := rfl
