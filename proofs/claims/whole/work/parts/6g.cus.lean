/-! the upper word of a long, without a sign -/
theorem q_ushr32 {t : Int} (h0 : 0 ≤ t) (h1 : t < 18446744073709551616) : ((Int64.ofInt t).toUInt64 >>> ((32 : Int32).toInt64.toUInt64 &&& Int64.toUInt64 63)).toInt64 = Int64.ofInt (t / 4294967296) := by
  apply xul_inj
  show ((Int64.ofInt t).toUInt64 >>> ((32 : Int32).toInt64.toUInt64 &&& Int64.toUInt64 63)).toNat = _
  rw [UInt64.toNat_shiftRight, Nat.shiftRight_eq_div_pow]
  have e : ((32 : Int32).toInt64.toUInt64 &&& Int64.toUInt64 63).toNat % 64 = 32 := by decide
  rw [e]
  have h2 := xul_m t
  have h3 := xul_m (t / 4294967296)
  show xul (Int64.ofInt t) / 2 ^ 32 = _
  omega
/-- one word of a product with a carry -/
theorem mul_step {a s P c f x y q : Int} (h1 : s + y * P = a) (hx : x = y + c * f) (hq : x % 4294967296 + q * 4294967296 = x) : (s + (x % 4294967296) * P) + q * (4294967296 * P) = a + c * f * P := by
  have e : (x % 4294967296 + q * 4294967296) * P = x * P := by rw [hq]
  rw [Int.add_mul, Int.mul_assoc] at e
  have e2 : x * P = y * P + c * f * P := by rw [hx, Int.add_mul]
  omega
