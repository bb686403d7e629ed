/-! 32 bits of a value, from a place on -/
theorem o_mask5 (B : Int) : Int32.ofInt B &&& (31 : Int32) = Int32.ofInt (B % 32) := by
  apply xun_inj
  have h1 : xun (Int32.ofInt B &&& (31 : Int32)) = xun (Int32.ofInt B) % 2 ^ 5 := by rw [← Nat.and_two_pow_sub_one_eq_mod]; rfl
  have h2 := xun_m B
  have h3 := xun_m (B % 32)
  rw [h1]
  omega
theorem o_shr5 {t : Int} (h : -2147483648 ≤ t ∧ t < 2147483648) : Int32.ofInt t >>> ((5 : Int32) &&& 31) = Int32.ofInt (t / 32) := by
  apply Int32.toInt_inj.mp
  rw [oI (by omega) (by omega)]
  show ((Int32.ofInt t).toBitVec.sshiftRight' (((5 : Int32) &&& 31).toBitVec.smod 32)).toInt = _
  rw [show ((5 : Int32) &&& 31).toBitVec.smod 32 = BitVec.ofNat 32 5 by decide, BitVec.sshiftRight_eq', BitVec.toInt_sshiftRight]
  show ((Int32.ofInt t).toInt) >>> 5 = _
  rw [oI h.1 h.2, Int.shiftRight_eq_div_pow]
  rfl
theorem xushr_n {u p : Int32} (p0 : 0 ≤ p.toInt) (p1 : p.toInt < 32) : xun ((u.toUInt32 >>> (p.toUInt32 &&& Int32.toUInt32 31)).toInt32) = xun u / 2 ^ p.toInt.toNat := by
  show (u.toUInt32 >>> (p.toUInt32 &&& Int32.toUInt32 31)).toNat = _
  rw [UInt32.toNat_shiftRight, Nat.shiftRight_eq_div_pow]
  have e : (p.toUInt32 &&& Int32.toUInt32 31).toNat % 32 = p.toInt.toNat := by
    have h1 : (p.toUInt32 &&& Int32.toUInt32 31).toNat = xun p % 2 ^ 5 := by rw [← Nat.and_two_pow_sub_one_eq_mod]; rfl
    have h2 := xun_i p0
    omega
  rw [e]
  rfl
theorem or_up {x y K M : Nat} {b : Nat} (hM : M = 2 ^ b) (hx : x < M) : x ||| (y % K) * M = x + (y % K) * M := by
  subst hM
  rw [Nat.or_comm, Nat.mul_comm, ← Nat.two_pow_add_eq_or_of_lt hx, Nat.add_comm]
def bfn (v : Nat) (p : Int) : Nat := (if 0 ≤ p then v / 2 ^ p.toNat else v * 2 ^ (-p).toNat) % 4294967296
def wat (v : Nat) (i : Int) : Nat := if 0 ≤ i then v / 2 ^ (32 * i.toNat) % 4294967296 else 0
theorem wat_lt {v : Nat} {i : Int} : wat v i < 4294967296 := by
  unfold wat
  split
  · exact Nat.mod_lt _ (by decide)
  · decide
theorem up32 {v k : Nat} (h : 32 ≤ k) : v * 2 ^ k % 4294967296 = 0 := by
  rw [show k = (k - 32) + 32 by omega, Nat.pow_add, ← Nat.mul_assoc]
  exact Nat.mul_mod_left _ _
theorem bfn_0 {v : Nat} {p : Int} (hb : p % 32 = 0) : bfn v p = wat v (p / 32) := by
  unfold bfn wat
  by_cases hp : 0 ≤ p
  · rw [if_pos hp, if_pos (by omega), show p.toNat = 32 * (p / 32).toNat by omega]
  · rw [if_neg hp, if_neg (by omega)]
    exact up32 (by omega)
theorem cut_mod {X K M : Nat} : X / K % (K * M) = X % (K * M) / K + (X / (K * M) % (K * M) % K) * M := by
  rw [Nat.mod_mul_right_div_self, Nat.mod_mul_right_mod, ← Nat.div_div_eq_div_mul, Nat.mul_comm K M, Nat.mod_mul, Nat.mul_comm M (_ % _)]
theorem bfn_s {v b : Nat} {p : Int} (hb : p % 32 = b) (hb0 : 0 < b) : bfn v p = wat v (p / 32) / 2 ^ b + (wat v (p / 32 + 1) % 2 ^ b) * 2 ^ (32 - b) := by
  have hK : 2 ^ b * 2 ^ (32 - b) = 4294967296 := by rw [← Nat.pow_add, show b + (32 - b) = 32 by omega]
  unfold bfn wat
  by_cases hp : 0 ≤ p
  · rw [if_pos hp, if_pos (by omega), if_pos (by omega), show p.toNat = 32 * (p / 32).toNat + b by omega, Nat.pow_add, ← Nat.div_div_eq_div_mul, show 32 * (p / 32 + 1).toNat = 32 * (p / 32).toNat + 32 by omega, Nat.pow_add, ← Nat.div_div_eq_div_mul (k := 2 ^ 32)]
    generalize v / 2 ^ (32 * (p / 32).toNat) = X
    have := cut_mod (X := X) (K := 2 ^ b) (M := 2 ^ (32 - b))
    rw [hK] at this
    exact this
  · rw [if_neg hp, if_neg (by omega), Nat.zero_div, Nat.zero_add]
    by_cases h1 : p / 32 = -1
    · rw [if_pos (by omega), show (-p).toNat = 32 - b by omega, show 32 * (p / 32 + 1).toNat = 0 by omega, Nat.pow_zero, Nat.div_one]
      rw [← hK, Nat.mod_mul_right_mod, Nat.mul_mod_mul_right]
    · rw [if_neg (by omega), Nat.zero_mod, Nat.zero_mul]
      exact up32 (by omega)
/-- the two words put together -/
theorem bfn_or {v b : Nat} {p : Int} {lo hi : Int32} (hb : p % 32 = b) (hb0 : 0 < b) (hlo : xun lo = wat v (p / 32)) (hhi : xun hi = wat v (p / 32 + 1)) : ((lo.toUInt32 >>> ((Int32.ofInt (p % 32)).toUInt32 &&& Int32.toUInt32 31)).toInt32) ||| (hi <<< ((Int32.ofInt (32 - p % 32)) &&& 31)) = Int32.ofInt (bfn v p : Nat) := by
  have hK : 2 ^ b * 2 ^ (32 - b) = 4294967296 := by rw [← Nat.pow_add, show b + (32 - b) = 32 by omega]
  have e1 : (Int32.ofInt (p % 32)).toInt = p % 32 := oI (by omega) (by omega)
  have e2 : (Int32.ofInt (32 - p % 32)).toInt = 32 - p % 32 := oI (by omega) (by omega)
  apply xun_inj
  rw [xun_or, xushr_n (by omega) (by omega), xshl_n (by omega) (by omega), hlo, hhi, e1, e2, show (p % 32).toNat = b by omega, show (32 - p % 32).toNat = 32 - b by omega]
  have h1 : wat v (p / 32 + 1) * 2 ^ (32 - b) % 4294967296 = (wat v (p / 32 + 1) % 2 ^ b) * 2 ^ (32 - b) := by rw [← hK, Nat.mul_mod_mul_right]
  have h2 : wat v (p / 32) / 2 ^ b < 2 ^ (32 - b) := by
    rw [Nat.div_lt_iff_lt_mul (Nat.two_pow_pos b), Nat.mul_comm, hK]
    exact wat_lt
  rw [h1, or_up rfl h2, ← bfn_s hb hb0]
  have h3 := xun_m (bfn v p : Nat)
  have h4 : bfn v p < 4294967296 := Nat.mod_lt _ (by decide)
  omega
