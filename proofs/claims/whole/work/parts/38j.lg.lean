/-! longs as naturals -/
theorem xul_add {a b : Int64} (h : xul a + xul b < 18446744073709551616) : xul (a + b) = xul a + xul b := by
  show (a.toBitVec + b.toBitVec).toNat = _
  rw [BitVec.toNat_add]
  exact Nat.mod_eq_of_lt h
theorem xul_mul {a b : Int64} (h : xul a * xul b < 18446744073709551616) : xul (a * b) = xul a * xul b := by
  show (a.toBitVec * b.toBitVec).toNat = _
  rw [BitVec.toNat_mul]
  exact Nat.mod_eq_of_lt h
theorem xul_or (a b : Int64) : xul (a ||| b) = xul a ||| xul b := rfl
theorem xul_int (x : Int64) : x.toInt = if 2 * xul x < 18446744073709551616 then (xul x : Int) else (xul x : Int) - 18446744073709551616 := by
  show x.toBitVec.toInt = _
  rw [BitVec.toInt_eq_toNat_cond]
  rfl
theorem xul_i {x : Int64} (h : 0 ≤ x.toInt) : (xul x : Int) = x.toInt := by
  have h1 := xul_int x
  have h2 := xul_lt x
  split at h1 <;> omega
theorem xul_p {x : Int64} (h : xul x < 9223372036854775808) : x.toInt = (xul x : Int) := by
  have h1 := xul_int x
  split at h1 <;> omega
theorem xul_inj {x y : Int64} (h : xul x = xul y) : x = y := by
  have : x.toUInt64 = y.toUInt64 := UInt64.toNat_inj.mp h
  have := congrArg UInt64.toInt64 this
  simpa using this
theorem xun_of {k : Nat} (h : k < 2147483648) : xun (Int32.ofNat k) = k := by
  have h1 := xof_i h
  have h2 := xun_i (x := Int32.ofNat k) (by omega)
  omega
/-- an arithmetic shift downward, of what is not negative -/
theorem xul_shr {x : Int64} {p : Int32} {q : Nat} (h : xul x < 9223372036854775808) (hp : p.toInt = q) (p1 : q < 64) : xul (x >>> (p.toInt64 &&& 63)) = xul x / 2 ^ q := by
  have e := xof_nat (p := p) (by omega)
  have ha := xamt p.toInt.toNat (by omega)
  rw [← e, show p.toInt.toNat = q by omega] at ha
  show (x.toBitVec.sshiftRight' ((p.toInt64 &&& 63).toBitVec.smod 64)).toNat = _
  rw [ha, BitVec.sshiftRight_eq']
  have hm : x.toBitVec.msb = false := BitVec.msb_eq_false_iff_two_mul_lt.mpr (by show 2 * xul x < _; omega)
  rw [BitVec.toNat_sshiftRight_of_msb_false hm, BitVec.toNat_ofNat, Nat.mod_eq_of_lt (by omega)]
  show xul x >>> q = _
  rw [Nat.shiftRight_eq_div_pow]
/-- a shift upward that loses nothing -/
theorem xul_shl {x : Int64} {p : Int32} {q : Nat} (hp : p.toInt = q) (p1 : q < 64) (h : xul x * 2 ^ q < 18446744073709551616) : xul (x <<< (p.toInt64 &&& 63)) = xul x * 2 ^ q := by
  have e := xof_nat (p := p) (by omega)
  have ha := xamt p.toInt.toNat (by omega)
  rw [← e, show p.toInt.toNat = q by omega] at ha
  show (x.toBitVec <<< ((p.toInt64 &&& 63).toBitVec.smod 64)).toNat = _
  rw [ha, BitVec.shiftLeft_eq', BitVec.toNat_ofNat, BitVec.toNat_shiftLeft, Nat.mod_eq_of_lt (show q < 2 ^ 64 by omega), Nat.shiftLeft_eq]
  exact Nat.mod_eq_of_lt h
/-- the quotient and the remainder of longs that are not negative -/
theorem xul_div {a b : Int64} (ha : xul a < 9223372036854775808) (hb : xul b < 9223372036854775808) (h0 : xul b ≠ 0) : xul (a / b) = xul a / xul b := by
  have ea := xul_p ha
  have eb := xul_p hb
  have hle : xul a / xul b ≤ xul a := Nat.div_le_self _ _
  have e0 : ((xul a : Int) / (xul b : Int)) = ((xul a / xul b : Nat) : Int) := (Int.natCast_ediv ..).symm
  have e : (a / b).toInt = ((xul a / xul b : Nat) : Int) := by
    rw [Int64.toInt_div, ea, eb, Int.tdiv_eq_ediv_of_nonneg (by omega), e0]
    generalize xul a / xul b = q at *
    exact Int.bmod_eq_of_le (by omega) (by omega)
  generalize xul a / xul b = q at *
  have := xul_i (x := a / b) (by omega)
  omega
theorem xul_sub {a b : Int64} (h : xul b ≤ xul a) : xul (a - b) = xul a - xul b := by
  have h1 := xul_lt a
  show (a.toBitVec - b.toBitVec).toNat = _
  rw [BitVec.toNat_sub]
  have e1 : a.toBitVec.toNat = xul a := rfl
  have e2 : b.toBitVec.toNat = xul b := rfl
  rw [e1, e2]
  omega
theorem xul_rem {a b : Int64} (ha : xul a < 9223372036854775808) (hb : xul b < 9223372036854775808) (h0 : xul b ≠ 0) : xul (a - a / b * b) = xul a % xul b := by
  have hd := xul_div ha hb h0
  have hm := Nat.div_mul_le_self (xul a) (xul b)
  have e : xul (a / b * b) = xul a / xul b * xul b := by rw [xul_mul (by rw [hd]; omega), hd]
  rw [xul_sub (by omega), e]
  have := Nat.div_add_mod (xul a) (xul b)
  rw [Nat.mul_comm] at this
  omega
theorem xul_w {x : Int32} (x0 : 0 ≤ x.toInt) : xul x.toInt64 = xun x := xul_ext x0
/-- the low 30 bits of a long -/
theorem xq_w (m : Int64) : 0 ≤ (m.toInt32 &&& (1073741823 : Int32)).toInt ∧ (m.toInt32 &&& (1073741823 : Int32)).toInt < 1073741824 ∧ xun (m.toInt32 &&& (1073741823 : Int32)) = xul m % 1073741824 := ⟨(xq_b m).1, (xq_b m).2.1, xq_n m⟩
/-- a word of a number -/
theorem xwd_at {g : Nat → Value} {n i : Nat} (h : ∀ j, j < n → xiw g j) (hi : i < n) : xwd g i = xvl g n / 2 ^ (30 * i) % 1073741824 := by
  obtain ⟨m, e⟩ : ∃ m, n = i + (m + 1) := ⟨n - i - 1, by omega⟩
  subst e
  have h1 : xvl g i < 2 ^ (30 * i) := xvl_lt fun j hj => h j (by omega)
  have h2 := (h i (by omega)).lt
  rw [xvl_split, Nat.add_comm (xvl g i), Nat.mul_comm, Nat.mul_add_div (Nat.two_pow_pos _), Nat.div_eq_of_lt h1, Nat.add_zero, xsv_cons, Nat.add_mul_mod_self_left, Nat.mod_eq_of_lt h2]
/-- the number from a word on -/
theorem xvl_from {g : Nat → Value} {n i : Nat} (h : ∀ j, j < n → xiw g j) (hi : i ≤ n) : xvl g n / 2 ^ (30 * i) = xsv g i (n - i) := by
  obtain ⟨m, e⟩ : ∃ m, n = i + m := ⟨n - i, by omega⟩
  subst e
  have h1 : xvl g i < 2 ^ (30 * i) := xvl_lt fun j hj => h j (by omega)
  rw [xvl_split, Nat.add_comm (xvl g i), Nat.mul_comm, Nat.mul_add_div (Nat.two_pow_pos _), Nat.div_eq_of_lt h1, Nat.add_zero, Nat.add_sub_cancel_left]
