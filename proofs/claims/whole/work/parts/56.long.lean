/-! longs as integers -/
theorem q_add (a b : Int) : Int64.ofInt a + Int64.ofInt b = Int64.ofInt (a + b) := (Int64.ofInt_add a b).symm
theorem q_sub (a b : Int) : Int64.ofInt a - Int64.ofInt b = Int64.ofInt (a - b) := (Int64.ofInt_sub a b).symm
theorem q_mul (a b : Int) : Int64.ofInt a * Int64.ofInt b = Int64.ofInt (a * b) := (Int64.ofInt_mul a b).symm
theorem q_neg (a : Int) : -Int64.ofInt a = Int64.ofInt (-a) := (Int64.ofInt_neg a).symm
theorem qI {k : Int} (h : -9223372036854775808 ≤ k ∧ k < 9223372036854775808) : (Int64.ofInt k).toInt = k := Int64.toInt_ofInt_of_le (by omega) (by omega)
theorem q_i2l {a : Int} (h : -2147483648 ≤ a ∧ a < 2147483648) : (Int32.ofInt a).toInt64 = Int64.ofInt a := by
  apply Int64.toInt_inj.mp
  rw [qI ⟨by omega, by omega⟩]
  exact (Int32.toInt_toInt64 _).trans (oI h.1 h.2)
theorem q_l2i (a : Int) : (Int64.ofInt a).toInt32 = Int32.ofInt a := by
  apply Int32.toInt_inj.mp
  rw [Int64.toInt_toInt32, Int64.toInt_ofInt, Int32.toInt_ofInt]
  exact Int.bmod_bmod_of_dvd (by decide)
theorem o_mask (a : Int) : Int32.ofInt a &&& (1073741823 : Int32) = Int32.ofInt (a % 1073741824) := by
  apply xun_inj
  rw [xmask]
  have h1 : ∀ k : Int, (xun (Int32.ofInt k) : Int) = k % 4294967296 := by
    intro k
    have e := xun_int (Int32.ofInt k)
    rw [Int32.toInt_ofInt] at e
    have hl := xun_lt (Int32.ofInt k)
    have e2 : k.bmod Int32.size = if k % 4294967296 < 2147483648 then k % 4294967296 else k % 4294967296 - 4294967296 := by
      rw [Int.bmod_def]
      rfl
    rw [e2] at e
    omega
  have a1 := h1 a
  have a2 := h1 (a % 1073741824)
  omega
/-- an arithmetic shift is a division, rounded down -/
theorem q_shr {t : Int} {n : Nat} {p : Int32} (hp : p.toInt = n) (hn : n < 63) (h : -9223372036854775808 ≤ t ∧ t < 9223372036854775808) : (Int64.ofInt t) >>> (p.toInt64 &&& 63) = Int64.ofInt (t / 2 ^ n) := by
  have e := xof_nat (p := p) (by omega)
  have ha := xamt p.toInt.toNat (by omega)
  rw [← e, show p.toInt.toNat = n by omega] at ha
  apply Int64.toInt_inj.mp
  have hpos : (0 : Int) < 2 ^ n := Int.pow_pos (by decide)
  have b1 : -9223372036854775808 ≤ t / 2 ^ n := by
    have h1 : -9223372036854775808 / 2 ^ n ≤ t / 2 ^ n := Int.ediv_le_ediv hpos h.1
    have h2 : (-9223372036854775808 : Int) ≤ -9223372036854775808 / 2 ^ n := by
      rw [Int.le_ediv_iff_mul_le hpos]
      have : (1 : Int) ≤ 2 ^ n := hpos
      omega
    omega
  have b2 : t / 2 ^ n < 9223372036854775808 := by
    rw [Int.ediv_lt_iff_lt_mul hpos]
    have : (1 : Int) ≤ 2 ^ n := hpos
    omega
  rw [qI ⟨b1, b2⟩]
  show ((Int64.ofInt t).toBitVec.sshiftRight' ((p.toInt64 &&& 63).toBitVec.smod 64)).toInt = _
  rw [ha, BitVec.sshiftRight_eq', BitVec.toInt_sshiftRight, BitVec.toNat_ofNat, Nat.mod_eq_of_lt (by omega)]
  show ((Int64.ofInt t).toInt) >>> n = _
  rw [qI h, Int.shiftRight_eq_div_pow]
  norm_cast
theorem q_shr30 {t : Int} (h : -9223372036854775808 ≤ t ∧ t < 9223372036854775808) : (Int64.ofInt t) >>> ((30 : Int32).toInt64 &&& 63) = Int64.ofInt (t / 1073741824) := q_shr (n := 30) rfl (by decide) h
theorem q_shr32 {t : Int} (h : -9223372036854775808 ≤ t ∧ t < 9223372036854775808) : (Int64.ofInt t) >>> ((32 : Int32).toInt64 &&& 63) = Int64.ofInt (t / 4294967296) := q_shr (n := 32) rfl (by decide) h
def lc (a b : Int) : Int := if b < a then 1 else if a = b then 0 else -1
theorem q_cmp {a b : Int} (ha : -9223372036854775808 ≤ a ∧ a < 9223372036854775808) (hb : -9223372036854775808 ≤ b ∧ b < 9223372036854775808) : lg_cmp (Int64.ofInt a) (Int64.ofInt b) = Int32.ofInt (lc a b) := by
  apply Int32.toInt_inj.mp
  have h := lg_i (Int64.ofInt a) (Int64.ofInt b)
  rw [qI ha, qI hb] at h
  unfold lc
  split
  · rw [show (Int32.ofInt 1).toInt = 1 from rfl]; omega
  · split
    · rw [show (Int32.ofInt 0).toInt = 0 from rfl]; omega
    · rw [show (Int32.ofInt (-1)).toInt = -1 from rfl]; omega
theorem q_div {a b : Int} (ha : 0 ≤ a ∧ a < 9223372036854775808) (hb : 0 < b ∧ b < 9223372036854775808) : Int64.ofInt a / Int64.ofInt b = Int64.ofInt (a / b) := by
  apply Int64.toInt_inj.mp
  have h0 : 0 ≤ a / b := Int.ediv_nonneg ha.1 (by omega)
  have h1 : a / b ≤ a := Int.ediv_le_self _ ha.1
  rw [qI ⟨by omega, by omega⟩, Int64.toInt_div, qI ⟨by omega, by omega⟩, qI ⟨by omega, by omega⟩, Int.tdiv_eq_ediv_of_nonneg ha.1]
  exact Int.bmod_eq_of_le (by omega) (by omega)
theorem xul_q {a : Int} (h : 0 ≤ a) (h1 : a < 9223372036854775808) : (xul (Int64.ofInt a) : Int) = a := by
  rw [xul_i (by rw [qI ⟨by omega, h1⟩]; exact h), qI ⟨by omega, h1⟩]
/-- words side by side -/
theorem q_join {a b : Int} (ha : 0 ≤ a ∧ a < 1073741824) (hb : 0 ≤ b ∧ b < 1073741824) : (Int64.ofInt a) <<< ((30 : Int32).toInt64 &&& 63) ||| Int64.ofInt b = Int64.ofInt (a * 1073741824 + b) := by
  have ea := xul_q ha.1 (by omega)
  have eb := xul_q hb.1 (by omega)
  have hs := xul_shl (x := Int64.ofInt a) (p := 30) (q := 30) rfl (by decide) (by omega)
  apply xul_inj
  have e2 : ((xul (Int64.ofInt (a * 1073741824 + b)) : Nat) : Int) = a * 1073741824 + b := xul_q (by omega) (by omega)
  rw [xul_or, hs, xor_add (p := 30) (Nat.mul_mod_left ..) (by omega)]
  omega
section
variable {a b : Int} {P : Prop}
theorem lc_3 (a b : Int) : (b < a ∧ (Int32.ofInt (lc a b)).toInt = 1) ∨ (a = b ∧ (Int32.ofInt (lc a b)).toInt = 0) ∨ (a < b ∧ (Int32.ofInt (lc a b)).toInt = -1) := by
  unfold lc
  split
  · exact Or.inl ⟨by assumption, rfl⟩
  · split
    · exact Or.inr (Or.inl ⟨by assumption, rfl⟩)
    · exact Or.inr (Or.inr ⟨by omega, rfl⟩)
theorem lc_eq (k : a = b → P) : (Int32.ofInt (lc a b)).toInt = 0 → P := fun h => k (by have := lc_3 a b; omega)
theorem lc_ne (k : a ≠ b → P) : (Int32.ofInt (lc a b)).toInt ≠ 0 → P := fun h => k (by have := lc_3 a b; omega)
theorem lc_lt (k : a < b → P) : (Int32.ofInt (lc a b)).toInt < 0 → P := fun h => k (by have := lc_3 a b; omega)
theorem lc_ge (k : b ≤ a → P) : 0 ≤ (Int32.ofInt (lc a b)).toInt → P := fun h => k (by have := lc_3 a b; omega)
theorem lc_gt (k : b < a → P) : 0 < (Int32.ofInt (lc a b)).toInt → P := fun h => k (by have := lc_3 a b; omega)
theorem lc_le (k : a ≤ b → P) : (Int32.ofInt (lc a b)).toInt ≤ 0 → P := fun h => k (by have := lc_3 a b; omega)
end
theorem o_dec (a : Int) : Int32.ofInt a + (-1 : Int32) = Int32.ofInt (a + (-1)) := by rw [Int32.ofInt_add]; rfl
