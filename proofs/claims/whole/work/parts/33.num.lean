/-! numbers of one or two words: lengths, shifts, powers of two -/
def xun (x : Int32) : Nat := x.toUInt32.toNat
def xul (m : Int64) : Nat := m.toUInt64.toNat
def xlo (m : Int64) : Int32 := m.toInt32
def xsr (m : Int64) (k : Int32) : Int64 := (m.toUInt64 >>> (k.toInt64.toUInt64 &&& Int64.toUInt64 63)).toInt64
def xhi (m : Int64) : Int32 := (xsr m 32).toInt32
def xqs (m : Int64) : Int64 := xsr m 30
def xq (m : Int64) : Int32 := m.toInt32 &&& 1073741823
theorem xun_lt (x : Int32) : xun x < 4294967296 := x.toUInt32.toNat_lt
theorem xul_lt (x : Int64) : xul x < 18446744073709551616 := x.toUInt64.toNat_lt
theorem xun_z {x : Int32} : xun x = 0 ↔ x.toInt = 0 := by
  unfold xun
  constructor
  · intro h
    have : x.toUInt32 = 0 := UInt32.toNat_inj.mp h
    have : x = 0 := by
      have := congrArg UInt32.toInt32 this
      simpa using this
    subst this; rfl
  · intro h
    have : x = 0 := Int32.toInt_inj.mp h
    subst this; rfl
theorem xun_int (x : Int32) : x.toInt = if 2 * xun x < 4294967296 then (xun x : Int) else (xun x : Int) - 4294967296 := by
  show x.toBitVec.toInt = _
  rw [BitVec.toInt_eq_toNat_cond]
  rfl
theorem xun_i {x : Int32} (h : 0 ≤ x.toInt) : (xun x : Int) = x.toInt := by
  have h1 := xun_int x
  have h2 := xun_lt x
  split at h1 <;> omega
theorem xun_p {x : Int32} (h : xun x < 2147483648) : x.toInt = (xun x : Int) := by
  have h1 := xun_int x
  split at h1 <;> omega
theorem xul_z {x : Int64} : xul x = 0 ↔ x = 0 := by
  unfold xul
  constructor
  · intro h
    have : x.toUInt64 = 0 := UInt64.toNat_inj.mp h
    have := congrArg UInt64.toInt64 this
    simpa using this
  · intro h; subst h; rfl
theorem xlo_n (m : Int64) : xun (xlo m) = xul m % 4294967296 := by
  show (BitVec.signExtend 32 m.toBitVec).toNat = m.toBitVec.toNat % 4294967296
  rw [BitVec.signExtend_eq_setWidth_of_le _ (by omega), BitVec.toNat_setWidth]
theorem xqs_n (m : Int64) : xul (xqs m) = xul m / 1073741824 := by
  unfold xul xqs xsr
  rw [UInt64.toUInt64_toInt64]
  rw [UInt64.toNat_shiftRight]
  show m.toUInt64.toNat >>> 30 = _
  rw [Nat.shiftRight_eq_div_pow]
theorem xhi_n (m : Int64) : xun (xhi m) = xul m / 4294967296 := by
  have h : xul (xsr m 32) = xul m / 4294967296 := by
    unfold xul xsr
    rw [UInt64.toUInt64_toInt64, UInt64.toNat_shiftRight]
    show m.toUInt64.toNat >>> 32 = _
    rw [Nat.shiftRight_eq_div_pow]
  have := xlo_n (xsr m 32)
  unfold xlo at this
  have hl := xul_lt m
  unfold xhi; omega
theorem xq_n (m : Int64) : xun (xq m) = xul m % 1073741824 := by
  have h := xlo_n m
  unfold xlo at h
  unfold xq
  have : xun (m.toInt32 &&& 1073741823) = xun m.toInt32 &&& 1073741823 := rfl
  rw [this, h, Nat.and_two_pow_sub_one_eq_mod _ 30]
  omega

/-! the length of a number in bits -/
def xbl (n : Nat) : Nat := if n = 0 then 0 else n.log2 + 1
theorem xbl_eq {n k : Nat} (h0 : 2 ^ k ≤ n) (h1 : n < 2 ^ (k + 1)) : xbl n = k + 1 := by
  have hn : n ≠ 0 := by have := Nat.two_pow_pos k; omega
  unfold xbl
  rw [if_neg hn, (Nat.log2_eq_iff hn).mpr ⟨h0, h1⟩]
theorem xbl_of {n : Nat} (hn : n ≠ 0) : 2 ^ (xbl n - 1) ≤ n ∧ n < 2 ^ (xbl n) ∧ 1 ≤ xbl n := by
  unfold xbl
  rw [if_neg hn]
  exact ⟨(Nat.le_log2 hn).mp (Nat.le_refl _), Nat.lt_log2_self, by omega⟩
theorem xbl_le {n k : Nat} (h : n < 2 ^ k) : xbl n ≤ k := by
  by_cases hn : n = 0
  · subst hn; exact Nat.zero_le _
  · have h1 := xbl_of hn
    apply Nat.le_of_not_lt
    intro hk
    have := Nat.pow_le_pow_right (n := 2) (by omega) (show k ≤ xbl n - 1 by omega)
    omega
theorem xbl_ge {n k : Nat} (h : 2 ^ k ≤ n) : k + 1 ≤ xbl n := by
  have hn : n ≠ 0 := by have := Nat.two_pow_pos k; omega
  have h1 := xbl_of hn
  apply Nat.le_of_not_lt
  intro hk
  have := Nat.pow_le_pow_right (n := 2) (by omega) (show xbl n ≤ k by omega)
  omega
theorem xbl_mul {n r k : Nat} (hn : n ≠ 0) (hr : r < 2 ^ k) : xbl (n * 2 ^ k + r) = xbl n + k := by
  have h := xbl_of hn
  have e : xbl n + k = (xbl n - 1 + k) + 1 := by omega
  rw [e]
  have p1 : 2 ^ (xbl n - 1 + k) = 2 ^ (xbl n - 1) * 2 ^ k := Nat.pow_add ..
  have p2 : 2 ^ (xbl n - 1 + k + 1) = 2 ^ (xbl n) * 2 ^ k := by rw [← Nat.pow_add]; congr 1; omega
  have q1 := Nat.mul_le_mul_right (2 ^ k) h.1
  have q2 := Nat.mul_le_mul_right (2 ^ k) (show n + 1 ≤ 2 ^ xbl n from h.2.1)
  rw [Nat.add_mul] at q2
  exact xbl_eq (by omega) (by omega)
/-- the length of a long, by its upper part -/
theorem xbl_hi {N k : Nat} (h : N / 2 ^ k ≠ 0) : xbl N = xbl (N / 2 ^ k) + k := by
  have e := Nat.div_add_mod N (2 ^ k)
  have := xbl_mul (n := N / 2 ^ k) (r := N % 2 ^ k) (k := k) h (Nat.mod_lt _ (Nat.two_pow_pos k))
  rw [Nat.mul_comm, e] at this
  exact this
/-- leading zeros, as the library counts them -/
def xnlz (x : Int32) : Int32 := Int32.ofNat (32 - xbl (xun x))
theorem xnlz_i (x : Int32) : (xnlz x).toInt = 32 - (xbl (xun x) : Int) := by
  have h : xbl (xun x) ≤ 32 := xbl_le (xun_lt x)
  unfold xnlz
  rw [Int32.toInt_ofNat_of_lt (by omega)]
  omega
def xbn (x : Int32) : Int32 := Int32.ofNat (xbl (xun x))
theorem xbn_i (x : Int32) : (xbn x).toInt = (xbl (xun x) : Int) := by
  have h : xbl (xun x) ≤ 32 := xbl_le (xun_lt x)
  unfold xbn
  rw [Int32.toInt_ofNat_of_lt (by omega)]
/-! a word of 30 bits, shifted -/
def xsh (t p : Int32) : Int64 := t.toInt64 <<< (p.toInt64 &&& 63)
def xH (t p : Int32) : Int32 := (xsh t p >>> ((30 : Int32).toInt64 &&& 63)).toInt32
def xL (t p : Int32) : Int32 := (xsh t p).toInt32 &&& 1073741823
theorem xof_nat {p : Int32} (h : 0 ≤ p.toInt) : p = Int32.ofNat p.toInt.toNat := by
  apply Int32.toInt_inj.mp
  rw [Int32.toInt_ofNat_of_lt (by have := Int32.toInt_lt p; omega)]
  omega
theorem xamt : ∀ k < 64, ((Int32.ofNat k).toInt64 &&& 63).toBitVec.smod 64 = BitVec.ofNat 64 k := by decide
theorem xul_ext {t : Int32} (h : 0 ≤ t.toInt) : xul t.toInt64 = xun t := by
  show (BitVec.signExtend 64 t.toBitVec).toNat = t.toBitVec.toNat
  have h1 := xun_i h
  have h2 := Int32.toInt_lt t
  have h3 : t.toBitVec.toNat < 2147483648 := by show xun t < _; omega
  rw [BitVec.signExtend_eq_setWidth_of_msb_false (BitVec.msb_eq_false_iff_two_mul_lt.mpr (by omega)), BitVec.toNat_setWidth]
  omega
theorem xsh_n {t p : Int32} (h0 : 0 ≤ t.toInt) (h1 : t.toInt < 1073741824) (p0 : 0 ≤ p.toInt) (p1 : p.toInt < 30) : xul (xsh t p) = xun t * 2 ^ p.toInt.toNat := by
  have hx := xul_ext h0
  have hu := xun_i h0
  have hp := xof_nat p0
  have hk : p.toInt.toNat < 64 := by omega
  have ha := xamt _ hk
  rw [← hp] at ha
  show (t.toInt64.toBitVec <<< ((p.toInt64 &&& 63).toBitVec.smod 64)).toNat = _
  rw [ha, BitVec.shiftLeft_eq', BitVec.toNat_ofNat, BitVec.toNat_shiftLeft]
  have : p.toInt.toNat % 2 ^ 64 = p.toInt.toNat := Nat.mod_eq_of_lt (by omega)
  rw [this]
  have hx' : t.toInt64.toBitVec.toNat = xun t := hx
  rw [hx', Nat.shiftLeft_eq]
  apply Nat.mod_eq_of_lt
  have q : 2 ^ p.toInt.toNat ≤ 2 ^ 30 := Nat.pow_le_pow_right (by omega) (by omega)
  have r : xun t * 2 ^ p.toInt.toNat ≤ 1073741824 * 2 ^ 30 := Nat.mul_le_mul (by omega) q
  omega
theorem xsh_lt {t p : Int32} (h0 : 0 ≤ t.toInt) (h1 : t.toInt < 1073741824) (p0 : 0 ≤ p.toInt) (p1 : p.toInt < 30) : xun t * 2 ^ p.toInt.toNat < 1152921504606846976 := by
  have hu := xun_i h0
  have q : 2 ^ p.toInt.toNat ≤ 2 ^ 30 := Nat.pow_le_pow_right (by omega) (by omega)
  have r : xun t * 2 ^ p.toInt.toNat ≤ 1073741823 * 2 ^ 30 := Nat.mul_le_mul (by omega) q
  omega
theorem xH_n {t p : Int32} (h0 : 0 ≤ t.toInt) (h1 : t.toInt < 1073741824) (p0 : 0 ≤ p.toInt) (p1 : p.toInt < 30) : xun (xH t p) = xun t * 2 ^ p.toInt.toNat / 1073741824 := by
  have hn := xsh_n h0 h1 p0 p1
  have hl := xsh_lt h0 h1 p0 p1
  unfold xH
  generalize xsh t p = x at *
  have hs : xul (x >>> ((30 : Int32).toInt64 &&& 63)) = xul x / 1073741824 := by
    show (x.toBitVec.sshiftRight' (((30 : Int32).toInt64 &&& 63).toBitVec.smod 64)).toNat = _
    have : ((30 : Int32).toInt64 &&& 63).toBitVec.smod 64 = BitVec.ofNat 64 30 := by decide
    rw [this, BitVec.sshiftRight_eq']
    have hm : x.toBitVec.msb = false := BitVec.msb_eq_false_iff_two_mul_lt.mpr (by show 2 * xul x < _; omega)
    rw [BitVec.toNat_sshiftRight_of_msb_false hm]
    show xul x >>> 30 = _
    rw [Nat.shiftRight_eq_div_pow]
  have := xlo_n (x >>> ((30 : Int32).toInt64 &&& 63))
  unfold xlo at this
  rw [this, hs, hn]
  omega
theorem xL_n {t p : Int32} (h0 : 0 ≤ t.toInt) (h1 : t.toInt < 1073741824) (p0 : 0 ≤ p.toInt) (p1 : p.toInt < 30) : xun (xL t p) = xun t * 2 ^ p.toInt.toNat % 1073741824 := by
  have := xq_n (xsh t p)
  rw [xsh_n h0 h1 p0 p1] at this
  exact this
theorem xun_or (a b : Int32) : xun (a ||| b) = xun a ||| xun b := rfl
/-- the upper word after the shift, in the two cases -/
theorem xtop_h {t p : Int32} (h0 : t.toInt ≠ 0) (h1 : 0 ≤ t.toInt) (h2 : t.toInt < 1073741824) (p0 : 0 ≤ p.toInt) (p1 : p.toInt < 30) (hb : (xbl (xun t) : Int) + p.toInt = 34) : xun ((0 : Int32) ||| xH t p) < 16 ∧ 8 ≤ xun ((0 : Int32) ||| xH t p) := by
  have e : (0 : Int32) ||| xH t p = xH t p := by simp
  rw [e, xH_n h1 h2 p0 p1]
  have ht : xun t ≠ 0 := fun h => h0 (xun_z.mp h)
  have hm := xbl_mul (k := p.toInt.toNat) (r := 0) ht (Nat.two_pow_pos _)
  have hN : xun t * 2 ^ p.toInt.toNat ≠ 0 := Nat.mul_ne_zero ht (by have := Nat.two_pow_pos p.toInt.toNat; omega)
  have ho := xbl_of hN
  rw [Nat.add_zero] at hm
  have : xbl (xun t * 2 ^ p.toInt.toNat) = 34 := by omega
  rw [this] at ho
  omega
theorem xtop_z {t p : Int32} (h0 : t.toInt ≠ 0) (h1 : 0 ≤ t.toInt) (h2 : t.toInt < 1073741824) (p0 : 0 ≤ p.toInt) (p1 : p.toInt < 30) (hb : (xbl (xun t) : Int) + p.toInt = 4) : xun ((0 : Int32) ||| xH t p) = 0 ∧ xun (xL t p) < 16 ∧ 8 ≤ xun (xL t p) := by
  have e : (0 : Int32) ||| xH t p = xH t p := by simp
  rw [e, xH_n h1 h2 p0 p1, xL_n h1 h2 p0 p1]
  have ht : xun t ≠ 0 := fun h => h0 (xun_z.mp h)
  have hm := xbl_mul (k := p.toInt.toNat) (r := 0) ht (Nat.two_pow_pos _)
  have hN : xun t * 2 ^ p.toInt.toNat ≠ 0 := Nat.mul_ne_zero ht (by have := Nat.two_pow_pos p.toInt.toNat; omega)
  have ho := xbl_of hN
  rw [Nat.add_zero] at hm
  have : xbl (xun t * 2 ^ p.toInt.toNat) = 4 := by omega
  rw [this] at ho
  omega
theorem xtop_o {t u p : Int32} (h0 : t.toInt ≠ 0) (h1 : 0 ≤ t.toInt) (h2 : t.toInt < 1073741824) (u1 : 0 ≤ u.toInt) (u2 : u.toInt < 1073741824) (p0 : 0 ≤ p.toInt) (p1 : p.toInt < 30) (hb : (xbl (xun t) : Int) + p.toInt = 4) : xun (xL t p ||| xH u p) < 16 ∧ 8 ≤ xun (xL t p ||| xH u p) := by
  have hz := xtop_z h0 h1 h2 p0 p1 hb
  have hp : p.toInt < 4 := by
    have ht : xun t ≠ 0 := fun h => h0 (xun_z.mp h)
    have := xbl_of ht
    omega
  have hu := xun_i u1
  have hH : xun (xH u p) < 2 ^ 4 := by
    rw [xH_n u1 u2 p0 p1]
    have q : 2 ^ p.toInt.toNat ≤ 2 ^ 3 := Nat.pow_le_pow_right (by omega) (by omega)
    have r : xun u * 2 ^ p.toInt.toNat ≤ 1073741823 * 2 ^ 3 := Nat.mul_le_mul (by omega) q
    omega
  rw [xun_or]
  exact ⟨Nat.or_lt_two_pow (n := 4) hz.2.1 hH, Nat.le_trans hz.2.2 Nat.left_le_or⟩
theorem xbn_4 {t : Int32} (h : xun t < 16 ∧ 8 ≤ xun t) : (xbn t).toInt = 4 ∧ t.toInt ≠ 0 ∧ 0 ≤ t.toInt := by
  rw [xbn_i, xbl_eq (k := 3) (by omega) (by omega)]
  have hp := xun_p (x := t) (by omega)
  refine ⟨rfl, fun hz => ?_, by omega⟩
  have := xun_z.mpr hz
  omega
theorem lg_cmp_z {x : Int64} : (lg_cmp x 0).toInt = 0 ↔ x = 0 := by
  unfold lg_cmp
  constructor
  · intro h
    split at h
    · exact absurd h (by decide)
    · split at h
      · assumption
      · exact absurd h (by decide)
  · intro h; subst h; decide
/-- 32 bits from a position on, of a number of one or two words -/
def xbw (s u0 u1 a : Int32) : Int32 := if a.toInt < 0 ∨ s.toInt ≤ a.toInt then 0 else if a.toInt = 0 then u0 else u1
def xbf (s u0 u1 p : Int32) : Int32 :=
  if (p &&& (31 : Int32)).toInt = 0 then xbw s u0 u1 (p >>> ((5 : Int32) &&& 31))
  else ((xbw s u0 u1 (p >>> ((5 : Int32) &&& 31))).toUInt32 >>> ((p &&& (31 : Int32)).toUInt32 &&& Int32.toUInt32 31)).toInt32 ||| ((xbw s u0 u1 ((p >>> ((5 : Int32) &&& 31)) + (1 : Int32))) <<< (((32 : Int32) - (p &&& (31 : Int32))) &&& 31))
theorem xam5 : ∀ k < 32, ((Int32.ofNat k) &&& 31).toBitVec.smod 32 = BitVec.ofNat 32 k := by decide
theorem xshl_n {u p : Int32} (p0 : 0 ≤ p.toInt) (p1 : p.toInt < 32) : xun (u <<< (p &&& 31)) = xun u * 2 ^ p.toInt.toNat % 4294967296 := by
  have hp := xof_nat p0
  have hk : p.toInt.toNat < 32 := by omega
  have ha := xam5 _ hk
  rw [← hp] at ha
  show (u.toBitVec <<< ((p &&& 31).toBitVec.smod 32)).toNat = _
  rw [ha, BitVec.shiftLeft_eq', BitVec.toNat_ofNat, BitVec.toNat_shiftLeft]
  have : p.toInt.toNat % 2 ^ 32 = p.toInt.toNat := Nat.mod_eq_of_lt (by omega)
  rw [this, Nat.shiftLeft_eq]
  rfl
theorem xshl_ne {u p : Int32} (hu : u.toInt ≠ 0) (p0 : 0 ≤ p.toInt) (hp : (xnlz u).toInt = p.toInt) : xun (u <<< (p &&& 31)) ≠ 0 := by
  have h0 : xun u ≠ 0 := fun h => hu (xun_z.mp h)
  have h1 := xnlz_i u
  have h2 := xbl_of h0
  rw [xshl_n p0 (by omega)]
  have hm := xbl_mul (k := p.toInt.toNat) (r := 0) h0 (Nat.two_pow_pos _)
  have hN : xun u * 2 ^ p.toInt.toNat ≠ 0 := Nat.mul_ne_zero h0 (by have := Nat.two_pow_pos p.toInt.toNat; omega)
  have ho := xbl_of hN
  rw [Nat.add_zero] at hm
  have e : xbl (xun u * 2 ^ p.toInt.toNat) = 32 := by omega
  rw [e] at ho
  rw [Nat.mod_eq_of_lt ho.2.1]
  exact hN
theorem xor_ne {a b : Int32} (h : xun b ≠ 0) : (a ||| b).toInt ≠ 0 := by
  intro hz
  have h1 := xun_z.mpr hz
  rw [xun_or] at h1
  have : xun b ≤ xun a ||| xun b := Nat.right_le_or
  omega
theorem xam2 : ∀ k < 32, 0 < k → (((32 : Int32) - Int32.ofNat k) &&& (31 : Int32)).toInt ≠ 0 ∧ ((32 : Int32) - Int32.ofNat k) >>> ((5 : Int32) &&& 31) + (1 : Int32) = 1 ∧ (((32 : Int32) - (((32 : Int32) - Int32.ofNat k) &&& (31 : Int32))) &&& 31) = Int32.ofNat k &&& 31 := by decide
theorem xbf_2 {u0 u1 K : Int32} (hu : u1.toInt ≠ 0) (k0 : 0 ≤ K.toInt) (hk : (xnlz u1).toInt = K.toInt) : (xbf 2 u0 u1 ((32 : Int32) - K)).toInt ≠ 0 := by
  have h1 := xnlz_i u1
  have h2 := xbl_of (fun h => hu (xun_z.mp h))
  have hK := xof_nat k0
  by_cases hz : K.toInt = 0
  · have : K = 0 := Int32.toInt_inj.mp hz
    subst this
    exact hu
  · have h := xam2 K.toInt.toNat (by omega) (by omega)
    rw [← hK] at h
    unfold xbf
    rw [if_neg h.1, h.2.1, h.2.2]
    exact xor_ne (xshl_ne hu k0 hk)
theorem xam3 : ∀ k < 32, 0 < k → (((32 : Int32) - Int32.ofNat (k + 32)) &&& (31 : Int32)).toInt ≠ 0 ∧ ((32 : Int32) - Int32.ofNat (k + 32)) >>> ((5 : Int32) &&& 31) + (1 : Int32) = 0 ∧ (((32 : Int32) - (((32 : Int32) - Int32.ofNat (k + 32)) &&& (31 : Int32))) &&& 31) = Int32.ofNat k &&& 31 := by decide
theorem xbf_1 {u0 u1 K : Int32} (hu : u0.toInt ≠ 0) (k0 : 32 ≤ K.toInt) (hk : (xnlz u0).toInt = K.toInt - 32) : (xbf 1 u0 u1 ((32 : Int32) - K)).toInt ≠ 0 := by
  have h1 := xnlz_i u0
  have h2 := xbl_of (fun h => hu (xun_z.mp h))
  have hK := xof_nat (show 0 ≤ K.toInt by omega)
  by_cases hz : K.toInt = 32
  · have : K = 32 := Int32.toInt_inj.mp hz
    subst this
    exact hu
  · have h := xam3 (K.toInt.toNat - 32) (by omega) (by omega)
    have e : K.toInt.toNat - 32 + 32 = K.toInt.toNat := by omega
    rw [e, ← hK] at h
    unfold xbf
    rw [if_neg h.1, h.2.1, h.2.2]
    have e2 : (Int32.ofNat (K.toInt.toNat - 32)).toInt = K.toInt - 32 := by
      rw [Int32.toInt_ofNat_of_lt (by omega)]; omega
    exact xor_ne (xshl_ne (u := u0) (p := Int32.ofNat (K.toInt.toNat - 32)) hu (by omega) (by omega))
/-! zeros below -/
theorem xodd (x : Nat) : x ≠ 0 → ∃ t q, x = 2 ^ t * (2 * q + 1) := by
  induction x using Nat.strongRecOn with
  | ind x ih =>
    intro h
    by_cases hx : x % 2 = 1
    · exact ⟨0, x / 2, by omega⟩
    · obtain ⟨t, q, e⟩ := ih (x / 2) (by omega) (by omega)
      refine ⟨t + 1, q, ?_⟩
      rw [Nat.pow_succ, Nat.mul_right_comm, ← e]
      omega
theorem xlow {t q : Nat} (h : 2 ^ t * (2 * q + 1) < 2 ^ 32) : (2 ^ 32 - (2 ^ t * (2 * q + 1) + 1)) &&& (2 ^ t * (2 * q + 1) - 1) = 2 ^ t - 1 := by
  apply Nat.eq_of_testBit_eq
  intro j
  have hp := Nat.two_pow_pos t
  have e1 : 2 ^ t * (2 * q + 1) - 1 = 2 ^ t * (2 * q) + (2 ^ t - 1) := by rw [Nat.mul_add]; omega
  rw [Nat.testBit_and, Nat.testBit_two_pow_sub_succ h, e1, Nat.testBit_two_pow_mul_add _ (by omega), Nat.testBit_two_pow_sub_one, Nat.testBit_two_pow_mul]
  have ht : t < 32 := by
    apply Nat.lt_of_not_le
    intro hc
    have h1 := Nat.pow_le_pow_right (n := 2) (by omega) hc
    have h2 := Nat.mul_le_mul_left (2 ^ t) (show 1 ≤ 2 * q + 1 by omega)
    omega
  by_cases hj : j < t
  · have : ¬ j ≥ t := by omega
    have h3 : j < 32 := by omega
    simp [hj, this, h3]
  · have h4 : j ≥ t := by omega
    simp only [hj, if_false, h4, decide_true, Bool.true_and, decide_false]
    by_cases he : j - t = 0
    · rw [he]; simp
    · obtain ⟨k, hk⟩ : ∃ k, j - t = k + 1 := ⟨j - t - 1, by omega⟩
      rw [hk, Nat.testBit_succ, Nat.testBit_succ]
      have a1 : (2 * q + 1) / 2 = q := by omega
      have a2 : 2 * q / 2 = q := by omega
      rw [a1, a2]
      cases q.testBit k <;> simp
def xntz (x : Int32) : Int32 := xbn ((x ^^^ (-1 : Int32)) &&& (x - (1 : Int32)))
theorem xbl_ones (t : Nat) : xbl (2 ^ t - 1) = t := by
  have hp := Nat.two_pow_pos t
  by_cases h : t = 0
  · subst h; rfl
  · obtain ⟨k, hk⟩ : ∃ k, t = k + 1 := ⟨t - 1, by omega⟩
    subst hk
    have h2 := Nat.two_pow_pos k
    exact xbl_eq (by rw [Nat.pow_succ]; omega) (by omega)
theorem xntz_n {x : Int32} (h : x.toInt ≠ 0) : ∃ t q : Nat, xun x = 2 ^ t * (2 * q + 1) ∧ (xntz x).toInt = (t : Int) ∧ xbl (xun x) = xbl (2 * q + 1) + t := by
  have h0 : xun x ≠ 0 := fun e => h (xun_z.mp e)
  obtain ⟨t, q, e⟩ := xodd _ h0
  refine ⟨t, q, e, ?_, ?_⟩
  · unfold xntz
    rw [xbn_i]
    have hl := xun_lt x
    have e1 : xun ((x ^^^ (-1 : Int32)) &&& (x - (1 : Int32))) = xun (x ^^^ (-1 : Int32)) &&& xun (x - (1 : Int32)) := rfl
    have e2 : xun (x ^^^ (-1 : Int32)) = 2 ^ 32 - (xun x + 1) := by
      have : x ^^^ (-1 : Int32) = ~~~x := by
        apply Int32.toBitVec_inj.mp
        show x.toBitVec ^^^ BitVec.allOnes 32 = ~~~ x.toBitVec
        rw [BitVec.xor_allOnes]
      rw [this]
      show (~~~ x.toBitVec).toNat = _
      rw [BitVec.toNat_not]
      show 2 ^ 32 - 1 - xun x = _
      omega
    have e3 : xun (x - (1 : Int32)) = xun x - 1 := by
      show (x.toBitVec - 1#32).toNat = _
      rw [BitVec.toNat_sub]
      show (2 ^ 32 - 1 + xun x) % 2 ^ 32 = _
      omega
    rw [e1, e2, e3, e, xlow (by omega), xbl_ones]
  · rw [e, Nat.mul_comm]
    have := xbl_mul (n := 2 * q + 1) (r := 0) (k := t) (by omega) (Nat.two_pow_pos _)
    rw [Nat.add_zero] at this
    exact this
/-- a power of two has as many zeros below as bits but one -/
theorem xntz_pow {x : Int32} (h : x.toInt ≠ 0) : (xntz x).toInt = (xbl (xun x) : Int) - 1 ↔ xun x % 2 ^ (xbl (xun x) - 1) = 0 := by
  obtain ⟨t, q, e, ht, hb⟩ := xntz_n h
  rw [ht, hb]
  constructor
  · intro hh
    have h1 := xbl_of (n := 2 * q + 1) (by omega)
    have h2 : xbl (2 * q + 1) = 1 := by omega
    rw [h2] at h1
    have hq : q = 0 := by omega
    subst hq
    rw [e, h2]
    have : 1 + t - 1 = t := by omega
    rw [this]
    simp
  · intro hh
    have h1 := xbl_of (n := 2 * q + 1) (by omega)
    rw [e] at hh
    have hd := Nat.dvd_of_mod_eq_zero hh
    have e2 : xbl (2 * q + 1) + t - 1 = t + (xbl (2 * q + 1) - 1) := by omega
    rw [e2, Nat.pow_add] at hd
    have hd2 := Nat.dvd_of_mul_dvd_mul_left (Nat.two_pow_pos t) hd
    by_cases h3 : xbl (2 * q + 1) - 1 = 0
    · omega
    · obtain ⟨k, hk⟩ : ∃ k, xbl (2 * q + 1) - 1 = k + 1 := ⟨xbl (2 * q + 1) - 2, by omega⟩
      rw [hk, Nat.pow_succ] at hd2
      obtain ⟨c, hc⟩ := hd2
      have : 2 * q + 1 = 2 * (2 ^ k * c) := by rw [hc, Nat.mul_comm (2 ^ k) 2, Nat.mul_assoc]
      omega
theorem xntz_lt {x : Int32} (h : x.toInt ≠ 0) : 0 ≤ (xntz x).toInt ∧ (xntz x).toInt < (xbl (xun x) : Int) := by
  obtain ⟨t, q, e, ht, hb⟩ := xntz_n h
  have := xbl_of (n := 2 * q + 1) (by omega)
  omega
/-- the bits of a word below one -/
def xmk (x g : Int32) : Int32 := x &&& (((1 : Int32) <<< (g &&& 31)) - (1 : Int32))
theorem xmk_n {x g : Int32} (g0 : 0 ≤ g.toInt) (g1 : g.toInt < 31) : xun (xmk x g) = xun x % 2 ^ g.toInt.toNat := by
  have h1 := xshl_n (u := 1) g0 (by omega)
  have e0 : xun (1 : Int32) = 1 := rfl
  have hp : 2 ^ g.toInt.toNat ≤ 2 ^ 30 := Nat.pow_le_pow_right (by omega) (by omega)
  have hq := Nat.two_pow_pos g.toInt.toNat
  rw [e0, Nat.one_mul, Nat.mod_eq_of_lt (by omega)] at h1
  have e : xun (xmk x g) = xun x &&& xun (((1 : Int32) <<< (g &&& 31)) - (1 : Int32)) := rfl
  have e3 : xun (((1 : Int32) <<< (g &&& 31)) - (1 : Int32)) = 2 ^ g.toInt.toNat - 1 := by
    generalize hy : (1 : Int32) <<< (g &&& 31) = y at *
    show (y.toBitVec - 1#32).toNat = _
    rw [BitVec.toNat_sub]
    show (2 ^ 32 - 1 + xun y) % 2 ^ 32 = _
    omega
  rw [e, e3, Nat.and_two_pow_sub_one_eq_mod]
theorem xq_b (m : Int64) : 0 ≤ (xq m).toInt ∧ (xq m).toInt < 1073741824 ∧ (xun (xq m) : Int) = (xq m).toInt := by
  have h := xq_n m
  have h1 := xun_p (x := xq m) (by omega)
  omega
theorem xdv : ∀ k < 64, (Int32.ofNat k / (30 : Int32)).toInt = (k : Int) / 30 ∧ (Int32.ofNat k - Int32.ofNat k / (30 : Int32) * (30 : Int32)).toInt = (k : Int) % 30 := by decide
theorem xge_i {x y : Int32} (h : x.toInt = y.toInt) : x = y := Int32.toInt_inj.mp h
theorem xnz {x : Int32} (h : xun x ≠ 0) : x.toInt ≠ 0 := fun e => h (xun_z.mpr e)
theorem xlz {x : Int64} (h : xul x = 0) : (lg_cmp x (0 : Int64)).toInt = 0 := lg_cmp_z.mpr (xul_z.mp h)
theorem xln {x : Int64} (h : xul x ≠ 0) : (lg_cmp x (0 : Int64)).toInt ≠ 0 := fun e => h (xul_z.mpr (lg_cmp_z.mp e))
def xR1 (m : Int64) (B K P G : Int32) : Prop := 1 ≤ B.toInt ∧ B.toInt ≤ 4 ∧ (xhi m).toInt = 0 ∧ (xlo m).toInt ≠ 0 ∧ (xnlz (xlo m)).toInt = 32 - B.toInt ∧ (xbf 1 (xlo m) (0 : Int32) ((32 : Int32) - K)).toInt ≠ 0 ∧ (lg_cmp m (0 : Int64)).toInt ≠ 0 ∧ (lg_cmp (xqs m) (0 : Int64)).toInt = 0 ∧ (xbn (xq m)).toInt = B.toInt ∧ (xq m).toInt ≠ 0 ∧ 0 ≤ (xq m).toInt ∧ K.toInt ≠ 0 ∧ K / (30 : Int32) = 2 ∧ K - K / (30 : Int32) * (30 : Int32) = P ∧ ((0 : Int32) ||| (xH (xq m) P)).toInt = 0 ∧ (xL (xq m) P).toInt ≠ 0 ∧ 0 ≤ (xL (xq m) P).toInt ∧ (xbn (xL (xq m) P)).toInt = 4 ∧ G.toInt = B.toInt - 1
def xR2 (m : Int64) (B K P G : Int32) : Prop := 5 ≤ B.toInt ∧ B.toInt ≤ 30 ∧ (xhi m).toInt = 0 ∧ (xlo m).toInt ≠ 0 ∧ (xnlz (xlo m)).toInt = 32 - B.toInt ∧ (xbf 1 (xlo m) (0 : Int32) ((32 : Int32) - K)).toInt ≠ 0 ∧ (lg_cmp m (0 : Int64)).toInt ≠ 0 ∧ (lg_cmp (xqs m) (0 : Int64)).toInt = 0 ∧ (xbn (xq m)).toInt = B.toInt ∧ (xq m).toInt ≠ 0 ∧ 0 ≤ (xq m).toInt ∧ K.toInt ≠ 0 ∧ K / (30 : Int32) = 1 ∧ K - K / (30 : Int32) * (30 : Int32) = P ∧ ((0 : Int32) ||| (xH (xq m) P)).toInt ≠ 0 ∧ 0 ≤ ((0 : Int32) ||| (xH (xq m) P)).toInt ∧ (xbn ((0 : Int32) ||| (xH (xq m) P))).toInt = 4 ∧ G.toInt = B.toInt - 1
def xR3 (m : Int64) (B K P G : Int32) : Prop := 31 ≤ B.toInt ∧ B.toInt ≤ 32 ∧ (xhi m).toInt = 0 ∧ (xlo m).toInt ≠ 0 ∧ (xnlz (xlo m)).toInt = 32 - B.toInt ∧ (xbf 1 (xlo m) (0 : Int32) ((32 : Int32) - K)).toInt ≠ 0 ∧ (lg_cmp m (0 : Int64)).toInt ≠ 0 ∧ (lg_cmp (xqs m) (0 : Int64)).toInt ≠ 0 ∧ (lg_cmp (xqs (xqs m)) (0 : Int64)).toInt = 0 ∧ (xbn (xq (xqs m))).toInt = B.toInt - 30 ∧ (xq (xqs m)).toInt ≠ 0 ∧ 0 ≤ (xq (xqs m)).toInt ∧ K.toInt ≠ 0 ∧ K / (30 : Int32) = 1 ∧ K - K / (30 : Int32) * (30 : Int32) = P ∧ ((0 : Int32) ||| (xH (xq (xqs m)) P)).toInt = 0 ∧ ((xL (xq (xqs m)) P) ||| (xH (xq m) P)).toInt ≠ 0 ∧ 0 ≤ ((xL (xq (xqs m)) P) ||| (xH (xq m) P)).toInt ∧ (xbn ((xL (xq (xqs m)) P) ||| (xH (xq m) P))).toInt = 4 ∧ G.toInt = B.toInt - 31
def xR4 (m : Int64) (B K P G : Int32) : Prop := 33 ≤ B.toInt ∧ B.toInt ≤ 34 ∧ (xhi m).toInt ≠ 0 ∧ (xnlz (xhi m)).toInt = 64 - B.toInt ∧ (xbf 2 (xlo m) (xhi m) ((32 : Int32) - K)).toInt ≠ 0 ∧ (lg_cmp m (0 : Int64)).toInt ≠ 0 ∧ (lg_cmp (xqs m) (0 : Int64)).toInt ≠ 0 ∧ (lg_cmp (xqs (xqs m)) (0 : Int64)).toInt = 0 ∧ (xbn (xq (xqs m))).toInt = B.toInt - 30 ∧ (xq (xqs m)).toInt ≠ 0 ∧ 0 ≤ (xq (xqs m)).toInt ∧ K.toInt ≠ 0 ∧ K / (30 : Int32) = 1 ∧ K - K / (30 : Int32) * (30 : Int32) = P ∧ ((0 : Int32) ||| (xH (xq (xqs m)) P)).toInt = 0 ∧ ((xL (xq (xqs m)) P) ||| (xH (xq m) P)).toInt ≠ 0 ∧ 0 ≤ ((xL (xq (xqs m)) P) ||| (xH (xq m) P)).toInt ∧ (xbn ((xL (xq (xqs m)) P) ||| (xH (xq m) P))).toInt = 4 ∧ G.toInt = B.toInt - 31
def xR5 (m : Int64) (B K P G : Int32) : Prop := 35 ≤ B.toInt ∧ B.toInt ≤ 60 ∧ (xhi m).toInt ≠ 0 ∧ (xnlz (xhi m)).toInt = 64 - B.toInt ∧ (xbf 2 (xlo m) (xhi m) ((32 : Int32) - K)).toInt ≠ 0 ∧ (lg_cmp m (0 : Int64)).toInt ≠ 0 ∧ (lg_cmp (xqs m) (0 : Int64)).toInt ≠ 0 ∧ (lg_cmp (xqs (xqs m)) (0 : Int64)).toInt = 0 ∧ (xbn (xq (xqs m))).toInt = B.toInt - 30 ∧ (xq (xqs m)).toInt ≠ 0 ∧ 0 ≤ (xq (xqs m)).toInt ∧ K.toInt ≠ 0 ∧ K / (30 : Int32) = 0 ∧ K - K / (30 : Int32) * (30 : Int32) = P ∧ ((0 : Int32) ||| (xH (xq (xqs m)) P)).toInt ≠ 0 ∧ 0 ≤ ((0 : Int32) ||| (xH (xq (xqs m)) P)).toInt ∧ (xbn ((0 : Int32) ||| (xH (xq (xqs m)) P))).toInt = 4 ∧ G.toInt = B.toInt - 31
def xR6 (m : Int64) (B K P G : Int32) : Prop := 61 ≤ B.toInt ∧ B.toInt ≤ 63 ∧ (xhi m).toInt ≠ 0 ∧ (xnlz (xhi m)).toInt = 64 - B.toInt ∧ (xbf 2 (xlo m) (xhi m) ((32 : Int32) - K)).toInt ≠ 0 ∧ (lg_cmp m (0 : Int64)).toInt ≠ 0 ∧ (lg_cmp (xqs m) (0 : Int64)).toInt ≠ 0 ∧ (lg_cmp (xqs (xqs m)) (0 : Int64)).toInt ≠ 0 ∧ (lg_cmp (xqs (xqs (xqs m))) (0 : Int64)).toInt = 0 ∧ (xbn (xq (xqs (xqs m)))).toInt = B.toInt - 60 ∧ (xq (xqs (xqs m))).toInt ≠ 0 ∧ 0 ≤ (xq (xqs (xqs m))).toInt ∧ K.toInt ≠ 0 ∧ K / (30 : Int32) = 0 ∧ K - K / (30 : Int32) * (30 : Int32) = P ∧ ((0 : Int32) ||| (xH (xq (xqs (xqs m))) P)).toInt = 0 ∧ ((xL (xq (xqs (xqs m))) P) ||| (xH (xq (xqs m)) P)).toInt ≠ 0 ∧ 0 ≤ ((xL (xq (xqs (xqs m))) P) ||| (xH (xq (xqs m)) P)).toInt ∧ (xbn ((xL (xq (xqs (xqs m))) P) ||| (xH (xq (xqs m)) P))).toInt = 4 ∧ G.toInt = B.toInt - 61
def xR7 (m : Int64) (B K P G : Int32) : Prop := 64 ≤ B.toInt ∧ B.toInt ≤ 64 ∧ (xhi m).toInt ≠ 0 ∧ (xnlz (xhi m)).toInt = 64 - B.toInt ∧ (xbf 2 (xlo m) (xhi m) ((32 : Int32) - K)).toInt ≠ 0 ∧ (lg_cmp m (0 : Int64)).toInt ≠ 0 ∧ (lg_cmp (xqs m) (0 : Int64)).toInt ≠ 0 ∧ (lg_cmp (xqs (xqs m)) (0 : Int64)).toInt ≠ 0 ∧ (lg_cmp (xqs (xqs (xqs m))) (0 : Int64)).toInt = 0 ∧ (xbn (xq (xqs (xqs m)))).toInt = B.toInt - 60 ∧ (xq (xqs (xqs m))).toInt ≠ 0 ∧ 0 ≤ (xq (xqs (xqs m))).toInt ∧ K.toInt = 0 ∧ (xbn (xq (xqs (xqs m)))).toInt = 4 ∧ G.toInt = B.toInt - 61
set_option maxHeartbeats 1000000 in
theorem xreg {m : Int64} (hm : m ≠ 0) : ∃ B K P G : Int32, B.toInt = (xbl (xul m) : Int) ∧ K.toInt = 64 - B.toInt ∧ (xR1 m B K P G ∨ xR2 m B K P G ∨ xR3 m B K P G ∨ xR4 m B K P G ∨ xR5 m B K P G ∨ xR6 m B K P G ∨ xR7 m B K P G) := by
  have hN : xul m ≠ 0 := fun h => hm (xul_z.mp h)
  have hl := xul_lt m
  have hb := xbl_of hN
  have hb64 : xbl (xul m) ≤ 64 := xbl_le (k := 64) hl
  refine ⟨Int32.ofNat (xbl (xul m)), Int32.ofNat (64 - xbl (xul m)), Int32.ofNat (64 - xbl (xul m)) - Int32.ofNat (64 - xbl (xul m)) / (30 : Int32) * (30 : Int32), Int32.ofNat (if xbl (xul m) ≤ 30 then xbl (xul m) - 1 else if xbl (xul m) ≤ 60 then xbl (xul m) - 31 else xbl (xul m) - 61), ?_⟩
  have eG : (Int32.ofNat (if xbl (xul m) ≤ 30 then xbl (xul m) - 1 else if xbl (xul m) ≤ 60 then xbl (xul m) - 31 else xbl (xul m) - 61)).toInt = if xbl (xul m) ≤ 30 then (xbl (xul m) : Int) - 1 else if xbl (xul m) ≤ 60 then (xbl (xul m) : Int) - 31 else (xbl (xul m) : Int) - 61 := by
    by_cases h1 : xbl (xul m) ≤ 30
    · rw [if_pos h1, if_pos h1, Int32.toInt_ofNat_of_lt (by omega)]; omega
    · rw [if_neg h1, if_neg h1]
      by_cases h2 : xbl (xul m) ≤ 60
      · rw [if_pos h2, if_pos h2, Int32.toInt_ofNat_of_lt (by omega)]; omega
      · rw [if_neg h2, if_neg h2, Int32.toInt_ofNat_of_lt (by omega)]; omega
  have eB : (Int32.ofNat (xbl (xul m))).toInt = xbl (xul m) := Int32.toInt_ofNat_of_lt (by omega)
  have eK : (Int32.ofNat (64 - xbl (xul m))).toInt = 64 - xbl (xul m) := by rw [Int32.toInt_ofNat_of_lt (by omega)]; omega
  have eD := xdv (64 - xbl (xul m)) (by omega)
  generalize hGg : Int32.ofNat (if xbl (xul m) ≤ 30 then xbl (xul m) - 1 else if xbl (xul m) ≤ 60 then xbl (xul m) - 31 else xbl (xul m) - 61) = G at *
  generalize hBg : Int32.ofNat (xbl (xul m)) = B at *
  generalize hKg : Int32.ofNat (64 - xbl (xul m)) = K at *
  generalize hPg : K - K / (30 : Int32) * (30 : Int32) = P at *
  refine ⟨by omega, by omega, ?_⟩
  have c1 := xlo_n m
  have c2 := xhi_n m
  have c3 := xnlz_i (xlo m)
  have c4 := xnlz_i (xhi m)
  have m1 := xqs_n m
  have m2 := xqs_n (xqs m)
  have m3 := xqs_n (xqs (xqs m))
  have w0 := xq_n m
  have w1 := xq_n (xqs m)
  have w2 := xq_n (xqs (xqs m))
  have i0 := xq_b m
  have i1 := xq_b (xqs m)
  have i2 := xq_b (xqs (xqs m))
  have b0 := xbn_i (xq m)
  have b1 := xbn_i (xq (xqs m))
  have b2 := xbn_i (xq (xqs (xqs m)))
  have pw : ∀ k, k < xbl (xul m) → 2 ^ k ≤ xul m := fun k hk => Nat.le_trans (Nat.pow_le_pow_right (by omega) (by omega)) hb.1
  have pl : ∀ k, xbl (xul m) ≤ k → xul m < 2 ^ k := fun k hk => Nat.lt_of_lt_of_le hb.2.1 (Nat.pow_le_pow_right (by omega) hk)
  have cases : xbl (xul m) ≤ 4 ∨ (5 ≤ xbl (xul m) ∧ xbl (xul m) ≤ 30) ∨ (31 ≤ xbl (xul m) ∧ xbl (xul m) ≤ 32) ∨ (33 ≤ xbl (xul m) ∧ xbl (xul m) ≤ 34) ∨ (35 ≤ xbl (xul m) ∧ xbl (xul m) ≤ 60) ∨ (61 ≤ xbl (xul m) ∧ xbl (xul m) ≤ 63) ∨ xbl (xul m) = 64 := by omega
  rcases cases with hc | hc | hc | hc | hc | hc | hc
  · refine .inl ?_
    have p0 := pw 0 (by omega)
    have p1 := pl 4 (by omega)
    have e1 : xbl (xul m) = xbl (xun (xlo m)) := by rw [show xun (xlo m) = xul m by omega]
    have e2 : xbl (xul m) = xbl (xun (xq m)) := by rw [show xun (xq m) = xul m by omega]
    have hne : (xq m).toInt ≠ 0 := xnz (by omega)
    have eW : K / (30 : Int32) = 2 := xge_i (by rw [eD.1]; show _ = (2 : Int); omega)
    have tz := xun_z.mp (xtop_z (t := xq m) (p := P) hne (by omega) (by omega) (by omega) (by omega) (by omega)).1
    have tp := xbn_4 (xtop_z (t := xq m) (p := P) hne (by omega) (by omega) (by omega) (by omega) (by omega)).2
    have eGr : G.toInt = B.toInt - 1 := by rw [eG]; split <;> (try split) <;> omega
    exact ⟨by omega, by omega, xun_z.mp (by omega), xnz (by omega), by omega, xbf_1 (xnz (by omega)) (by omega) (by omega), xln (by omega), xlz (by omega), by omega, hne, by omega, by omega, eW, hPg, tz, tp.2.1, tp.2.2, tp.1, eGr⟩
  · refine .inr ?_
    refine .inl ?_
    have p0 := pw 4 (by omega)
    have p1 := pl 30 (by omega)
    have e1 : xbl (xul m) = xbl (xun (xlo m)) := by rw [show xun (xlo m) = xul m by omega]
    have e2 : xbl (xul m) = xbl (xun (xq m)) := by rw [show xun (xq m) = xul m by omega]
    have hne : (xq m).toInt ≠ 0 := xnz (by omega)
    have eW : K / (30 : Int32) = 1 := xge_i (by rw [eD.1]; show _ = (1 : Int); omega)
    have tp := xbn_4 (xtop_h (t := xq m) (p := P) hne (by omega) (by omega) (by omega) (by omega) (by omega))
    have eGr : G.toInt = B.toInt - 1 := by rw [eG]; split <;> (try split) <;> omega
    exact ⟨by omega, by omega, xun_z.mp (by omega), xnz (by omega), by omega, xbf_1 (xnz (by omega)) (by omega) (by omega), xln (by omega), xlz (by omega), by omega, hne, by omega, by omega, eW, hPg, tp.2.1, tp.2.2, tp.1, eGr⟩
  · refine .inr ?_
    refine .inr ?_
    refine .inl ?_
    have p0 := pw 30 (by omega)
    have p1 := pl 32 (by omega)
    have e1 : xbl (xul m) = xbl (xun (xlo m)) := by rw [show xun (xlo m) = xul m by omega]
    have e2 := xbl_hi (N := xul m) (k := 30) (by omega)
    rw [show xul m / 2 ^ 30 = xun (xq (xqs m)) by omega] at e2
    have hne : (xq (xqs m)).toInt ≠ 0 := xnz (by omega)
    have eW : K / (30 : Int32) = 1 := xge_i (by rw [eD.1]; show _ = (1 : Int); omega)
    have tz := xun_z.mp (xtop_z (t := xq (xqs m)) (p := P) hne (by omega) (by omega) (by omega) (by omega) (by omega)).1
    have tp := xbn_4 (xtop_o (t := xq (xqs m)) (u := xq m) (p := P) hne (by omega) (by omega) (by omega) (by omega) (by omega) (by omega) (by omega))
    have eGr : G.toInt = B.toInt - 31 := by rw [eG]; split <;> (try split) <;> omega
    exact ⟨by omega, by omega, xun_z.mp (by omega), xnz (by omega), by omega, xbf_1 (xnz (by omega)) (by omega) (by omega), xln (by omega), xln (by omega), xlz (by omega), by omega, hne, by omega, by omega, eW, hPg, tz, tp.2.1, tp.2.2, tp.1, eGr⟩
  · refine .inr ?_
    refine .inr ?_
    refine .inr ?_
    refine .inl ?_
    have p0 := pw 32 (by omega)
    have p1 := pl 34 (by omega)
    have e1 := xbl_hi (N := xul m) (k := 32) (by omega)
    rw [show xul m / 2 ^ 32 = xun (xhi m) by omega] at e1
    have e2 := xbl_hi (N := xul m) (k := 30) (by omega)
    rw [show xul m / 2 ^ 30 = xun (xq (xqs m)) by omega] at e2
    have hne : (xq (xqs m)).toInt ≠ 0 := xnz (by omega)
    have eW : K / (30 : Int32) = 1 := xge_i (by rw [eD.1]; show _ = (1 : Int); omega)
    have tz := xun_z.mp (xtop_z (t := xq (xqs m)) (p := P) hne (by omega) (by omega) (by omega) (by omega) (by omega)).1
    have tp := xbn_4 (xtop_o (t := xq (xqs m)) (u := xq m) (p := P) hne (by omega) (by omega) (by omega) (by omega) (by omega) (by omega) (by omega))
    have eGr : G.toInt = B.toInt - 31 := by rw [eG]; split <;> (try split) <;> omega
    exact ⟨by omega, by omega, xnz (by omega), by omega, xbf_2 (xnz (by omega)) (by omega) (by omega), xln (by omega), xln (by omega), xlz (by omega), by omega, hne, by omega, by omega, eW, hPg, tz, tp.2.1, tp.2.2, tp.1, eGr⟩
  · refine .inr ?_
    refine .inr ?_
    refine .inr ?_
    refine .inr ?_
    refine .inl ?_
    have p0 := pw 34 (by omega)
    have p1 := pl 60 (by omega)
    have e1 := xbl_hi (N := xul m) (k := 32) (by omega)
    rw [show xul m / 2 ^ 32 = xun (xhi m) by omega] at e1
    have e2 := xbl_hi (N := xul m) (k := 30) (by omega)
    rw [show xul m / 2 ^ 30 = xun (xq (xqs m)) by omega] at e2
    have hne : (xq (xqs m)).toInt ≠ 0 := xnz (by omega)
    have eW : K / (30 : Int32) = 0 := xge_i (by rw [eD.1]; show _ = (0 : Int); omega)
    have tp := xbn_4 (xtop_h (t := xq (xqs m)) (p := P) hne (by omega) (by omega) (by omega) (by omega) (by omega))
    have eGr : G.toInt = B.toInt - 31 := by rw [eG]; split <;> (try split) <;> omega
    exact ⟨by omega, by omega, xnz (by omega), by omega, xbf_2 (xnz (by omega)) (by omega) (by omega), xln (by omega), xln (by omega), xlz (by omega), by omega, hne, by omega, by omega, eW, hPg, tp.2.1, tp.2.2, tp.1, eGr⟩
  · refine .inr ?_
    refine .inr ?_
    refine .inr ?_
    refine .inr ?_
    refine .inr ?_
    refine .inl ?_
    have p0 := pw 60 (by omega)
    have p1 := pl 63 (by omega)
    have e1 := xbl_hi (N := xul m) (k := 32) (by omega)
    rw [show xul m / 2 ^ 32 = xun (xhi m) by omega] at e1
    have e2 := xbl_hi (N := xul m) (k := 60) (by omega)
    rw [show xul m / 2 ^ 60 = xun (xq (xqs (xqs m))) by omega] at e2
    have hne : (xq (xqs (xqs m))).toInt ≠ 0 := xnz (by omega)
    have eW : K / (30 : Int32) = 0 := xge_i (by rw [eD.1]; show _ = (0 : Int); omega)
    have tz := xun_z.mp (xtop_z (t := xq (xqs (xqs m))) (p := P) hne (by omega) (by omega) (by omega) (by omega) (by omega)).1
    have tp := xbn_4 (xtop_o (t := xq (xqs (xqs m))) (u := xq (xqs m)) (p := P) hne (by omega) (by omega) (by omega) (by omega) (by omega) (by omega) (by omega))
    have eGr : G.toInt = B.toInt - 61 := by rw [eG]; split <;> (try split) <;> omega
    exact ⟨by omega, by omega, xnz (by omega), by omega, xbf_2 (xnz (by omega)) (by omega) (by omega), xln (by omega), xln (by omega), xln (by omega), xlz (by omega), by omega, hne, by omega, by omega, eW, hPg, tz, tp.2.1, tp.2.2, tp.1, eGr⟩
  · refine .inr ?_
    refine .inr ?_
    refine .inr ?_
    refine .inr ?_
    refine .inr ?_
    refine .inr ?_
    skip
    have p0 := pw 63 (by omega)
    have p1 := pl 64 (by omega)
    have e1 := xbl_hi (N := xul m) (k := 32) (by omega)
    rw [show xul m / 2 ^ 32 = xun (xhi m) by omega] at e1
    have e2 := xbl_hi (N := xul m) (k := 60) (by omega)
    rw [show xul m / 2 ^ 60 = xun (xq (xqs (xqs m))) by omega] at e2
    have hne : (xq (xqs (xqs m))).toInt ≠ 0 := xnz (by omega)
    have eGr : G.toInt = B.toInt - 61 := by rw [eG]; split <;> (try split) <;> omega
    exact ⟨by omega, by omega, xnz (by omega), by omega, xbf_2 (xnz (by omega)) (by omega) (by omega), xln (by omega), xln (by omega), xln (by omega), xlz (by omega), by omega, hne, by omega, by omega, by omega, eGr⟩
theorem xscale {N j e : Nat} (hj : N % 2 ^ j = 0) (he : j ≤ e) : N % 2 ^ e = 0 ↔ (N / 2 ^ j) % 2 ^ (e - j) = 0 := by
  have h1 : N = 2 ^ j * (N / 2 ^ j) := by have := Nat.div_add_mod N (2 ^ j); omega
  have h2 : 2 ^ e = 2 ^ j * 2 ^ (e - j) := by rw [← Nat.pow_add]; congr 1; omega
  have hp := Nat.two_pow_pos j
  generalize N / 2 ^ j = q at *
  rw [h1, h2, Nat.mul_mod_mul_left]
  constructor
  · intro h
    rcases Nat.mul_eq_zero.mp h with h | h
    · omega
    · exact h
  · intro h; rw [h, Nat.mul_zero]
theorem xdown {N j e : Nat} (he : j ≤ e) (h : N % 2 ^ e = 0) : N % 2 ^ j = 0 := by
  have h2 : 2 ^ e = 2 ^ j * 2 ^ (e - j) := by rw [← Nat.pow_add]; congr 1; omega
  have hd := Nat.dvd_of_mod_eq_zero h
  rw [h2] at hd
  exact Nat.mod_eq_zero_of_dvd (Nat.dvd_trans (Nat.dvd_mul_right _ _) hd)

theorem xpow1 {m : Int64} {B K P G : Int32} (hB : B.toInt = (xbl (xul m) : Int)) (h : xR1 m B K P G) : (B.toInt = 1 ∧ (xntz (xlo m)).toInt = B.toInt - 1) ∨ (B.toInt ≠ 1 ∧ (xmk (xq m) G).toInt ≠ 0 ∧ (xntz (xlo m)).toInt ≠ B.toInt - 1) ∨ (B.toInt ≠ 1 ∧ (xmk (xq m) G).toInt = 0 ∧ (xntz (xlo m)).toInt = B.toInt - 1) := by
  obtain ⟨a0, a1, a2, a3, a4, a5, a6, a7, a8, a9, a10, a11, a12, a13, a14, a15, a16, a17, a18⟩ := h
  have hN : xul m ≠ 0 := fun e => by rw [e] at hB; exact absurd hB (by show ¬ (B.toInt = (0 : Int)); omega)
  have hb := xbl_of hN
  have p0 := Nat.le_trans (Nat.pow_le_pow_right (n := 2) (by omega) (show 0 ≤ xbl (xul m) - 1 by omega)) hb.1
  have p1 := Nat.lt_of_lt_of_le hb.2.1 (Nat.pow_le_pow_right (n := 2) (by omega) (show xbl (xul m) ≤ 4 by omega))
  have c1 := xlo_n m
  have c2 := xhi_n m
  have m1 := xqs_n m
  have m2 := xqs_n (xqs m)
  have w0 := xq_n m
  have w1 := xq_n (xqs m)
  have w2 := xq_n (xqs (xqs m))
  have hg : G.toInt.toNat = xbl (xul m) - 1 - 0 := by omega
  have hmk := xmk_n (x := (xq m)) (g := G) (by omega) (by omega)
  rw [hg, show xun (xq m) = xul m / 2 ^ 0 by omega] at hmk
  have hM : xul m % 2 ^ 0 = 0 → ((xmk (xq m) G).toInt = 0 ↔ xul m % 2 ^ (xbl (xul m) - 1) = 0) := fun h0 => by
    rw [xscale h0 (by omega), ← hmk]; exact xun_z.symm
  have hlo := xntz_pow (x := xlo m) a3
  rw [show xun (xlo m) = xul m by omega, ← hB] at hlo
  have P : xul m % 2 ^ (xbl (xul m) - 1) = 0 ∨ xul m % 2 ^ (xbl (xul m) - 1) ≠ 0 := Nat.eq_zero_or_pos _ |>.imp id (by omega)
  by_cases hb1 : xbl (xul m) = 1
  · have hp : xul m % 2 ^ (xbl (xul m) - 1) = 0 := by rw [hb1]; exact Nat.mod_one _
    exact .inl ⟨by omega, hlo.mpr hp⟩
  · rcases P with hp | hp
    · exact .inr (.inr (⟨by omega, (hM (Nat.mod_one _)).mpr hp, hlo.mpr hp⟩))
    · exact .inr (.inl ⟨by omega, fun e => hp ((hM (Nat.mod_one _)).mp e), fun e => hp (hlo.mp e)⟩)
theorem xpow2 {m : Int64} {B K P G : Int32} (hB : B.toInt = (xbl (xul m) : Int)) (h : xR2 m B K P G) : ((xmk (xq m) G).toInt ≠ 0 ∧ (xntz (xlo m)).toInt ≠ B.toInt - 1) ∨ ((xmk (xq m) G).toInt = 0 ∧ (xntz (xlo m)).toInt = B.toInt - 1) := by
  obtain ⟨a0, a1, a2, a3, a4, a5, a6, a7, a8, a9, a10, a11, a12, a13, a14, a15, a16, a17⟩ := h
  have hN : xul m ≠ 0 := fun e => by rw [e] at hB; exact absurd hB (by show ¬ (B.toInt = (0 : Int)); omega)
  have hb := xbl_of hN
  have p0 := Nat.le_trans (Nat.pow_le_pow_right (n := 2) (by omega) (show 4 ≤ xbl (xul m) - 1 by omega)) hb.1
  have p1 := Nat.lt_of_lt_of_le hb.2.1 (Nat.pow_le_pow_right (n := 2) (by omega) (show xbl (xul m) ≤ 30 by omega))
  have c1 := xlo_n m
  have c2 := xhi_n m
  have m1 := xqs_n m
  have m2 := xqs_n (xqs m)
  have w0 := xq_n m
  have w1 := xq_n (xqs m)
  have w2 := xq_n (xqs (xqs m))
  have hg : G.toInt.toNat = xbl (xul m) - 1 - 0 := by omega
  have hmk := xmk_n (x := (xq m)) (g := G) (by omega) (by omega)
  rw [hg, show xun (xq m) = xul m / 2 ^ 0 by omega] at hmk
  have hM : xul m % 2 ^ 0 = 0 → ((xmk (xq m) G).toInt = 0 ↔ xul m % 2 ^ (xbl (xul m) - 1) = 0) := fun h0 => by
    rw [xscale h0 (by omega), ← hmk]; exact xun_z.symm
  have hlo := xntz_pow (x := xlo m) a3
  rw [show xun (xlo m) = xul m by omega, ← hB] at hlo
  have P : xul m % 2 ^ (xbl (xul m) - 1) = 0 ∨ xul m % 2 ^ (xbl (xul m) - 1) ≠ 0 := Nat.eq_zero_or_pos _ |>.imp id (by omega)
  rcases P with hp | hp
  · exact .inr (⟨(hM (Nat.mod_one _)).mpr hp, hlo.mpr hp⟩)
  · exact .inl ⟨fun e => hp ((hM (Nat.mod_one _)).mp e), fun e => hp (hlo.mp e)⟩
theorem xpow3 {m : Int64} {B K P G : Int32} (hB : B.toInt = (xbl (xul m) : Int)) (h : xR3 m B K P G) : ((xq m).toInt ≠ 0 ∧ (xntz (xlo m)).toInt ≠ B.toInt - 1) ∨ ((xq m).toInt = 0 ∧ B.toInt = 31 ∧ (xntz (xlo m)).toInt = B.toInt - 1) ∨ ((xq m).toInt = 0 ∧ B.toInt ≠ 31 ∧ (xmk (xq (xqs m)) G).toInt ≠ 0 ∧ (xntz (xlo m)).toInt ≠ B.toInt - 1) ∨ ((xq m).toInt = 0 ∧ B.toInt ≠ 31 ∧ (xmk (xq (xqs m)) G).toInt = 0 ∧ (xntz (xlo m)).toInt = B.toInt - 1) := by
  obtain ⟨a0, a1, a2, a3, a4, a5, a6, a7, a8, a9, a10, a11, a12, a13, a14, a15, a16, a17, a18, a19⟩ := h
  have hN : xul m ≠ 0 := fun e => by rw [e] at hB; exact absurd hB (by show ¬ (B.toInt = (0 : Int)); omega)
  have hb := xbl_of hN
  have p0 := Nat.le_trans (Nat.pow_le_pow_right (n := 2) (by omega) (show 30 ≤ xbl (xul m) - 1 by omega)) hb.1
  have p1 := Nat.lt_of_lt_of_le hb.2.1 (Nat.pow_le_pow_right (n := 2) (by omega) (show xbl (xul m) ≤ 32 by omega))
  have c1 := xlo_n m
  have c2 := xhi_n m
  have m1 := xqs_n m
  have m2 := xqs_n (xqs m)
  have w0 := xq_n m
  have w1 := xq_n (xqs m)
  have w2 := xq_n (xqs (xqs m))
  have hg : G.toInt.toNat = xbl (xul m) - 1 - 30 := by omega
  have hmk := xmk_n (x := (xq (xqs m))) (g := G) (by omega) (by omega)
  rw [hg, show xun (xq (xqs m)) = xul m / 2 ^ 30 by omega] at hmk
  have hM : xul m % 2 ^ 30 = 0 → ((xmk (xq (xqs m)) G).toInt = 0 ↔ xul m % 2 ^ (xbl (xul m) - 1) = 0) := fun h0 => by
    rw [xscale h0 (by omega), ← hmk]; exact xun_z.symm
  have hlo := xntz_pow (x := xlo m) a3
  rw [show xun (xlo m) = xul m by omega, ← hB] at hlo
  have P : xul m % 2 ^ (xbl (xul m) - 1) = 0 ∨ xul m % 2 ^ (xbl (xul m) - 1) ≠ 0 := Nat.eq_zero_or_pos _ |>.imp id (by omega)
  by_cases h0 : xul m % 2 ^ 30 = 0
  · by_cases hb1 : xbl (xul m) = 31
    · have hp : xul m % 2 ^ (xbl (xul m) - 1) = 0 := by rw [hb1]; exact h0
      exact .inr (.inl ⟨xun_z.mp (by omega), by omega, hlo.mpr hp⟩)
    · rcases P with hp | hp
      · exact .inr (.inr (.inr (⟨xun_z.mp (by omega), by omega, (hM h0).mpr hp, hlo.mpr hp⟩)))
      · exact .inr (.inr (.inl ⟨xun_z.mp (by omega), by omega, fun e => hp ((hM h0).mp e), fun e => hp (hlo.mp e)⟩))
  · have hp : xul m % 2 ^ (xbl (xul m) - 1) ≠ 0 := fun e => h0 (xdown (by omega) e)
    exact .inl ⟨xnz (by omega), fun e => hp (hlo.mp e)⟩
theorem xpow4 {m : Int64} {B K P G : Int32} (hB : B.toInt = (xbl (xul m) : Int)) (h : xR4 m B K P G) : ((xlo m).toInt ≠ 0 ∧ 0 ≤ (xntz (xlo m)).toInt ∧ (xntz (xlo m)).toInt ≤ 31 ∧ (xq m).toInt ≠ 0) ∨ ((xlo m).toInt ≠ 0 ∧ 0 ≤ (xntz (xlo m)).toInt ∧ (xntz (xlo m)).toInt ≤ 31 ∧ (xq m).toInt = 0 ∧ (xmk (xq (xqs m)) G).toInt ≠ 0) ∨ ((xlo m).toInt = 0 ∧ (xq m).toInt = 0 ∧ (xmk (xq (xqs m)) G).toInt ≠ 0 ∧ (xntz (xhi m)).toInt ≠ B.toInt - 33) ∨ ((xlo m).toInt = 0 ∧ (xq m).toInt = 0 ∧ (xmk (xq (xqs m)) G).toInt = 0 ∧ (xntz (xhi m)).toInt = B.toInt - 33) := by
  obtain ⟨a0, a1, a2, a3, a4, a5, a6, a7, a8, a9, a10, a11, a12, a13, a14, a15, a16, a17, a18⟩ := h
  have hN : xul m ≠ 0 := fun e => by rw [e] at hB; exact absurd hB (by show ¬ (B.toInt = (0 : Int)); omega)
  have hb := xbl_of hN
  have p0 := Nat.le_trans (Nat.pow_le_pow_right (n := 2) (by omega) (show 32 ≤ xbl (xul m) - 1 by omega)) hb.1
  have p1 := Nat.lt_of_lt_of_le hb.2.1 (Nat.pow_le_pow_right (n := 2) (by omega) (show xbl (xul m) ≤ 34 by omega))
  have c1 := xlo_n m
  have c2 := xhi_n m
  have m1 := xqs_n m
  have m2 := xqs_n (xqs m)
  have w0 := xq_n m
  have w1 := xq_n (xqs m)
  have w2 := xq_n (xqs (xqs m))
  have hg : G.toInt.toNat = xbl (xul m) - 1 - 30 := by omega
  have hmk := xmk_n (x := (xq (xqs m))) (g := G) (by omega) (by omega)
  rw [hg, show xun (xq (xqs m)) = xul m / 2 ^ 30 by omega] at hmk
  have hM : xul m % 2 ^ 30 = 0 → ((xmk (xq (xqs m)) G).toInt = 0 ↔ xul m % 2 ^ (xbl (xul m) - 1) = 0) := fun h0 => by
    rw [xscale h0 (by omega), ← hmk]; exact xun_z.symm
  have e1 := xbl_hi (N := xul m) (k := 32) (by omega)
  rw [show xul m / 2 ^ 32 = xun (xhi m) by omega] at e1
  have hhi : xul m % 2 ^ 32 = 0 → ((xntz (xhi m)).toInt = B.toInt - 33 ↔ xul m % 2 ^ (xbl (xul m) - 1) = 0) := fun h0 => by
    rw [xscale h0 (by omega), show xul m / 2 ^ 32 = xun (xhi m) by omega, show xbl (xul m) - 1 - 32 = xbl (xun (xhi m)) - 1 by omega, ← xntz_pow (x := xhi m) a2]
    constructor <;> intro h <;> omega
  have P : xul m % 2 ^ (xbl (xul m) - 1) = 0 ∨ xul m % 2 ^ (xbl (xul m) - 1) ≠ 0 := Nat.eq_zero_or_pos _ |>.imp id (by omega)
  have nl := fun h => xntz_lt (x := xlo m) h
  have nb : xbl (xun (xlo m)) ≤ 32 := xbl_le (xun_lt _)
  by_cases h0 : xul m % 2 ^ 32 = 0
  · have h30 : xul m % 2 ^ 30 = 0 := by omega
    rcases P with hp | hp
    · exact .inr (.inr (.inr (⟨xun_z.mp (by omega), xun_z.mp (by omega), (hM h30).mpr hp, (hhi (by omega)).mpr hp⟩)))
    · exact .inr (.inr (.inl ⟨xun_z.mp (by omega), xun_z.mp (by omega), fun e => hp ((hM h30).mp e), fun e => hp ((hhi (by omega)).mp e)⟩))
  · have nl := nl (xnz (by omega))
    have hp : xul m % 2 ^ (xbl (xul m) - 1) ≠ 0 := fun e => h0 (xdown (by omega) e)
    by_cases h3 : xul m % 2 ^ 30 = 0
    · exact .inr (.inl ⟨xnz (by omega), by omega, by omega, xun_z.mp (by omega), fun e => hp ((hM h3).mp e)⟩)
    · exact .inl ⟨xnz (by omega), by omega, by omega, xnz (by omega)⟩
theorem xpow5 {m : Int64} {B K P G : Int32} (hB : B.toInt = (xbl (xul m) : Int)) (h : xR5 m B K P G) : ((xlo m).toInt ≠ 0 ∧ 0 ≤ (xntz (xlo m)).toInt ∧ (xntz (xlo m)).toInt ≤ 31 ∧ (xq m).toInt ≠ 0) ∨ ((xlo m).toInt ≠ 0 ∧ 0 ≤ (xntz (xlo m)).toInt ∧ (xntz (xlo m)).toInt ≤ 31 ∧ (xq m).toInt = 0 ∧ (xmk (xq (xqs m)) G).toInt ≠ 0) ∨ ((xlo m).toInt = 0 ∧ (xq m).toInt = 0 ∧ (xmk (xq (xqs m)) G).toInt ≠ 0 ∧ (xntz (xhi m)).toInt ≠ B.toInt - 33) ∨ ((xlo m).toInt = 0 ∧ (xq m).toInt = 0 ∧ (xmk (xq (xqs m)) G).toInt = 0 ∧ (xntz (xhi m)).toInt = B.toInt - 33) := by
  obtain ⟨a0, a1, a2, a3, a4, a5, a6, a7, a8, a9, a10, a11, a12, a13, a14, a15, a16, a17⟩ := h
  have hN : xul m ≠ 0 := fun e => by rw [e] at hB; exact absurd hB (by show ¬ (B.toInt = (0 : Int)); omega)
  have hb := xbl_of hN
  have p0 := Nat.le_trans (Nat.pow_le_pow_right (n := 2) (by omega) (show 34 ≤ xbl (xul m) - 1 by omega)) hb.1
  have p1 := Nat.lt_of_lt_of_le hb.2.1 (Nat.pow_le_pow_right (n := 2) (by omega) (show xbl (xul m) ≤ 60 by omega))
  have c1 := xlo_n m
  have c2 := xhi_n m
  have m1 := xqs_n m
  have m2 := xqs_n (xqs m)
  have w0 := xq_n m
  have w1 := xq_n (xqs m)
  have w2 := xq_n (xqs (xqs m))
  have hg : G.toInt.toNat = xbl (xul m) - 1 - 30 := by omega
  have hmk := xmk_n (x := (xq (xqs m))) (g := G) (by omega) (by omega)
  rw [hg, show xun (xq (xqs m)) = xul m / 2 ^ 30 by omega] at hmk
  have hM : xul m % 2 ^ 30 = 0 → ((xmk (xq (xqs m)) G).toInt = 0 ↔ xul m % 2 ^ (xbl (xul m) - 1) = 0) := fun h0 => by
    rw [xscale h0 (by omega), ← hmk]; exact xun_z.symm
  have e1 := xbl_hi (N := xul m) (k := 32) (by omega)
  rw [show xul m / 2 ^ 32 = xun (xhi m) by omega] at e1
  have hhi : xul m % 2 ^ 32 = 0 → ((xntz (xhi m)).toInt = B.toInt - 33 ↔ xul m % 2 ^ (xbl (xul m) - 1) = 0) := fun h0 => by
    rw [xscale h0 (by omega), show xul m / 2 ^ 32 = xun (xhi m) by omega, show xbl (xul m) - 1 - 32 = xbl (xun (xhi m)) - 1 by omega, ← xntz_pow (x := xhi m) a2]
    constructor <;> intro h <;> omega
  have P : xul m % 2 ^ (xbl (xul m) - 1) = 0 ∨ xul m % 2 ^ (xbl (xul m) - 1) ≠ 0 := Nat.eq_zero_or_pos _ |>.imp id (by omega)
  have nl := fun h => xntz_lt (x := xlo m) h
  have nb : xbl (xun (xlo m)) ≤ 32 := xbl_le (xun_lt _)
  by_cases h0 : xul m % 2 ^ 32 = 0
  · have h30 : xul m % 2 ^ 30 = 0 := by omega
    rcases P with hp | hp
    · exact .inr (.inr (.inr (⟨xun_z.mp (by omega), xun_z.mp (by omega), (hM h30).mpr hp, (hhi (by omega)).mpr hp⟩)))
    · exact .inr (.inr (.inl ⟨xun_z.mp (by omega), xun_z.mp (by omega), fun e => hp ((hM h30).mp e), fun e => hp ((hhi (by omega)).mp e)⟩))
  · have nl := nl (xnz (by omega))
    have hp : xul m % 2 ^ (xbl (xul m) - 1) ≠ 0 := fun e => h0 (xdown (by omega) e)
    by_cases h3 : xul m % 2 ^ 30 = 0
    · exact .inr (.inl ⟨xnz (by omega), by omega, by omega, xun_z.mp (by omega), fun e => hp ((hM h3).mp e)⟩)
    · exact .inl ⟨xnz (by omega), by omega, by omega, xnz (by omega)⟩
theorem xpow6 {m : Int64} {B K P G : Int32} (hB : B.toInt = (xbl (xul m) : Int)) (h : xR6 m B K P G) : ((xlo m).toInt ≠ 0 ∧ 0 ≤ (xntz (xlo m)).toInt ∧ (xntz (xlo m)).toInt ≤ 31 ∧ (xq m).toInt ≠ 0) ∨ ((xlo m).toInt ≠ 0 ∧ 0 ≤ (xntz (xlo m)).toInt ∧ (xntz (xlo m)).toInt ≤ 31 ∧ (xq m).toInt = 0 ∧ (xq (xqs m)).toInt ≠ 0) ∨ ((xlo m).toInt = 0 ∧ (xq m).toInt = 0 ∧ (xq (xqs m)).toInt ≠ 0 ∧ (xntz (xhi m)).toInt ≠ B.toInt - 33) ∨ ((xlo m).toInt = 0 ∧ (xq m).toInt = 0 ∧ (xq (xqs m)).toInt = 0 ∧ B.toInt = 61 ∧ (xntz (xhi m)).toInt = B.toInt - 33) ∨ ((xlo m).toInt = 0 ∧ (xq m).toInt = 0 ∧ (xq (xqs m)).toInt = 0 ∧ B.toInt ≠ 61 ∧ (xmk (xq (xqs (xqs m))) G).toInt ≠ 0 ∧ (xntz (xhi m)).toInt ≠ B.toInt - 33) ∨ ((xlo m).toInt = 0 ∧ (xq m).toInt = 0 ∧ (xq (xqs m)).toInt = 0 ∧ B.toInt ≠ 61 ∧ (xmk (xq (xqs (xqs m))) G).toInt = 0 ∧ (xntz (xhi m)).toInt = B.toInt - 33) := by
  obtain ⟨a0, a1, a2, a3, a4, a5, a6, a7, a8, a9, a10, a11, a12, a13, a14, a15, a16, a17, a18, a19⟩ := h
  have hN : xul m ≠ 0 := fun e => by rw [e] at hB; exact absurd hB (by show ¬ (B.toInt = (0 : Int)); omega)
  have hb := xbl_of hN
  have p0 := Nat.le_trans (Nat.pow_le_pow_right (n := 2) (by omega) (show 60 ≤ xbl (xul m) - 1 by omega)) hb.1
  have p1 := Nat.lt_of_lt_of_le hb.2.1 (Nat.pow_le_pow_right (n := 2) (by omega) (show xbl (xul m) ≤ 63 by omega))
  have c1 := xlo_n m
  have c2 := xhi_n m
  have m1 := xqs_n m
  have m2 := xqs_n (xqs m)
  have w0 := xq_n m
  have w1 := xq_n (xqs m)
  have w2 := xq_n (xqs (xqs m))
  have hg : G.toInt.toNat = xbl (xul m) - 1 - 60 := by omega
  have hmk := xmk_n (x := (xq (xqs (xqs m)))) (g := G) (by omega) (by omega)
  rw [hg, show xun (xq (xqs (xqs m))) = xul m / 2 ^ 60 by omega] at hmk
  have hM : xul m % 2 ^ 60 = 0 → ((xmk (xq (xqs (xqs m))) G).toInt = 0 ↔ xul m % 2 ^ (xbl (xul m) - 1) = 0) := fun h0 => by
    rw [xscale h0 (by omega), ← hmk]; exact xun_z.symm
  have e1 := xbl_hi (N := xul m) (k := 32) (by omega)
  rw [show xul m / 2 ^ 32 = xun (xhi m) by omega] at e1
  have hhi : xul m % 2 ^ 32 = 0 → ((xntz (xhi m)).toInt = B.toInt - 33 ↔ xul m % 2 ^ (xbl (xul m) - 1) = 0) := fun h0 => by
    rw [xscale h0 (by omega), show xul m / 2 ^ 32 = xun (xhi m) by omega, show xbl (xul m) - 1 - 32 = xbl (xun (xhi m)) - 1 by omega, ← xntz_pow (x := xhi m) a2]
    constructor <;> intro h <;> omega
  have P : xul m % 2 ^ (xbl (xul m) - 1) = 0 ∨ xul m % 2 ^ (xbl (xul m) - 1) ≠ 0 := Nat.eq_zero_or_pos _ |>.imp id (by omega)
  have nl := fun h => xntz_lt (x := xlo m) h
  have nb : xbl (xun (xlo m)) ≤ 32 := xbl_le (xun_lt _)
  by_cases h0 : xul m % 2 ^ 32 = 0
  · by_cases h60 : xul m % 2 ^ 60 = 0
    · by_cases hb1 : xbl (xul m) = 61
      · have hp : xul m % 2 ^ (xbl (xul m) - 1) = 0 := by rw [hb1]; exact h60
        exact .inr (.inr (.inr (.inl ⟨xun_z.mp (by omega), xun_z.mp (by omega), xun_z.mp (by omega), by omega, (hhi (by omega)).mpr hp⟩)))
      · rcases P with hp | hp
        · exact .inr (.inr (.inr (.inr (.inr (⟨xun_z.mp (by omega), xun_z.mp (by omega), xun_z.mp (by omega), by omega, (hM h60).mpr hp, (hhi (by omega)).mpr hp⟩)))))
        · exact .inr (.inr (.inr (.inr (.inl ⟨xun_z.mp (by omega), xun_z.mp (by omega), xun_z.mp (by omega), by omega, fun e => hp ((hM h60).mp e), fun e => hp ((hhi (by omega)).mp e)⟩))))
    · have hp : xul m % 2 ^ (xbl (xul m) - 1) ≠ 0 := fun e => h60 (xdown (by omega) e)
      exact .inr (.inr (.inl ⟨xun_z.mp (by omega), xun_z.mp (by omega), xnz (by omega), fun e => hp ((hhi (by omega)).mp e)⟩))
  · have nl := nl (xnz (by omega))
    by_cases h3 : xul m % 2 ^ 30 = 0
    · exact .inr (.inl ⟨xnz (by omega), by omega, by omega, xun_z.mp (by omega), xnz (by omega)⟩)
    · exact .inl ⟨xnz (by omega), by omega, by omega, xnz (by omega)⟩
theorem xpow7 {m : Int64} {B K P G : Int32} (hB : B.toInt = (xbl (xul m) : Int)) (h : xR7 m B K P G) : ((xlo m).toInt ≠ 0 ∧ 0 ≤ (xntz (xlo m)).toInt ∧ (xntz (xlo m)).toInt ≤ 31 ∧ (xq m).toInt ≠ 0) ∨ ((xlo m).toInt ≠ 0 ∧ 0 ≤ (xntz (xlo m)).toInt ∧ (xntz (xlo m)).toInt ≤ 31 ∧ (xq m).toInt = 0 ∧ (xq (xqs m)).toInt ≠ 0) ∨ ((xlo m).toInt = 0 ∧ (xq m).toInt = 0 ∧ (xq (xqs m)).toInt ≠ 0 ∧ (xntz (xhi m)).toInt ≠ B.toInt - 33) ∨ ((xlo m).toInt = 0 ∧ (xq m).toInt = 0 ∧ (xq (xqs m)).toInt = 0 ∧ ((xq (xqs (xqs m))) &&& (7 : Int32)).toInt ≠ 0 ∧ (xntz (xhi m)).toInt ≠ B.toInt - 33) ∨ ((xlo m).toInt = 0 ∧ (xq m).toInt = 0 ∧ (xq (xqs m)).toInt = 0 ∧ ((xq (xqs (xqs m))) &&& (7 : Int32)).toInt = 0 ∧ (xntz (xhi m)).toInt = B.toInt - 33) := by
  obtain ⟨a0, a1, a2, a3, a4, a5, a6, a7, a8, a9, a10, a11, a12, a13, a14⟩ := h
  have hN : xul m ≠ 0 := fun e => by rw [e] at hB; exact absurd hB (by show ¬ (B.toInt = (0 : Int)); omega)
  have hb := xbl_of hN
  have p0 := Nat.le_trans (Nat.pow_le_pow_right (n := 2) (by omega) (show 63 ≤ xbl (xul m) - 1 by omega)) hb.1
  have p1 := Nat.lt_of_lt_of_le hb.2.1 (Nat.pow_le_pow_right (n := 2) (by omega) (show xbl (xul m) ≤ 64 by omega))
  have c1 := xlo_n m
  have c2 := xhi_n m
  have m1 := xqs_n m
  have m2 := xqs_n (xqs m)
  have w0 := xq_n m
  have w1 := xq_n (xqs m)
  have w2 := xq_n (xqs (xqs m))
  have hg : G.toInt.toNat = xbl (xul m) - 1 - 60 := by omega
  have hmk := xmk_n (x := (xq (xqs (xqs m)))) (g := G) (by omega) (by omega)
  rw [hg, show xun (xq (xqs (xqs m))) = xul m / 2 ^ 60 by omega] at hmk
  have hM : xul m % 2 ^ 60 = 0 → ((xmk (xq (xqs (xqs m))) G).toInt = 0 ↔ xul m % 2 ^ (xbl (xul m) - 1) = 0) := fun h0 => by
    rw [xscale h0 (by omega), ← hmk]; exact xun_z.symm
  have e7 : xmk (xq (xqs (xqs m))) G = (xq (xqs (xqs m))) &&& (7 : Int32) := by
    rw [show G = 3 from Int32.toInt_inj.mp (by show G.toInt = (3 : Int); omega)]; rfl
  rw [e7] at hM
  have e1 := xbl_hi (N := xul m) (k := 32) (by omega)
  rw [show xul m / 2 ^ 32 = xun (xhi m) by omega] at e1
  have hhi : xul m % 2 ^ 32 = 0 → ((xntz (xhi m)).toInt = B.toInt - 33 ↔ xul m % 2 ^ (xbl (xul m) - 1) = 0) := fun h0 => by
    rw [xscale h0 (by omega), show xul m / 2 ^ 32 = xun (xhi m) by omega, show xbl (xul m) - 1 - 32 = xbl (xun (xhi m)) - 1 by omega, ← xntz_pow (x := xhi m) a2]
    constructor <;> intro h <;> omega
  have P : xul m % 2 ^ (xbl (xul m) - 1) = 0 ∨ xul m % 2 ^ (xbl (xul m) - 1) ≠ 0 := Nat.eq_zero_or_pos _ |>.imp id (by omega)
  have nl := fun h => xntz_lt (x := xlo m) h
  have nb : xbl (xun (xlo m)) ≤ 32 := xbl_le (xun_lt _)
  by_cases h0 : xul m % 2 ^ 32 = 0
  · by_cases h60 : xul m % 2 ^ 60 = 0
    · rcases P with hp | hp
      · exact .inr (.inr (.inr (.inr (⟨xun_z.mp (by omega), xun_z.mp (by omega), xun_z.mp (by omega), (hM h60).mpr hp, (hhi (by omega)).mpr hp⟩))))
      · exact .inr (.inr (.inr (.inl ⟨xun_z.mp (by omega), xun_z.mp (by omega), xun_z.mp (by omega), fun e => hp ((hM h60).mp e), fun e => hp ((hhi (by omega)).mp e)⟩)))
    · have hp : xul m % 2 ^ (xbl (xul m) - 1) ≠ 0 := fun e => h60 (xdown (by omega) e)
      exact .inr (.inr (.inl ⟨xun_z.mp (by omega), xun_z.mp (by omega), xnz (by omega), fun e => hp ((hhi (by omega)).mp e)⟩))
  · have nl := nl (xnz (by omega))
    by_cases h3 : xul m % 2 ^ 30 = 0
    · exact .inr (.inl ⟨xnz (by omega), by omega, by omega, xun_z.mp (by omega), xnz (by omega)⟩)
    · exact .inl ⟨xnz (by omega), by omega, by omega, xnz (by omega)⟩
